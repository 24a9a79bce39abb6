theorem xlt_mna {n n' k N : Nat} {B : List (Nat × (Nat × Nat))} (h : xlt n B) (hk : k < n') (hn : n ≤ n') : xlt n' (mnaL k N ++ B) := by
  intro q hq
  rcases List.mem_append.mp hq with e | e
  · obtain ⟨i, -, rfl⟩ := List.mem_map.mp e
    exact hk
  · exact Nat.lt_of_lt_of_le (h q e) hn
theorem cd_0 : ∀ j, j < 12 → defaultValue (ty_0 j) = vp_V (xF (fun _ => 0) (fun _ => 0) (fun _ => 0) (fun _ => 0) 0 [2, 0, 2, 2, 2, 2, 2, 2, 2, 2, 2, 0]) j := by decide +kernel
theorem cd_1 : ∀ j, j < 14 → defaultValue (ty_1 j) = vp_V (xF (fun _ => 0) (fun _ => 0) (fun _ => 0) (fun _ => 0) 0 [0, 2, 0, 2, 2, 2, 2, 2, 2, 2, 2, 2, 0, 2]) j := by decide +kernel
theorem cd_2 : ∀ j, j < 9 → defaultValue (ty_2 j) = vp_V (xF (fun _ => 0) (fun _ => 0) (fun _ => 0) (fun _ => 0) 0 [2, 2, 2, 2, 2, 2, 0, 1, 2]) j := by decide +kernel
theorem cd_3 : ∀ j, j < 20 → defaultValue (ty_3 j) = vp_V (xF (fun _ => 0) (fun _ => 0) (fun _ => 0) (fun _ => 0) 0 [2, 2, 2, 0, 0, 0, 0, 0, 2, 2, 0, 2, 0, 0, 2, 2, 0, 2, 0, 0]) j := by decide +kernel
theorem cd_4 : ∀ j, j < 11 → defaultValue (ty_4 j) = vp_V (xF (fun _ => 0) (fun _ => 0) (fun _ => 0) (fun _ => 0) 0 [2, 0, 2, 2, 2, 0, 2, 2, 2, 0, 0]) j := by decide +kernel
theorem cd_5 : ∀ j, j < 17 → defaultValue (ty_5 j) = vp_V (xF (fun _ => 0) (fun _ => 0) (fun _ => 0) (fun _ => 0) 0 [0, 2, 2, 2, 2, 2, 2, 2, 2, 0, 2, 2, 2, 0, 0, 0, 0]) j := by decide +kernel
theorem cd_6 : ∀ j, j < 10 → defaultValue (ty_6 j) = vp_V (xF (fun _ => 0) (fun _ => 0) (fun _ => 0) (fun _ => 0) 0 [2, 0, 2, 2, 2, 0, 0, 2, 2, 2]) j := by decide +kernel
theorem cd_7 : ∀ j, j < 7 → defaultValue (ty_7 j) = vp_V (xF (fun _ => 0) (fun _ => 0) (fun _ => 0) (fun _ => 0) 0 [0, 2, 2, 2, 2, 2, 2]) j := by decide +kernel
theorem cd_8 : ∀ j, j < 7 → defaultValue (ty_8 j) = vp_V (xF (fun _ => 0) (fun _ => 0) (fun _ => 0) (fun _ => 0) 0 [0, 0, 0, 2, 2, 2, 2]) j := by decide +kernel
theorem cd_9 : ∀ j, j < 15 → defaultValue (ty_9 j) = vp_V (xF (fun _ => 0) (fun _ => 0) (fun _ => 0) (fun _ => 0) 0 [2, 0, 2, 2, 2, 2, 2, 2, 2, 2, 2, 2, 0, 0, 0]) j := by decide +kernel
theorem cd_10 : ∀ j, j < 18 → defaultValue (ty_10 j) = vp_V (xF (fun _ => 0) (fun _ => 0) (fun _ => 0) (fun _ => 0) 0 [2, 0, 0, 2, 2, 0, 2, 0, 2, 2, 2, 2, 2, 2, 2, 2, 2, 2]) j := by decide +kernel
theorem cd_11 : ∀ j, j < 151 → defaultValue (ty_11 j) = vp_V (xF (fun _ => 0) (fun _ => 0) (fun _ => 0) (fun _ => 0) 0 [0, 0, 2, 0, 2, 2, 0, 0, 0, 2, 2, 2, 2, 2, 2, 2, 2, 2, 2, 2, 0, 2, 2, 2, 2, 2, 0, 0, 0, 0, 0, 1, 0, 2, 2, 2, 2, 2, 2, 2, 2, 2, 2, 2, 2, 2, 0, 2, 2, 2, 2, 2, 0, 2, 2, 2, 0, 0, 0, 0, 0, 0, 2, 2, 0, 0, 0, 0, 0, 0, 2, 0, 2, 2, 0, 0, 2, 0, 2, 2, 2, 0, 0, 2, 2, 0, 2, 2, 2, 2, 2, 2, 2, 2, 2, 0, 0, 2, 2, 2, 2, 2, 2, 2, 2, 2, 2, 0, 2, 0, 2, 2, 0, 2, 2, 2, 2, 0, 0, 2, 2, 2, 2, 2, 2, 2, 2, 2, 2, 2, 2, 2, 2, 2, 0, 2, 0, 2, 0, 2, 2, 2, 2, 2, 2, 2, 2, 2, 0, 2, 0]) j := by decide +kernel
theorem wri_0 : wAll Y_Wh_init.2.1 0 [(0, (.aload_n 0, 1)), (1, (.invokespecial 7, 3)), (4, (.aload_n 0, 1)), (5, (.sipush 1206, 3)), (10, (.putfield 13, 3)), (13, (.aload_n 0, 1)), (14, (.sipush 480, 3)), (19, (.putfield 17, 3)), (22, (.aload_n 0, 1)), (23, (.sipush 480, 3)), (28, (.putfield 20, 3)), (31, (.aload_n 0, 1)), (32, (.sipush 9600, 3)), (37, (.putfield 23, 3))] := wAll_enc (by decide +kernel)
theorem d_Wh_init_0 : decode Y_Wh_init.2.1 0 = .ok (.aload_n 0, 1) ∧ 0 + 1 = 1 := ⟨wri_0.1, rfl⟩
theorem d_Wh_init_1 : decode Y_Wh_init.2.1 1 = .ok (.invokespecial 7, 3) ∧ 1 + 3 = 4 := ⟨wri_0.2.1, rfl⟩
theorem d_Wh_init_4 : decode Y_Wh_init.2.1 4 = .ok (.aload_n 0, 1) ∧ 4 + 1 = 5 := ⟨wri_0.2.2.1, rfl⟩
theorem d_Wh_init_5 : decode Y_Wh_init.2.1 5 = .ok (.sipush 1206, 3) ∧ 5 + 3 = 8 := ⟨wri_0.2.2.2.1, rfl⟩
theorem d_Wh_init_10 : decode Y_Wh_init.2.1 10 = .ok (.putfield 13, 3) ∧ 10 + 3 = 13 := ⟨wri_0.2.2.2.2.1, rfl⟩
theorem d_Wh_init_13 : decode Y_Wh_init.2.1 13 = .ok (.aload_n 0, 1) ∧ 13 + 1 = 14 := ⟨wri_0.2.2.2.2.2.1, rfl⟩
theorem d_Wh_init_14 : decode Y_Wh_init.2.1 14 = .ok (.sipush 480, 3) ∧ 14 + 3 = 17 := ⟨wri_0.2.2.2.2.2.2.1, rfl⟩
theorem d_Wh_init_19 : decode Y_Wh_init.2.1 19 = .ok (.putfield 17, 3) ∧ 19 + 3 = 22 := ⟨wri_0.2.2.2.2.2.2.2.1, rfl⟩
theorem d_Wh_init_22 : decode Y_Wh_init.2.1 22 = .ok (.aload_n 0, 1) ∧ 22 + 1 = 23 := ⟨wri_0.2.2.2.2.2.2.2.2.1, rfl⟩
theorem d_Wh_init_23 : decode Y_Wh_init.2.1 23 = .ok (.sipush 480, 3) ∧ 23 + 3 = 26 := ⟨wri_0.2.2.2.2.2.2.2.2.2.1, rfl⟩
theorem d_Wh_init_28 : decode Y_Wh_init.2.1 28 = .ok (.putfield 20, 3) ∧ 28 + 3 = 31 := ⟨wri_0.2.2.2.2.2.2.2.2.2.2.1, rfl⟩
theorem d_Wh_init_31 : decode Y_Wh_init.2.1 31 = .ok (.aload_n 0, 1) ∧ 31 + 1 = 32 := ⟨wri_0.2.2.2.2.2.2.2.2.2.2.2.1, rfl⟩
theorem d_Wh_init_32 : decode Y_Wh_init.2.1 32 = .ok (.sipush 9600, 3) ∧ 32 + 3 = 35 := ⟨wri_0.2.2.2.2.2.2.2.2.2.2.2.2.1, rfl⟩
theorem d_Wh_init_37 : decode Y_Wh_init.2.1 37 = .ok (.putfield 23, 3) ∧ 37 + 3 = 40 := ⟨wri_0.2.2.2.2.2.2.2.2.2.2.2.2.2.1, rfl⟩
theorem d_Wh_init_8 : decode Y_Wh_init.2.1 8 = .ok (.newarray .int, 2) ∧ 8 + 2 = 10 := by decide +kernel
theorem d_Wh_init_17 : decode Y_Wh_init.2.1 17 = .ok (.newarray .int, 2) ∧ 17 + 2 = 19 := by decide +kernel
theorem d_Wh_init_26 : decode Y_Wh_init.2.1 26 = .ok (.newarray .int, 2) ∧ 26 + 2 = 28 := by decide +kernel
theorem d_Wh_init_35 : decode Y_Wh_init.2.1 35 = .ok (.newarray .long, 2) ∧ 35 + 2 = 37 := by decide +kernel
theorem d_Wh_init_40 : decode Y_Wh_init.2.1 40 = .ok (.return_, 1) := by decide +kernel
theorem wri_1 : wAll Y_Th_closeHolds.2.1 0 [(0, (.iconst 0, 1)), (1, (.istore_n 1, 1)), (2, (.iload_n 1, 1)), (3, (.bipush 6, 2)), (5, (.if_icmp .ge 25, 3)), (8, (.aload_n 0, 1)), (9, (.getfield 28, 3)), (12, (.iload_n 1, 1)), (13, (.aload_n 0, 1)), (14, (.getfield 25, 3)), (17, (.iload_n 1, 1)), (18, (.iaload, 1)), (19, (.iconst 1, 1)), (20, (.iload_n 1, 1)), (21, (.ishl, 1)), (22, (.ior, 1)), (23, (.iastore, 1)), (24, (.iinc 1 1, 3)), (27, (.goto (-25), 3)), (30, (.iconst 0, 1)), (31, (.istore_n 1, 1)), (32, (.iload_n 1, 1)), (33, (.bipush 6, 2)), (35, (.if_icmp .ge 52, 3)), (38, (.iconst 0, 1)), (39, (.istore_n 2, 1)), (40, (.iload_n 2, 1)), (41, (.bipush 6, 2)), (43, (.if_icmp .ge 38, 3)), (46, (.aload_n 0, 1)), (47, (.getfield 28, 3)), (50, (.iload_n 2, 1)), (51, (.iaload, 1)), (52, (.iload_n 1, 1)), (53, (.ishr, 1)), (54, (.iconst 1, 1)), (55, (.iand, 1)), (56, (.iconst 1, 1)), (57, (.if_icmp .ne 18, 3)), (60, (.aload_n 0, 1)), (61, (.getfield 28, 3))] := wAll_enc (by decide +kernel)
theorem d_Th_closeHolds_0 : decode Y_Th_closeHolds.2.1 0 = .ok (.iconst 0, 1) ∧ 0 + 1 = 1 := ⟨wri_1.1, rfl⟩
theorem d_Th_closeHolds_1 : decode Y_Th_closeHolds.2.1 1 = .ok (.istore_n 1, 1) ∧ 1 + 1 = 2 := ⟨wri_1.2.1, rfl⟩
theorem d_Th_closeHolds_2 : decode Y_Th_closeHolds.2.1 2 = .ok (.iload_n 1, 1) ∧ 2 + 1 = 3 := ⟨wri_1.2.2.1, rfl⟩
theorem d_Th_closeHolds_3 : decode Y_Th_closeHolds.2.1 3 = .ok (.bipush 6, 2) ∧ 3 + 2 = 5 := ⟨wri_1.2.2.2.1, rfl⟩
theorem d_Th_closeHolds_5 : decode Y_Th_closeHolds.2.1 5 = .ok (.if_icmp .ge 25, 3) ∧ ((5 : Nat) : Int) + 25 = ((30 : Nat) : Int) ∧ 5 + 3 = 8 := ⟨wri_1.2.2.2.2.1, by decide⟩
theorem d_Th_closeHolds_8 : decode Y_Th_closeHolds.2.1 8 = .ok (.aload_n 0, 1) ∧ 8 + 1 = 9 := ⟨wri_1.2.2.2.2.2.1, rfl⟩
theorem d_Th_closeHolds_9 : decode Y_Th_closeHolds.2.1 9 = .ok (.getfield 28, 3) ∧ 9 + 3 = 12 := ⟨wri_1.2.2.2.2.2.2.1, rfl⟩
theorem d_Th_closeHolds_12 : decode Y_Th_closeHolds.2.1 12 = .ok (.iload_n 1, 1) ∧ 12 + 1 = 13 := ⟨wri_1.2.2.2.2.2.2.2.1, rfl⟩
theorem d_Th_closeHolds_13 : decode Y_Th_closeHolds.2.1 13 = .ok (.aload_n 0, 1) ∧ 13 + 1 = 14 := ⟨wri_1.2.2.2.2.2.2.2.2.1, rfl⟩
theorem d_Th_closeHolds_14 : decode Y_Th_closeHolds.2.1 14 = .ok (.getfield 25, 3) ∧ 14 + 3 = 17 := ⟨wri_1.2.2.2.2.2.2.2.2.2.1, rfl⟩
theorem d_Th_closeHolds_17 : decode Y_Th_closeHolds.2.1 17 = .ok (.iload_n 1, 1) ∧ 17 + 1 = 18 := ⟨wri_1.2.2.2.2.2.2.2.2.2.2.1, rfl⟩
theorem d_Th_closeHolds_18 : decode Y_Th_closeHolds.2.1 18 = .ok (.iaload, 1) ∧ 18 + 1 = 19 := ⟨wri_1.2.2.2.2.2.2.2.2.2.2.2.1, rfl⟩
theorem d_Th_closeHolds_19 : decode Y_Th_closeHolds.2.1 19 = .ok (.iconst 1, 1) ∧ 19 + 1 = 20 := ⟨wri_1.2.2.2.2.2.2.2.2.2.2.2.2.1, rfl⟩
theorem d_Th_closeHolds_20 : decode Y_Th_closeHolds.2.1 20 = .ok (.iload_n 1, 1) ∧ 20 + 1 = 21 := ⟨wri_1.2.2.2.2.2.2.2.2.2.2.2.2.2.1, rfl⟩
theorem d_Th_closeHolds_21 : decode Y_Th_closeHolds.2.1 21 = .ok (.ishl, 1) ∧ 21 + 1 = 22 := ⟨wri_1.2.2.2.2.2.2.2.2.2.2.2.2.2.2.1, rfl⟩
theorem d_Th_closeHolds_22 : decode Y_Th_closeHolds.2.1 22 = .ok (.ior, 1) ∧ 22 + 1 = 23 := ⟨wri_1.2.2.2.2.2.2.2.2.2.2.2.2.2.2.2.1, rfl⟩
theorem d_Th_closeHolds_23 : decode Y_Th_closeHolds.2.1 23 = .ok (.iastore, 1) ∧ 23 + 1 = 24 := ⟨wri_1.2.2.2.2.2.2.2.2.2.2.2.2.2.2.2.2.1, rfl⟩
theorem d_Th_closeHolds_24 : decode Y_Th_closeHolds.2.1 24 = .ok (.iinc 1 1, 3) ∧ 24 + 3 = 27 := ⟨wri_1.2.2.2.2.2.2.2.2.2.2.2.2.2.2.2.2.2.1, rfl⟩
theorem d_Th_closeHolds_27 : decode Y_Th_closeHolds.2.1 27 = .ok (.goto (-25), 3) ∧ ((27 : Nat) : Int) + (-25) = ((2 : Nat) : Int) ∧ 27 + 3 = 30 := ⟨wri_1.2.2.2.2.2.2.2.2.2.2.2.2.2.2.2.2.2.2.1, by decide⟩
theorem d_Th_closeHolds_30 : decode Y_Th_closeHolds.2.1 30 = .ok (.iconst 0, 1) ∧ 30 + 1 = 31 := ⟨wri_1.2.2.2.2.2.2.2.2.2.2.2.2.2.2.2.2.2.2.2.1, rfl⟩
theorem d_Th_closeHolds_31 : decode Y_Th_closeHolds.2.1 31 = .ok (.istore_n 1, 1) ∧ 31 + 1 = 32 := ⟨wri_1.2.2.2.2.2.2.2.2.2.2.2.2.2.2.2.2.2.2.2.2.1, rfl⟩
theorem d_Th_closeHolds_32 : decode Y_Th_closeHolds.2.1 32 = .ok (.iload_n 1, 1) ∧ 32 + 1 = 33 := ⟨wri_1.2.2.2.2.2.2.2.2.2.2.2.2.2.2.2.2.2.2.2.2.2.1, rfl⟩
theorem d_Th_closeHolds_33 : decode Y_Th_closeHolds.2.1 33 = .ok (.bipush 6, 2) ∧ 33 + 2 = 35 := ⟨wri_1.2.2.2.2.2.2.2.2.2.2.2.2.2.2.2.2.2.2.2.2.2.2.1, rfl⟩
theorem d_Th_closeHolds_35 : decode Y_Th_closeHolds.2.1 35 = .ok (.if_icmp .ge 52, 3) ∧ ((35 : Nat) : Int) + 52 = ((87 : Nat) : Int) ∧ 35 + 3 = 38 := ⟨wri_1.2.2.2.2.2.2.2.2.2.2.2.2.2.2.2.2.2.2.2.2.2.2.2.1, by decide⟩
theorem d_Th_closeHolds_38 : decode Y_Th_closeHolds.2.1 38 = .ok (.iconst 0, 1) ∧ 38 + 1 = 39 := ⟨wri_1.2.2.2.2.2.2.2.2.2.2.2.2.2.2.2.2.2.2.2.2.2.2.2.2.1, rfl⟩
theorem d_Th_closeHolds_39 : decode Y_Th_closeHolds.2.1 39 = .ok (.istore_n 2, 1) ∧ 39 + 1 = 40 := ⟨wri_1.2.2.2.2.2.2.2.2.2.2.2.2.2.2.2.2.2.2.2.2.2.2.2.2.2.1, rfl⟩
theorem d_Th_closeHolds_40 : decode Y_Th_closeHolds.2.1 40 = .ok (.iload_n 2, 1) ∧ 40 + 1 = 41 := ⟨wri_1.2.2.2.2.2.2.2.2.2.2.2.2.2.2.2.2.2.2.2.2.2.2.2.2.2.2.1, rfl⟩
theorem d_Th_closeHolds_41 : decode Y_Th_closeHolds.2.1 41 = .ok (.bipush 6, 2) ∧ 41 + 2 = 43 := ⟨wri_1.2.2.2.2.2.2.2.2.2.2.2.2.2.2.2.2.2.2.2.2.2.2.2.2.2.2.2.1, rfl⟩
theorem d_Th_closeHolds_43 : decode Y_Th_closeHolds.2.1 43 = .ok (.if_icmp .ge 38, 3) ∧ ((43 : Nat) : Int) + 38 = ((81 : Nat) : Int) ∧ 43 + 3 = 46 := ⟨wri_1.2.2.2.2.2.2.2.2.2.2.2.2.2.2.2.2.2.2.2.2.2.2.2.2.2.2.2.2.1, by decide⟩
theorem d_Th_closeHolds_46 : decode Y_Th_closeHolds.2.1 46 = .ok (.aload_n 0, 1) ∧ 46 + 1 = 47 := ⟨wri_1.2.2.2.2.2.2.2.2.2.2.2.2.2.2.2.2.2.2.2.2.2.2.2.2.2.2.2.2.2.1, rfl⟩
theorem d_Th_closeHolds_47 : decode Y_Th_closeHolds.2.1 47 = .ok (.getfield 28, 3) ∧ 47 + 3 = 50 := ⟨wri_1.2.2.2.2.2.2.2.2.2.2.2.2.2.2.2.2.2.2.2.2.2.2.2.2.2.2.2.2.2.2.1, rfl⟩
theorem d_Th_closeHolds_50 : decode Y_Th_closeHolds.2.1 50 = .ok (.iload_n 2, 1) ∧ 50 + 1 = 51 := ⟨wri_1.2.2.2.2.2.2.2.2.2.2.2.2.2.2.2.2.2.2.2.2.2.2.2.2.2.2.2.2.2.2.2.1, rfl⟩
theorem d_Th_closeHolds_51 : decode Y_Th_closeHolds.2.1 51 = .ok (.iaload, 1) ∧ 51 + 1 = 52 := ⟨wri_1.2.2.2.2.2.2.2.2.2.2.2.2.2.2.2.2.2.2.2.2.2.2.2.2.2.2.2.2.2.2.2.2.1, rfl⟩
theorem d_Th_closeHolds_52 : decode Y_Th_closeHolds.2.1 52 = .ok (.iload_n 1, 1) ∧ 52 + 1 = 53 := ⟨wri_1.2.2.2.2.2.2.2.2.2.2.2.2.2.2.2.2.2.2.2.2.2.2.2.2.2.2.2.2.2.2.2.2.2.1, rfl⟩
theorem d_Th_closeHolds_53 : decode Y_Th_closeHolds.2.1 53 = .ok (.ishr, 1) ∧ 53 + 1 = 54 := ⟨wri_1.2.2.2.2.2.2.2.2.2.2.2.2.2.2.2.2.2.2.2.2.2.2.2.2.2.2.2.2.2.2.2.2.2.2.1, rfl⟩
theorem d_Th_closeHolds_54 : decode Y_Th_closeHolds.2.1 54 = .ok (.iconst 1, 1) ∧ 54 + 1 = 55 := ⟨wri_1.2.2.2.2.2.2.2.2.2.2.2.2.2.2.2.2.2.2.2.2.2.2.2.2.2.2.2.2.2.2.2.2.2.2.2.1, rfl⟩
theorem d_Th_closeHolds_55 : decode Y_Th_closeHolds.2.1 55 = .ok (.iand, 1) ∧ 55 + 1 = 56 := ⟨wri_1.2.2.2.2.2.2.2.2.2.2.2.2.2.2.2.2.2.2.2.2.2.2.2.2.2.2.2.2.2.2.2.2.2.2.2.2.1, rfl⟩
theorem d_Th_closeHolds_56 : decode Y_Th_closeHolds.2.1 56 = .ok (.iconst 1, 1) ∧ 56 + 1 = 57 := ⟨wri_1.2.2.2.2.2.2.2.2.2.2.2.2.2.2.2.2.2.2.2.2.2.2.2.2.2.2.2.2.2.2.2.2.2.2.2.2.2.1, rfl⟩
theorem d_Th_closeHolds_57 : decode Y_Th_closeHolds.2.1 57 = .ok (.if_icmp .ne 18, 3) ∧ ((57 : Nat) : Int) + 18 = ((75 : Nat) : Int) ∧ 57 + 3 = 60 := ⟨wri_1.2.2.2.2.2.2.2.2.2.2.2.2.2.2.2.2.2.2.2.2.2.2.2.2.2.2.2.2.2.2.2.2.2.2.2.2.2.2.1, by decide⟩
theorem d_Th_closeHolds_60 : decode Y_Th_closeHolds.2.1 60 = .ok (.aload_n 0, 1) ∧ 60 + 1 = 61 := ⟨wri_1.2.2.2.2.2.2.2.2.2.2.2.2.2.2.2.2.2.2.2.2.2.2.2.2.2.2.2.2.2.2.2.2.2.2.2.2.2.2.2.1, rfl⟩
theorem d_Th_closeHolds_61 : decode Y_Th_closeHolds.2.1 61 = .ok (.getfield 28, 3) ∧ 61 + 3 = 64 := ⟨wri_1.2.2.2.2.2.2.2.2.2.2.2.2.2.2.2.2.2.2.2.2.2.2.2.2.2.2.2.2.2.2.2.2.2.2.2.2.2.2.2.2.1, rfl⟩
theorem wri_2 : wAll Y_Th_closeHolds.2.1 64 [(0, (.iload_n 2, 1)), (1, (.dup2, 1)), (2, (.iaload, 1)), (3, (.aload_n 0, 1)), (4, (.getfield 28, 3)), (7, (.iload_n 1, 1)), (8, (.iaload, 1)), (9, (.ior, 1)), (10, (.iastore, 1)), (11, (.iinc 2 1, 3)), (14, (.goto (-38), 3)), (17, (.iinc 1 1, 3)), (20, (.goto (-52), 3))] := wAll_enc (by decide +kernel)
theorem d_Th_closeHolds_64 : decode Y_Th_closeHolds.2.1 64 = .ok (.iload_n 2, 1) ∧ 64 + 1 = 65 := ⟨wri_2.1, rfl⟩
theorem d_Th_closeHolds_65 : decode Y_Th_closeHolds.2.1 65 = .ok (.dup2, 1) ∧ 65 + 1 = 66 := ⟨wri_2.2.1, rfl⟩
theorem d_Th_closeHolds_66 : decode Y_Th_closeHolds.2.1 66 = .ok (.iaload, 1) ∧ 66 + 1 = 67 := ⟨wri_2.2.2.1, rfl⟩
theorem d_Th_closeHolds_67 : decode Y_Th_closeHolds.2.1 67 = .ok (.aload_n 0, 1) ∧ 67 + 1 = 68 := ⟨wri_2.2.2.2.1, rfl⟩
theorem d_Th_closeHolds_68 : decode Y_Th_closeHolds.2.1 68 = .ok (.getfield 28, 3) ∧ 68 + 3 = 71 := ⟨wri_2.2.2.2.2.1, rfl⟩
theorem d_Th_closeHolds_71 : decode Y_Th_closeHolds.2.1 71 = .ok (.iload_n 1, 1) ∧ 71 + 1 = 72 := ⟨wri_2.2.2.2.2.2.1, rfl⟩
theorem d_Th_closeHolds_72 : decode Y_Th_closeHolds.2.1 72 = .ok (.iaload, 1) ∧ 72 + 1 = 73 := ⟨wri_2.2.2.2.2.2.2.1, rfl⟩
theorem d_Th_closeHolds_73 : decode Y_Th_closeHolds.2.1 73 = .ok (.ior, 1) ∧ 73 + 1 = 74 := ⟨wri_2.2.2.2.2.2.2.2.1, rfl⟩
theorem d_Th_closeHolds_74 : decode Y_Th_closeHolds.2.1 74 = .ok (.iastore, 1) ∧ 74 + 1 = 75 := ⟨wri_2.2.2.2.2.2.2.2.2.1, rfl⟩
theorem d_Th_closeHolds_75 : decode Y_Th_closeHolds.2.1 75 = .ok (.iinc 2 1, 3) ∧ 75 + 3 = 78 := ⟨wri_2.2.2.2.2.2.2.2.2.2.1, rfl⟩
theorem d_Th_closeHolds_78 : decode Y_Th_closeHolds.2.1 78 = .ok (.goto (-38), 3) ∧ ((78 : Nat) : Int) + (-38) = ((40 : Nat) : Int) ∧ 78 + 3 = 81 := ⟨wri_2.2.2.2.2.2.2.2.2.2.2.1, by decide⟩
theorem d_Th_closeHolds_81 : decode Y_Th_closeHolds.2.1 81 = .ok (.iinc 1 1, 3) ∧ 81 + 3 = 84 := ⟨wri_2.2.2.2.2.2.2.2.2.2.2.2.1, rfl⟩
theorem d_Th_closeHolds_84 : decode Y_Th_closeHolds.2.1 84 = .ok (.goto (-52), 3) ∧ ((84 : Nat) : Int) + (-52) = ((32 : Nat) : Int) ∧ 84 + 3 = 87 := ⟨wri_2.2.2.2.2.2.2.2.2.2.2.2.2.1, by decide⟩
theorem d_Th_closeHolds_87 : decode Y_Th_closeHolds.2.1 87 = .ok (.return_, 1) := by decide +kernel
theorem wri_3 : wAll Y_Th_init.2.1 0 [(0, (.aload_n 0, 1)), (1, (.invokespecial 3, 3)), (4, (.aload_n 0, 1)), (5, (.bipush 40, 2)), (9, (.putfield 11, 3)), (12, (.aload_n 0, 1)), (13, (.bipush 40, 2)), (17, (.putfield 15, 3)), (20, (.aload_n 0, 1)), (21, (.bipush 40, 2)), (25, (.putfield 18, 3)), (28, (.aload_n 0, 1)), (29, (.bipush 40, 2)), (33, (.putfield 22, 3)), (36, (.aload_n 0, 1)), (37, (.bipush 6, 2)), (41, (.putfield 25, 3)), (44, (.aload_n 0, 1)), (45, (.bipush 6, 2)), (49, (.putfield 28, 3)), (52, (.aload_n 0, 1)), (53, (.getfield 11, 3)), (56, (.iconst 0, 1)), (57, (.bipush (-4), 2)), (59, (.iastore, 1)), (60, (.aload_n 0, 1)), (61, (.getfield 15, 3))] := wAll_enc (by decide +kernel)
theorem d_Th_init_0 : decode Y_Th_init.2.1 0 = .ok (.aload_n 0, 1) ∧ 0 + 1 = 1 := ⟨wri_3.1, rfl⟩
theorem d_Th_init_1 : decode Y_Th_init.2.1 1 = .ok (.invokespecial 3, 3) ∧ 1 + 3 = 4 := ⟨wri_3.2.1, rfl⟩
theorem d_Th_init_4 : decode Y_Th_init.2.1 4 = .ok (.aload_n 0, 1) ∧ 4 + 1 = 5 := ⟨wri_3.2.2.1, rfl⟩
theorem d_Th_init_5 : decode Y_Th_init.2.1 5 = .ok (.bipush 40, 2) ∧ 5 + 2 = 7 := ⟨wri_3.2.2.2.1, rfl⟩
theorem d_Th_init_9 : decode Y_Th_init.2.1 9 = .ok (.putfield 11, 3) ∧ 9 + 3 = 12 := ⟨wri_3.2.2.2.2.1, rfl⟩
theorem d_Th_init_12 : decode Y_Th_init.2.1 12 = .ok (.aload_n 0, 1) ∧ 12 + 1 = 13 := ⟨wri_3.2.2.2.2.2.1, rfl⟩
theorem d_Th_init_13 : decode Y_Th_init.2.1 13 = .ok (.bipush 40, 2) ∧ 13 + 2 = 15 := ⟨wri_3.2.2.2.2.2.2.1, rfl⟩
theorem d_Th_init_17 : decode Y_Th_init.2.1 17 = .ok (.putfield 15, 3) ∧ 17 + 3 = 20 := ⟨wri_3.2.2.2.2.2.2.2.1, rfl⟩
theorem d_Th_init_20 : decode Y_Th_init.2.1 20 = .ok (.aload_n 0, 1) ∧ 20 + 1 = 21 := ⟨wri_3.2.2.2.2.2.2.2.2.1, rfl⟩
theorem d_Th_init_21 : decode Y_Th_init.2.1 21 = .ok (.bipush 40, 2) ∧ 21 + 2 = 23 := ⟨wri_3.2.2.2.2.2.2.2.2.2.1, rfl⟩
theorem d_Th_init_25 : decode Y_Th_init.2.1 25 = .ok (.putfield 18, 3) ∧ 25 + 3 = 28 := ⟨wri_3.2.2.2.2.2.2.2.2.2.2.1, rfl⟩
theorem d_Th_init_28 : decode Y_Th_init.2.1 28 = .ok (.aload_n 0, 1) ∧ 28 + 1 = 29 := ⟨wri_3.2.2.2.2.2.2.2.2.2.2.2.1, rfl⟩
theorem d_Th_init_29 : decode Y_Th_init.2.1 29 = .ok (.bipush 40, 2) ∧ 29 + 2 = 31 := ⟨wri_3.2.2.2.2.2.2.2.2.2.2.2.2.1, rfl⟩
theorem d_Th_init_33 : decode Y_Th_init.2.1 33 = .ok (.putfield 22, 3) ∧ 33 + 3 = 36 := ⟨wri_3.2.2.2.2.2.2.2.2.2.2.2.2.2.1, rfl⟩
theorem d_Th_init_36 : decode Y_Th_init.2.1 36 = .ok (.aload_n 0, 1) ∧ 36 + 1 = 37 := ⟨wri_3.2.2.2.2.2.2.2.2.2.2.2.2.2.2.1, rfl⟩
theorem d_Th_init_37 : decode Y_Th_init.2.1 37 = .ok (.bipush 6, 2) ∧ 37 + 2 = 39 := ⟨wri_3.2.2.2.2.2.2.2.2.2.2.2.2.2.2.2.1, rfl⟩
theorem d_Th_init_41 : decode Y_Th_init.2.1 41 = .ok (.putfield 25, 3) ∧ 41 + 3 = 44 := ⟨wri_3.2.2.2.2.2.2.2.2.2.2.2.2.2.2.2.2.1, rfl⟩
theorem d_Th_init_44 : decode Y_Th_init.2.1 44 = .ok (.aload_n 0, 1) ∧ 44 + 1 = 45 := ⟨wri_3.2.2.2.2.2.2.2.2.2.2.2.2.2.2.2.2.2.1, rfl⟩
theorem d_Th_init_45 : decode Y_Th_init.2.1 45 = .ok (.bipush 6, 2) ∧ 45 + 2 = 47 := ⟨wri_3.2.2.2.2.2.2.2.2.2.2.2.2.2.2.2.2.2.2.1, rfl⟩
theorem d_Th_init_49 : decode Y_Th_init.2.1 49 = .ok (.putfield 28, 3) ∧ 49 + 3 = 52 := ⟨wri_3.2.2.2.2.2.2.2.2.2.2.2.2.2.2.2.2.2.2.2.1, rfl⟩
theorem d_Th_init_52 : decode Y_Th_init.2.1 52 = .ok (.aload_n 0, 1) ∧ 52 + 1 = 53 := ⟨wri_3.2.2.2.2.2.2.2.2.2.2.2.2.2.2.2.2.2.2.2.2.1, rfl⟩
theorem d_Th_init_53 : decode Y_Th_init.2.1 53 = .ok (.getfield 11, 3) ∧ 53 + 3 = 56 := ⟨wri_3.2.2.2.2.2.2.2.2.2.2.2.2.2.2.2.2.2.2.2.2.2.1, rfl⟩
theorem d_Th_init_56 : decode Y_Th_init.2.1 56 = .ok (.iconst 0, 1) ∧ 56 + 1 = 57 := ⟨wri_3.2.2.2.2.2.2.2.2.2.2.2.2.2.2.2.2.2.2.2.2.2.2.1, rfl⟩
theorem d_Th_init_57 : decode Y_Th_init.2.1 57 = .ok (.bipush (-4), 2) ∧ 57 + 2 = 59 := ⟨wri_3.2.2.2.2.2.2.2.2.2.2.2.2.2.2.2.2.2.2.2.2.2.2.2.1, rfl⟩
theorem d_Th_init_59 : decode Y_Th_init.2.1 59 = .ok (.iastore, 1) ∧ 59 + 1 = 60 := ⟨wri_3.2.2.2.2.2.2.2.2.2.2.2.2.2.2.2.2.2.2.2.2.2.2.2.2.1, rfl⟩
theorem d_Th_init_60 : decode Y_Th_init.2.1 60 = .ok (.aload_n 0, 1) ∧ 60 + 1 = 61 := ⟨wri_3.2.2.2.2.2.2.2.2.2.2.2.2.2.2.2.2.2.2.2.2.2.2.2.2.2.1, rfl⟩
theorem d_Th_init_61 : decode Y_Th_init.2.1 61 = .ok (.getfield 15, 3) ∧ 61 + 3 = 64 := ⟨wri_3.2.2.2.2.2.2.2.2.2.2.2.2.2.2.2.2.2.2.2.2.2.2.2.2.2.2.1, rfl⟩
theorem d_Th_init_7 : decode Y_Th_init.2.1 7 = .ok (.newarray .int, 2) ∧ 7 + 2 = 9 := by decide +kernel
theorem d_Th_init_15 : decode Y_Th_init.2.1 15 = .ok (.newarray .int, 2) ∧ 15 + 2 = 17 := by decide +kernel
theorem d_Th_init_23 : decode Y_Th_init.2.1 23 = .ok (.newarray .boolean, 2) ∧ 23 + 2 = 25 := by decide +kernel
theorem d_Th_init_31 : decode Y_Th_init.2.1 31 = .ok (.newarray .boolean, 2) ∧ 31 + 2 = 33 := by decide +kernel
theorem d_Th_init_39 : decode Y_Th_init.2.1 39 = .ok (.newarray .int, 2) ∧ 39 + 2 = 41 := by decide +kernel
theorem d_Th_init_47 : decode Y_Th_init.2.1 47 = .ok (.newarray .int, 2) ∧ 47 + 2 = 49 := by decide +kernel
theorem wri_4 : wAll Y_Th_init.2.1 64 [(0, (.iconst 0, 1)), (1, (.bipush (-4), 2)), (3, (.iastore, 1)), (4, (.aload_n 0, 1)), (5, (.iconst 1, 1)), (6, (.putfield 31, 3)), (9, (.aload_n 0, 1)), (10, (.getfield 25, 3)), (13, (.iconst 5, 1)), (14, (.bipush 63, 2)), (16, (.iastore, 1)), (17, (.aload_n 0, 1)), (18, (.getfield 25, 3)), (21, (.iconst 1, 1)), (22, (.iconst 1, 1)), (23, (.iastore, 1)), (24, (.aload_n 0, 1)), (25, (.invokevirtual 35, 3))] := wAll_enc (by decide +kernel)
theorem d_Th_init_64 : decode Y_Th_init.2.1 64 = .ok (.iconst 0, 1) ∧ 64 + 1 = 65 := ⟨wri_4.1, rfl⟩
theorem d_Th_init_65 : decode Y_Th_init.2.1 65 = .ok (.bipush (-4), 2) ∧ 65 + 2 = 67 := ⟨wri_4.2.1, rfl⟩
theorem d_Th_init_67 : decode Y_Th_init.2.1 67 = .ok (.iastore, 1) ∧ 67 + 1 = 68 := ⟨wri_4.2.2.1, rfl⟩
theorem d_Th_init_68 : decode Y_Th_init.2.1 68 = .ok (.aload_n 0, 1) ∧ 68 + 1 = 69 := ⟨wri_4.2.2.2.1, rfl⟩
theorem d_Th_init_69 : decode Y_Th_init.2.1 69 = .ok (.iconst 1, 1) ∧ 69 + 1 = 70 := ⟨wri_4.2.2.2.2.1, rfl⟩
theorem d_Th_init_70 : decode Y_Th_init.2.1 70 = .ok (.putfield 31, 3) ∧ 70 + 3 = 73 := ⟨wri_4.2.2.2.2.2.1, rfl⟩
theorem d_Th_init_73 : decode Y_Th_init.2.1 73 = .ok (.aload_n 0, 1) ∧ 73 + 1 = 74 := ⟨wri_4.2.2.2.2.2.2.1, rfl⟩
theorem d_Th_init_74 : decode Y_Th_init.2.1 74 = .ok (.getfield 25, 3) ∧ 74 + 3 = 77 := ⟨wri_4.2.2.2.2.2.2.2.1, rfl⟩
theorem d_Th_init_77 : decode Y_Th_init.2.1 77 = .ok (.iconst 5, 1) ∧ 77 + 1 = 78 := ⟨wri_4.2.2.2.2.2.2.2.2.1, rfl⟩
theorem d_Th_init_78 : decode Y_Th_init.2.1 78 = .ok (.bipush 63, 2) ∧ 78 + 2 = 80 := ⟨wri_4.2.2.2.2.2.2.2.2.2.1, rfl⟩
theorem d_Th_init_80 : decode Y_Th_init.2.1 80 = .ok (.iastore, 1) ∧ 80 + 1 = 81 := ⟨wri_4.2.2.2.2.2.2.2.2.2.2.1, rfl⟩
theorem d_Th_init_81 : decode Y_Th_init.2.1 81 = .ok (.aload_n 0, 1) ∧ 81 + 1 = 82 := ⟨wri_4.2.2.2.2.2.2.2.2.2.2.2.1, rfl⟩
theorem d_Th_init_82 : decode Y_Th_init.2.1 82 = .ok (.getfield 25, 3) ∧ 82 + 3 = 85 := ⟨wri_4.2.2.2.2.2.2.2.2.2.2.2.2.1, rfl⟩
theorem d_Th_init_85 : decode Y_Th_init.2.1 85 = .ok (.iconst 1, 1) ∧ 85 + 1 = 86 := ⟨wri_4.2.2.2.2.2.2.2.2.2.2.2.2.2.1, rfl⟩
theorem d_Th_init_86 : decode Y_Th_init.2.1 86 = .ok (.iconst 1, 1) ∧ 86 + 1 = 87 := ⟨wri_4.2.2.2.2.2.2.2.2.2.2.2.2.2.2.1, rfl⟩
theorem d_Th_init_87 : decode Y_Th_init.2.1 87 = .ok (.iastore, 1) ∧ 87 + 1 = 88 := ⟨wri_4.2.2.2.2.2.2.2.2.2.2.2.2.2.2.2.1, rfl⟩
theorem d_Th_init_88 : decode Y_Th_init.2.1 88 = .ok (.aload_n 0, 1) ∧ 88 + 1 = 89 := ⟨wri_4.2.2.2.2.2.2.2.2.2.2.2.2.2.2.2.2.1, rfl⟩
theorem d_Th_init_89 : decode Y_Th_init.2.1 89 = .ok (.invokevirtual 35, 3) ∧ 89 + 3 = 92 := ⟨wri_4.2.2.2.2.2.2.2.2.2.2.2.2.2.2.2.2.2.1, rfl⟩
theorem d_Th_init_92 : decode Y_Th_init.2.1 92 = .ok (.return_, 1) := by decide +kernel
theorem wri_5 : wAll Y_Po_init.2.1 0 [(0, (.aload_n 0, 1)), (1, (.invokespecial 5, 3)), (4, (.aload_n 0, 1)), (5, (.aload_n 1, 1)), (6, (.putfield 11, 3)), (9, (.aload_n 0, 1)), (10, (.aload_n 2, 1)), (11, (.putfield 17, 3)), (14, (.aload_n 0, 1)), (15, (.bipush 8, 2)), (19, (.putfield 21, 3)), (22, (.aload_n 0, 1)), (23, (.bipush 8, 2)), (27, (.putfield 25, 3)), (30, (.aload_n 0, 1)), (31, (.sipush 2160, 3)), (36, (.putfield 28, 3)), (39, (.aload_n 0, 1)), (40, (.sipush 9600, 3)), (45, (.putfield 31, 3)), (48, (.aload_n 0, 1)), (49, (.sipush 9600, 3)), (54, (.putfield 34, 3)), (57, (.aload_n 0, 1)), (58, (.sipush 1200, 3))] := wAll_enc (by decide +kernel)
theorem d_Po_init_0 : decode Y_Po_init.2.1 0 = .ok (.aload_n 0, 1) ∧ 0 + 1 = 1 := ⟨wri_5.1, rfl⟩
theorem d_Po_init_1 : decode Y_Po_init.2.1 1 = .ok (.invokespecial 5, 3) ∧ 1 + 3 = 4 := ⟨wri_5.2.1, rfl⟩
theorem d_Po_init_4 : decode Y_Po_init.2.1 4 = .ok (.aload_n 0, 1) ∧ 4 + 1 = 5 := ⟨wri_5.2.2.1, rfl⟩
theorem d_Po_init_5 : decode Y_Po_init.2.1 5 = .ok (.aload_n 1, 1) ∧ 5 + 1 = 6 := ⟨wri_5.2.2.2.1, rfl⟩
theorem d_Po_init_6 : decode Y_Po_init.2.1 6 = .ok (.putfield 11, 3) ∧ 6 + 3 = 9 := ⟨wri_5.2.2.2.2.1, rfl⟩
theorem d_Po_init_9 : decode Y_Po_init.2.1 9 = .ok (.aload_n 0, 1) ∧ 9 + 1 = 10 := ⟨wri_5.2.2.2.2.2.1, rfl⟩
theorem d_Po_init_10 : decode Y_Po_init.2.1 10 = .ok (.aload_n 2, 1) ∧ 10 + 1 = 11 := ⟨wri_5.2.2.2.2.2.2.1, rfl⟩
theorem d_Po_init_11 : decode Y_Po_init.2.1 11 = .ok (.putfield 17, 3) ∧ 11 + 3 = 14 := ⟨wri_5.2.2.2.2.2.2.2.1, rfl⟩
theorem d_Po_init_14 : decode Y_Po_init.2.1 14 = .ok (.aload_n 0, 1) ∧ 14 + 1 = 15 := ⟨wri_5.2.2.2.2.2.2.2.2.1, rfl⟩
theorem d_Po_init_15 : decode Y_Po_init.2.1 15 = .ok (.bipush 8, 2) ∧ 15 + 2 = 17 := ⟨wri_5.2.2.2.2.2.2.2.2.2.1, rfl⟩
theorem d_Po_init_19 : decode Y_Po_init.2.1 19 = .ok (.putfield 21, 3) ∧ 19 + 3 = 22 := ⟨wri_5.2.2.2.2.2.2.2.2.2.2.1, rfl⟩
theorem d_Po_init_22 : decode Y_Po_init.2.1 22 = .ok (.aload_n 0, 1) ∧ 22 + 1 = 23 := ⟨wri_5.2.2.2.2.2.2.2.2.2.2.2.1, rfl⟩
theorem d_Po_init_23 : decode Y_Po_init.2.1 23 = .ok (.bipush 8, 2) ∧ 23 + 2 = 25 := ⟨wri_5.2.2.2.2.2.2.2.2.2.2.2.2.1, rfl⟩
theorem d_Po_init_27 : decode Y_Po_init.2.1 27 = .ok (.putfield 25, 3) ∧ 27 + 3 = 30 := ⟨wri_5.2.2.2.2.2.2.2.2.2.2.2.2.2.1, rfl⟩
theorem d_Po_init_30 : decode Y_Po_init.2.1 30 = .ok (.aload_n 0, 1) ∧ 30 + 1 = 31 := ⟨wri_5.2.2.2.2.2.2.2.2.2.2.2.2.2.2.1, rfl⟩
theorem d_Po_init_31 : decode Y_Po_init.2.1 31 = .ok (.sipush 2160, 3) ∧ 31 + 3 = 34 := ⟨wri_5.2.2.2.2.2.2.2.2.2.2.2.2.2.2.2.1, rfl⟩
theorem d_Po_init_36 : decode Y_Po_init.2.1 36 = .ok (.putfield 28, 3) ∧ 36 + 3 = 39 := ⟨wri_5.2.2.2.2.2.2.2.2.2.2.2.2.2.2.2.2.1, rfl⟩
theorem d_Po_init_39 : decode Y_Po_init.2.1 39 = .ok (.aload_n 0, 1) ∧ 39 + 1 = 40 := ⟨wri_5.2.2.2.2.2.2.2.2.2.2.2.2.2.2.2.2.2.1, rfl⟩
theorem d_Po_init_40 : decode Y_Po_init.2.1 40 = .ok (.sipush 9600, 3) ∧ 40 + 3 = 43 := ⟨wri_5.2.2.2.2.2.2.2.2.2.2.2.2.2.2.2.2.2.2.1, rfl⟩
theorem d_Po_init_45 : decode Y_Po_init.2.1 45 = .ok (.putfield 31, 3) ∧ 45 + 3 = 48 := ⟨wri_5.2.2.2.2.2.2.2.2.2.2.2.2.2.2.2.2.2.2.2.1, rfl⟩
theorem d_Po_init_48 : decode Y_Po_init.2.1 48 = .ok (.aload_n 0, 1) ∧ 48 + 1 = 49 := ⟨wri_5.2.2.2.2.2.2.2.2.2.2.2.2.2.2.2.2.2.2.2.2.1, rfl⟩
theorem d_Po_init_49 : decode Y_Po_init.2.1 49 = .ok (.sipush 9600, 3) ∧ 49 + 3 = 52 := ⟨wri_5.2.2.2.2.2.2.2.2.2.2.2.2.2.2.2.2.2.2.2.2.2.1, rfl⟩
theorem d_Po_init_54 : decode Y_Po_init.2.1 54 = .ok (.putfield 34, 3) ∧ 54 + 3 = 57 := ⟨wri_5.2.2.2.2.2.2.2.2.2.2.2.2.2.2.2.2.2.2.2.2.2.2.1, rfl⟩
theorem d_Po_init_57 : decode Y_Po_init.2.1 57 = .ok (.aload_n 0, 1) ∧ 57 + 1 = 58 := ⟨wri_5.2.2.2.2.2.2.2.2.2.2.2.2.2.2.2.2.2.2.2.2.2.2.2.1, rfl⟩
theorem d_Po_init_58 : decode Y_Po_init.2.1 58 = .ok (.sipush 1200, 3) ∧ 58 + 3 = 61 := ⟨wri_5.2.2.2.2.2.2.2.2.2.2.2.2.2.2.2.2.2.2.2.2.2.2.2.2.1, rfl⟩
theorem d_Po_init_17 : decode Y_Po_init.2.1 17 = .ok (.newarray .int, 2) ∧ 17 + 2 = 19 := by decide +kernel
theorem d_Po_init_25 : decode Y_Po_init.2.1 25 = .ok (.newarray .int, 2) ∧ 25 + 2 = 27 := by decide +kernel
theorem d_Po_init_34 : decode Y_Po_init.2.1 34 = .ok (.newarray .int, 2) ∧ 34 + 2 = 36 := by decide +kernel
theorem d_Po_init_43 : decode Y_Po_init.2.1 43 = .ok (.newarray .int, 2) ∧ 43 + 2 = 45 := by decide +kernel
theorem d_Po_init_52 : decode Y_Po_init.2.1 52 = .ok (.newarray .long, 2) ∧ 52 + 2 = 54 := by decide +kernel
theorem d_Po_init_61 : decode Y_Po_init.2.1 61 = .ok (.newarray .int, 2) ∧ 61 + 2 = 63 := by decide +kernel
theorem wri_6 : wAll Y_Po_init.2.1 63 [(0, (.putfield 38, 3)), (3, (.aload_n 0, 1)), (4, (.sipush 1201, 3)), (9, (.putfield 41, 3)), (12, (.aload_n 0, 1)), (13, (.sipush 1201, 3)), (18, (.putfield 44, 3)), (21, (.aload_n 0, 1)), (22, (.sipush 1201, 3)), (27, (.putfield 47, 3))] := wAll_enc (by decide +kernel)
theorem d_Po_init_63 : decode Y_Po_init.2.1 63 = .ok (.putfield 38, 3) ∧ 63 + 3 = 66 := ⟨wri_6.1, rfl⟩
theorem d_Po_init_66 : decode Y_Po_init.2.1 66 = .ok (.aload_n 0, 1) ∧ 66 + 1 = 67 := ⟨wri_6.2.1, rfl⟩
theorem d_Po_init_67 : decode Y_Po_init.2.1 67 = .ok (.sipush 1201, 3) ∧ 67 + 3 = 70 := ⟨wri_6.2.2.1, rfl⟩
theorem d_Po_init_72 : decode Y_Po_init.2.1 72 = .ok (.putfield 41, 3) ∧ 72 + 3 = 75 := ⟨wri_6.2.2.2.1, rfl⟩
theorem d_Po_init_75 : decode Y_Po_init.2.1 75 = .ok (.aload_n 0, 1) ∧ 75 + 1 = 76 := ⟨wri_6.2.2.2.2.1, rfl⟩
theorem d_Po_init_76 : decode Y_Po_init.2.1 76 = .ok (.sipush 1201, 3) ∧ 76 + 3 = 79 := ⟨wri_6.2.2.2.2.2.1, rfl⟩
theorem d_Po_init_81 : decode Y_Po_init.2.1 81 = .ok (.putfield 44, 3) ∧ 81 + 3 = 84 := ⟨wri_6.2.2.2.2.2.2.1, rfl⟩
theorem d_Po_init_84 : decode Y_Po_init.2.1 84 = .ok (.aload_n 0, 1) ∧ 84 + 1 = 85 := ⟨wri_6.2.2.2.2.2.2.2.1, rfl⟩
theorem d_Po_init_85 : decode Y_Po_init.2.1 85 = .ok (.sipush 1201, 3) ∧ 85 + 3 = 88 := ⟨wri_6.2.2.2.2.2.2.2.2.1, rfl⟩
theorem d_Po_init_90 : decode Y_Po_init.2.1 90 = .ok (.putfield 47, 3) ∧ 90 + 3 = 93 := ⟨wri_6.2.2.2.2.2.2.2.2.2.1, rfl⟩
theorem d_Po_init_70 : decode Y_Po_init.2.1 70 = .ok (.newarray .int, 2) ∧ 70 + 2 = 72 := by decide +kernel
theorem d_Po_init_79 : decode Y_Po_init.2.1 79 = .ok (.newarray .int, 2) ∧ 79 + 2 = 81 := by decide +kernel
theorem d_Po_init_88 : decode Y_Po_init.2.1 88 = .ok (.newarray .long, 2) ∧ 88 + 2 = 90 := by decide +kernel
theorem d_Po_init_93 : decode Y_Po_init.2.1 93 = .ok (.return_, 1) := by decide +kernel
theorem wri_7 : wAll Y_Ju_init.2.1 0 [(0, (.aload_n 0, 1)), (1, (.invokespecial 3, 3)), (4, (.aload_n 0, 1)), (5, (.aload_n 1, 1)), (6, (.putfield 9, 3)), (9, (.aload_n 0, 1)), (10, (.aload_n 2, 1)), (11, (.putfield 15, 3)), (14, (.aload_n 0, 1)), (15, (.aload_n 3, 1)), (16, (.putfield 19, 3)), (19, (.aload_n 0, 1)), (20, (.bipush 64, 2)), (24, (.putfield 23, 3)), (27, (.aload_n 0, 1)), (28, (.bipush 64, 2)), (32, (.putfield 27, 3)), (35, (.aload_n 0, 1)), (36, (.bipush 64, 2)), (40, (.putfield 31, 3)), (43, (.aload_n 0, 1)), (44, (.iconst 4, 1)), (47, (.putfield 35, 3)), (50, (.aload_n 0, 1)), (51, (.iconst 4, 1)), (54, (.putfield 38, 3)), (57, (.aload_n 0, 1)), (58, (.bipush 6, 2))] := wAll_enc (by decide +kernel)
theorem d_Ju_init_0 : decode Y_Ju_init.2.1 0 = .ok (.aload_n 0, 1) ∧ 0 + 1 = 1 := ⟨wri_7.1, rfl⟩
theorem d_Ju_init_1 : decode Y_Ju_init.2.1 1 = .ok (.invokespecial 3, 3) ∧ 1 + 3 = 4 := ⟨wri_7.2.1, rfl⟩
theorem d_Ju_init_4 : decode Y_Ju_init.2.1 4 = .ok (.aload_n 0, 1) ∧ 4 + 1 = 5 := ⟨wri_7.2.2.1, rfl⟩
theorem d_Ju_init_5 : decode Y_Ju_init.2.1 5 = .ok (.aload_n 1, 1) ∧ 5 + 1 = 6 := ⟨wri_7.2.2.2.1, rfl⟩
theorem d_Ju_init_6 : decode Y_Ju_init.2.1 6 = .ok (.putfield 9, 3) ∧ 6 + 3 = 9 := ⟨wri_7.2.2.2.2.1, rfl⟩
theorem d_Ju_init_9 : decode Y_Ju_init.2.1 9 = .ok (.aload_n 0, 1) ∧ 9 + 1 = 10 := ⟨wri_7.2.2.2.2.2.1, rfl⟩
theorem d_Ju_init_10 : decode Y_Ju_init.2.1 10 = .ok (.aload_n 2, 1) ∧ 10 + 1 = 11 := ⟨wri_7.2.2.2.2.2.2.1, rfl⟩
theorem d_Ju_init_11 : decode Y_Ju_init.2.1 11 = .ok (.putfield 15, 3) ∧ 11 + 3 = 14 := ⟨wri_7.2.2.2.2.2.2.2.1, rfl⟩
theorem d_Ju_init_14 : decode Y_Ju_init.2.1 14 = .ok (.aload_n 0, 1) ∧ 14 + 1 = 15 := ⟨wri_7.2.2.2.2.2.2.2.2.1, rfl⟩
theorem d_Ju_init_15 : decode Y_Ju_init.2.1 15 = .ok (.aload_n 3, 1) ∧ 15 + 1 = 16 := ⟨wri_7.2.2.2.2.2.2.2.2.2.1, rfl⟩
theorem d_Ju_init_16 : decode Y_Ju_init.2.1 16 = .ok (.putfield 19, 3) ∧ 16 + 3 = 19 := ⟨wri_7.2.2.2.2.2.2.2.2.2.2.1, rfl⟩
theorem d_Ju_init_19 : decode Y_Ju_init.2.1 19 = .ok (.aload_n 0, 1) ∧ 19 + 1 = 20 := ⟨wri_7.2.2.2.2.2.2.2.2.2.2.2.1, rfl⟩
theorem d_Ju_init_20 : decode Y_Ju_init.2.1 20 = .ok (.bipush 64, 2) ∧ 20 + 2 = 22 := ⟨wri_7.2.2.2.2.2.2.2.2.2.2.2.2.1, rfl⟩
theorem d_Ju_init_24 : decode Y_Ju_init.2.1 24 = .ok (.putfield 23, 3) ∧ 24 + 3 = 27 := ⟨wri_7.2.2.2.2.2.2.2.2.2.2.2.2.2.1, rfl⟩
theorem d_Ju_init_27 : decode Y_Ju_init.2.1 27 = .ok (.aload_n 0, 1) ∧ 27 + 1 = 28 := ⟨wri_7.2.2.2.2.2.2.2.2.2.2.2.2.2.2.1, rfl⟩
theorem d_Ju_init_28 : decode Y_Ju_init.2.1 28 = .ok (.bipush 64, 2) ∧ 28 + 2 = 30 := ⟨wri_7.2.2.2.2.2.2.2.2.2.2.2.2.2.2.2.1, rfl⟩
theorem d_Ju_init_32 : decode Y_Ju_init.2.1 32 = .ok (.putfield 27, 3) ∧ 32 + 3 = 35 := ⟨wri_7.2.2.2.2.2.2.2.2.2.2.2.2.2.2.2.2.1, rfl⟩
theorem d_Ju_init_35 : decode Y_Ju_init.2.1 35 = .ok (.aload_n 0, 1) ∧ 35 + 1 = 36 := ⟨wri_7.2.2.2.2.2.2.2.2.2.2.2.2.2.2.2.2.2.1, rfl⟩
theorem d_Ju_init_36 : decode Y_Ju_init.2.1 36 = .ok (.bipush 64, 2) ∧ 36 + 2 = 38 := ⟨wri_7.2.2.2.2.2.2.2.2.2.2.2.2.2.2.2.2.2.2.1, rfl⟩
theorem d_Ju_init_40 : decode Y_Ju_init.2.1 40 = .ok (.putfield 31, 3) ∧ 40 + 3 = 43 := ⟨wri_7.2.2.2.2.2.2.2.2.2.2.2.2.2.2.2.2.2.2.2.1, rfl⟩
theorem d_Ju_init_43 : decode Y_Ju_init.2.1 43 = .ok (.aload_n 0, 1) ∧ 43 + 1 = 44 := ⟨wri_7.2.2.2.2.2.2.2.2.2.2.2.2.2.2.2.2.2.2.2.2.1, rfl⟩
theorem d_Ju_init_44 : decode Y_Ju_init.2.1 44 = .ok (.iconst 4, 1) ∧ 44 + 1 = 45 := ⟨wri_7.2.2.2.2.2.2.2.2.2.2.2.2.2.2.2.2.2.2.2.2.2.1, rfl⟩
theorem d_Ju_init_47 : decode Y_Ju_init.2.1 47 = .ok (.putfield 35, 3) ∧ 47 + 3 = 50 := ⟨wri_7.2.2.2.2.2.2.2.2.2.2.2.2.2.2.2.2.2.2.2.2.2.2.1, rfl⟩
theorem d_Ju_init_50 : decode Y_Ju_init.2.1 50 = .ok (.aload_n 0, 1) ∧ 50 + 1 = 51 := ⟨wri_7.2.2.2.2.2.2.2.2.2.2.2.2.2.2.2.2.2.2.2.2.2.2.2.1, rfl⟩
theorem d_Ju_init_51 : decode Y_Ju_init.2.1 51 = .ok (.iconst 4, 1) ∧ 51 + 1 = 52 := ⟨wri_7.2.2.2.2.2.2.2.2.2.2.2.2.2.2.2.2.2.2.2.2.2.2.2.2.1, rfl⟩
theorem d_Ju_init_54 : decode Y_Ju_init.2.1 54 = .ok (.putfield 38, 3) ∧ 54 + 3 = 57 := ⟨wri_7.2.2.2.2.2.2.2.2.2.2.2.2.2.2.2.2.2.2.2.2.2.2.2.2.2.1, rfl⟩
theorem d_Ju_init_57 : decode Y_Ju_init.2.1 57 = .ok (.aload_n 0, 1) ∧ 57 + 1 = 58 := ⟨wri_7.2.2.2.2.2.2.2.2.2.2.2.2.2.2.2.2.2.2.2.2.2.2.2.2.2.2.1, rfl⟩
theorem d_Ju_init_58 : decode Y_Ju_init.2.1 58 = .ok (.bipush 6, 2) ∧ 58 + 2 = 60 := ⟨wri_7.2.2.2.2.2.2.2.2.2.2.2.2.2.2.2.2.2.2.2.2.2.2.2.2.2.2.2.1, rfl⟩
theorem d_Ju_init_22 : decode Y_Ju_init.2.1 22 = .ok (.newarray .long, 2) ∧ 22 + 2 = 24 := by decide +kernel
theorem d_Ju_init_30 : decode Y_Ju_init.2.1 30 = .ok (.newarray .boolean, 2) ∧ 30 + 2 = 32 := by decide +kernel
theorem d_Ju_init_38 : decode Y_Ju_init.2.1 38 = .ok (.newarray .int, 2) ∧ 38 + 2 = 40 := by decide +kernel
theorem d_Ju_init_45 : decode Y_Ju_init.2.1 45 = .ok (.newarray .int, 2) ∧ 45 + 2 = 47 := by decide +kernel
theorem d_Ju_init_52 : decode Y_Ju_init.2.1 52 = .ok (.newarray .int, 2) ∧ 52 + 2 = 54 := by decide +kernel
theorem d_Ju_init_60 : decode Y_Ju_init.2.1 60 = .ok (.newarray .int, 2) ∧ 60 + 2 = 62 := by decide +kernel
theorem d_Ju_init_62 : decode Y_Ju_init.2.1 62 = .ok (.putfield 41, 3) ∧ 62 + 3 = 65 := by decide +kernel
theorem d_Ju_init_65 : decode Y_Ju_init.2.1 65 = .ok (.return_, 1) := by decide +kernel
theorem wri_8 : wAll Y_Ro_init.2.1 0 [(0, (.aload_n 0, 1)), (1, (.invokespecial 5, 3)), (4, (.aload_n 0, 1)), (5, (.aload_n 1, 1)), (6, (.putfield 11, 3)), (9, (.aload_n 0, 1)), (10, (.bipush 20, 2)), (14, (.putfield 15, 3)), (17, (.aload_n 0, 1)), (18, (.bipush 20, 2)), (22, (.putfield 19, 3)), (25, (.aload_n 0, 1)), (26, (.bipush 20, 2)), (30, (.putfield 22, 3)), (33, (.aload_n 0, 1)), (34, (.bipush 8, 2)), (38, (.putfield 25, 3)), (41, (.aload_n 0, 1)), (42, (.bipush 8, 2)), (46, (.putfield 28, 3)), (49, (.aload_n 0, 1)), (50, (.bipush 20, 2)), (54, (.putfield 33, 3)), (57, (.aload_n 0, 1)), (58, (.bipush (-4), 2)), (60, (.putfield 36, 3))] := wAll_enc (by decide +kernel)
theorem d_Ro_init_0 : decode Y_Ro_init.2.1 0 = .ok (.aload_n 0, 1) ∧ 0 + 1 = 1 := ⟨wri_8.1, rfl⟩
theorem d_Ro_init_1 : decode Y_Ro_init.2.1 1 = .ok (.invokespecial 5, 3) ∧ 1 + 3 = 4 := ⟨wri_8.2.1, rfl⟩
theorem d_Ro_init_4 : decode Y_Ro_init.2.1 4 = .ok (.aload_n 0, 1) ∧ 4 + 1 = 5 := ⟨wri_8.2.2.1, rfl⟩
theorem d_Ro_init_5 : decode Y_Ro_init.2.1 5 = .ok (.aload_n 1, 1) ∧ 5 + 1 = 6 := ⟨wri_8.2.2.2.1, rfl⟩
theorem d_Ro_init_6 : decode Y_Ro_init.2.1 6 = .ok (.putfield 11, 3) ∧ 6 + 3 = 9 := ⟨wri_8.2.2.2.2.1, rfl⟩
theorem d_Ro_init_9 : decode Y_Ro_init.2.1 9 = .ok (.aload_n 0, 1) ∧ 9 + 1 = 10 := ⟨wri_8.2.2.2.2.2.1, rfl⟩
theorem d_Ro_init_10 : decode Y_Ro_init.2.1 10 = .ok (.bipush 20, 2) ∧ 10 + 2 = 12 := ⟨wri_8.2.2.2.2.2.2.1, rfl⟩
theorem d_Ro_init_14 : decode Y_Ro_init.2.1 14 = .ok (.putfield 15, 3) ∧ 14 + 3 = 17 := ⟨wri_8.2.2.2.2.2.2.2.1, rfl⟩
theorem d_Ro_init_17 : decode Y_Ro_init.2.1 17 = .ok (.aload_n 0, 1) ∧ 17 + 1 = 18 := ⟨wri_8.2.2.2.2.2.2.2.2.1, rfl⟩
theorem d_Ro_init_18 : decode Y_Ro_init.2.1 18 = .ok (.bipush 20, 2) ∧ 18 + 2 = 20 := ⟨wri_8.2.2.2.2.2.2.2.2.2.1, rfl⟩
theorem d_Ro_init_22 : decode Y_Ro_init.2.1 22 = .ok (.putfield 19, 3) ∧ 22 + 3 = 25 := ⟨wri_8.2.2.2.2.2.2.2.2.2.2.1, rfl⟩
theorem d_Ro_init_25 : decode Y_Ro_init.2.1 25 = .ok (.aload_n 0, 1) ∧ 25 + 1 = 26 := ⟨wri_8.2.2.2.2.2.2.2.2.2.2.2.1, rfl⟩
theorem d_Ro_init_26 : decode Y_Ro_init.2.1 26 = .ok (.bipush 20, 2) ∧ 26 + 2 = 28 := ⟨wri_8.2.2.2.2.2.2.2.2.2.2.2.2.1, rfl⟩
theorem d_Ro_init_30 : decode Y_Ro_init.2.1 30 = .ok (.putfield 22, 3) ∧ 30 + 3 = 33 := ⟨wri_8.2.2.2.2.2.2.2.2.2.2.2.2.2.1, rfl⟩
theorem d_Ro_init_33 : decode Y_Ro_init.2.1 33 = .ok (.aload_n 0, 1) ∧ 33 + 1 = 34 := ⟨wri_8.2.2.2.2.2.2.2.2.2.2.2.2.2.2.1, rfl⟩
theorem d_Ro_init_34 : decode Y_Ro_init.2.1 34 = .ok (.bipush 8, 2) ∧ 34 + 2 = 36 := ⟨wri_8.2.2.2.2.2.2.2.2.2.2.2.2.2.2.2.1, rfl⟩
theorem d_Ro_init_38 : decode Y_Ro_init.2.1 38 = .ok (.putfield 25, 3) ∧ 38 + 3 = 41 := ⟨wri_8.2.2.2.2.2.2.2.2.2.2.2.2.2.2.2.2.1, rfl⟩
theorem d_Ro_init_41 : decode Y_Ro_init.2.1 41 = .ok (.aload_n 0, 1) ∧ 41 + 1 = 42 := ⟨wri_8.2.2.2.2.2.2.2.2.2.2.2.2.2.2.2.2.2.1, rfl⟩
theorem d_Ro_init_42 : decode Y_Ro_init.2.1 42 = .ok (.bipush 8, 2) ∧ 42 + 2 = 44 := ⟨wri_8.2.2.2.2.2.2.2.2.2.2.2.2.2.2.2.2.2.2.1, rfl⟩
theorem d_Ro_init_46 : decode Y_Ro_init.2.1 46 = .ok (.putfield 28, 3) ∧ 46 + 3 = 49 := ⟨wri_8.2.2.2.2.2.2.2.2.2.2.2.2.2.2.2.2.2.2.2.1, rfl⟩
theorem d_Ro_init_49 : decode Y_Ro_init.2.1 49 = .ok (.aload_n 0, 1) ∧ 49 + 1 = 50 := ⟨wri_8.2.2.2.2.2.2.2.2.2.2.2.2.2.2.2.2.2.2.2.2.1, rfl⟩
theorem d_Ro_init_50 : decode Y_Ro_init.2.1 50 = .ok (.bipush 20, 2) ∧ 50 + 2 = 52 := ⟨wri_8.2.2.2.2.2.2.2.2.2.2.2.2.2.2.2.2.2.2.2.2.2.1, rfl⟩
theorem d_Ro_init_54 : decode Y_Ro_init.2.1 54 = .ok (.putfield 33, 3) ∧ 54 + 3 = 57 := ⟨wri_8.2.2.2.2.2.2.2.2.2.2.2.2.2.2.2.2.2.2.2.2.2.2.1, rfl⟩
theorem d_Ro_init_57 : decode Y_Ro_init.2.1 57 = .ok (.aload_n 0, 1) ∧ 57 + 1 = 58 := ⟨wri_8.2.2.2.2.2.2.2.2.2.2.2.2.2.2.2.2.2.2.2.2.2.2.2.1, rfl⟩
theorem d_Ro_init_58 : decode Y_Ro_init.2.1 58 = .ok (.bipush (-4), 2) ∧ 58 + 2 = 60 := ⟨wri_8.2.2.2.2.2.2.2.2.2.2.2.2.2.2.2.2.2.2.2.2.2.2.2.2.1, rfl⟩
theorem d_Ro_init_60 : decode Y_Ro_init.2.1 60 = .ok (.putfield 36, 3) ∧ 60 + 3 = 63 := ⟨wri_8.2.2.2.2.2.2.2.2.2.2.2.2.2.2.2.2.2.2.2.2.2.2.2.2.2.1, rfl⟩
theorem d_Ro_init_12 : decode Y_Ro_init.2.1 12 = .ok (.newarray .int, 2) ∧ 12 + 2 = 14 := by decide +kernel
theorem d_Ro_init_20 : decode Y_Ro_init.2.1 20 = .ok (.newarray .int, 2) ∧ 20 + 2 = 22 := by decide +kernel
theorem d_Ro_init_28 : decode Y_Ro_init.2.1 28 = .ok (.newarray .int, 2) ∧ 28 + 2 = 30 := by decide +kernel
theorem d_Ro_init_36 : decode Y_Ro_init.2.1 36 = .ok (.newarray .int, 2) ∧ 36 + 2 = 38 := by decide +kernel
theorem d_Ro_init_44 : decode Y_Ro_init.2.1 44 = .ok (.newarray .int, 2) ∧ 44 + 2 = 46 := by decide +kernel
theorem d_Ro_init_52 : decode Y_Ro_init.2.1 52 = .ok (.newarray .int, 2) ∧ 52 + 2 = 54 := by decide +kernel
theorem d_Ro_init_63 : decode Y_Ro_init.2.1 63 = .ok (.return_, 1) := by decide +kernel
theorem wri_9 : wAll Y_Wo_init.2.1 0 [(0, (.aload_n 0, 1)), (1, (.invokespecial 3, 3)), (4, (.aload_n 0, 1)), (5, (.aload_n 1, 1)), (6, (.putfield 9, 3)), (9, (.aload_n 0, 1)), (10, (.iconst 4, 1)), (13, (.putfield 15, 3)), (16, (.aload_n 0, 1)), (17, (.bipush 32, 2)), (21, (.putfield 19, 3)), (24, (.aload_n 0, 1)), (25, (.bipush 32, 2)), (29, (.putfield 22, 3)), (32, (.aload_n 0, 1)), (33, (.iconst 4, 1)), (36, (.putfield 25, 3)), (39, (.aload_n 0, 1)), (40, (.bipush 48, 2)), (44, (.putfield 28, 3)), (47, (.aload_n 0, 1)), (48, (.bipush 48, 2)), (52, (.putfield 31, 3)), (55, (.aload_n 0, 1)), (56, (.bipush 48, 2)), (60, (.putfield 34, 3)), (63, (.aload_n 0, 1))] := wAll_enc (by decide +kernel)
theorem d_Wo_init_0 : decode Y_Wo_init.2.1 0 = .ok (.aload_n 0, 1) ∧ 0 + 1 = 1 := ⟨wri_9.1, rfl⟩
theorem d_Wo_init_1 : decode Y_Wo_init.2.1 1 = .ok (.invokespecial 3, 3) ∧ 1 + 3 = 4 := ⟨wri_9.2.1, rfl⟩
theorem d_Wo_init_4 : decode Y_Wo_init.2.1 4 = .ok (.aload_n 0, 1) ∧ 4 + 1 = 5 := ⟨wri_9.2.2.1, rfl⟩
theorem d_Wo_init_5 : decode Y_Wo_init.2.1 5 = .ok (.aload_n 1, 1) ∧ 5 + 1 = 6 := ⟨wri_9.2.2.2.1, rfl⟩
theorem d_Wo_init_6 : decode Y_Wo_init.2.1 6 = .ok (.putfield 9, 3) ∧ 6 + 3 = 9 := ⟨wri_9.2.2.2.2.1, rfl⟩
theorem d_Wo_init_9 : decode Y_Wo_init.2.1 9 = .ok (.aload_n 0, 1) ∧ 9 + 1 = 10 := ⟨wri_9.2.2.2.2.2.1, rfl⟩
theorem d_Wo_init_10 : decode Y_Wo_init.2.1 10 = .ok (.iconst 4, 1) ∧ 10 + 1 = 11 := ⟨wri_9.2.2.2.2.2.2.1, rfl⟩
theorem d_Wo_init_13 : decode Y_Wo_init.2.1 13 = .ok (.putfield 15, 3) ∧ 13 + 3 = 16 := ⟨wri_9.2.2.2.2.2.2.2.1, rfl⟩
theorem d_Wo_init_16 : decode Y_Wo_init.2.1 16 = .ok (.aload_n 0, 1) ∧ 16 + 1 = 17 := ⟨wri_9.2.2.2.2.2.2.2.2.1, rfl⟩
theorem d_Wo_init_17 : decode Y_Wo_init.2.1 17 = .ok (.bipush 32, 2) ∧ 17 + 2 = 19 := ⟨wri_9.2.2.2.2.2.2.2.2.2.1, rfl⟩
theorem d_Wo_init_21 : decode Y_Wo_init.2.1 21 = .ok (.putfield 19, 3) ∧ 21 + 3 = 24 := ⟨wri_9.2.2.2.2.2.2.2.2.2.2.1, rfl⟩
theorem d_Wo_init_24 : decode Y_Wo_init.2.1 24 = .ok (.aload_n 0, 1) ∧ 24 + 1 = 25 := ⟨wri_9.2.2.2.2.2.2.2.2.2.2.2.1, rfl⟩
theorem d_Wo_init_25 : decode Y_Wo_init.2.1 25 = .ok (.bipush 32, 2) ∧ 25 + 2 = 27 := ⟨wri_9.2.2.2.2.2.2.2.2.2.2.2.2.1, rfl⟩
theorem d_Wo_init_29 : decode Y_Wo_init.2.1 29 = .ok (.putfield 22, 3) ∧ 29 + 3 = 32 := ⟨wri_9.2.2.2.2.2.2.2.2.2.2.2.2.2.1, rfl⟩
theorem d_Wo_init_32 : decode Y_Wo_init.2.1 32 = .ok (.aload_n 0, 1) ∧ 32 + 1 = 33 := ⟨wri_9.2.2.2.2.2.2.2.2.2.2.2.2.2.2.1, rfl⟩
theorem d_Wo_init_33 : decode Y_Wo_init.2.1 33 = .ok (.iconst 4, 1) ∧ 33 + 1 = 34 := ⟨wri_9.2.2.2.2.2.2.2.2.2.2.2.2.2.2.2.1, rfl⟩
theorem d_Wo_init_36 : decode Y_Wo_init.2.1 36 = .ok (.putfield 25, 3) ∧ 36 + 3 = 39 := ⟨wri_9.2.2.2.2.2.2.2.2.2.2.2.2.2.2.2.2.1, rfl⟩
theorem d_Wo_init_39 : decode Y_Wo_init.2.1 39 = .ok (.aload_n 0, 1) ∧ 39 + 1 = 40 := ⟨wri_9.2.2.2.2.2.2.2.2.2.2.2.2.2.2.2.2.2.1, rfl⟩
theorem d_Wo_init_40 : decode Y_Wo_init.2.1 40 = .ok (.bipush 48, 2) ∧ 40 + 2 = 42 := ⟨wri_9.2.2.2.2.2.2.2.2.2.2.2.2.2.2.2.2.2.2.1, rfl⟩
theorem d_Wo_init_44 : decode Y_Wo_init.2.1 44 = .ok (.putfield 28, 3) ∧ 44 + 3 = 47 := ⟨wri_9.2.2.2.2.2.2.2.2.2.2.2.2.2.2.2.2.2.2.2.1, rfl⟩
theorem d_Wo_init_47 : decode Y_Wo_init.2.1 47 = .ok (.aload_n 0, 1) ∧ 47 + 1 = 48 := ⟨wri_9.2.2.2.2.2.2.2.2.2.2.2.2.2.2.2.2.2.2.2.2.1, rfl⟩
theorem d_Wo_init_48 : decode Y_Wo_init.2.1 48 = .ok (.bipush 48, 2) ∧ 48 + 2 = 50 := ⟨wri_9.2.2.2.2.2.2.2.2.2.2.2.2.2.2.2.2.2.2.2.2.2.1, rfl⟩
theorem d_Wo_init_52 : decode Y_Wo_init.2.1 52 = .ok (.putfield 31, 3) ∧ 52 + 3 = 55 := ⟨wri_9.2.2.2.2.2.2.2.2.2.2.2.2.2.2.2.2.2.2.2.2.2.2.1, rfl⟩
theorem d_Wo_init_55 : decode Y_Wo_init.2.1 55 = .ok (.aload_n 0, 1) ∧ 55 + 1 = 56 := ⟨wri_9.2.2.2.2.2.2.2.2.2.2.2.2.2.2.2.2.2.2.2.2.2.2.2.1, rfl⟩
theorem d_Wo_init_56 : decode Y_Wo_init.2.1 56 = .ok (.bipush 48, 2) ∧ 56 + 2 = 58 := ⟨wri_9.2.2.2.2.2.2.2.2.2.2.2.2.2.2.2.2.2.2.2.2.2.2.2.2.1, rfl⟩
theorem d_Wo_init_60 : decode Y_Wo_init.2.1 60 = .ok (.putfield 34, 3) ∧ 60 + 3 = 63 := ⟨wri_9.2.2.2.2.2.2.2.2.2.2.2.2.2.2.2.2.2.2.2.2.2.2.2.2.2.1, rfl⟩
theorem d_Wo_init_63 : decode Y_Wo_init.2.1 63 = .ok (.aload_n 0, 1) ∧ 63 + 1 = 64 := ⟨wri_9.2.2.2.2.2.2.2.2.2.2.2.2.2.2.2.2.2.2.2.2.2.2.2.2.2.2.1, rfl⟩
theorem d_Wo_init_11 : decode Y_Wo_init.2.1 11 = .ok (.newarray .int, 2) ∧ 11 + 2 = 13 := by decide +kernel
theorem d_Wo_init_19 : decode Y_Wo_init.2.1 19 = .ok (.newarray .int, 2) ∧ 19 + 2 = 21 := by decide +kernel
theorem d_Wo_init_27 : decode Y_Wo_init.2.1 27 = .ok (.newarray .int, 2) ∧ 27 + 2 = 29 := by decide +kernel
theorem d_Wo_init_34 : decode Y_Wo_init.2.1 34 = .ok (.newarray .int, 2) ∧ 34 + 2 = 36 := by decide +kernel
theorem d_Wo_init_42 : decode Y_Wo_init.2.1 42 = .ok (.newarray .int, 2) ∧ 42 + 2 = 44 := by decide +kernel
theorem d_Wo_init_50 : decode Y_Wo_init.2.1 50 = .ok (.newarray .int, 2) ∧ 50 + 2 = 52 := by decide +kernel
theorem d_Wo_init_58 : decode Y_Wo_init.2.1 58 = .ok (.newarray .int, 2) ∧ 58 + 2 = 60 := by decide +kernel
theorem wri_10 : wAll Y_Wo_init.2.1 64 [(0, (.bipush 32, 2)), (4, (.putfield 37, 3)), (7, (.aload_n 0, 1)), (8, (.bipush 8, 2)), (12, (.putfield 40, 3)), (15, (.aload_n 0, 1)), (16, (.bipush 8, 2)), (20, (.putfield 43, 3)), (23, (.iconst 0, 1)), (24, (.istore_n 2, 1)), (25, (.iload_n 2, 1)), (26, (.bipush 32, 2)), (28, (.if_icmp .ge 25, 3)), (31, (.aload_n 0, 1)), (32, (.getfield 22, 3)), (35, (.iload_n 2, 1)), (36, (.bipush (-4), 2)), (38, (.iastore, 1)), (39, (.aload_n 0, 1)), (40, (.getfield 37, 3)), (43, (.iload_n 2, 1)), (44, (.bipush (-4), 2)), (46, (.iastore, 1)), (47, (.iinc 2 1, 3)), (50, (.goto (-25), 3))] := wAll_enc (by decide +kernel)
theorem d_Wo_init_64 : decode Y_Wo_init.2.1 64 = .ok (.bipush 32, 2) ∧ 64 + 2 = 66 := ⟨wri_10.1, rfl⟩
theorem d_Wo_init_68 : decode Y_Wo_init.2.1 68 = .ok (.putfield 37, 3) ∧ 68 + 3 = 71 := ⟨wri_10.2.1, rfl⟩
theorem d_Wo_init_71 : decode Y_Wo_init.2.1 71 = .ok (.aload_n 0, 1) ∧ 71 + 1 = 72 := ⟨wri_10.2.2.1, rfl⟩
theorem d_Wo_init_72 : decode Y_Wo_init.2.1 72 = .ok (.bipush 8, 2) ∧ 72 + 2 = 74 := ⟨wri_10.2.2.2.1, rfl⟩
theorem d_Wo_init_76 : decode Y_Wo_init.2.1 76 = .ok (.putfield 40, 3) ∧ 76 + 3 = 79 := ⟨wri_10.2.2.2.2.1, rfl⟩
theorem d_Wo_init_79 : decode Y_Wo_init.2.1 79 = .ok (.aload_n 0, 1) ∧ 79 + 1 = 80 := ⟨wri_10.2.2.2.2.2.1, rfl⟩
theorem d_Wo_init_80 : decode Y_Wo_init.2.1 80 = .ok (.bipush 8, 2) ∧ 80 + 2 = 82 := ⟨wri_10.2.2.2.2.2.2.1, rfl⟩
theorem d_Wo_init_84 : decode Y_Wo_init.2.1 84 = .ok (.putfield 43, 3) ∧ 84 + 3 = 87 := ⟨wri_10.2.2.2.2.2.2.2.1, rfl⟩
theorem d_Wo_init_87 : decode Y_Wo_init.2.1 87 = .ok (.iconst 0, 1) ∧ 87 + 1 = 88 := ⟨wri_10.2.2.2.2.2.2.2.2.1, rfl⟩
theorem d_Wo_init_88 : decode Y_Wo_init.2.1 88 = .ok (.istore_n 2, 1) ∧ 88 + 1 = 89 := ⟨wri_10.2.2.2.2.2.2.2.2.2.1, rfl⟩
theorem d_Wo_init_89 : decode Y_Wo_init.2.1 89 = .ok (.iload_n 2, 1) ∧ 89 + 1 = 90 := ⟨wri_10.2.2.2.2.2.2.2.2.2.2.1, rfl⟩
theorem d_Wo_init_90 : decode Y_Wo_init.2.1 90 = .ok (.bipush 32, 2) ∧ 90 + 2 = 92 := ⟨wri_10.2.2.2.2.2.2.2.2.2.2.2.1, rfl⟩
theorem d_Wo_init_92 : decode Y_Wo_init.2.1 92 = .ok (.if_icmp .ge 25, 3) ∧ ((92 : Nat) : Int) + 25 = ((117 : Nat) : Int) ∧ 92 + 3 = 95 := ⟨wri_10.2.2.2.2.2.2.2.2.2.2.2.2.1, by decide⟩
theorem d_Wo_init_95 : decode Y_Wo_init.2.1 95 = .ok (.aload_n 0, 1) ∧ 95 + 1 = 96 := ⟨wri_10.2.2.2.2.2.2.2.2.2.2.2.2.2.1, rfl⟩
theorem d_Wo_init_96 : decode Y_Wo_init.2.1 96 = .ok (.getfield 22, 3) ∧ 96 + 3 = 99 := ⟨wri_10.2.2.2.2.2.2.2.2.2.2.2.2.2.2.1, rfl⟩
theorem d_Wo_init_99 : decode Y_Wo_init.2.1 99 = .ok (.iload_n 2, 1) ∧ 99 + 1 = 100 := ⟨wri_10.2.2.2.2.2.2.2.2.2.2.2.2.2.2.2.1, rfl⟩
theorem d_Wo_init_100 : decode Y_Wo_init.2.1 100 = .ok (.bipush (-4), 2) ∧ 100 + 2 = 102 := ⟨wri_10.2.2.2.2.2.2.2.2.2.2.2.2.2.2.2.2.1, rfl⟩
theorem d_Wo_init_102 : decode Y_Wo_init.2.1 102 = .ok (.iastore, 1) ∧ 102 + 1 = 103 := ⟨wri_10.2.2.2.2.2.2.2.2.2.2.2.2.2.2.2.2.2.1, rfl⟩
theorem d_Wo_init_103 : decode Y_Wo_init.2.1 103 = .ok (.aload_n 0, 1) ∧ 103 + 1 = 104 := ⟨wri_10.2.2.2.2.2.2.2.2.2.2.2.2.2.2.2.2.2.2.1, rfl⟩
theorem d_Wo_init_104 : decode Y_Wo_init.2.1 104 = .ok (.getfield 37, 3) ∧ 104 + 3 = 107 := ⟨wri_10.2.2.2.2.2.2.2.2.2.2.2.2.2.2.2.2.2.2.2.1, rfl⟩
theorem d_Wo_init_107 : decode Y_Wo_init.2.1 107 = .ok (.iload_n 2, 1) ∧ 107 + 1 = 108 := ⟨wri_10.2.2.2.2.2.2.2.2.2.2.2.2.2.2.2.2.2.2.2.2.1, rfl⟩
theorem d_Wo_init_108 : decode Y_Wo_init.2.1 108 = .ok (.bipush (-4), 2) ∧ 108 + 2 = 110 := ⟨wri_10.2.2.2.2.2.2.2.2.2.2.2.2.2.2.2.2.2.2.2.2.2.1, rfl⟩
theorem d_Wo_init_110 : decode Y_Wo_init.2.1 110 = .ok (.iastore, 1) ∧ 110 + 1 = 111 := ⟨wri_10.2.2.2.2.2.2.2.2.2.2.2.2.2.2.2.2.2.2.2.2.2.2.1, rfl⟩
theorem d_Wo_init_111 : decode Y_Wo_init.2.1 111 = .ok (.iinc 2 1, 3) ∧ 111 + 3 = 114 := ⟨wri_10.2.2.2.2.2.2.2.2.2.2.2.2.2.2.2.2.2.2.2.2.2.2.2.1, rfl⟩
theorem d_Wo_init_114 : decode Y_Wo_init.2.1 114 = .ok (.goto (-25), 3) ∧ ((114 : Nat) : Int) + (-25) = ((89 : Nat) : Int) ∧ 114 + 3 = 117 := ⟨wri_10.2.2.2.2.2.2.2.2.2.2.2.2.2.2.2.2.2.2.2.2.2.2.2.2.1, by decide⟩
theorem d_Wo_init_66 : decode Y_Wo_init.2.1 66 = .ok (.newarray .int, 2) ∧ 66 + 2 = 68 := by decide +kernel
theorem d_Wo_init_74 : decode Y_Wo_init.2.1 74 = .ok (.newarray .int, 2) ∧ 74 + 2 = 76 := by decide +kernel
theorem d_Wo_init_82 : decode Y_Wo_init.2.1 82 = .ok (.newarray .int, 2) ∧ 82 + 2 = 84 := by decide +kernel
theorem d_Wo_init_117 : decode Y_Wo_init.2.1 117 = .ok (.return_, 1) := by decide +kernel
theorem wri_11 : wAll Y_Le_init.2.1 0 [(0, (.aload_n 0, 1)), (1, (.invokespecial 5, 3)), (4, (.aload_n 0, 1)), (5, (.aload_n 1, 1)), (6, (.putfield 11, 3)), (9, (.aload_n 0, 1)), (10, (.sipush 480, 3)), (15, (.putfield 15, 3)), (18, (.aload_n 0, 1)), (19, (.bipush 60, 2)), (23, (.putfield 19, 3)), (26, (.aload_n 0, 1)), (27, (.bipush 60, 2)), (31, (.putfield 23, 3)), (34, (.aload_n 0, 1)), (35, (.sipush 144, 3)), (40, (.putfield 26, 3)), (43, (.aload_n 0, 1)), (44, (.sipush 144, 3)), (49, (.putfield 29, 3)), (52, (.aload_n 0, 1)), (53, (.sipush 1728, 3)), (58, (.putfield 32, 3))] := wAll_enc (by decide +kernel)
theorem d_Le_init_0 : decode Y_Le_init.2.1 0 = .ok (.aload_n 0, 1) ∧ 0 + 1 = 1 := ⟨wri_11.1, rfl⟩
theorem d_Le_init_1 : decode Y_Le_init.2.1 1 = .ok (.invokespecial 5, 3) ∧ 1 + 3 = 4 := ⟨wri_11.2.1, rfl⟩
theorem d_Le_init_4 : decode Y_Le_init.2.1 4 = .ok (.aload_n 0, 1) ∧ 4 + 1 = 5 := ⟨wri_11.2.2.1, rfl⟩
theorem d_Le_init_5 : decode Y_Le_init.2.1 5 = .ok (.aload_n 1, 1) ∧ 5 + 1 = 6 := ⟨wri_11.2.2.2.1, rfl⟩
theorem d_Le_init_6 : decode Y_Le_init.2.1 6 = .ok (.putfield 11, 3) ∧ 6 + 3 = 9 := ⟨wri_11.2.2.2.2.1, rfl⟩
theorem d_Le_init_9 : decode Y_Le_init.2.1 9 = .ok (.aload_n 0, 1) ∧ 9 + 1 = 10 := ⟨wri_11.2.2.2.2.2.1, rfl⟩
theorem d_Le_init_10 : decode Y_Le_init.2.1 10 = .ok (.sipush 480, 3) ∧ 10 + 3 = 13 := ⟨wri_11.2.2.2.2.2.2.1, rfl⟩
theorem d_Le_init_15 : decode Y_Le_init.2.1 15 = .ok (.putfield 15, 3) ∧ 15 + 3 = 18 := ⟨wri_11.2.2.2.2.2.2.2.1, rfl⟩
theorem d_Le_init_18 : decode Y_Le_init.2.1 18 = .ok (.aload_n 0, 1) ∧ 18 + 1 = 19 := ⟨wri_11.2.2.2.2.2.2.2.2.1, rfl⟩
theorem d_Le_init_19 : decode Y_Le_init.2.1 19 = .ok (.bipush 60, 2) ∧ 19 + 2 = 21 := ⟨wri_11.2.2.2.2.2.2.2.2.2.1, rfl⟩
theorem d_Le_init_23 : decode Y_Le_init.2.1 23 = .ok (.putfield 19, 3) ∧ 23 + 3 = 26 := ⟨wri_11.2.2.2.2.2.2.2.2.2.2.1, rfl⟩
theorem d_Le_init_26 : decode Y_Le_init.2.1 26 = .ok (.aload_n 0, 1) ∧ 26 + 1 = 27 := ⟨wri_11.2.2.2.2.2.2.2.2.2.2.2.1, rfl⟩
theorem d_Le_init_27 : decode Y_Le_init.2.1 27 = .ok (.bipush 60, 2) ∧ 27 + 2 = 29 := ⟨wri_11.2.2.2.2.2.2.2.2.2.2.2.2.1, rfl⟩
theorem d_Le_init_31 : decode Y_Le_init.2.1 31 = .ok (.putfield 23, 3) ∧ 31 + 3 = 34 := ⟨wri_11.2.2.2.2.2.2.2.2.2.2.2.2.2.1, rfl⟩
theorem d_Le_init_34 : decode Y_Le_init.2.1 34 = .ok (.aload_n 0, 1) ∧ 34 + 1 = 35 := ⟨wri_11.2.2.2.2.2.2.2.2.2.2.2.2.2.2.1, rfl⟩
theorem d_Le_init_35 : decode Y_Le_init.2.1 35 = .ok (.sipush 144, 3) ∧ 35 + 3 = 38 := ⟨wri_11.2.2.2.2.2.2.2.2.2.2.2.2.2.2.2.1, rfl⟩
theorem d_Le_init_40 : decode Y_Le_init.2.1 40 = .ok (.putfield 26, 3) ∧ 40 + 3 = 43 := ⟨wri_11.2.2.2.2.2.2.2.2.2.2.2.2.2.2.2.2.1, rfl⟩
theorem d_Le_init_43 : decode Y_Le_init.2.1 43 = .ok (.aload_n 0, 1) ∧ 43 + 1 = 44 := ⟨wri_11.2.2.2.2.2.2.2.2.2.2.2.2.2.2.2.2.2.1, rfl⟩
theorem d_Le_init_44 : decode Y_Le_init.2.1 44 = .ok (.sipush 144, 3) ∧ 44 + 3 = 47 := ⟨wri_11.2.2.2.2.2.2.2.2.2.2.2.2.2.2.2.2.2.2.1, rfl⟩
theorem d_Le_init_49 : decode Y_Le_init.2.1 49 = .ok (.putfield 29, 3) ∧ 49 + 3 = 52 := ⟨wri_11.2.2.2.2.2.2.2.2.2.2.2.2.2.2.2.2.2.2.2.1, rfl⟩
theorem d_Le_init_52 : decode Y_Le_init.2.1 52 = .ok (.aload_n 0, 1) ∧ 52 + 1 = 53 := ⟨wri_11.2.2.2.2.2.2.2.2.2.2.2.2.2.2.2.2.2.2.2.2.1, rfl⟩
theorem d_Le_init_53 : decode Y_Le_init.2.1 53 = .ok (.sipush 1728, 3) ∧ 53 + 3 = 56 := ⟨wri_11.2.2.2.2.2.2.2.2.2.2.2.2.2.2.2.2.2.2.2.2.2.1, rfl⟩
theorem d_Le_init_58 : decode Y_Le_init.2.1 58 = .ok (.putfield 32, 3) ∧ 58 + 3 = 61 := ⟨wri_11.2.2.2.2.2.2.2.2.2.2.2.2.2.2.2.2.2.2.2.2.2.2.1, rfl⟩
theorem d_Le_init_13 : decode Y_Le_init.2.1 13 = .ok (.newarray .int, 2) ∧ 13 + 2 = 15 := by decide +kernel
theorem d_Le_init_21 : decode Y_Le_init.2.1 21 = .ok (.newarray .boolean, 2) ∧ 21 + 2 = 23 := by decide +kernel
theorem d_Le_init_29 : decode Y_Le_init.2.1 29 = .ok (.newarray .int, 2) ∧ 29 + 2 = 31 := by decide +kernel
theorem d_Le_init_38 : decode Y_Le_init.2.1 38 = .ok (.newarray .int, 2) ∧ 38 + 2 = 40 := by decide +kernel
theorem d_Le_init_47 : decode Y_Le_init.2.1 47 = .ok (.newarray .int, 2) ∧ 47 + 2 = 49 := by decide +kernel
theorem d_Le_init_56 : decode Y_Le_init.2.1 56 = .ok (.newarray .int, 2) ∧ 56 + 2 = 58 := by decide +kernel
theorem d_Le_init_61 : decode Y_Le_init.2.1 61 = .ok (.return_, 1) := by decide +kernel
theorem wri_12 : wAll Y_Fl_init.2.1 0 [(0, (.aload_n 0, 1)), (1, (.invokespecial 5, 3)), (4, (.aload_n 0, 1)), (5, (.bipush 14, 2)), (9, (.putfield 11, 3)), (12, (.iconst 0, 1)), (13, (.istore_n 1, 1)), (14, (.iload_n 1, 1)), (15, (.bipush 14, 2)), (17, (.if_icmp .ge 18, 3)), (20, (.aload_n 0, 1)), (21, (.getfield 11, 3)), (24, (.iload_n 1, 1)), (25, (.sipush 255, 3)), (28, (.iastore, 1)), (29, (.iinc 1 1, 3)), (32, (.goto (-18), 3)), (35, (.aload_n 0, 1)), (36, (.bipush 60, 2)), (40, (.putfield 15, 3)), (43, (.aload_n 0, 1)), (44, (.bipush 60, 2)), (48, (.putfield 18, 3)), (51, (.aload_n 0, 1)), (52, (.bipush 60, 2)), (56, (.putfield 21, 3)), (59, (.aload_n 0, 1)), (60, (.bipush 60, 2))] := wAll_enc (by decide +kernel)
theorem d_Fl_init_0 : decode Y_Fl_init.2.1 0 = .ok (.aload_n 0, 1) ∧ 0 + 1 = 1 := ⟨wri_12.1, rfl⟩
theorem d_Fl_init_1 : decode Y_Fl_init.2.1 1 = .ok (.invokespecial 5, 3) ∧ 1 + 3 = 4 := ⟨wri_12.2.1, rfl⟩
theorem d_Fl_init_4 : decode Y_Fl_init.2.1 4 = .ok (.aload_n 0, 1) ∧ 4 + 1 = 5 := ⟨wri_12.2.2.1, rfl⟩
theorem d_Fl_init_5 : decode Y_Fl_init.2.1 5 = .ok (.bipush 14, 2) ∧ 5 + 2 = 7 := ⟨wri_12.2.2.2.1, rfl⟩
theorem d_Fl_init_9 : decode Y_Fl_init.2.1 9 = .ok (.putfield 11, 3) ∧ 9 + 3 = 12 := ⟨wri_12.2.2.2.2.1, rfl⟩
theorem d_Fl_init_12 : decode Y_Fl_init.2.1 12 = .ok (.iconst 0, 1) ∧ 12 + 1 = 13 := ⟨wri_12.2.2.2.2.2.1, rfl⟩
theorem d_Fl_init_13 : decode Y_Fl_init.2.1 13 = .ok (.istore_n 1, 1) ∧ 13 + 1 = 14 := ⟨wri_12.2.2.2.2.2.2.1, rfl⟩
theorem d_Fl_init_14 : decode Y_Fl_init.2.1 14 = .ok (.iload_n 1, 1) ∧ 14 + 1 = 15 := ⟨wri_12.2.2.2.2.2.2.2.1, rfl⟩
theorem d_Fl_init_15 : decode Y_Fl_init.2.1 15 = .ok (.bipush 14, 2) ∧ 15 + 2 = 17 := ⟨wri_12.2.2.2.2.2.2.2.2.1, rfl⟩
theorem d_Fl_init_17 : decode Y_Fl_init.2.1 17 = .ok (.if_icmp .ge 18, 3) ∧ ((17 : Nat) : Int) + 18 = ((35 : Nat) : Int) ∧ 17 + 3 = 20 := ⟨wri_12.2.2.2.2.2.2.2.2.2.1, by decide⟩
theorem d_Fl_init_20 : decode Y_Fl_init.2.1 20 = .ok (.aload_n 0, 1) ∧ 20 + 1 = 21 := ⟨wri_12.2.2.2.2.2.2.2.2.2.2.1, rfl⟩
theorem d_Fl_init_21 : decode Y_Fl_init.2.1 21 = .ok (.getfield 11, 3) ∧ 21 + 3 = 24 := ⟨wri_12.2.2.2.2.2.2.2.2.2.2.2.1, rfl⟩
theorem d_Fl_init_24 : decode Y_Fl_init.2.1 24 = .ok (.iload_n 1, 1) ∧ 24 + 1 = 25 := ⟨wri_12.2.2.2.2.2.2.2.2.2.2.2.2.1, rfl⟩
theorem d_Fl_init_25 : decode Y_Fl_init.2.1 25 = .ok (.sipush 255, 3) ∧ 25 + 3 = 28 := ⟨wri_12.2.2.2.2.2.2.2.2.2.2.2.2.2.1, rfl⟩
theorem d_Fl_init_28 : decode Y_Fl_init.2.1 28 = .ok (.iastore, 1) ∧ 28 + 1 = 29 := ⟨wri_12.2.2.2.2.2.2.2.2.2.2.2.2.2.2.1, rfl⟩
theorem d_Fl_init_29 : decode Y_Fl_init.2.1 29 = .ok (.iinc 1 1, 3) ∧ 29 + 3 = 32 := ⟨wri_12.2.2.2.2.2.2.2.2.2.2.2.2.2.2.2.1, rfl⟩
theorem d_Fl_init_32 : decode Y_Fl_init.2.1 32 = .ok (.goto (-18), 3) ∧ ((32 : Nat) : Int) + (-18) = ((14 : Nat) : Int) ∧ 32 + 3 = 35 := ⟨wri_12.2.2.2.2.2.2.2.2.2.2.2.2.2.2.2.2.1, by decide⟩
theorem d_Fl_init_35 : decode Y_Fl_init.2.1 35 = .ok (.aload_n 0, 1) ∧ 35 + 1 = 36 := ⟨wri_12.2.2.2.2.2.2.2.2.2.2.2.2.2.2.2.2.2.1, rfl⟩
theorem d_Fl_init_36 : decode Y_Fl_init.2.1 36 = .ok (.bipush 60, 2) ∧ 36 + 2 = 38 := ⟨wri_12.2.2.2.2.2.2.2.2.2.2.2.2.2.2.2.2.2.2.1, rfl⟩
theorem d_Fl_init_40 : decode Y_Fl_init.2.1 40 = .ok (.putfield 15, 3) ∧ 40 + 3 = 43 := ⟨wri_12.2.2.2.2.2.2.2.2.2.2.2.2.2.2.2.2.2.2.2.1, rfl⟩
theorem d_Fl_init_43 : decode Y_Fl_init.2.1 43 = .ok (.aload_n 0, 1) ∧ 43 + 1 = 44 := ⟨wri_12.2.2.2.2.2.2.2.2.2.2.2.2.2.2.2.2.2.2.2.2.1, rfl⟩
theorem d_Fl_init_44 : decode Y_Fl_init.2.1 44 = .ok (.bipush 60, 2) ∧ 44 + 2 = 46 := ⟨wri_12.2.2.2.2.2.2.2.2.2.2.2.2.2.2.2.2.2.2.2.2.2.1, rfl⟩
theorem d_Fl_init_48 : decode Y_Fl_init.2.1 48 = .ok (.putfield 18, 3) ∧ 48 + 3 = 51 := ⟨wri_12.2.2.2.2.2.2.2.2.2.2.2.2.2.2.2.2.2.2.2.2.2.2.1, rfl⟩
theorem d_Fl_init_51 : decode Y_Fl_init.2.1 51 = .ok (.aload_n 0, 1) ∧ 51 + 1 = 52 := ⟨wri_12.2.2.2.2.2.2.2.2.2.2.2.2.2.2.2.2.2.2.2.2.2.2.2.1, rfl⟩
theorem d_Fl_init_52 : decode Y_Fl_init.2.1 52 = .ok (.bipush 60, 2) ∧ 52 + 2 = 54 := ⟨wri_12.2.2.2.2.2.2.2.2.2.2.2.2.2.2.2.2.2.2.2.2.2.2.2.2.1, rfl⟩
theorem d_Fl_init_56 : decode Y_Fl_init.2.1 56 = .ok (.putfield 21, 3) ∧ 56 + 3 = 59 := ⟨wri_12.2.2.2.2.2.2.2.2.2.2.2.2.2.2.2.2.2.2.2.2.2.2.2.2.2.1, rfl⟩
theorem d_Fl_init_59 : decode Y_Fl_init.2.1 59 = .ok (.aload_n 0, 1) ∧ 59 + 1 = 60 := ⟨wri_12.2.2.2.2.2.2.2.2.2.2.2.2.2.2.2.2.2.2.2.2.2.2.2.2.2.2.1, rfl⟩
theorem d_Fl_init_60 : decode Y_Fl_init.2.1 60 = .ok (.bipush 60, 2) ∧ 60 + 2 = 62 := ⟨wri_12.2.2.2.2.2.2.2.2.2.2.2.2.2.2.2.2.2.2.2.2.2.2.2.2.2.2.2.1, rfl⟩
theorem d_Fl_init_7 : decode Y_Fl_init.2.1 7 = .ok (.newarray .int, 2) ∧ 7 + 2 = 9 := by decide +kernel
theorem d_Fl_init_38 : decode Y_Fl_init.2.1 38 = .ok (.newarray .int, 2) ∧ 38 + 2 = 40 := by decide +kernel
theorem d_Fl_init_46 : decode Y_Fl_init.2.1 46 = .ok (.newarray .int, 2) ∧ 46 + 2 = 48 := by decide +kernel
theorem d_Fl_init_54 : decode Y_Fl_init.2.1 54 = .ok (.newarray .int, 2) ∧ 54 + 2 = 56 := by decide +kernel
theorem d_Fl_init_62 : decode Y_Fl_init.2.1 62 = .ok (.newarray .int, 2) ∧ 62 + 2 = 64 := by decide +kernel
theorem wri_13 : wAll Y_Fl_init.2.1 64 [(0, (.putfield 24, 3)), (3, (.aload_n 0, 1)), (4, (.bipush 10, 2)), (8, (.putfield 27, 3)), (11, (.aload_n 0, 1)), (12, (.bipush 10, 2)), (16, (.putfield 30, 3)), (19, (.aload_n 0, 1)), (20, (.sipush 800, 3)), (25, (.putfield 33, 3)), (28, (.aload_n 0, 1)), (29, (.iconst 4, 1)), (32, (.putfield 36, 3)), (35, (.aload_n 0, 1)), (36, (.bipush 60, 2)), (40, (.putfield 39, 3))] := wAll_enc (by decide +kernel)
theorem d_Fl_init_64 : decode Y_Fl_init.2.1 64 = .ok (.putfield 24, 3) ∧ 64 + 3 = 67 := ⟨wri_13.1, rfl⟩
theorem d_Fl_init_67 : decode Y_Fl_init.2.1 67 = .ok (.aload_n 0, 1) ∧ 67 + 1 = 68 := ⟨wri_13.2.1, rfl⟩
theorem d_Fl_init_68 : decode Y_Fl_init.2.1 68 = .ok (.bipush 10, 2) ∧ 68 + 2 = 70 := ⟨wri_13.2.2.1, rfl⟩
theorem d_Fl_init_72 : decode Y_Fl_init.2.1 72 = .ok (.putfield 27, 3) ∧ 72 + 3 = 75 := ⟨wri_13.2.2.2.1, rfl⟩
theorem d_Fl_init_75 : decode Y_Fl_init.2.1 75 = .ok (.aload_n 0, 1) ∧ 75 + 1 = 76 := ⟨wri_13.2.2.2.2.1, rfl⟩
theorem d_Fl_init_76 : decode Y_Fl_init.2.1 76 = .ok (.bipush 10, 2) ∧ 76 + 2 = 78 := ⟨wri_13.2.2.2.2.2.1, rfl⟩
theorem d_Fl_init_80 : decode Y_Fl_init.2.1 80 = .ok (.putfield 30, 3) ∧ 80 + 3 = 83 := ⟨wri_13.2.2.2.2.2.2.1, rfl⟩
theorem d_Fl_init_83 : decode Y_Fl_init.2.1 83 = .ok (.aload_n 0, 1) ∧ 83 + 1 = 84 := ⟨wri_13.2.2.2.2.2.2.2.1, rfl⟩
theorem d_Fl_init_84 : decode Y_Fl_init.2.1 84 = .ok (.sipush 800, 3) ∧ 84 + 3 = 87 := ⟨wri_13.2.2.2.2.2.2.2.2.1, rfl⟩
theorem d_Fl_init_89 : decode Y_Fl_init.2.1 89 = .ok (.putfield 33, 3) ∧ 89 + 3 = 92 := ⟨wri_13.2.2.2.2.2.2.2.2.2.1, rfl⟩
theorem d_Fl_init_92 : decode Y_Fl_init.2.1 92 = .ok (.aload_n 0, 1) ∧ 92 + 1 = 93 := ⟨wri_13.2.2.2.2.2.2.2.2.2.2.1, rfl⟩
theorem d_Fl_init_93 : decode Y_Fl_init.2.1 93 = .ok (.iconst 4, 1) ∧ 93 + 1 = 94 := ⟨wri_13.2.2.2.2.2.2.2.2.2.2.2.1, rfl⟩
theorem d_Fl_init_96 : decode Y_Fl_init.2.1 96 = .ok (.putfield 36, 3) ∧ 96 + 3 = 99 := ⟨wri_13.2.2.2.2.2.2.2.2.2.2.2.2.1, rfl⟩
theorem d_Fl_init_99 : decode Y_Fl_init.2.1 99 = .ok (.aload_n 0, 1) ∧ 99 + 1 = 100 := ⟨wri_13.2.2.2.2.2.2.2.2.2.2.2.2.2.1, rfl⟩
theorem d_Fl_init_100 : decode Y_Fl_init.2.1 100 = .ok (.bipush 60, 2) ∧ 100 + 2 = 102 := ⟨wri_13.2.2.2.2.2.2.2.2.2.2.2.2.2.2.1, rfl⟩
theorem d_Fl_init_104 : decode Y_Fl_init.2.1 104 = .ok (.putfield 39, 3) ∧ 104 + 3 = 107 := ⟨wri_13.2.2.2.2.2.2.2.2.2.2.2.2.2.2.2.1, rfl⟩
theorem d_Fl_init_70 : decode Y_Fl_init.2.1 70 = .ok (.newarray .int, 2) ∧ 70 + 2 = 72 := by decide +kernel
theorem d_Fl_init_78 : decode Y_Fl_init.2.1 78 = .ok (.newarray .int, 2) ∧ 78 + 2 = 80 := by decide +kernel
theorem d_Fl_init_87 : decode Y_Fl_init.2.1 87 = .ok (.newarray .int, 2) ∧ 87 + 2 = 89 := by decide +kernel
theorem d_Fl_init_94 : decode Y_Fl_init.2.1 94 = .ok (.newarray .int, 2) ∧ 94 + 2 = 96 := by decide +kernel
theorem d_Fl_init_102 : decode Y_Fl_init.2.1 102 = .ok (.newarray .int, 2) ∧ 102 + 2 = 104 := by decide +kernel
theorem d_Fl_init_107 : decode Y_Fl_init.2.1 107 = .ok (.return_, 1) := by decide +kernel
theorem wri_14 : wAll Y_Gu_init.2.1 0 [(0, (.aload_n 0, 1)), (1, (.invokespecial 5, 3)), (4, (.aload_n 0, 1)), (5, (.bipush 20, 2)), (9, (.putfield 13, 3)), (12, (.aload_n 0, 1)), (13, (.sipush 160, 3)), (18, (.putfield 17, 3)), (21, (.aload_n 0, 1)), (22, (.iconst 4, 1)), (25, (.putfield 21, 3)), (28, (.aload_n 0, 1)), (29, (.iconst 4, 1)), (32, (.putfield 24, 3)), (35, (.iconst 0, 1)), (36, (.istore_n 1, 1)), (37, (.iload_n 1, 1)), (38, (.iconst 4, 1)), (39, (.if_icmp .ge 18, 3)), (42, (.aload_n 0, 1)), (43, (.getfield 24, 3)), (46, (.iload_n 1, 1)), (47, (.iconst 1, 1)), (48, (.iload_n 1, 1)), (49, (.ishl, 1)), (50, (.iastore, 1)), (51, (.iinc 1 1, 3)), (54, (.goto (-17), 3)), (57, (.aload_n 0, 1)), (58, (.bipush 20, 2)), (60, (.bipush 20, 2))] := wAll_enc (by decide +kernel)
theorem d_Gu_init_0 : decode Y_Gu_init.2.1 0 = .ok (.aload_n 0, 1) ∧ 0 + 1 = 1 := ⟨wri_14.1, rfl⟩
theorem d_Gu_init_1 : decode Y_Gu_init.2.1 1 = .ok (.invokespecial 5, 3) ∧ 1 + 3 = 4 := ⟨wri_14.2.1, rfl⟩
theorem d_Gu_init_4 : decode Y_Gu_init.2.1 4 = .ok (.aload_n 0, 1) ∧ 4 + 1 = 5 := ⟨wri_14.2.2.1, rfl⟩
theorem d_Gu_init_5 : decode Y_Gu_init.2.1 5 = .ok (.bipush 20, 2) ∧ 5 + 2 = 7 := ⟨wri_14.2.2.2.1, rfl⟩
theorem d_Gu_init_9 : decode Y_Gu_init.2.1 9 = .ok (.putfield 13, 3) ∧ 9 + 3 = 12 := ⟨wri_14.2.2.2.2.1, rfl⟩
theorem d_Gu_init_12 : decode Y_Gu_init.2.1 12 = .ok (.aload_n 0, 1) ∧ 12 + 1 = 13 := ⟨wri_14.2.2.2.2.2.1, rfl⟩
theorem d_Gu_init_13 : decode Y_Gu_init.2.1 13 = .ok (.sipush 160, 3) ∧ 13 + 3 = 16 := ⟨wri_14.2.2.2.2.2.2.1, rfl⟩
theorem d_Gu_init_18 : decode Y_Gu_init.2.1 18 = .ok (.putfield 17, 3) ∧ 18 + 3 = 21 := ⟨wri_14.2.2.2.2.2.2.2.1, rfl⟩
theorem d_Gu_init_21 : decode Y_Gu_init.2.1 21 = .ok (.aload_n 0, 1) ∧ 21 + 1 = 22 := ⟨wri_14.2.2.2.2.2.2.2.2.1, rfl⟩
theorem d_Gu_init_22 : decode Y_Gu_init.2.1 22 = .ok (.iconst 4, 1) ∧ 22 + 1 = 23 := ⟨wri_14.2.2.2.2.2.2.2.2.2.1, rfl⟩
theorem d_Gu_init_25 : decode Y_Gu_init.2.1 25 = .ok (.putfield 21, 3) ∧ 25 + 3 = 28 := ⟨wri_14.2.2.2.2.2.2.2.2.2.2.1, rfl⟩
theorem d_Gu_init_28 : decode Y_Gu_init.2.1 28 = .ok (.aload_n 0, 1) ∧ 28 + 1 = 29 := ⟨wri_14.2.2.2.2.2.2.2.2.2.2.2.1, rfl⟩
theorem d_Gu_init_29 : decode Y_Gu_init.2.1 29 = .ok (.iconst 4, 1) ∧ 29 + 1 = 30 := ⟨wri_14.2.2.2.2.2.2.2.2.2.2.2.2.1, rfl⟩
theorem d_Gu_init_32 : decode Y_Gu_init.2.1 32 = .ok (.putfield 24, 3) ∧ 32 + 3 = 35 := ⟨wri_14.2.2.2.2.2.2.2.2.2.2.2.2.2.1, rfl⟩
theorem d_Gu_init_35 : decode Y_Gu_init.2.1 35 = .ok (.iconst 0, 1) ∧ 35 + 1 = 36 := ⟨wri_14.2.2.2.2.2.2.2.2.2.2.2.2.2.2.1, rfl⟩
theorem d_Gu_init_36 : decode Y_Gu_init.2.1 36 = .ok (.istore_n 1, 1) ∧ 36 + 1 = 37 := ⟨wri_14.2.2.2.2.2.2.2.2.2.2.2.2.2.2.2.1, rfl⟩
theorem d_Gu_init_37 : decode Y_Gu_init.2.1 37 = .ok (.iload_n 1, 1) ∧ 37 + 1 = 38 := ⟨wri_14.2.2.2.2.2.2.2.2.2.2.2.2.2.2.2.2.1, rfl⟩
theorem d_Gu_init_38 : decode Y_Gu_init.2.1 38 = .ok (.iconst 4, 1) ∧ 38 + 1 = 39 := ⟨wri_14.2.2.2.2.2.2.2.2.2.2.2.2.2.2.2.2.2.1, rfl⟩
theorem d_Gu_init_39 : decode Y_Gu_init.2.1 39 = .ok (.if_icmp .ge 18, 3) ∧ ((39 : Nat) : Int) + 18 = ((57 : Nat) : Int) ∧ 39 + 3 = 42 := ⟨wri_14.2.2.2.2.2.2.2.2.2.2.2.2.2.2.2.2.2.2.1, by decide⟩
theorem d_Gu_init_42 : decode Y_Gu_init.2.1 42 = .ok (.aload_n 0, 1) ∧ 42 + 1 = 43 := ⟨wri_14.2.2.2.2.2.2.2.2.2.2.2.2.2.2.2.2.2.2.2.1, rfl⟩
theorem d_Gu_init_43 : decode Y_Gu_init.2.1 43 = .ok (.getfield 24, 3) ∧ 43 + 3 = 46 := ⟨wri_14.2.2.2.2.2.2.2.2.2.2.2.2.2.2.2.2.2.2.2.2.1, rfl⟩
theorem d_Gu_init_46 : decode Y_Gu_init.2.1 46 = .ok (.iload_n 1, 1) ∧ 46 + 1 = 47 := ⟨wri_14.2.2.2.2.2.2.2.2.2.2.2.2.2.2.2.2.2.2.2.2.2.1, rfl⟩
theorem d_Gu_init_47 : decode Y_Gu_init.2.1 47 = .ok (.iconst 1, 1) ∧ 47 + 1 = 48 := ⟨wri_14.2.2.2.2.2.2.2.2.2.2.2.2.2.2.2.2.2.2.2.2.2.2.1, rfl⟩
theorem d_Gu_init_48 : decode Y_Gu_init.2.1 48 = .ok (.iload_n 1, 1) ∧ 48 + 1 = 49 := ⟨wri_14.2.2.2.2.2.2.2.2.2.2.2.2.2.2.2.2.2.2.2.2.2.2.2.1, rfl⟩
theorem d_Gu_init_49 : decode Y_Gu_init.2.1 49 = .ok (.ishl, 1) ∧ 49 + 1 = 50 := ⟨wri_14.2.2.2.2.2.2.2.2.2.2.2.2.2.2.2.2.2.2.2.2.2.2.2.2.1, rfl⟩
theorem d_Gu_init_50 : decode Y_Gu_init.2.1 50 = .ok (.iastore, 1) ∧ 50 + 1 = 51 := ⟨wri_14.2.2.2.2.2.2.2.2.2.2.2.2.2.2.2.2.2.2.2.2.2.2.2.2.2.1, rfl⟩
theorem d_Gu_init_51 : decode Y_Gu_init.2.1 51 = .ok (.iinc 1 1, 3) ∧ 51 + 3 = 54 := ⟨wri_14.2.2.2.2.2.2.2.2.2.2.2.2.2.2.2.2.2.2.2.2.2.2.2.2.2.2.1, rfl⟩
theorem d_Gu_init_54 : decode Y_Gu_init.2.1 54 = .ok (.goto (-17), 3) ∧ ((54 : Nat) : Int) + (-17) = ((37 : Nat) : Int) ∧ 54 + 3 = 57 := ⟨wri_14.2.2.2.2.2.2.2.2.2.2.2.2.2.2.2.2.2.2.2.2.2.2.2.2.2.2.2.1, by decide⟩
theorem d_Gu_init_57 : decode Y_Gu_init.2.1 57 = .ok (.aload_n 0, 1) ∧ 57 + 1 = 58 := ⟨wri_14.2.2.2.2.2.2.2.2.2.2.2.2.2.2.2.2.2.2.2.2.2.2.2.2.2.2.2.2.1, rfl⟩
theorem d_Gu_init_58 : decode Y_Gu_init.2.1 58 = .ok (.bipush 20, 2) ∧ 58 + 2 = 60 := ⟨wri_14.2.2.2.2.2.2.2.2.2.2.2.2.2.2.2.2.2.2.2.2.2.2.2.2.2.2.2.2.2.1, rfl⟩
theorem d_Gu_init_60 : decode Y_Gu_init.2.1 60 = .ok (.bipush 20, 2) ∧ 60 + 2 = 62 := ⟨wri_14.2.2.2.2.2.2.2.2.2.2.2.2.2.2.2.2.2.2.2.2.2.2.2.2.2.2.2.2.2.2.1, rfl⟩
theorem d_Gu_init_7 : decode Y_Gu_init.2.1 7 = .ok (.newarray .long, 2) ∧ 7 + 2 = 9 := by decide +kernel
theorem d_Gu_init_16 : decode Y_Gu_init.2.1 16 = .ok (.newarray .int, 2) ∧ 16 + 2 = 18 := by decide +kernel
theorem d_Gu_init_23 : decode Y_Gu_init.2.1 23 = .ok (.newarray .int, 2) ∧ 23 + 2 = 25 := by decide +kernel
theorem d_Gu_init_30 : decode Y_Gu_init.2.1 30 = .ok (.newarray .int, 2) ∧ 30 + 2 = 32 := by decide +kernel
theorem d_Gu_init_62 : decode Y_Gu_init.2.1 62 = .ok (.multianewarray 27 2, 4) ∧ 62 + 4 = 66 := by decide +kernel
theorem wri_15 : wAll Y_Gu_init.2.1 66 [(0, (.putfield 29, 3)), (3, (.aload_n 0, 1)), (4, (.bipush 20, 2)), (8, (.putfield 32, 3)), (11, (.aload_n 0, 1)), (12, (.bipush 20, 2)), (16, (.putfield 35, 3))] := wAll_enc (by decide +kernel)
theorem d_Gu_init_66 : decode Y_Gu_init.2.1 66 = .ok (.putfield 29, 3) ∧ 66 + 3 = 69 := ⟨wri_15.1, rfl⟩
theorem d_Gu_init_69 : decode Y_Gu_init.2.1 69 = .ok (.aload_n 0, 1) ∧ 69 + 1 = 70 := ⟨wri_15.2.1, rfl⟩
theorem d_Gu_init_70 : decode Y_Gu_init.2.1 70 = .ok (.bipush 20, 2) ∧ 70 + 2 = 72 := ⟨wri_15.2.2.1, rfl⟩
theorem d_Gu_init_74 : decode Y_Gu_init.2.1 74 = .ok (.putfield 32, 3) ∧ 74 + 3 = 77 := ⟨wri_15.2.2.2.1, rfl⟩
theorem d_Gu_init_77 : decode Y_Gu_init.2.1 77 = .ok (.aload_n 0, 1) ∧ 77 + 1 = 78 := ⟨wri_15.2.2.2.2.1, rfl⟩
theorem d_Gu_init_78 : decode Y_Gu_init.2.1 78 = .ok (.bipush 20, 2) ∧ 78 + 2 = 80 := ⟨wri_15.2.2.2.2.2.1, rfl⟩
theorem d_Gu_init_82 : decode Y_Gu_init.2.1 82 = .ok (.putfield 35, 3) ∧ 82 + 3 = 85 := ⟨wri_15.2.2.2.2.2.2.1, rfl⟩
theorem d_Gu_init_72 : decode Y_Gu_init.2.1 72 = .ok (.newarray .int, 2) ∧ 72 + 2 = 74 := by decide +kernel
theorem d_Gu_init_80 : decode Y_Gu_init.2.1 80 = .ok (.newarray .long, 2) ∧ 80 + 2 = 82 := by decide +kernel
theorem d_Gu_init_85 : decode Y_Gu_init.2.1 85 = .ok (.return_, 1) := by decide +kernel
theorem wri_16 : wAll Y_Ga_init.2.1 0 [(0, (.aload_n 0, 1)), (1, (.invokespecial 3, 3)), (4, (.aload_n 0, 1)), (5, (.bipush 6, 2)), (9, (.putfield 11, 3)), (12, (.aload_n 0, 1)), (13, (.bipush 12, 2)), (17, (.putfield 15, 3)), (20, (.aload_n 0, 1)), (21, (.bipush 12, 2)), (25, (.putfield 18, 3)), (28, (.aload_n 0, 1)), (29, (.sipush 144, 3)), (34, (.putfield 21, 3)), (37, (.aload_n 0, 1)), (38, (.sipush 144, 3)), (43, (.putfield 24, 3)), (46, (.aload_n 0, 1)), (47, (.sipush 144, 3)), (52, (.putfield 27, 3)), (55, (.aload_n 0, 1)), (56, (.bipush 20, 2)), (60, (.putfield 30, 3)), (63, (.aload_n 0, 1))] := wAll_enc (by decide +kernel)
theorem d_Ga_init_0 : decode Y_Ga_init.2.1 0 = .ok (.aload_n 0, 1) ∧ 0 + 1 = 1 := ⟨wri_16.1, rfl⟩
theorem d_Ga_init_1 : decode Y_Ga_init.2.1 1 = .ok (.invokespecial 3, 3) ∧ 1 + 3 = 4 := ⟨wri_16.2.1, rfl⟩
theorem d_Ga_init_4 : decode Y_Ga_init.2.1 4 = .ok (.aload_n 0, 1) ∧ 4 + 1 = 5 := ⟨wri_16.2.2.1, rfl⟩
theorem d_Ga_init_5 : decode Y_Ga_init.2.1 5 = .ok (.bipush 6, 2) ∧ 5 + 2 = 7 := ⟨wri_16.2.2.2.1, rfl⟩
theorem d_Ga_init_9 : decode Y_Ga_init.2.1 9 = .ok (.putfield 11, 3) ∧ 9 + 3 = 12 := ⟨wri_16.2.2.2.2.1, rfl⟩
theorem d_Ga_init_12 : decode Y_Ga_init.2.1 12 = .ok (.aload_n 0, 1) ∧ 12 + 1 = 13 := ⟨wri_16.2.2.2.2.2.1, rfl⟩
theorem d_Ga_init_13 : decode Y_Ga_init.2.1 13 = .ok (.bipush 12, 2) ∧ 13 + 2 = 15 := ⟨wri_16.2.2.2.2.2.2.1, rfl⟩
theorem d_Ga_init_17 : decode Y_Ga_init.2.1 17 = .ok (.putfield 15, 3) ∧ 17 + 3 = 20 := ⟨wri_16.2.2.2.2.2.2.2.1, rfl⟩
theorem d_Ga_init_20 : decode Y_Ga_init.2.1 20 = .ok (.aload_n 0, 1) ∧ 20 + 1 = 21 := ⟨wri_16.2.2.2.2.2.2.2.2.1, rfl⟩
theorem d_Ga_init_21 : decode Y_Ga_init.2.1 21 = .ok (.bipush 12, 2) ∧ 21 + 2 = 23 := ⟨wri_16.2.2.2.2.2.2.2.2.2.1, rfl⟩
theorem d_Ga_init_25 : decode Y_Ga_init.2.1 25 = .ok (.putfield 18, 3) ∧ 25 + 3 = 28 := ⟨wri_16.2.2.2.2.2.2.2.2.2.2.1, rfl⟩
theorem d_Ga_init_28 : decode Y_Ga_init.2.1 28 = .ok (.aload_n 0, 1) ∧ 28 + 1 = 29 := ⟨wri_16.2.2.2.2.2.2.2.2.2.2.2.1, rfl⟩
theorem d_Ga_init_29 : decode Y_Ga_init.2.1 29 = .ok (.sipush 144, 3) ∧ 29 + 3 = 32 := ⟨wri_16.2.2.2.2.2.2.2.2.2.2.2.2.1, rfl⟩
theorem d_Ga_init_34 : decode Y_Ga_init.2.1 34 = .ok (.putfield 21, 3) ∧ 34 + 3 = 37 := ⟨wri_16.2.2.2.2.2.2.2.2.2.2.2.2.2.1, rfl⟩
theorem d_Ga_init_37 : decode Y_Ga_init.2.1 37 = .ok (.aload_n 0, 1) ∧ 37 + 1 = 38 := ⟨wri_16.2.2.2.2.2.2.2.2.2.2.2.2.2.2.1, rfl⟩
theorem d_Ga_init_38 : decode Y_Ga_init.2.1 38 = .ok (.sipush 144, 3) ∧ 38 + 3 = 41 := ⟨wri_16.2.2.2.2.2.2.2.2.2.2.2.2.2.2.2.1, rfl⟩
theorem d_Ga_init_43 : decode Y_Ga_init.2.1 43 = .ok (.putfield 24, 3) ∧ 43 + 3 = 46 := ⟨wri_16.2.2.2.2.2.2.2.2.2.2.2.2.2.2.2.2.1, rfl⟩
theorem d_Ga_init_46 : decode Y_Ga_init.2.1 46 = .ok (.aload_n 0, 1) ∧ 46 + 1 = 47 := ⟨wri_16.2.2.2.2.2.2.2.2.2.2.2.2.2.2.2.2.2.1, rfl⟩
theorem d_Ga_init_47 : decode Y_Ga_init.2.1 47 = .ok (.sipush 144, 3) ∧ 47 + 3 = 50 := ⟨wri_16.2.2.2.2.2.2.2.2.2.2.2.2.2.2.2.2.2.2.1, rfl⟩
theorem d_Ga_init_52 : decode Y_Ga_init.2.1 52 = .ok (.putfield 27, 3) ∧ 52 + 3 = 55 := ⟨wri_16.2.2.2.2.2.2.2.2.2.2.2.2.2.2.2.2.2.2.2.1, rfl⟩
theorem d_Ga_init_55 : decode Y_Ga_init.2.1 55 = .ok (.aload_n 0, 1) ∧ 55 + 1 = 56 := ⟨wri_16.2.2.2.2.2.2.2.2.2.2.2.2.2.2.2.2.2.2.2.2.1, rfl⟩
theorem d_Ga_init_56 : decode Y_Ga_init.2.1 56 = .ok (.bipush 20, 2) ∧ 56 + 2 = 58 := ⟨wri_16.2.2.2.2.2.2.2.2.2.2.2.2.2.2.2.2.2.2.2.2.2.1, rfl⟩
theorem d_Ga_init_60 : decode Y_Ga_init.2.1 60 = .ok (.putfield 30, 3) ∧ 60 + 3 = 63 := ⟨wri_16.2.2.2.2.2.2.2.2.2.2.2.2.2.2.2.2.2.2.2.2.2.2.1, rfl⟩
theorem d_Ga_init_63 : decode Y_Ga_init.2.1 63 = .ok (.aload_n 0, 1) ∧ 63 + 1 = 64 := ⟨wri_16.2.2.2.2.2.2.2.2.2.2.2.2.2.2.2.2.2.2.2.2.2.2.2.1, rfl⟩
theorem d_Ga_init_7 : decode Y_Ga_init.2.1 7 = .ok (.newarray .int, 2) ∧ 7 + 2 = 9 := by decide +kernel
theorem d_Ga_init_15 : decode Y_Ga_init.2.1 15 = .ok (.newarray .int, 2) ∧ 15 + 2 = 17 := by decide +kernel
theorem d_Ga_init_23 : decode Y_Ga_init.2.1 23 = .ok (.newarray .int, 2) ∧ 23 + 2 = 25 := by decide +kernel
theorem d_Ga_init_32 : decode Y_Ga_init.2.1 32 = .ok (.newarray .int, 2) ∧ 32 + 2 = 34 := by decide +kernel
theorem d_Ga_init_41 : decode Y_Ga_init.2.1 41 = .ok (.newarray .int, 2) ∧ 41 + 2 = 43 := by decide +kernel
theorem d_Ga_init_50 : decode Y_Ga_init.2.1 50 = .ok (.newarray .int, 2) ∧ 50 + 2 = 52 := by decide +kernel
theorem d_Ga_init_58 : decode Y_Ga_init.2.1 58 = .ok (.newarray .int, 2) ∧ 58 + 2 = 60 := by decide +kernel
theorem wri_17 : wAll Y_Ga_init.2.1 64 [(0, (.bipush 20, 2)), (4, (.putfield 33, 3)), (7, (.aload_n 0, 1)), (8, (.bipush 20, 2)), (12, (.putfield 36, 3)), (15, (.aload_n 0, 1)), (16, (.bipush 20, 2)), (20, (.putfield 39, 3)), (23, (.aload_n 0, 1)), (24, (.bipush 8, 2)), (28, (.putfield 42, 3)), (31, (.aload_n 0, 1)), (32, (.getfield 42, 3)), (35, (.iconst 4, 1)), (36, (.bipush (-4), 2)), (38, (.iastore, 1)), (39, (.aload_n 0, 1)), (40, (.getfield 42, 3)), (43, (.iconst 5, 1)), (44, (.bipush (-4), 2)), (46, (.iastore, 1))] := wAll_enc (by decide +kernel)
theorem d_Ga_init_64 : decode Y_Ga_init.2.1 64 = .ok (.bipush 20, 2) ∧ 64 + 2 = 66 := ⟨wri_17.1, rfl⟩
theorem d_Ga_init_68 : decode Y_Ga_init.2.1 68 = .ok (.putfield 33, 3) ∧ 68 + 3 = 71 := ⟨wri_17.2.1, rfl⟩
theorem d_Ga_init_71 : decode Y_Ga_init.2.1 71 = .ok (.aload_n 0, 1) ∧ 71 + 1 = 72 := ⟨wri_17.2.2.1, rfl⟩
theorem d_Ga_init_72 : decode Y_Ga_init.2.1 72 = .ok (.bipush 20, 2) ∧ 72 + 2 = 74 := ⟨wri_17.2.2.2.1, rfl⟩
theorem d_Ga_init_76 : decode Y_Ga_init.2.1 76 = .ok (.putfield 36, 3) ∧ 76 + 3 = 79 := ⟨wri_17.2.2.2.2.1, rfl⟩
theorem d_Ga_init_79 : decode Y_Ga_init.2.1 79 = .ok (.aload_n 0, 1) ∧ 79 + 1 = 80 := ⟨wri_17.2.2.2.2.2.1, rfl⟩
theorem d_Ga_init_80 : decode Y_Ga_init.2.1 80 = .ok (.bipush 20, 2) ∧ 80 + 2 = 82 := ⟨wri_17.2.2.2.2.2.2.1, rfl⟩
theorem d_Ga_init_84 : decode Y_Ga_init.2.1 84 = .ok (.putfield 39, 3) ∧ 84 + 3 = 87 := ⟨wri_17.2.2.2.2.2.2.2.1, rfl⟩
theorem d_Ga_init_87 : decode Y_Ga_init.2.1 87 = .ok (.aload_n 0, 1) ∧ 87 + 1 = 88 := ⟨wri_17.2.2.2.2.2.2.2.2.1, rfl⟩
theorem d_Ga_init_88 : decode Y_Ga_init.2.1 88 = .ok (.bipush 8, 2) ∧ 88 + 2 = 90 := ⟨wri_17.2.2.2.2.2.2.2.2.2.1, rfl⟩
theorem d_Ga_init_92 : decode Y_Ga_init.2.1 92 = .ok (.putfield 42, 3) ∧ 92 + 3 = 95 := ⟨wri_17.2.2.2.2.2.2.2.2.2.2.1, rfl⟩
theorem d_Ga_init_95 : decode Y_Ga_init.2.1 95 = .ok (.aload_n 0, 1) ∧ 95 + 1 = 96 := ⟨wri_17.2.2.2.2.2.2.2.2.2.2.2.1, rfl⟩
theorem d_Ga_init_96 : decode Y_Ga_init.2.1 96 = .ok (.getfield 42, 3) ∧ 96 + 3 = 99 := ⟨wri_17.2.2.2.2.2.2.2.2.2.2.2.2.1, rfl⟩
theorem d_Ga_init_99 : decode Y_Ga_init.2.1 99 = .ok (.iconst 4, 1) ∧ 99 + 1 = 100 := ⟨wri_17.2.2.2.2.2.2.2.2.2.2.2.2.2.1, rfl⟩
theorem d_Ga_init_100 : decode Y_Ga_init.2.1 100 = .ok (.bipush (-4), 2) ∧ 100 + 2 = 102 := ⟨wri_17.2.2.2.2.2.2.2.2.2.2.2.2.2.2.1, rfl⟩
theorem d_Ga_init_102 : decode Y_Ga_init.2.1 102 = .ok (.iastore, 1) ∧ 102 + 1 = 103 := ⟨wri_17.2.2.2.2.2.2.2.2.2.2.2.2.2.2.2.1, rfl⟩
theorem d_Ga_init_103 : decode Y_Ga_init.2.1 103 = .ok (.aload_n 0, 1) ∧ 103 + 1 = 104 := ⟨wri_17.2.2.2.2.2.2.2.2.2.2.2.2.2.2.2.2.1, rfl⟩
theorem d_Ga_init_104 : decode Y_Ga_init.2.1 104 = .ok (.getfield 42, 3) ∧ 104 + 3 = 107 := ⟨wri_17.2.2.2.2.2.2.2.2.2.2.2.2.2.2.2.2.2.1, rfl⟩
theorem d_Ga_init_107 : decode Y_Ga_init.2.1 107 = .ok (.iconst 5, 1) ∧ 107 + 1 = 108 := ⟨wri_17.2.2.2.2.2.2.2.2.2.2.2.2.2.2.2.2.2.2.1, rfl⟩
theorem d_Ga_init_108 : decode Y_Ga_init.2.1 108 = .ok (.bipush (-4), 2) ∧ 108 + 2 = 110 := ⟨wri_17.2.2.2.2.2.2.2.2.2.2.2.2.2.2.2.2.2.2.2.1, rfl⟩
theorem d_Ga_init_110 : decode Y_Ga_init.2.1 110 = .ok (.iastore, 1) ∧ 110 + 1 = 111 := ⟨wri_17.2.2.2.2.2.2.2.2.2.2.2.2.2.2.2.2.2.2.2.2.1, rfl⟩
theorem d_Ga_init_66 : decode Y_Ga_init.2.1 66 = .ok (.newarray .int, 2) ∧ 66 + 2 = 68 := by decide +kernel
theorem d_Ga_init_74 : decode Y_Ga_init.2.1 74 = .ok (.newarray .int, 2) ∧ 74 + 2 = 76 := by decide +kernel
theorem d_Ga_init_82 : decode Y_Ga_init.2.1 82 = .ok (.newarray .int, 2) ∧ 82 + 2 = 84 := by decide +kernel
theorem d_Ga_init_90 : decode Y_Ga_init.2.1 90 = .ok (.newarray .int, 2) ∧ 90 + 2 = 92 := by decide +kernel
theorem d_Ga_init_111 : decode Y_Ga_init.2.1 111 = .ok (.return_, 1) := by decide +kernel
theorem wri_18 : wAll Y_H_init.2.1 0 [(0, (.aload_n 0, 1)), (1, (.invokespecial 1, 3)), (4, (.aload_n 0, 1)), (5, (.sipush 1200, 3)), (10, (.putfield 9, 3)), (13, (.aload_n 0, 1)), (14, (.bipush 40, 2)), (18, (.putfield 13, 3)), (21, (.aload_n 0, 1)), (22, (.bipush 40, 2)), (26, (.putfield 16, 3)), (29, (.aload_n 0, 1)), (30, (.sipush 2100, 3)), (35, (.putfield 19, 3)), (38, (.aload_n 0, 1)), (39, (.new 22, 3)), (42, (.dup, 1)), (43, (.invokespecial 24, 3)), (46, (.putfield 25, 3)), (49, (.aload_n 0, 1)), (50, (.new 29, 3)), (53, (.dup, 1)), (54, (.invokespecial 31, 3)), (57, (.putfield 32, 3)), (60, (.aload_n 0, 1)), (61, (.new 36, 3))] := wAll_enc (by decide +kernel)
theorem d_H_init_0 : decode Y_H_init.2.1 0 = .ok (.aload_n 0, 1) ∧ 0 + 1 = 1 := ⟨wri_18.1, rfl⟩
theorem d_H_init_1 : decode Y_H_init.2.1 1 = .ok (.invokespecial 1, 3) ∧ 1 + 3 = 4 := ⟨wri_18.2.1, rfl⟩
theorem d_H_init_4 : decode Y_H_init.2.1 4 = .ok (.aload_n 0, 1) ∧ 4 + 1 = 5 := ⟨wri_18.2.2.1, rfl⟩
theorem d_H_init_5 : decode Y_H_init.2.1 5 = .ok (.sipush 1200, 3) ∧ 5 + 3 = 8 := ⟨wri_18.2.2.2.1, rfl⟩
theorem d_H_init_10 : decode Y_H_init.2.1 10 = .ok (.putfield 9, 3) ∧ 10 + 3 = 13 := ⟨wri_18.2.2.2.2.1, rfl⟩
theorem d_H_init_13 : decode Y_H_init.2.1 13 = .ok (.aload_n 0, 1) ∧ 13 + 1 = 14 := ⟨wri_18.2.2.2.2.2.1, rfl⟩
theorem d_H_init_14 : decode Y_H_init.2.1 14 = .ok (.bipush 40, 2) ∧ 14 + 2 = 16 := ⟨wri_18.2.2.2.2.2.2.1, rfl⟩
theorem d_H_init_18 : decode Y_H_init.2.1 18 = .ok (.putfield 13, 3) ∧ 18 + 3 = 21 := ⟨wri_18.2.2.2.2.2.2.2.1, rfl⟩
theorem d_H_init_21 : decode Y_H_init.2.1 21 = .ok (.aload_n 0, 1) ∧ 21 + 1 = 22 := ⟨wri_18.2.2.2.2.2.2.2.2.1, rfl⟩
theorem d_H_init_22 : decode Y_H_init.2.1 22 = .ok (.bipush 40, 2) ∧ 22 + 2 = 24 := ⟨wri_18.2.2.2.2.2.2.2.2.2.1, rfl⟩
theorem d_H_init_26 : decode Y_H_init.2.1 26 = .ok (.putfield 16, 3) ∧ 26 + 3 = 29 := ⟨wri_18.2.2.2.2.2.2.2.2.2.2.1, rfl⟩
theorem d_H_init_29 : decode Y_H_init.2.1 29 = .ok (.aload_n 0, 1) ∧ 29 + 1 = 30 := ⟨wri_18.2.2.2.2.2.2.2.2.2.2.2.1, rfl⟩
theorem d_H_init_30 : decode Y_H_init.2.1 30 = .ok (.sipush 2100, 3) ∧ 30 + 3 = 33 := ⟨wri_18.2.2.2.2.2.2.2.2.2.2.2.2.1, rfl⟩
theorem d_H_init_35 : decode Y_H_init.2.1 35 = .ok (.putfield 19, 3) ∧ 35 + 3 = 38 := ⟨wri_18.2.2.2.2.2.2.2.2.2.2.2.2.2.1, rfl⟩
theorem d_H_init_38 : decode Y_H_init.2.1 38 = .ok (.aload_n 0, 1) ∧ 38 + 1 = 39 := ⟨wri_18.2.2.2.2.2.2.2.2.2.2.2.2.2.2.1, rfl⟩
theorem d_H_init_39 : decode Y_H_init.2.1 39 = .ok (.new 22, 3) ∧ 39 + 3 = 42 := ⟨wri_18.2.2.2.2.2.2.2.2.2.2.2.2.2.2.2.1, rfl⟩
theorem d_H_init_42 : decode Y_H_init.2.1 42 = .ok (.dup, 1) ∧ 42 + 1 = 43 := ⟨wri_18.2.2.2.2.2.2.2.2.2.2.2.2.2.2.2.2.1, rfl⟩
theorem d_H_init_43 : decode Y_H_init.2.1 43 = .ok (.invokespecial 24, 3) ∧ 43 + 3 = 46 := ⟨wri_18.2.2.2.2.2.2.2.2.2.2.2.2.2.2.2.2.2.1, rfl⟩
theorem d_H_init_46 : decode Y_H_init.2.1 46 = .ok (.putfield 25, 3) ∧ 46 + 3 = 49 := ⟨wri_18.2.2.2.2.2.2.2.2.2.2.2.2.2.2.2.2.2.2.1, rfl⟩
theorem d_H_init_49 : decode Y_H_init.2.1 49 = .ok (.aload_n 0, 1) ∧ 49 + 1 = 50 := ⟨wri_18.2.2.2.2.2.2.2.2.2.2.2.2.2.2.2.2.2.2.2.1, rfl⟩
theorem d_H_init_50 : decode Y_H_init.2.1 50 = .ok (.new 29, 3) ∧ 50 + 3 = 53 := ⟨wri_18.2.2.2.2.2.2.2.2.2.2.2.2.2.2.2.2.2.2.2.2.1, rfl⟩
theorem d_H_init_53 : decode Y_H_init.2.1 53 = .ok (.dup, 1) ∧ 53 + 1 = 54 := ⟨wri_18.2.2.2.2.2.2.2.2.2.2.2.2.2.2.2.2.2.2.2.2.2.1, rfl⟩
theorem d_H_init_54 : decode Y_H_init.2.1 54 = .ok (.invokespecial 31, 3) ∧ 54 + 3 = 57 := ⟨wri_18.2.2.2.2.2.2.2.2.2.2.2.2.2.2.2.2.2.2.2.2.2.2.1, rfl⟩
theorem d_H_init_57 : decode Y_H_init.2.1 57 = .ok (.putfield 32, 3) ∧ 57 + 3 = 60 := ⟨wri_18.2.2.2.2.2.2.2.2.2.2.2.2.2.2.2.2.2.2.2.2.2.2.2.1, rfl⟩
theorem d_H_init_60 : decode Y_H_init.2.1 60 = .ok (.aload_n 0, 1) ∧ 60 + 1 = 61 := ⟨wri_18.2.2.2.2.2.2.2.2.2.2.2.2.2.2.2.2.2.2.2.2.2.2.2.2.1, rfl⟩
theorem d_H_init_61 : decode Y_H_init.2.1 61 = .ok (.new 36, 3) ∧ 61 + 3 = 64 := ⟨wri_18.2.2.2.2.2.2.2.2.2.2.2.2.2.2.2.2.2.2.2.2.2.2.2.2.2.1, rfl⟩
theorem d_H_init_8 : decode Y_H_init.2.1 8 = .ok (.newarray .int, 2) ∧ 8 + 2 = 10 := by decide +kernel
theorem d_H_init_16 : decode Y_H_init.2.1 16 = .ok (.newarray .int, 2) ∧ 16 + 2 = 18 := by decide +kernel
theorem d_H_init_24 : decode Y_H_init.2.1 24 = .ok (.newarray .int, 2) ∧ 24 + 2 = 26 := by decide +kernel
theorem d_H_init_33 : decode Y_H_init.2.1 33 = .ok (.newarray .int, 2) ∧ 33 + 2 = 35 := by decide +kernel
theorem wri_19 : wAll Y_H_init.2.1 64 [(0, (.dup, 1)), (1, (.aload_n 0, 1)), (2, (.getfield 25, 3)), (5, (.aload_n 0, 1)), (6, (.getfield 32, 3)), (9, (.invokespecial 38, 3)), (12, (.putfield 41, 3)), (15, (.aload_n 0, 1)), (16, (.new 45, 3)), (19, (.dup, 1)), (20, (.aload_n 0, 1)), (21, (.getfield 25, 3)), (24, (.aload_n 0, 1)), (25, (.getfield 32, 3)), (28, (.aload_n 0, 1)), (29, (.getfield 41, 3)), (32, (.invokespecial 47, 3)), (35, (.putfield 50, 3)), (38, (.aload_n 0, 1)), (39, (.new 54, 3)), (42, (.dup, 1)), (43, (.aload_n 0, 1)), (44, (.getfield 25, 3)), (47, (.invokespecial 56, 3)), (50, (.putfield 59, 3)), (53, (.aload_n 0, 1)), (54, (.new 63, 3)), (57, (.dup, 1)), (58, (.aload_n 0, 1)), (59, (.getfield 25, 3))] := wAll_enc (by decide +kernel)
theorem d_H_init_64 : decode Y_H_init.2.1 64 = .ok (.dup, 1) ∧ 64 + 1 = 65 := ⟨wri_19.1, rfl⟩
theorem d_H_init_65 : decode Y_H_init.2.1 65 = .ok (.aload_n 0, 1) ∧ 65 + 1 = 66 := ⟨wri_19.2.1, rfl⟩
theorem d_H_init_66 : decode Y_H_init.2.1 66 = .ok (.getfield 25, 3) ∧ 66 + 3 = 69 := ⟨wri_19.2.2.1, rfl⟩
theorem d_H_init_69 : decode Y_H_init.2.1 69 = .ok (.aload_n 0, 1) ∧ 69 + 1 = 70 := ⟨wri_19.2.2.2.1, rfl⟩
theorem d_H_init_70 : decode Y_H_init.2.1 70 = .ok (.getfield 32, 3) ∧ 70 + 3 = 73 := ⟨wri_19.2.2.2.2.1, rfl⟩
theorem d_H_init_73 : decode Y_H_init.2.1 73 = .ok (.invokespecial 38, 3) ∧ 73 + 3 = 76 := ⟨wri_19.2.2.2.2.2.1, rfl⟩
theorem d_H_init_76 : decode Y_H_init.2.1 76 = .ok (.putfield 41, 3) ∧ 76 + 3 = 79 := ⟨wri_19.2.2.2.2.2.2.1, rfl⟩
theorem d_H_init_79 : decode Y_H_init.2.1 79 = .ok (.aload_n 0, 1) ∧ 79 + 1 = 80 := ⟨wri_19.2.2.2.2.2.2.2.1, rfl⟩
theorem d_H_init_80 : decode Y_H_init.2.1 80 = .ok (.new 45, 3) ∧ 80 + 3 = 83 := ⟨wri_19.2.2.2.2.2.2.2.2.1, rfl⟩
theorem d_H_init_83 : decode Y_H_init.2.1 83 = .ok (.dup, 1) ∧ 83 + 1 = 84 := ⟨wri_19.2.2.2.2.2.2.2.2.2.1, rfl⟩
theorem d_H_init_84 : decode Y_H_init.2.1 84 = .ok (.aload_n 0, 1) ∧ 84 + 1 = 85 := ⟨wri_19.2.2.2.2.2.2.2.2.2.2.1, rfl⟩
theorem d_H_init_85 : decode Y_H_init.2.1 85 = .ok (.getfield 25, 3) ∧ 85 + 3 = 88 := ⟨wri_19.2.2.2.2.2.2.2.2.2.2.2.1, rfl⟩
theorem d_H_init_88 : decode Y_H_init.2.1 88 = .ok (.aload_n 0, 1) ∧ 88 + 1 = 89 := ⟨wri_19.2.2.2.2.2.2.2.2.2.2.2.2.1, rfl⟩
theorem d_H_init_89 : decode Y_H_init.2.1 89 = .ok (.getfield 32, 3) ∧ 89 + 3 = 92 := ⟨wri_19.2.2.2.2.2.2.2.2.2.2.2.2.2.1, rfl⟩
theorem d_H_init_92 : decode Y_H_init.2.1 92 = .ok (.aload_n 0, 1) ∧ 92 + 1 = 93 := ⟨wri_19.2.2.2.2.2.2.2.2.2.2.2.2.2.2.1, rfl⟩
theorem d_H_init_93 : decode Y_H_init.2.1 93 = .ok (.getfield 41, 3) ∧ 93 + 3 = 96 := ⟨wri_19.2.2.2.2.2.2.2.2.2.2.2.2.2.2.2.1, rfl⟩
theorem d_H_init_96 : decode Y_H_init.2.1 96 = .ok (.invokespecial 47, 3) ∧ 96 + 3 = 99 := ⟨wri_19.2.2.2.2.2.2.2.2.2.2.2.2.2.2.2.2.1, rfl⟩
theorem d_H_init_99 : decode Y_H_init.2.1 99 = .ok (.putfield 50, 3) ∧ 99 + 3 = 102 := ⟨wri_19.2.2.2.2.2.2.2.2.2.2.2.2.2.2.2.2.2.1, rfl⟩
theorem d_H_init_102 : decode Y_H_init.2.1 102 = .ok (.aload_n 0, 1) ∧ 102 + 1 = 103 := ⟨wri_19.2.2.2.2.2.2.2.2.2.2.2.2.2.2.2.2.2.2.1, rfl⟩
theorem d_H_init_103 : decode Y_H_init.2.1 103 = .ok (.new 54, 3) ∧ 103 + 3 = 106 := ⟨wri_19.2.2.2.2.2.2.2.2.2.2.2.2.2.2.2.2.2.2.2.1, rfl⟩
theorem d_H_init_106 : decode Y_H_init.2.1 106 = .ok (.dup, 1) ∧ 106 + 1 = 107 := ⟨wri_19.2.2.2.2.2.2.2.2.2.2.2.2.2.2.2.2.2.2.2.2.1, rfl⟩
theorem d_H_init_107 : decode Y_H_init.2.1 107 = .ok (.aload_n 0, 1) ∧ 107 + 1 = 108 := ⟨wri_19.2.2.2.2.2.2.2.2.2.2.2.2.2.2.2.2.2.2.2.2.2.1, rfl⟩
theorem d_H_init_108 : decode Y_H_init.2.1 108 = .ok (.getfield 25, 3) ∧ 108 + 3 = 111 := ⟨wri_19.2.2.2.2.2.2.2.2.2.2.2.2.2.2.2.2.2.2.2.2.2.2.1, rfl⟩
theorem d_H_init_111 : decode Y_H_init.2.1 111 = .ok (.invokespecial 56, 3) ∧ 111 + 3 = 114 := ⟨wri_19.2.2.2.2.2.2.2.2.2.2.2.2.2.2.2.2.2.2.2.2.2.2.2.1, rfl⟩
theorem d_H_init_114 : decode Y_H_init.2.1 114 = .ok (.putfield 59, 3) ∧ 114 + 3 = 117 := ⟨wri_19.2.2.2.2.2.2.2.2.2.2.2.2.2.2.2.2.2.2.2.2.2.2.2.2.1, rfl⟩
theorem d_H_init_117 : decode Y_H_init.2.1 117 = .ok (.aload_n 0, 1) ∧ 117 + 1 = 118 := ⟨wri_19.2.2.2.2.2.2.2.2.2.2.2.2.2.2.2.2.2.2.2.2.2.2.2.2.2.1, rfl⟩
theorem d_H_init_118 : decode Y_H_init.2.1 118 = .ok (.new 63, 3) ∧ 118 + 3 = 121 := ⟨wri_19.2.2.2.2.2.2.2.2.2.2.2.2.2.2.2.2.2.2.2.2.2.2.2.2.2.2.1, rfl⟩
theorem d_H_init_121 : decode Y_H_init.2.1 121 = .ok (.dup, 1) ∧ 121 + 1 = 122 := ⟨wri_19.2.2.2.2.2.2.2.2.2.2.2.2.2.2.2.2.2.2.2.2.2.2.2.2.2.2.2.1, rfl⟩
theorem d_H_init_122 : decode Y_H_init.2.1 122 = .ok (.aload_n 0, 1) ∧ 122 + 1 = 123 := ⟨wri_19.2.2.2.2.2.2.2.2.2.2.2.2.2.2.2.2.2.2.2.2.2.2.2.2.2.2.2.2.1, rfl⟩
theorem d_H_init_123 : decode Y_H_init.2.1 123 = .ok (.getfield 25, 3) ∧ 123 + 3 = 126 := ⟨wri_19.2.2.2.2.2.2.2.2.2.2.2.2.2.2.2.2.2.2.2.2.2.2.2.2.2.2.2.2.2.1, rfl⟩
theorem wri_20 : wAll Y_H_init.2.1 126 [(0, (.invokespecial 65, 3)), (3, (.putfield 66, 3)), (6, (.aload_n 0, 1)), (7, (.new 70, 3)), (10, (.dup, 1)), (11, (.aload_n 0, 1)), (12, (.getfield 32, 3)), (15, (.invokespecial 72, 3)), (18, (.putfield 75, 3)), (21, (.aload_n 0, 1)), (22, (.new 79, 3)), (25, (.dup, 1)), (26, (.invokespecial 81, 3)), (29, (.putfield 82, 3)), (32, (.aload_n 0, 1)), (33, (.new 86, 3)), (36, (.dup, 1)), (37, (.invokespecial 88, 3)), (40, (.putfield 89, 3)), (43, (.aload_n 0, 1)), (44, (.new 93, 3)), (47, (.dup, 1)), (48, (.invokespecial 95, 3)), (51, (.putfield 96, 3))] := wAll_enc (by decide +kernel)
theorem d_H_init_126 : decode Y_H_init.2.1 126 = .ok (.invokespecial 65, 3) ∧ 126 + 3 = 129 := ⟨wri_20.1, rfl⟩
theorem d_H_init_129 : decode Y_H_init.2.1 129 = .ok (.putfield 66, 3) ∧ 129 + 3 = 132 := ⟨wri_20.2.1, rfl⟩
theorem d_H_init_132 : decode Y_H_init.2.1 132 = .ok (.aload_n 0, 1) ∧ 132 + 1 = 133 := ⟨wri_20.2.2.1, rfl⟩
theorem d_H_init_133 : decode Y_H_init.2.1 133 = .ok (.new 70, 3) ∧ 133 + 3 = 136 := ⟨wri_20.2.2.2.1, rfl⟩
theorem d_H_init_136 : decode Y_H_init.2.1 136 = .ok (.dup, 1) ∧ 136 + 1 = 137 := ⟨wri_20.2.2.2.2.1, rfl⟩
theorem d_H_init_137 : decode Y_H_init.2.1 137 = .ok (.aload_n 0, 1) ∧ 137 + 1 = 138 := ⟨wri_20.2.2.2.2.2.1, rfl⟩
theorem d_H_init_138 : decode Y_H_init.2.1 138 = .ok (.getfield 32, 3) ∧ 138 + 3 = 141 := ⟨wri_20.2.2.2.2.2.2.1, rfl⟩
theorem d_H_init_141 : decode Y_H_init.2.1 141 = .ok (.invokespecial 72, 3) ∧ 141 + 3 = 144 := ⟨wri_20.2.2.2.2.2.2.2.1, rfl⟩
theorem d_H_init_144 : decode Y_H_init.2.1 144 = .ok (.putfield 75, 3) ∧ 144 + 3 = 147 := ⟨wri_20.2.2.2.2.2.2.2.2.1, rfl⟩
theorem d_H_init_147 : decode Y_H_init.2.1 147 = .ok (.aload_n 0, 1) ∧ 147 + 1 = 148 := ⟨wri_20.2.2.2.2.2.2.2.2.2.1, rfl⟩
theorem d_H_init_148 : decode Y_H_init.2.1 148 = .ok (.new 79, 3) ∧ 148 + 3 = 151 := ⟨wri_20.2.2.2.2.2.2.2.2.2.2.1, rfl⟩
theorem d_H_init_151 : decode Y_H_init.2.1 151 = .ok (.dup, 1) ∧ 151 + 1 = 152 := ⟨wri_20.2.2.2.2.2.2.2.2.2.2.2.1, rfl⟩
theorem d_H_init_152 : decode Y_H_init.2.1 152 = .ok (.invokespecial 81, 3) ∧ 152 + 3 = 155 := ⟨wri_20.2.2.2.2.2.2.2.2.2.2.2.2.1, rfl⟩
theorem d_H_init_155 : decode Y_H_init.2.1 155 = .ok (.putfield 82, 3) ∧ 155 + 3 = 158 := ⟨wri_20.2.2.2.2.2.2.2.2.2.2.2.2.2.1, rfl⟩
theorem d_H_init_158 : decode Y_H_init.2.1 158 = .ok (.aload_n 0, 1) ∧ 158 + 1 = 159 := ⟨wri_20.2.2.2.2.2.2.2.2.2.2.2.2.2.2.1, rfl⟩
theorem d_H_init_159 : decode Y_H_init.2.1 159 = .ok (.new 86, 3) ∧ 159 + 3 = 162 := ⟨wri_20.2.2.2.2.2.2.2.2.2.2.2.2.2.2.2.1, rfl⟩
theorem d_H_init_162 : decode Y_H_init.2.1 162 = .ok (.dup, 1) ∧ 162 + 1 = 163 := ⟨wri_20.2.2.2.2.2.2.2.2.2.2.2.2.2.2.2.2.1, rfl⟩
theorem d_H_init_163 : decode Y_H_init.2.1 163 = .ok (.invokespecial 88, 3) ∧ 163 + 3 = 166 := ⟨wri_20.2.2.2.2.2.2.2.2.2.2.2.2.2.2.2.2.2.1, rfl⟩
theorem d_H_init_166 : decode Y_H_init.2.1 166 = .ok (.putfield 89, 3) ∧ 166 + 3 = 169 := ⟨wri_20.2.2.2.2.2.2.2.2.2.2.2.2.2.2.2.2.2.2.1, rfl⟩
theorem d_H_init_169 : decode Y_H_init.2.1 169 = .ok (.aload_n 0, 1) ∧ 169 + 1 = 170 := ⟨wri_20.2.2.2.2.2.2.2.2.2.2.2.2.2.2.2.2.2.2.2.1, rfl⟩
theorem d_H_init_170 : decode Y_H_init.2.1 170 = .ok (.new 93, 3) ∧ 170 + 3 = 173 := ⟨wri_20.2.2.2.2.2.2.2.2.2.2.2.2.2.2.2.2.2.2.2.2.1, rfl⟩
theorem d_H_init_173 : decode Y_H_init.2.1 173 = .ok (.dup, 1) ∧ 173 + 1 = 174 := ⟨wri_20.2.2.2.2.2.2.2.2.2.2.2.2.2.2.2.2.2.2.2.2.2.1, rfl⟩
theorem d_H_init_174 : decode Y_H_init.2.1 174 = .ok (.invokespecial 95, 3) ∧ 174 + 3 = 177 := ⟨wri_20.2.2.2.2.2.2.2.2.2.2.2.2.2.2.2.2.2.2.2.2.2.2.1, rfl⟩
theorem d_H_init_177 : decode Y_H_init.2.1 177 = .ok (.putfield 96, 3) ∧ 177 + 3 = 180 := ⟨wri_20.2.2.2.2.2.2.2.2.2.2.2.2.2.2.2.2.2.2.2.2.2.2.2.1, rfl⟩
theorem d_H_init_180 : decode Y_H_init.2.1 180 = .ok (.return_, 1) := by decide +kernel
theorem wri_21 : wAll Y_M_init.2.1 0 [(0, (.aload_n 0, 1)), (1, (.invokespecial 1, 3)), (4, (.aload_n 0, 1)), (5, (.sipush 1200, 3)), (10, (.putfield 7, 3)), (13, (.aload_n 0, 1)), (14, (.sipush 1800, 3)), (19, (.putfield 13, 3)), (22, (.aload_n 0, 1)), (23, (.sipush 300, 3)), (28, (.putfield 16, 3)), (31, (.aload_n 0, 1)), (32, (.sipush 201, 3)), (37, (.putfield 19, 3)), (40, (.aload_n 0, 1)), (41, (.sipush 201, 3)), (46, (.putfield 22, 3)), (49, (.aload_n 0, 1)), (50, (.sipush 201, 3)), (55, (.putfield 25, 3)), (58, (.aload_n 0, 1)), (59, (.sipush 201, 3))] := wAll_enc (by decide +kernel)
theorem d_M_init_0 : decode Y_M_init.2.1 0 = .ok (.aload_n 0, 1) ∧ 0 + 1 = 1 := ⟨wri_21.1, rfl⟩
theorem d_M_init_1 : decode Y_M_init.2.1 1 = .ok (.invokespecial 1, 3) ∧ 1 + 3 = 4 := ⟨wri_21.2.1, rfl⟩
theorem d_M_init_4 : decode Y_M_init.2.1 4 = .ok (.aload_n 0, 1) ∧ 4 + 1 = 5 := ⟨wri_21.2.2.1, rfl⟩
theorem d_M_init_5 : decode Y_M_init.2.1 5 = .ok (.sipush 1200, 3) ∧ 5 + 3 = 8 := ⟨wri_21.2.2.2.1, rfl⟩
theorem d_M_init_10 : decode Y_M_init.2.1 10 = .ok (.putfield 7, 3) ∧ 10 + 3 = 13 := ⟨wri_21.2.2.2.2.1, rfl⟩
theorem d_M_init_13 : decode Y_M_init.2.1 13 = .ok (.aload_n 0, 1) ∧ 13 + 1 = 14 := ⟨wri_21.2.2.2.2.2.1, rfl⟩
theorem d_M_init_14 : decode Y_M_init.2.1 14 = .ok (.sipush 1800, 3) ∧ 14 + 3 = 17 := ⟨wri_21.2.2.2.2.2.2.1, rfl⟩
theorem d_M_init_19 : decode Y_M_init.2.1 19 = .ok (.putfield 13, 3) ∧ 19 + 3 = 22 := ⟨wri_21.2.2.2.2.2.2.2.1, rfl⟩
theorem d_M_init_22 : decode Y_M_init.2.1 22 = .ok (.aload_n 0, 1) ∧ 22 + 1 = 23 := ⟨wri_21.2.2.2.2.2.2.2.2.1, rfl⟩
theorem d_M_init_23 : decode Y_M_init.2.1 23 = .ok (.sipush 300, 3) ∧ 23 + 3 = 26 := ⟨wri_21.2.2.2.2.2.2.2.2.2.1, rfl⟩
theorem d_M_init_28 : decode Y_M_init.2.1 28 = .ok (.putfield 16, 3) ∧ 28 + 3 = 31 := ⟨wri_21.2.2.2.2.2.2.2.2.2.2.1, rfl⟩
theorem d_M_init_31 : decode Y_M_init.2.1 31 = .ok (.aload_n 0, 1) ∧ 31 + 1 = 32 := ⟨wri_21.2.2.2.2.2.2.2.2.2.2.2.1, rfl⟩
theorem d_M_init_32 : decode Y_M_init.2.1 32 = .ok (.sipush 201, 3) ∧ 32 + 3 = 35 := ⟨wri_21.2.2.2.2.2.2.2.2.2.2.2.2.1, rfl⟩
theorem d_M_init_37 : decode Y_M_init.2.1 37 = .ok (.putfield 19, 3) ∧ 37 + 3 = 40 := ⟨wri_21.2.2.2.2.2.2.2.2.2.2.2.2.2.1, rfl⟩
theorem d_M_init_40 : decode Y_M_init.2.1 40 = .ok (.aload_n 0, 1) ∧ 40 + 1 = 41 := ⟨wri_21.2.2.2.2.2.2.2.2.2.2.2.2.2.2.1, rfl⟩
theorem d_M_init_41 : decode Y_M_init.2.1 41 = .ok (.sipush 201, 3) ∧ 41 + 3 = 44 := ⟨wri_21.2.2.2.2.2.2.2.2.2.2.2.2.2.2.2.1, rfl⟩
theorem d_M_init_46 : decode Y_M_init.2.1 46 = .ok (.putfield 22, 3) ∧ 46 + 3 = 49 := ⟨wri_21.2.2.2.2.2.2.2.2.2.2.2.2.2.2.2.2.1, rfl⟩
theorem d_M_init_49 : decode Y_M_init.2.1 49 = .ok (.aload_n 0, 1) ∧ 49 + 1 = 50 := ⟨wri_21.2.2.2.2.2.2.2.2.2.2.2.2.2.2.2.2.2.1, rfl⟩
theorem d_M_init_50 : decode Y_M_init.2.1 50 = .ok (.sipush 201, 3) ∧ 50 + 3 = 53 := ⟨wri_21.2.2.2.2.2.2.2.2.2.2.2.2.2.2.2.2.2.2.1, rfl⟩
theorem d_M_init_55 : decode Y_M_init.2.1 55 = .ok (.putfield 25, 3) ∧ 55 + 3 = 58 := ⟨wri_21.2.2.2.2.2.2.2.2.2.2.2.2.2.2.2.2.2.2.2.1, rfl⟩
theorem d_M_init_58 : decode Y_M_init.2.1 58 = .ok (.aload_n 0, 1) ∧ 58 + 1 = 59 := ⟨wri_21.2.2.2.2.2.2.2.2.2.2.2.2.2.2.2.2.2.2.2.2.1, rfl⟩
theorem d_M_init_59 : decode Y_M_init.2.1 59 = .ok (.sipush 201, 3) ∧ 59 + 3 = 62 := ⟨wri_21.2.2.2.2.2.2.2.2.2.2.2.2.2.2.2.2.2.2.2.2.2.1, rfl⟩
theorem d_M_init_8 : decode Y_M_init.2.1 8 = .ok (.newarray .int, 2) ∧ 8 + 2 = 10 := by decide +kernel
theorem d_M_init_17 : decode Y_M_init.2.1 17 = .ok (.newarray .int, 2) ∧ 17 + 2 = 19 := by decide +kernel
theorem d_M_init_26 : decode Y_M_init.2.1 26 = .ok (.newarray .int, 2) ∧ 26 + 2 = 28 := by decide +kernel
theorem d_M_init_35 : decode Y_M_init.2.1 35 = .ok (.newarray .int, 2) ∧ 35 + 2 = 37 := by decide +kernel
theorem d_M_init_44 : decode Y_M_init.2.1 44 = .ok (.newarray .int, 2) ∧ 44 + 2 = 46 := by decide +kernel
theorem d_M_init_53 : decode Y_M_init.2.1 53 = .ok (.newarray .int, 2) ∧ 53 + 2 = 55 := by decide +kernel
theorem d_M_init_62 : decode Y_M_init.2.1 62 = .ok (.newarray .int, 2) ∧ 62 + 2 = 64 := by decide +kernel
theorem wri_22 : wAll Y_M_init.2.1 64 [(0, (.putfield 28, 3)), (3, (.aload_n 0, 1)), (4, (.sipush 201, 3)), (9, (.putfield 31, 3)), (12, (.aload_n 0, 1)), (13, (.sipush 201, 3)), (18, (.putfield 34, 3)), (21, (.aload_n 0, 1)), (22, (.bipush 16, 2)), (26, (.putfield 37, 3)), (29, (.aload_n 0, 1)), (30, (.sipush 480, 3)), (35, (.putfield 41, 3)), (38, (.aload_n 0, 1)), (39, (.sipush 480, 3)), (44, (.putfield 44, 3)), (47, (.aload_n 0, 1)), (48, (.sipush 9600, 3)), (53, (.putfield 47, 3)), (56, (.aload_n 0, 1)), (57, (.bipush 20, 2)), (61, (.putfield 51, 3))] := wAll_enc (by decide +kernel)
theorem d_M_init_64 : decode Y_M_init.2.1 64 = .ok (.putfield 28, 3) ∧ 64 + 3 = 67 := ⟨wri_22.1, rfl⟩
theorem d_M_init_67 : decode Y_M_init.2.1 67 = .ok (.aload_n 0, 1) ∧ 67 + 1 = 68 := ⟨wri_22.2.1, rfl⟩
theorem d_M_init_68 : decode Y_M_init.2.1 68 = .ok (.sipush 201, 3) ∧ 68 + 3 = 71 := ⟨wri_22.2.2.1, rfl⟩
theorem d_M_init_73 : decode Y_M_init.2.1 73 = .ok (.putfield 31, 3) ∧ 73 + 3 = 76 := ⟨wri_22.2.2.2.1, rfl⟩
theorem d_M_init_76 : decode Y_M_init.2.1 76 = .ok (.aload_n 0, 1) ∧ 76 + 1 = 77 := ⟨wri_22.2.2.2.2.1, rfl⟩
theorem d_M_init_77 : decode Y_M_init.2.1 77 = .ok (.sipush 201, 3) ∧ 77 + 3 = 80 := ⟨wri_22.2.2.2.2.2.1, rfl⟩
theorem d_M_init_82 : decode Y_M_init.2.1 82 = .ok (.putfield 34, 3) ∧ 82 + 3 = 85 := ⟨wri_22.2.2.2.2.2.2.1, rfl⟩
theorem d_M_init_85 : decode Y_M_init.2.1 85 = .ok (.aload_n 0, 1) ∧ 85 + 1 = 86 := ⟨wri_22.2.2.2.2.2.2.2.1, rfl⟩
theorem d_M_init_86 : decode Y_M_init.2.1 86 = .ok (.bipush 16, 2) ∧ 86 + 2 = 88 := ⟨wri_22.2.2.2.2.2.2.2.2.1, rfl⟩
theorem d_M_init_90 : decode Y_M_init.2.1 90 = .ok (.putfield 37, 3) ∧ 90 + 3 = 93 := ⟨wri_22.2.2.2.2.2.2.2.2.2.1, rfl⟩
theorem d_M_init_93 : decode Y_M_init.2.1 93 = .ok (.aload_n 0, 1) ∧ 93 + 1 = 94 := ⟨wri_22.2.2.2.2.2.2.2.2.2.2.1, rfl⟩
theorem d_M_init_94 : decode Y_M_init.2.1 94 = .ok (.sipush 480, 3) ∧ 94 + 3 = 97 := ⟨wri_22.2.2.2.2.2.2.2.2.2.2.2.1, rfl⟩
theorem d_M_init_99 : decode Y_M_init.2.1 99 = .ok (.putfield 41, 3) ∧ 99 + 3 = 102 := ⟨wri_22.2.2.2.2.2.2.2.2.2.2.2.2.1, rfl⟩
theorem d_M_init_102 : decode Y_M_init.2.1 102 = .ok (.aload_n 0, 1) ∧ 102 + 1 = 103 := ⟨wri_22.2.2.2.2.2.2.2.2.2.2.2.2.2.1, rfl⟩
theorem d_M_init_103 : decode Y_M_init.2.1 103 = .ok (.sipush 480, 3) ∧ 103 + 3 = 106 := ⟨wri_22.2.2.2.2.2.2.2.2.2.2.2.2.2.2.1, rfl⟩
theorem d_M_init_108 : decode Y_M_init.2.1 108 = .ok (.putfield 44, 3) ∧ 108 + 3 = 111 := ⟨wri_22.2.2.2.2.2.2.2.2.2.2.2.2.2.2.2.1, rfl⟩
theorem d_M_init_111 : decode Y_M_init.2.1 111 = .ok (.aload_n 0, 1) ∧ 111 + 1 = 112 := ⟨wri_22.2.2.2.2.2.2.2.2.2.2.2.2.2.2.2.2.1, rfl⟩
theorem d_M_init_112 : decode Y_M_init.2.1 112 = .ok (.sipush 9600, 3) ∧ 112 + 3 = 115 := ⟨wri_22.2.2.2.2.2.2.2.2.2.2.2.2.2.2.2.2.2.1, rfl⟩
theorem d_M_init_117 : decode Y_M_init.2.1 117 = .ok (.putfield 47, 3) ∧ 117 + 3 = 120 := ⟨wri_22.2.2.2.2.2.2.2.2.2.2.2.2.2.2.2.2.2.2.1, rfl⟩
theorem d_M_init_120 : decode Y_M_init.2.1 120 = .ok (.aload_n 0, 1) ∧ 120 + 1 = 121 := ⟨wri_22.2.2.2.2.2.2.2.2.2.2.2.2.2.2.2.2.2.2.2.1, rfl⟩
theorem d_M_init_121 : decode Y_M_init.2.1 121 = .ok (.bipush 20, 2) ∧ 121 + 2 = 123 := ⟨wri_22.2.2.2.2.2.2.2.2.2.2.2.2.2.2.2.2.2.2.2.2.1, rfl⟩
theorem d_M_init_125 : decode Y_M_init.2.1 125 = .ok (.putfield 51, 3) ∧ 125 + 3 = 128 := ⟨wri_22.2.2.2.2.2.2.2.2.2.2.2.2.2.2.2.2.2.2.2.2.2.1, rfl⟩
theorem d_M_init_71 : decode Y_M_init.2.1 71 = .ok (.newarray .int, 2) ∧ 71 + 2 = 73 := by decide +kernel
theorem d_M_init_80 : decode Y_M_init.2.1 80 = .ok (.newarray .int, 2) ∧ 80 + 2 = 82 := by decide +kernel
theorem d_M_init_88 : decode Y_M_init.2.1 88 = .ok (.newarray .boolean, 2) ∧ 88 + 2 = 90 := by decide +kernel
theorem d_M_init_97 : decode Y_M_init.2.1 97 = .ok (.newarray .int, 2) ∧ 97 + 2 = 99 := by decide +kernel
theorem d_M_init_106 : decode Y_M_init.2.1 106 = .ok (.newarray .int, 2) ∧ 106 + 2 = 108 := by decide +kernel
theorem d_M_init_115 : decode Y_M_init.2.1 115 = .ok (.newarray .long, 2) ∧ 115 + 2 = 117 := by decide +kernel
theorem d_M_init_123 : decode Y_M_init.2.1 123 = .ok (.newarray .long, 2) ∧ 123 + 2 = 125 := by decide +kernel
theorem wri_23 : wAll Y_M_init.2.1 128 [(0, (.aload_n 0, 1)), (1, (.iconst 1, 1)), (2, (.putfield 54, 3)), (5, (.aload_n 0, 1)), (6, (.bipush 40, 2)), (10, (.putfield 58, 3)), (13, (.aload_n 0, 1)), (14, (.bipush 40, 2)), (18, (.putfield 61, 3)), (21, (.aload_n 0, 1)), (22, (.bipush 40, 2)), (26, (.putfield 64, 3)), (29, (.aload_n 0, 1)), (30, (.bipush 40, 2)), (34, (.putfield 67, 3)), (37, (.aload_n 0, 1)), (38, (.bipush 36, 2)), (42, (.putfield 70, 3)), (45, (.aload_n 0, 1)), (46, (.bipush 8, 2)), (50, (.putfield 73, 3)), (53, (.aload_n 0, 1)), (54, (.bipush 8, 2)), (58, (.putfield 76, 3)), (61, (.aload_n 0, 1))] := wAll_enc (by decide +kernel)
theorem d_M_init_128 : decode Y_M_init.2.1 128 = .ok (.aload_n 0, 1) ∧ 128 + 1 = 129 := ⟨wri_23.1, rfl⟩
theorem d_M_init_129 : decode Y_M_init.2.1 129 = .ok (.iconst 1, 1) ∧ 129 + 1 = 130 := ⟨wri_23.2.1, rfl⟩
theorem d_M_init_130 : decode Y_M_init.2.1 130 = .ok (.putfield 54, 3) ∧ 130 + 3 = 133 := ⟨wri_23.2.2.1, rfl⟩
theorem d_M_init_133 : decode Y_M_init.2.1 133 = .ok (.aload_n 0, 1) ∧ 133 + 1 = 134 := ⟨wri_23.2.2.2.1, rfl⟩
theorem d_M_init_134 : decode Y_M_init.2.1 134 = .ok (.bipush 40, 2) ∧ 134 + 2 = 136 := ⟨wri_23.2.2.2.2.1, rfl⟩
theorem d_M_init_138 : decode Y_M_init.2.1 138 = .ok (.putfield 58, 3) ∧ 138 + 3 = 141 := ⟨wri_23.2.2.2.2.2.1, rfl⟩
theorem d_M_init_141 : decode Y_M_init.2.1 141 = .ok (.aload_n 0, 1) ∧ 141 + 1 = 142 := ⟨wri_23.2.2.2.2.2.2.1, rfl⟩
theorem d_M_init_142 : decode Y_M_init.2.1 142 = .ok (.bipush 40, 2) ∧ 142 + 2 = 144 := ⟨wri_23.2.2.2.2.2.2.2.1, rfl⟩
theorem d_M_init_146 : decode Y_M_init.2.1 146 = .ok (.putfield 61, 3) ∧ 146 + 3 = 149 := ⟨wri_23.2.2.2.2.2.2.2.2.1, rfl⟩
theorem d_M_init_149 : decode Y_M_init.2.1 149 = .ok (.aload_n 0, 1) ∧ 149 + 1 = 150 := ⟨wri_23.2.2.2.2.2.2.2.2.2.1, rfl⟩
theorem d_M_init_150 : decode Y_M_init.2.1 150 = .ok (.bipush 40, 2) ∧ 150 + 2 = 152 := ⟨wri_23.2.2.2.2.2.2.2.2.2.2.1, rfl⟩
theorem d_M_init_154 : decode Y_M_init.2.1 154 = .ok (.putfield 64, 3) ∧ 154 + 3 = 157 := ⟨wri_23.2.2.2.2.2.2.2.2.2.2.2.1, rfl⟩
theorem d_M_init_157 : decode Y_M_init.2.1 157 = .ok (.aload_n 0, 1) ∧ 157 + 1 = 158 := ⟨wri_23.2.2.2.2.2.2.2.2.2.2.2.2.1, rfl⟩
theorem d_M_init_158 : decode Y_M_init.2.1 158 = .ok (.bipush 40, 2) ∧ 158 + 2 = 160 := ⟨wri_23.2.2.2.2.2.2.2.2.2.2.2.2.2.1, rfl⟩
theorem d_M_init_162 : decode Y_M_init.2.1 162 = .ok (.putfield 67, 3) ∧ 162 + 3 = 165 := ⟨wri_23.2.2.2.2.2.2.2.2.2.2.2.2.2.2.1, rfl⟩
theorem d_M_init_165 : decode Y_M_init.2.1 165 = .ok (.aload_n 0, 1) ∧ 165 + 1 = 166 := ⟨wri_23.2.2.2.2.2.2.2.2.2.2.2.2.2.2.2.1, rfl⟩
theorem d_M_init_166 : decode Y_M_init.2.1 166 = .ok (.bipush 36, 2) ∧ 166 + 2 = 168 := ⟨wri_23.2.2.2.2.2.2.2.2.2.2.2.2.2.2.2.2.1, rfl⟩
theorem d_M_init_170 : decode Y_M_init.2.1 170 = .ok (.putfield 70, 3) ∧ 170 + 3 = 173 := ⟨wri_23.2.2.2.2.2.2.2.2.2.2.2.2.2.2.2.2.2.1, rfl⟩
theorem d_M_init_173 : decode Y_M_init.2.1 173 = .ok (.aload_n 0, 1) ∧ 173 + 1 = 174 := ⟨wri_23.2.2.2.2.2.2.2.2.2.2.2.2.2.2.2.2.2.2.1, rfl⟩
theorem d_M_init_174 : decode Y_M_init.2.1 174 = .ok (.bipush 8, 2) ∧ 174 + 2 = 176 := ⟨wri_23.2.2.2.2.2.2.2.2.2.2.2.2.2.2.2.2.2.2.2.1, rfl⟩
theorem d_M_init_178 : decode Y_M_init.2.1 178 = .ok (.putfield 73, 3) ∧ 178 + 3 = 181 := ⟨wri_23.2.2.2.2.2.2.2.2.2.2.2.2.2.2.2.2.2.2.2.2.1, rfl⟩
theorem d_M_init_181 : decode Y_M_init.2.1 181 = .ok (.aload_n 0, 1) ∧ 181 + 1 = 182 := ⟨wri_23.2.2.2.2.2.2.2.2.2.2.2.2.2.2.2.2.2.2.2.2.2.1, rfl⟩
theorem d_M_init_182 : decode Y_M_init.2.1 182 = .ok (.bipush 8, 2) ∧ 182 + 2 = 184 := ⟨wri_23.2.2.2.2.2.2.2.2.2.2.2.2.2.2.2.2.2.2.2.2.2.2.1, rfl⟩
theorem d_M_init_186 : decode Y_M_init.2.1 186 = .ok (.putfield 76, 3) ∧ 186 + 3 = 189 := ⟨wri_23.2.2.2.2.2.2.2.2.2.2.2.2.2.2.2.2.2.2.2.2.2.2.2.1, rfl⟩
theorem d_M_init_189 : decode Y_M_init.2.1 189 = .ok (.aload_n 0, 1) ∧ 189 + 1 = 190 := ⟨wri_23.2.2.2.2.2.2.2.2.2.2.2.2.2.2.2.2.2.2.2.2.2.2.2.2.1, rfl⟩
theorem d_M_init_136 : decode Y_M_init.2.1 136 = .ok (.newarray .int, 2) ∧ 136 + 2 = 138 := by decide +kernel
theorem d_M_init_144 : decode Y_M_init.2.1 144 = .ok (.newarray .int, 2) ∧ 144 + 2 = 146 := by decide +kernel
theorem d_M_init_152 : decode Y_M_init.2.1 152 = .ok (.newarray .boolean, 2) ∧ 152 + 2 = 154 := by decide +kernel
theorem d_M_init_160 : decode Y_M_init.2.1 160 = .ok (.newarray .boolean, 2) ∧ 160 + 2 = 162 := by decide +kernel
theorem d_M_init_168 : decode Y_M_init.2.1 168 = .ok (.newarray .boolean, 2) ∧ 168 + 2 = 170 := by decide +kernel
theorem d_M_init_176 : decode Y_M_init.2.1 176 = .ok (.newarray .int, 2) ∧ 176 + 2 = 178 := by decide +kernel
theorem d_M_init_184 : decode Y_M_init.2.1 184 = .ok (.newarray .int, 2) ∧ 184 + 2 = 186 := by decide +kernel
theorem wri_24 : wAll Y_M_init.2.1 190 [(0, (.sipush 240, 3)), (5, (.putfield 79, 3)), (8, (.aload_n 0, 1)), (9, (.sipush 240, 3)), (14, (.putfield 82, 3)), (17, (.aload_n 0, 1)), (18, (.sipush 240, 3)), (23, (.putfield 85, 3)), (26, (.aload_n 0, 1)), (27, (.sipush 240, 3)), (32, (.putfield 88, 3)), (35, (.aload_n 0, 1)), (36, (.sipush 240, 3)), (41, (.putfield 91, 3)), (44, (.aload_n 0, 1)), (45, (.sipush 240, 3)), (50, (.putfield 94, 3)), (53, (.aload_n 0, 1)), (54, (.sipush 240, 3)), (59, (.putfield 97, 3)), (62, (.aload_n 0, 1))] := wAll_enc (by decide +kernel)
theorem d_M_init_190 : decode Y_M_init.2.1 190 = .ok (.sipush 240, 3) ∧ 190 + 3 = 193 := ⟨wri_24.1, rfl⟩
theorem d_M_init_195 : decode Y_M_init.2.1 195 = .ok (.putfield 79, 3) ∧ 195 + 3 = 198 := ⟨wri_24.2.1, rfl⟩
theorem d_M_init_198 : decode Y_M_init.2.1 198 = .ok (.aload_n 0, 1) ∧ 198 + 1 = 199 := ⟨wri_24.2.2.1, rfl⟩
theorem d_M_init_199 : decode Y_M_init.2.1 199 = .ok (.sipush 240, 3) ∧ 199 + 3 = 202 := ⟨wri_24.2.2.2.1, rfl⟩
theorem d_M_init_204 : decode Y_M_init.2.1 204 = .ok (.putfield 82, 3) ∧ 204 + 3 = 207 := ⟨wri_24.2.2.2.2.1, rfl⟩
theorem d_M_init_207 : decode Y_M_init.2.1 207 = .ok (.aload_n 0, 1) ∧ 207 + 1 = 208 := ⟨wri_24.2.2.2.2.2.1, rfl⟩
theorem d_M_init_208 : decode Y_M_init.2.1 208 = .ok (.sipush 240, 3) ∧ 208 + 3 = 211 := ⟨wri_24.2.2.2.2.2.2.1, rfl⟩
theorem d_M_init_213 : decode Y_M_init.2.1 213 = .ok (.putfield 85, 3) ∧ 213 + 3 = 216 := ⟨wri_24.2.2.2.2.2.2.2.1, rfl⟩
theorem d_M_init_216 : decode Y_M_init.2.1 216 = .ok (.aload_n 0, 1) ∧ 216 + 1 = 217 := ⟨wri_24.2.2.2.2.2.2.2.2.1, rfl⟩
theorem d_M_init_217 : decode Y_M_init.2.1 217 = .ok (.sipush 240, 3) ∧ 217 + 3 = 220 := ⟨wri_24.2.2.2.2.2.2.2.2.2.1, rfl⟩
theorem d_M_init_222 : decode Y_M_init.2.1 222 = .ok (.putfield 88, 3) ∧ 222 + 3 = 225 := ⟨wri_24.2.2.2.2.2.2.2.2.2.2.1, rfl⟩
theorem d_M_init_225 : decode Y_M_init.2.1 225 = .ok (.aload_n 0, 1) ∧ 225 + 1 = 226 := ⟨wri_24.2.2.2.2.2.2.2.2.2.2.2.1, rfl⟩
theorem d_M_init_226 : decode Y_M_init.2.1 226 = .ok (.sipush 240, 3) ∧ 226 + 3 = 229 := ⟨wri_24.2.2.2.2.2.2.2.2.2.2.2.2.1, rfl⟩
theorem d_M_init_231 : decode Y_M_init.2.1 231 = .ok (.putfield 91, 3) ∧ 231 + 3 = 234 := ⟨wri_24.2.2.2.2.2.2.2.2.2.2.2.2.2.1, rfl⟩
theorem d_M_init_234 : decode Y_M_init.2.1 234 = .ok (.aload_n 0, 1) ∧ 234 + 1 = 235 := ⟨wri_24.2.2.2.2.2.2.2.2.2.2.2.2.2.2.1, rfl⟩
theorem d_M_init_235 : decode Y_M_init.2.1 235 = .ok (.sipush 240, 3) ∧ 235 + 3 = 238 := ⟨wri_24.2.2.2.2.2.2.2.2.2.2.2.2.2.2.2.1, rfl⟩
theorem d_M_init_240 : decode Y_M_init.2.1 240 = .ok (.putfield 94, 3) ∧ 240 + 3 = 243 := ⟨wri_24.2.2.2.2.2.2.2.2.2.2.2.2.2.2.2.2.1, rfl⟩
theorem d_M_init_243 : decode Y_M_init.2.1 243 = .ok (.aload_n 0, 1) ∧ 243 + 1 = 244 := ⟨wri_24.2.2.2.2.2.2.2.2.2.2.2.2.2.2.2.2.2.1, rfl⟩
theorem d_M_init_244 : decode Y_M_init.2.1 244 = .ok (.sipush 240, 3) ∧ 244 + 3 = 247 := ⟨wri_24.2.2.2.2.2.2.2.2.2.2.2.2.2.2.2.2.2.2.1, rfl⟩
theorem d_M_init_249 : decode Y_M_init.2.1 249 = .ok (.putfield 97, 3) ∧ 249 + 3 = 252 := ⟨wri_24.2.2.2.2.2.2.2.2.2.2.2.2.2.2.2.2.2.2.2.1, rfl⟩
theorem d_M_init_252 : decode Y_M_init.2.1 252 = .ok (.aload_n 0, 1) ∧ 252 + 1 = 253 := ⟨wri_24.2.2.2.2.2.2.2.2.2.2.2.2.2.2.2.2.2.2.2.2.1, rfl⟩
theorem d_M_init_193 : decode Y_M_init.2.1 193 = .ok (.newarray .int, 2) ∧ 193 + 2 = 195 := by decide +kernel
theorem d_M_init_202 : decode Y_M_init.2.1 202 = .ok (.newarray .int, 2) ∧ 202 + 2 = 204 := by decide +kernel
theorem d_M_init_211 : decode Y_M_init.2.1 211 = .ok (.newarray .int, 2) ∧ 211 + 2 = 213 := by decide +kernel
theorem d_M_init_220 : decode Y_M_init.2.1 220 = .ok (.newarray .int, 2) ∧ 220 + 2 = 222 := by decide +kernel
theorem d_M_init_229 : decode Y_M_init.2.1 229 = .ok (.newarray .int, 2) ∧ 229 + 2 = 231 := by decide +kernel
theorem d_M_init_238 : decode Y_M_init.2.1 238 = .ok (.newarray .int, 2) ∧ 238 + 2 = 240 := by decide +kernel
theorem d_M_init_247 : decode Y_M_init.2.1 247 = .ok (.newarray .int, 2) ∧ 247 + 2 = 249 := by decide +kernel
theorem wri_25 : wAll Y_M_init.2.1 253 [(0, (.sipush 240, 3)), (5, (.putfield 100, 3)), (8, (.aload_n 0, 1)), (9, (.sipush 240, 3)), (14, (.putfield 103, 3)), (17, (.aload_n 0, 1)), (18, (.sipush 10400, 3)), (23, (.putfield 106, 3)), (26, (.aload_n 0, 1)), (27, (.sipush 10400, 3)), (32, (.putfield 109, 3)), (35, (.aload_n 0, 1)), (36, (.bipush 24, 2)), (40, (.putfield 112, 3)), (43, (.aload_n 0, 1)), (44, (.bipush 24, 2)), (48, (.putfield 115, 3)), (51, (.aload_n 0, 1)), (52, (.bipush 24, 2)), (56, (.putfield 118, 3)), (59, (.aload_n 0, 1)), (60, (.bipush 24, 2))] := wAll_enc (by decide +kernel)
theorem d_M_init_253 : decode Y_M_init.2.1 253 = .ok (.sipush 240, 3) ∧ 253 + 3 = 256 := ⟨wri_25.1, rfl⟩
theorem d_M_init_258 : decode Y_M_init.2.1 258 = .ok (.putfield 100, 3) ∧ 258 + 3 = 261 := ⟨wri_25.2.1, rfl⟩
theorem d_M_init_261 : decode Y_M_init.2.1 261 = .ok (.aload_n 0, 1) ∧ 261 + 1 = 262 := ⟨wri_25.2.2.1, rfl⟩
theorem d_M_init_262 : decode Y_M_init.2.1 262 = .ok (.sipush 240, 3) ∧ 262 + 3 = 265 := ⟨wri_25.2.2.2.1, rfl⟩
theorem d_M_init_267 : decode Y_M_init.2.1 267 = .ok (.putfield 103, 3) ∧ 267 + 3 = 270 := ⟨wri_25.2.2.2.2.1, rfl⟩
theorem d_M_init_270 : decode Y_M_init.2.1 270 = .ok (.aload_n 0, 1) ∧ 270 + 1 = 271 := ⟨wri_25.2.2.2.2.2.1, rfl⟩
theorem d_M_init_271 : decode Y_M_init.2.1 271 = .ok (.sipush 10400, 3) ∧ 271 + 3 = 274 := ⟨wri_25.2.2.2.2.2.2.1, rfl⟩
theorem d_M_init_276 : decode Y_M_init.2.1 276 = .ok (.putfield 106, 3) ∧ 276 + 3 = 279 := ⟨wri_25.2.2.2.2.2.2.2.1, rfl⟩
theorem d_M_init_279 : decode Y_M_init.2.1 279 = .ok (.aload_n 0, 1) ∧ 279 + 1 = 280 := ⟨wri_25.2.2.2.2.2.2.2.2.1, rfl⟩
theorem d_M_init_280 : decode Y_M_init.2.1 280 = .ok (.sipush 10400, 3) ∧ 280 + 3 = 283 := ⟨wri_25.2.2.2.2.2.2.2.2.2.1, rfl⟩
theorem d_M_init_285 : decode Y_M_init.2.1 285 = .ok (.putfield 109, 3) ∧ 285 + 3 = 288 := ⟨wri_25.2.2.2.2.2.2.2.2.2.2.1, rfl⟩
theorem d_M_init_288 : decode Y_M_init.2.1 288 = .ok (.aload_n 0, 1) ∧ 288 + 1 = 289 := ⟨wri_25.2.2.2.2.2.2.2.2.2.2.2.1, rfl⟩
theorem d_M_init_289 : decode Y_M_init.2.1 289 = .ok (.bipush 24, 2) ∧ 289 + 2 = 291 := ⟨wri_25.2.2.2.2.2.2.2.2.2.2.2.2.1, rfl⟩
theorem d_M_init_293 : decode Y_M_init.2.1 293 = .ok (.putfield 112, 3) ∧ 293 + 3 = 296 := ⟨wri_25.2.2.2.2.2.2.2.2.2.2.2.2.2.1, rfl⟩
theorem d_M_init_296 : decode Y_M_init.2.1 296 = .ok (.aload_n 0, 1) ∧ 296 + 1 = 297 := ⟨wri_25.2.2.2.2.2.2.2.2.2.2.2.2.2.2.1, rfl⟩
theorem d_M_init_297 : decode Y_M_init.2.1 297 = .ok (.bipush 24, 2) ∧ 297 + 2 = 299 := ⟨wri_25.2.2.2.2.2.2.2.2.2.2.2.2.2.2.2.1, rfl⟩
theorem d_M_init_301 : decode Y_M_init.2.1 301 = .ok (.putfield 115, 3) ∧ 301 + 3 = 304 := ⟨wri_25.2.2.2.2.2.2.2.2.2.2.2.2.2.2.2.2.1, rfl⟩
theorem d_M_init_304 : decode Y_M_init.2.1 304 = .ok (.aload_n 0, 1) ∧ 304 + 1 = 305 := ⟨wri_25.2.2.2.2.2.2.2.2.2.2.2.2.2.2.2.2.2.1, rfl⟩
theorem d_M_init_305 : decode Y_M_init.2.1 305 = .ok (.bipush 24, 2) ∧ 305 + 2 = 307 := ⟨wri_25.2.2.2.2.2.2.2.2.2.2.2.2.2.2.2.2.2.2.1, rfl⟩
theorem d_M_init_309 : decode Y_M_init.2.1 309 = .ok (.putfield 118, 3) ∧ 309 + 3 = 312 := ⟨wri_25.2.2.2.2.2.2.2.2.2.2.2.2.2.2.2.2.2.2.2.1, rfl⟩
theorem d_M_init_312 : decode Y_M_init.2.1 312 = .ok (.aload_n 0, 1) ∧ 312 + 1 = 313 := ⟨wri_25.2.2.2.2.2.2.2.2.2.2.2.2.2.2.2.2.2.2.2.2.1, rfl⟩
theorem d_M_init_313 : decode Y_M_init.2.1 313 = .ok (.bipush 24, 2) ∧ 313 + 2 = 315 := ⟨wri_25.2.2.2.2.2.2.2.2.2.2.2.2.2.2.2.2.2.2.2.2.2.1, rfl⟩
theorem d_M_init_256 : decode Y_M_init.2.1 256 = .ok (.newarray .int, 2) ∧ 256 + 2 = 258 := by decide +kernel
theorem d_M_init_265 : decode Y_M_init.2.1 265 = .ok (.newarray .int, 2) ∧ 265 + 2 = 267 := by decide +kernel
theorem d_M_init_274 : decode Y_M_init.2.1 274 = .ok (.newarray .int, 2) ∧ 274 + 2 = 276 := by decide +kernel
theorem d_M_init_283 : decode Y_M_init.2.1 283 = .ok (.newarray .long, 2) ∧ 283 + 2 = 285 := by decide +kernel
theorem d_M_init_291 : decode Y_M_init.2.1 291 = .ok (.newarray .int, 2) ∧ 291 + 2 = 293 := by decide +kernel
theorem d_M_init_299 : decode Y_M_init.2.1 299 = .ok (.newarray .boolean, 2) ∧ 299 + 2 = 301 := by decide +kernel
theorem d_M_init_307 : decode Y_M_init.2.1 307 = .ok (.newarray .int, 2) ∧ 307 + 2 = 309 := by decide +kernel
theorem d_M_init_315 : decode Y_M_init.2.1 315 = .ok (.newarray .int, 2) ∧ 315 + 2 = 317 := by decide +kernel
theorem wri_26 : wAll Y_M_init.2.1 317 [(0, (.putfield 121, 3)), (3, (.aload_n 0, 1)), (4, (.bipush 24, 2)), (8, (.putfield 124, 3)), (11, (.aload_n 0, 1)), (12, (.sipush 1300, 3)), (17, (.putfield 127, 3)), (20, (.aload_n 0, 1)), (21, (.sipush 1300, 3)), (26, (.putfield 130, 3)), (29, (.aload_n 0, 1)), (30, (.sipush 1300, 3)), (35, (.putfield 133, 3)), (38, (.aload_n 0, 1)), (39, (.sipush 1300, 3)), (44, (.putfield 136, 3)), (47, (.aload_n 0, 1)), (48, (.sipush 1300, 3)), (53, (.putfield 139, 3)), (56, (.aload_n 0, 1)), (57, (.iconst 4, 1)), (60, (.putfield 142, 3)), (63, (.aload_n 0, 1))] := wAll_enc (by decide +kernel)
theorem d_M_init_317 : decode Y_M_init.2.1 317 = .ok (.putfield 121, 3) ∧ 317 + 3 = 320 := ⟨wri_26.1, rfl⟩
theorem d_M_init_320 : decode Y_M_init.2.1 320 = .ok (.aload_n 0, 1) ∧ 320 + 1 = 321 := ⟨wri_26.2.1, rfl⟩
theorem d_M_init_321 : decode Y_M_init.2.1 321 = .ok (.bipush 24, 2) ∧ 321 + 2 = 323 := ⟨wri_26.2.2.1, rfl⟩
theorem d_M_init_325 : decode Y_M_init.2.1 325 = .ok (.putfield 124, 3) ∧ 325 + 3 = 328 := ⟨wri_26.2.2.2.1, rfl⟩
theorem d_M_init_328 : decode Y_M_init.2.1 328 = .ok (.aload_n 0, 1) ∧ 328 + 1 = 329 := ⟨wri_26.2.2.2.2.1, rfl⟩
theorem d_M_init_329 : decode Y_M_init.2.1 329 = .ok (.sipush 1300, 3) ∧ 329 + 3 = 332 := ⟨wri_26.2.2.2.2.2.1, rfl⟩
theorem d_M_init_334 : decode Y_M_init.2.1 334 = .ok (.putfield 127, 3) ∧ 334 + 3 = 337 := ⟨wri_26.2.2.2.2.2.2.1, rfl⟩
theorem d_M_init_337 : decode Y_M_init.2.1 337 = .ok (.aload_n 0, 1) ∧ 337 + 1 = 338 := ⟨wri_26.2.2.2.2.2.2.2.1, rfl⟩
theorem d_M_init_338 : decode Y_M_init.2.1 338 = .ok (.sipush 1300, 3) ∧ 338 + 3 = 341 := ⟨wri_26.2.2.2.2.2.2.2.2.1, rfl⟩
theorem d_M_init_343 : decode Y_M_init.2.1 343 = .ok (.putfield 130, 3) ∧ 343 + 3 = 346 := ⟨wri_26.2.2.2.2.2.2.2.2.2.1, rfl⟩
theorem d_M_init_346 : decode Y_M_init.2.1 346 = .ok (.aload_n 0, 1) ∧ 346 + 1 = 347 := ⟨wri_26.2.2.2.2.2.2.2.2.2.2.1, rfl⟩
theorem d_M_init_347 : decode Y_M_init.2.1 347 = .ok (.sipush 1300, 3) ∧ 347 + 3 = 350 := ⟨wri_26.2.2.2.2.2.2.2.2.2.2.2.1, rfl⟩
theorem d_M_init_352 : decode Y_M_init.2.1 352 = .ok (.putfield 133, 3) ∧ 352 + 3 = 355 := ⟨wri_26.2.2.2.2.2.2.2.2.2.2.2.2.1, rfl⟩
theorem d_M_init_355 : decode Y_M_init.2.1 355 = .ok (.aload_n 0, 1) ∧ 355 + 1 = 356 := ⟨wri_26.2.2.2.2.2.2.2.2.2.2.2.2.2.1, rfl⟩
theorem d_M_init_356 : decode Y_M_init.2.1 356 = .ok (.sipush 1300, 3) ∧ 356 + 3 = 359 := ⟨wri_26.2.2.2.2.2.2.2.2.2.2.2.2.2.2.1, rfl⟩
theorem d_M_init_361 : decode Y_M_init.2.1 361 = .ok (.putfield 136, 3) ∧ 361 + 3 = 364 := ⟨wri_26.2.2.2.2.2.2.2.2.2.2.2.2.2.2.2.1, rfl⟩
theorem d_M_init_364 : decode Y_M_init.2.1 364 = .ok (.aload_n 0, 1) ∧ 364 + 1 = 365 := ⟨wri_26.2.2.2.2.2.2.2.2.2.2.2.2.2.2.2.2.1, rfl⟩
theorem d_M_init_365 : decode Y_M_init.2.1 365 = .ok (.sipush 1300, 3) ∧ 365 + 3 = 368 := ⟨wri_26.2.2.2.2.2.2.2.2.2.2.2.2.2.2.2.2.2.1, rfl⟩
theorem d_M_init_370 : decode Y_M_init.2.1 370 = .ok (.putfield 139, 3) ∧ 370 + 3 = 373 := ⟨wri_26.2.2.2.2.2.2.2.2.2.2.2.2.2.2.2.2.2.2.1, rfl⟩
theorem d_M_init_373 : decode Y_M_init.2.1 373 = .ok (.aload_n 0, 1) ∧ 373 + 1 = 374 := ⟨wri_26.2.2.2.2.2.2.2.2.2.2.2.2.2.2.2.2.2.2.2.1, rfl⟩
theorem d_M_init_374 : decode Y_M_init.2.1 374 = .ok (.iconst 4, 1) ∧ 374 + 1 = 375 := ⟨wri_26.2.2.2.2.2.2.2.2.2.2.2.2.2.2.2.2.2.2.2.2.1, rfl⟩
theorem d_M_init_377 : decode Y_M_init.2.1 377 = .ok (.putfield 142, 3) ∧ 377 + 3 = 380 := ⟨wri_26.2.2.2.2.2.2.2.2.2.2.2.2.2.2.2.2.2.2.2.2.2.1, rfl⟩
theorem d_M_init_380 : decode Y_M_init.2.1 380 = .ok (.aload_n 0, 1) ∧ 380 + 1 = 381 := ⟨wri_26.2.2.2.2.2.2.2.2.2.2.2.2.2.2.2.2.2.2.2.2.2.2.1, rfl⟩
theorem d_M_init_323 : decode Y_M_init.2.1 323 = .ok (.newarray .int, 2) ∧ 323 + 2 = 325 := by decide +kernel
theorem d_M_init_332 : decode Y_M_init.2.1 332 = .ok (.newarray .int, 2) ∧ 332 + 2 = 334 := by decide +kernel
theorem d_M_init_341 : decode Y_M_init.2.1 341 = .ok (.newarray .int, 2) ∧ 341 + 2 = 343 := by decide +kernel
theorem d_M_init_350 : decode Y_M_init.2.1 350 = .ok (.newarray .int, 2) ∧ 350 + 2 = 352 := by decide +kernel
theorem d_M_init_359 : decode Y_M_init.2.1 359 = .ok (.newarray .int, 2) ∧ 359 + 2 = 361 := by decide +kernel
theorem d_M_init_368 : decode Y_M_init.2.1 368 = .ok (.newarray .long, 2) ∧ 368 + 2 = 370 := by decide +kernel
theorem d_M_init_375 : decode Y_M_init.2.1 375 = .ok (.newarray .int, 2) ∧ 375 + 2 = 377 := by decide +kernel
theorem wri_27 : wAll Y_M_init.2.1 381 [(0, (.bipush 40, 2)), (4, (.putfield 145, 3)), (7, (.aload_n 0, 1)), (8, (.bipush 40, 2)), (12, (.putfield 148, 3)), (15, (.aload_n 0, 1)), (16, (.bipush 6, 2)), (20, (.putfield 151, 3)), (23, (.aload_n 0, 1)), (24, (.bipush 20, 2)), (28, (.putfield 154, 3)), (31, (.aload_n 0, 1)), (32, (.bipush 20, 2)), (36, (.putfield 157, 3)), (39, (.aload_n 0, 1)), (40, (.bipush 20, 2)), (44, (.putfield 160, 3)), (47, (.aload_n 0, 1)), (48, (.bipush (-4), 2)), (50, (.putfield 163, 3)), (53, (.aload_n 0, 1)), (54, (.bipush 8, 2)), (58, (.putfield 166, 3)), (61, (.aload_n 0, 1))] := wAll_enc (by decide +kernel)
theorem d_M_init_381 : decode Y_M_init.2.1 381 = .ok (.bipush 40, 2) ∧ 381 + 2 = 383 := ⟨wri_27.1, rfl⟩
theorem d_M_init_385 : decode Y_M_init.2.1 385 = .ok (.putfield 145, 3) ∧ 385 + 3 = 388 := ⟨wri_27.2.1, rfl⟩
theorem d_M_init_388 : decode Y_M_init.2.1 388 = .ok (.aload_n 0, 1) ∧ 388 + 1 = 389 := ⟨wri_27.2.2.1, rfl⟩
theorem d_M_init_389 : decode Y_M_init.2.1 389 = .ok (.bipush 40, 2) ∧ 389 + 2 = 391 := ⟨wri_27.2.2.2.1, rfl⟩
theorem d_M_init_393 : decode Y_M_init.2.1 393 = .ok (.putfield 148, 3) ∧ 393 + 3 = 396 := ⟨wri_27.2.2.2.2.1, rfl⟩
theorem d_M_init_396 : decode Y_M_init.2.1 396 = .ok (.aload_n 0, 1) ∧ 396 + 1 = 397 := ⟨wri_27.2.2.2.2.2.1, rfl⟩
theorem d_M_init_397 : decode Y_M_init.2.1 397 = .ok (.bipush 6, 2) ∧ 397 + 2 = 399 := ⟨wri_27.2.2.2.2.2.2.1, rfl⟩
theorem d_M_init_401 : decode Y_M_init.2.1 401 = .ok (.putfield 151, 3) ∧ 401 + 3 = 404 := ⟨wri_27.2.2.2.2.2.2.2.1, rfl⟩
theorem d_M_init_404 : decode Y_M_init.2.1 404 = .ok (.aload_n 0, 1) ∧ 404 + 1 = 405 := ⟨wri_27.2.2.2.2.2.2.2.2.1, rfl⟩
theorem d_M_init_405 : decode Y_M_init.2.1 405 = .ok (.bipush 20, 2) ∧ 405 + 2 = 407 := ⟨wri_27.2.2.2.2.2.2.2.2.2.1, rfl⟩
theorem d_M_init_409 : decode Y_M_init.2.1 409 = .ok (.putfield 154, 3) ∧ 409 + 3 = 412 := ⟨wri_27.2.2.2.2.2.2.2.2.2.2.1, rfl⟩
theorem d_M_init_412 : decode Y_M_init.2.1 412 = .ok (.aload_n 0, 1) ∧ 412 + 1 = 413 := ⟨wri_27.2.2.2.2.2.2.2.2.2.2.2.1, rfl⟩
theorem d_M_init_413 : decode Y_M_init.2.1 413 = .ok (.bipush 20, 2) ∧ 413 + 2 = 415 := ⟨wri_27.2.2.2.2.2.2.2.2.2.2.2.2.1, rfl⟩
theorem d_M_init_417 : decode Y_M_init.2.1 417 = .ok (.putfield 157, 3) ∧ 417 + 3 = 420 := ⟨wri_27.2.2.2.2.2.2.2.2.2.2.2.2.2.1, rfl⟩
theorem d_M_init_420 : decode Y_M_init.2.1 420 = .ok (.aload_n 0, 1) ∧ 420 + 1 = 421 := ⟨wri_27.2.2.2.2.2.2.2.2.2.2.2.2.2.2.1, rfl⟩
theorem d_M_init_421 : decode Y_M_init.2.1 421 = .ok (.bipush 20, 2) ∧ 421 + 2 = 423 := ⟨wri_27.2.2.2.2.2.2.2.2.2.2.2.2.2.2.2.1, rfl⟩
theorem d_M_init_425 : decode Y_M_init.2.1 425 = .ok (.putfield 160, 3) ∧ 425 + 3 = 428 := ⟨wri_27.2.2.2.2.2.2.2.2.2.2.2.2.2.2.2.2.1, rfl⟩
theorem d_M_init_428 : decode Y_M_init.2.1 428 = .ok (.aload_n 0, 1) ∧ 428 + 1 = 429 := ⟨wri_27.2.2.2.2.2.2.2.2.2.2.2.2.2.2.2.2.2.1, rfl⟩
theorem d_M_init_429 : decode Y_M_init.2.1 429 = .ok (.bipush (-4), 2) ∧ 429 + 2 = 431 := ⟨wri_27.2.2.2.2.2.2.2.2.2.2.2.2.2.2.2.2.2.2.1, rfl⟩
theorem d_M_init_431 : decode Y_M_init.2.1 431 = .ok (.putfield 163, 3) ∧ 431 + 3 = 434 := ⟨wri_27.2.2.2.2.2.2.2.2.2.2.2.2.2.2.2.2.2.2.2.1, rfl⟩
theorem d_M_init_434 : decode Y_M_init.2.1 434 = .ok (.aload_n 0, 1) ∧ 434 + 1 = 435 := ⟨wri_27.2.2.2.2.2.2.2.2.2.2.2.2.2.2.2.2.2.2.2.2.1, rfl⟩
theorem d_M_init_435 : decode Y_M_init.2.1 435 = .ok (.bipush 8, 2) ∧ 435 + 2 = 437 := ⟨wri_27.2.2.2.2.2.2.2.2.2.2.2.2.2.2.2.2.2.2.2.2.2.1, rfl⟩
theorem d_M_init_439 : decode Y_M_init.2.1 439 = .ok (.putfield 166, 3) ∧ 439 + 3 = 442 := ⟨wri_27.2.2.2.2.2.2.2.2.2.2.2.2.2.2.2.2.2.2.2.2.2.2.1, rfl⟩
theorem d_M_init_442 : decode Y_M_init.2.1 442 = .ok (.aload_n 0, 1) ∧ 442 + 1 = 443 := ⟨wri_27.2.2.2.2.2.2.2.2.2.2.2.2.2.2.2.2.2.2.2.2.2.2.2.1, rfl⟩
theorem d_M_init_383 : decode Y_M_init.2.1 383 = .ok (.newarray .int, 2) ∧ 383 + 2 = 385 := by decide +kernel
theorem d_M_init_391 : decode Y_M_init.2.1 391 = .ok (.newarray .int, 2) ∧ 391 + 2 = 393 := by decide +kernel
theorem d_M_init_399 : decode Y_M_init.2.1 399 = .ok (.newarray .int, 2) ∧ 399 + 2 = 401 := by decide +kernel
theorem d_M_init_407 : decode Y_M_init.2.1 407 = .ok (.newarray .int, 2) ∧ 407 + 2 = 409 := by decide +kernel
theorem d_M_init_415 : decode Y_M_init.2.1 415 = .ok (.newarray .int, 2) ∧ 415 + 2 = 417 := by decide +kernel
theorem d_M_init_423 : decode Y_M_init.2.1 423 = .ok (.newarray .int, 2) ∧ 423 + 2 = 425 := by decide +kernel
theorem d_M_init_437 : decode Y_M_init.2.1 437 = .ok (.newarray .int, 2) ∧ 437 + 2 = 439 := by decide +kernel
theorem wri_28 : wAll Y_M_init.2.1 443 [(0, (.sipush 128, 3)), (5, (.putfield 169, 3)), (8, (.aload_n 0, 1)), (9, (.iconst 4, 1)), (12, (.putfield 172, 3)), (15, (.aload_n 0, 1)), (16, (.bipush 32, 2)), (20, (.putfield 175, 3)), (23, (.aload_n 0, 1)), (24, (.bipush 32, 2)), (28, (.putfield 178, 3)), (31, (.aload_n 0, 1)), (32, (.bipush 32, 2)), (36, (.putfield 181, 3)), (39, (.aload_n 0, 1)), (40, (.iconst 4, 1)), (43, (.putfield 184, 3)), (46, (.aload_n 0, 1)), (47, (.bipush 48, 2)), (51, (.putfield 187, 3)), (54, (.aload_n 0, 1)), (55, (.bipush 48, 2)), (59, (.putfield 190, 3)), (62, (.aload_n 0, 1))] := wAll_enc (by decide +kernel)
theorem d_M_init_443 : decode Y_M_init.2.1 443 = .ok (.sipush 128, 3) ∧ 443 + 3 = 446 := ⟨wri_28.1, rfl⟩
theorem d_M_init_448 : decode Y_M_init.2.1 448 = .ok (.putfield 169, 3) ∧ 448 + 3 = 451 := ⟨wri_28.2.1, rfl⟩
theorem d_M_init_451 : decode Y_M_init.2.1 451 = .ok (.aload_n 0, 1) ∧ 451 + 1 = 452 := ⟨wri_28.2.2.1, rfl⟩
theorem d_M_init_452 : decode Y_M_init.2.1 452 = .ok (.iconst 4, 1) ∧ 452 + 1 = 453 := ⟨wri_28.2.2.2.1, rfl⟩
theorem d_M_init_455 : decode Y_M_init.2.1 455 = .ok (.putfield 172, 3) ∧ 455 + 3 = 458 := ⟨wri_28.2.2.2.2.1, rfl⟩
theorem d_M_init_458 : decode Y_M_init.2.1 458 = .ok (.aload_n 0, 1) ∧ 458 + 1 = 459 := ⟨wri_28.2.2.2.2.2.1, rfl⟩
theorem d_M_init_459 : decode Y_M_init.2.1 459 = .ok (.bipush 32, 2) ∧ 459 + 2 = 461 := ⟨wri_28.2.2.2.2.2.2.1, rfl⟩
theorem d_M_init_463 : decode Y_M_init.2.1 463 = .ok (.putfield 175, 3) ∧ 463 + 3 = 466 := ⟨wri_28.2.2.2.2.2.2.2.1, rfl⟩
theorem d_M_init_466 : decode Y_M_init.2.1 466 = .ok (.aload_n 0, 1) ∧ 466 + 1 = 467 := ⟨wri_28.2.2.2.2.2.2.2.2.1, rfl⟩
theorem d_M_init_467 : decode Y_M_init.2.1 467 = .ok (.bipush 32, 2) ∧ 467 + 2 = 469 := ⟨wri_28.2.2.2.2.2.2.2.2.2.1, rfl⟩
theorem d_M_init_471 : decode Y_M_init.2.1 471 = .ok (.putfield 178, 3) ∧ 471 + 3 = 474 := ⟨wri_28.2.2.2.2.2.2.2.2.2.2.1, rfl⟩
theorem d_M_init_474 : decode Y_M_init.2.1 474 = .ok (.aload_n 0, 1) ∧ 474 + 1 = 475 := ⟨wri_28.2.2.2.2.2.2.2.2.2.2.2.1, rfl⟩
theorem d_M_init_475 : decode Y_M_init.2.1 475 = .ok (.bipush 32, 2) ∧ 475 + 2 = 477 := ⟨wri_28.2.2.2.2.2.2.2.2.2.2.2.2.1, rfl⟩
theorem d_M_init_479 : decode Y_M_init.2.1 479 = .ok (.putfield 181, 3) ∧ 479 + 3 = 482 := ⟨wri_28.2.2.2.2.2.2.2.2.2.2.2.2.2.1, rfl⟩
theorem d_M_init_482 : decode Y_M_init.2.1 482 = .ok (.aload_n 0, 1) ∧ 482 + 1 = 483 := ⟨wri_28.2.2.2.2.2.2.2.2.2.2.2.2.2.2.1, rfl⟩
theorem d_M_init_483 : decode Y_M_init.2.1 483 = .ok (.iconst 4, 1) ∧ 483 + 1 = 484 := ⟨wri_28.2.2.2.2.2.2.2.2.2.2.2.2.2.2.2.1, rfl⟩
theorem d_M_init_486 : decode Y_M_init.2.1 486 = .ok (.putfield 184, 3) ∧ 486 + 3 = 489 := ⟨wri_28.2.2.2.2.2.2.2.2.2.2.2.2.2.2.2.2.1, rfl⟩
theorem d_M_init_489 : decode Y_M_init.2.1 489 = .ok (.aload_n 0, 1) ∧ 489 + 1 = 490 := ⟨wri_28.2.2.2.2.2.2.2.2.2.2.2.2.2.2.2.2.2.1, rfl⟩
theorem d_M_init_490 : decode Y_M_init.2.1 490 = .ok (.bipush 48, 2) ∧ 490 + 2 = 492 := ⟨wri_28.2.2.2.2.2.2.2.2.2.2.2.2.2.2.2.2.2.2.1, rfl⟩
theorem d_M_init_494 : decode Y_M_init.2.1 494 = .ok (.putfield 187, 3) ∧ 494 + 3 = 497 := ⟨wri_28.2.2.2.2.2.2.2.2.2.2.2.2.2.2.2.2.2.2.2.1, rfl⟩
theorem d_M_init_497 : decode Y_M_init.2.1 497 = .ok (.aload_n 0, 1) ∧ 497 + 1 = 498 := ⟨wri_28.2.2.2.2.2.2.2.2.2.2.2.2.2.2.2.2.2.2.2.2.1, rfl⟩
theorem d_M_init_498 : decode Y_M_init.2.1 498 = .ok (.bipush 48, 2) ∧ 498 + 2 = 500 := ⟨wri_28.2.2.2.2.2.2.2.2.2.2.2.2.2.2.2.2.2.2.2.2.2.1, rfl⟩
theorem d_M_init_502 : decode Y_M_init.2.1 502 = .ok (.putfield 190, 3) ∧ 502 + 3 = 505 := ⟨wri_28.2.2.2.2.2.2.2.2.2.2.2.2.2.2.2.2.2.2.2.2.2.2.1, rfl⟩
theorem d_M_init_505 : decode Y_M_init.2.1 505 = .ok (.aload_n 0, 1) ∧ 505 + 1 = 506 := ⟨wri_28.2.2.2.2.2.2.2.2.2.2.2.2.2.2.2.2.2.2.2.2.2.2.2.1, rfl⟩
theorem d_M_init_446 : decode Y_M_init.2.1 446 = .ok (.newarray .boolean, 2) ∧ 446 + 2 = 448 := by decide +kernel
theorem d_M_init_453 : decode Y_M_init.2.1 453 = .ok (.newarray .int, 2) ∧ 453 + 2 = 455 := by decide +kernel
theorem d_M_init_461 : decode Y_M_init.2.1 461 = .ok (.newarray .int, 2) ∧ 461 + 2 = 463 := by decide +kernel
theorem d_M_init_469 : decode Y_M_init.2.1 469 = .ok (.newarray .int, 2) ∧ 469 + 2 = 471 := by decide +kernel
theorem d_M_init_477 : decode Y_M_init.2.1 477 = .ok (.newarray .int, 2) ∧ 477 + 2 = 479 := by decide +kernel
theorem d_M_init_484 : decode Y_M_init.2.1 484 = .ok (.newarray .int, 2) ∧ 484 + 2 = 486 := by decide +kernel
theorem d_M_init_492 : decode Y_M_init.2.1 492 = .ok (.newarray .int, 2) ∧ 492 + 2 = 494 := by decide +kernel
theorem d_M_init_500 : decode Y_M_init.2.1 500 = .ok (.newarray .int, 2) ∧ 500 + 2 = 502 := by decide +kernel
theorem wri_29 : wAll Y_M_init.2.1 506 [(0, (.bipush 48, 2)), (4, (.putfield 193, 3)), (7, (.aload_n 0, 1)), (8, (.bipush 8, 2)), (12, (.putfield 196, 3)), (15, (.aload_n 0, 1)), (16, (.bipush 60, 2)), (20, (.putfield 199, 3)), (23, (.aload_n 0, 1)), (24, (.bipush 60, 2)), (28, (.putfield 202, 3)), (31, (.aload_n 0, 1)), (32, (.bipush 60, 2)), (36, (.putfield 205, 3)), (39, (.aload_n 0, 1)), (40, (.bipush 60, 2)), (44, (.putfield 208, 3)), (47, (.aload_n 0, 1)), (48, (.bipush 60, 2)), (52, (.putfield 211, 3)), (55, (.aload_n 0, 1)), (56, (.bipush 60, 2)), (60, (.putfield 214, 3)), (63, (.aload_n 0, 1))] := wAll_enc (by decide +kernel)
theorem d_M_init_506 : decode Y_M_init.2.1 506 = .ok (.bipush 48, 2) ∧ 506 + 2 = 508 := ⟨wri_29.1, rfl⟩
theorem d_M_init_510 : decode Y_M_init.2.1 510 = .ok (.putfield 193, 3) ∧ 510 + 3 = 513 := ⟨wri_29.2.1, rfl⟩
theorem d_M_init_513 : decode Y_M_init.2.1 513 = .ok (.aload_n 0, 1) ∧ 513 + 1 = 514 := ⟨wri_29.2.2.1, rfl⟩
theorem d_M_init_514 : decode Y_M_init.2.1 514 = .ok (.bipush 8, 2) ∧ 514 + 2 = 516 := ⟨wri_29.2.2.2.1, rfl⟩
theorem d_M_init_518 : decode Y_M_init.2.1 518 = .ok (.putfield 196, 3) ∧ 518 + 3 = 521 := ⟨wri_29.2.2.2.2.1, rfl⟩
theorem d_M_init_521 : decode Y_M_init.2.1 521 = .ok (.aload_n 0, 1) ∧ 521 + 1 = 522 := ⟨wri_29.2.2.2.2.2.1, rfl⟩
theorem d_M_init_522 : decode Y_M_init.2.1 522 = .ok (.bipush 60, 2) ∧ 522 + 2 = 524 := ⟨wri_29.2.2.2.2.2.2.1, rfl⟩
theorem d_M_init_526 : decode Y_M_init.2.1 526 = .ok (.putfield 199, 3) ∧ 526 + 3 = 529 := ⟨wri_29.2.2.2.2.2.2.2.1, rfl⟩
theorem d_M_init_529 : decode Y_M_init.2.1 529 = .ok (.aload_n 0, 1) ∧ 529 + 1 = 530 := ⟨wri_29.2.2.2.2.2.2.2.2.1, rfl⟩
theorem d_M_init_530 : decode Y_M_init.2.1 530 = .ok (.bipush 60, 2) ∧ 530 + 2 = 532 := ⟨wri_29.2.2.2.2.2.2.2.2.2.1, rfl⟩
theorem d_M_init_534 : decode Y_M_init.2.1 534 = .ok (.putfield 202, 3) ∧ 534 + 3 = 537 := ⟨wri_29.2.2.2.2.2.2.2.2.2.2.1, rfl⟩
theorem d_M_init_537 : decode Y_M_init.2.1 537 = .ok (.aload_n 0, 1) ∧ 537 + 1 = 538 := ⟨wri_29.2.2.2.2.2.2.2.2.2.2.2.1, rfl⟩
theorem d_M_init_538 : decode Y_M_init.2.1 538 = .ok (.bipush 60, 2) ∧ 538 + 2 = 540 := ⟨wri_29.2.2.2.2.2.2.2.2.2.2.2.2.1, rfl⟩
theorem d_M_init_542 : decode Y_M_init.2.1 542 = .ok (.putfield 205, 3) ∧ 542 + 3 = 545 := ⟨wri_29.2.2.2.2.2.2.2.2.2.2.2.2.2.1, rfl⟩
theorem d_M_init_545 : decode Y_M_init.2.1 545 = .ok (.aload_n 0, 1) ∧ 545 + 1 = 546 := ⟨wri_29.2.2.2.2.2.2.2.2.2.2.2.2.2.2.1, rfl⟩
theorem d_M_init_546 : decode Y_M_init.2.1 546 = .ok (.bipush 60, 2) ∧ 546 + 2 = 548 := ⟨wri_29.2.2.2.2.2.2.2.2.2.2.2.2.2.2.2.1, rfl⟩
theorem d_M_init_550 : decode Y_M_init.2.1 550 = .ok (.putfield 208, 3) ∧ 550 + 3 = 553 := ⟨wri_29.2.2.2.2.2.2.2.2.2.2.2.2.2.2.2.2.1, rfl⟩
theorem d_M_init_553 : decode Y_M_init.2.1 553 = .ok (.aload_n 0, 1) ∧ 553 + 1 = 554 := ⟨wri_29.2.2.2.2.2.2.2.2.2.2.2.2.2.2.2.2.2.1, rfl⟩
theorem d_M_init_554 : decode Y_M_init.2.1 554 = .ok (.bipush 60, 2) ∧ 554 + 2 = 556 := ⟨wri_29.2.2.2.2.2.2.2.2.2.2.2.2.2.2.2.2.2.2.1, rfl⟩
theorem d_M_init_558 : decode Y_M_init.2.1 558 = .ok (.putfield 211, 3) ∧ 558 + 3 = 561 := ⟨wri_29.2.2.2.2.2.2.2.2.2.2.2.2.2.2.2.2.2.2.2.1, rfl⟩
theorem d_M_init_561 : decode Y_M_init.2.1 561 = .ok (.aload_n 0, 1) ∧ 561 + 1 = 562 := ⟨wri_29.2.2.2.2.2.2.2.2.2.2.2.2.2.2.2.2.2.2.2.2.1, rfl⟩
theorem d_M_init_562 : decode Y_M_init.2.1 562 = .ok (.bipush 60, 2) ∧ 562 + 2 = 564 := ⟨wri_29.2.2.2.2.2.2.2.2.2.2.2.2.2.2.2.2.2.2.2.2.2.1, rfl⟩
theorem d_M_init_566 : decode Y_M_init.2.1 566 = .ok (.putfield 214, 3) ∧ 566 + 3 = 569 := ⟨wri_29.2.2.2.2.2.2.2.2.2.2.2.2.2.2.2.2.2.2.2.2.2.2.1, rfl⟩
theorem d_M_init_569 : decode Y_M_init.2.1 569 = .ok (.aload_n 0, 1) ∧ 569 + 1 = 570 := ⟨wri_29.2.2.2.2.2.2.2.2.2.2.2.2.2.2.2.2.2.2.2.2.2.2.2.1, rfl⟩
theorem d_M_init_508 : decode Y_M_init.2.1 508 = .ok (.newarray .int, 2) ∧ 508 + 2 = 510 := by decide +kernel
theorem d_M_init_516 : decode Y_M_init.2.1 516 = .ok (.newarray .int, 2) ∧ 516 + 2 = 518 := by decide +kernel
theorem d_M_init_524 : decode Y_M_init.2.1 524 = .ok (.newarray .int, 2) ∧ 524 + 2 = 526 := by decide +kernel
theorem d_M_init_532 : decode Y_M_init.2.1 532 = .ok (.newarray .int, 2) ∧ 532 + 2 = 534 := by decide +kernel
theorem d_M_init_540 : decode Y_M_init.2.1 540 = .ok (.newarray .int, 2) ∧ 540 + 2 = 542 := by decide +kernel
theorem d_M_init_548 : decode Y_M_init.2.1 548 = .ok (.newarray .int, 2) ∧ 548 + 2 = 550 := by decide +kernel
theorem d_M_init_556 : decode Y_M_init.2.1 556 = .ok (.newarray .int, 2) ∧ 556 + 2 = 558 := by decide +kernel
theorem d_M_init_564 : decode Y_M_init.2.1 564 = .ok (.newarray .int, 2) ∧ 564 + 2 = 566 := by decide +kernel
theorem wri_30 : wAll Y_M_init.2.1 570 [(0, (.bipush 60, 2)), (4, (.putfield 217, 3)), (7, (.aload_n 0, 1)), (8, (.bipush 60, 2)), (12, (.putfield 220, 3)), (15, (.aload_n 0, 1)), (16, (.bipush 60, 2)), (20, (.putfield 223, 3)), (23, (.aload_n 0, 1)), (24, (.bipush 60, 2)), (28, (.putfield 226, 3)), (31, (.aload_n 0, 1)), (32, (.bipush 60, 2)), (36, (.putfield 229, 3)), (39, (.aload_n 0, 1)), (40, (.sipush 144, 3)), (45, (.putfield 232, 3)), (48, (.aload_n 0, 1)), (49, (.sipush 144, 3)), (54, (.putfield 235, 3)), (57, (.aload_n 0, 1)), (58, (.sipush 600, 3))] := wAll_enc (by decide +kernel)
theorem d_M_init_570 : decode Y_M_init.2.1 570 = .ok (.bipush 60, 2) ∧ 570 + 2 = 572 := ⟨wri_30.1, rfl⟩
theorem d_M_init_574 : decode Y_M_init.2.1 574 = .ok (.putfield 217, 3) ∧ 574 + 3 = 577 := ⟨wri_30.2.1, rfl⟩
theorem d_M_init_577 : decode Y_M_init.2.1 577 = .ok (.aload_n 0, 1) ∧ 577 + 1 = 578 := ⟨wri_30.2.2.1, rfl⟩
theorem d_M_init_578 : decode Y_M_init.2.1 578 = .ok (.bipush 60, 2) ∧ 578 + 2 = 580 := ⟨wri_30.2.2.2.1, rfl⟩
theorem d_M_init_582 : decode Y_M_init.2.1 582 = .ok (.putfield 220, 3) ∧ 582 + 3 = 585 := ⟨wri_30.2.2.2.2.1, rfl⟩
theorem d_M_init_585 : decode Y_M_init.2.1 585 = .ok (.aload_n 0, 1) ∧ 585 + 1 = 586 := ⟨wri_30.2.2.2.2.2.1, rfl⟩
theorem d_M_init_586 : decode Y_M_init.2.1 586 = .ok (.bipush 60, 2) ∧ 586 + 2 = 588 := ⟨wri_30.2.2.2.2.2.2.1, rfl⟩
theorem d_M_init_590 : decode Y_M_init.2.1 590 = .ok (.putfield 223, 3) ∧ 590 + 3 = 593 := ⟨wri_30.2.2.2.2.2.2.2.1, rfl⟩
theorem d_M_init_593 : decode Y_M_init.2.1 593 = .ok (.aload_n 0, 1) ∧ 593 + 1 = 594 := ⟨wri_30.2.2.2.2.2.2.2.2.1, rfl⟩
theorem d_M_init_594 : decode Y_M_init.2.1 594 = .ok (.bipush 60, 2) ∧ 594 + 2 = 596 := ⟨wri_30.2.2.2.2.2.2.2.2.2.1, rfl⟩
theorem d_M_init_598 : decode Y_M_init.2.1 598 = .ok (.putfield 226, 3) ∧ 598 + 3 = 601 := ⟨wri_30.2.2.2.2.2.2.2.2.2.2.1, rfl⟩
theorem d_M_init_601 : decode Y_M_init.2.1 601 = .ok (.aload_n 0, 1) ∧ 601 + 1 = 602 := ⟨wri_30.2.2.2.2.2.2.2.2.2.2.2.1, rfl⟩
theorem d_M_init_602 : decode Y_M_init.2.1 602 = .ok (.bipush 60, 2) ∧ 602 + 2 = 604 := ⟨wri_30.2.2.2.2.2.2.2.2.2.2.2.2.1, rfl⟩
theorem d_M_init_606 : decode Y_M_init.2.1 606 = .ok (.putfield 229, 3) ∧ 606 + 3 = 609 := ⟨wri_30.2.2.2.2.2.2.2.2.2.2.2.2.2.1, rfl⟩
theorem d_M_init_609 : decode Y_M_init.2.1 609 = .ok (.aload_n 0, 1) ∧ 609 + 1 = 610 := ⟨wri_30.2.2.2.2.2.2.2.2.2.2.2.2.2.2.1, rfl⟩
theorem d_M_init_610 : decode Y_M_init.2.1 610 = .ok (.sipush 144, 3) ∧ 610 + 3 = 613 := ⟨wri_30.2.2.2.2.2.2.2.2.2.2.2.2.2.2.2.1, rfl⟩
theorem d_M_init_615 : decode Y_M_init.2.1 615 = .ok (.putfield 232, 3) ∧ 615 + 3 = 618 := ⟨wri_30.2.2.2.2.2.2.2.2.2.2.2.2.2.2.2.2.1, rfl⟩
theorem d_M_init_618 : decode Y_M_init.2.1 618 = .ok (.aload_n 0, 1) ∧ 618 + 1 = 619 := ⟨wri_30.2.2.2.2.2.2.2.2.2.2.2.2.2.2.2.2.2.1, rfl⟩
theorem d_M_init_619 : decode Y_M_init.2.1 619 = .ok (.sipush 144, 3) ∧ 619 + 3 = 622 := ⟨wri_30.2.2.2.2.2.2.2.2.2.2.2.2.2.2.2.2.2.2.1, rfl⟩
theorem d_M_init_624 : decode Y_M_init.2.1 624 = .ok (.putfield 235, 3) ∧ 624 + 3 = 627 := ⟨wri_30.2.2.2.2.2.2.2.2.2.2.2.2.2.2.2.2.2.2.2.1, rfl⟩
theorem d_M_init_627 : decode Y_M_init.2.1 627 = .ok (.aload_n 0, 1) ∧ 627 + 1 = 628 := ⟨wri_30.2.2.2.2.2.2.2.2.2.2.2.2.2.2.2.2.2.2.2.2.1, rfl⟩
theorem d_M_init_628 : decode Y_M_init.2.1 628 = .ok (.sipush 600, 3) ∧ 628 + 3 = 631 := ⟨wri_30.2.2.2.2.2.2.2.2.2.2.2.2.2.2.2.2.2.2.2.2.2.1, rfl⟩
theorem d_M_init_572 : decode Y_M_init.2.1 572 = .ok (.newarray .int, 2) ∧ 572 + 2 = 574 := by decide +kernel
theorem d_M_init_580 : decode Y_M_init.2.1 580 = .ok (.newarray .boolean, 2) ∧ 580 + 2 = 582 := by decide +kernel
theorem d_M_init_588 : decode Y_M_init.2.1 588 = .ok (.newarray .boolean, 2) ∧ 588 + 2 = 590 := by decide +kernel
theorem d_M_init_596 : decode Y_M_init.2.1 596 = .ok (.newarray .int, 2) ∧ 596 + 2 = 598 := by decide +kernel
theorem d_M_init_604 : decode Y_M_init.2.1 604 = .ok (.newarray .int, 2) ∧ 604 + 2 = 606 := by decide +kernel
theorem d_M_init_613 : decode Y_M_init.2.1 613 = .ok (.newarray .int, 2) ∧ 613 + 2 = 615 := by decide +kernel
theorem d_M_init_622 : decode Y_M_init.2.1 622 = .ok (.newarray .int, 2) ∧ 622 + 2 = 624 := by decide +kernel
theorem d_M_init_631 : decode Y_M_init.2.1 631 = .ok (.newarray .int, 2) ∧ 631 + 2 = 633 := by decide +kernel
theorem wri_31 : wAll Y_M_init.2.1 633 [(0, (.putfield 238, 3)), (3, (.aload_n 0, 1)), (4, (.sipush 600, 3)), (9, (.putfield 241, 3)), (12, (.aload_n 0, 1)), (13, (.sipush 600, 3)), (18, (.putfield 244, 3)), (21, (.aload_n 0, 1)), (22, (.bipush 14, 2)), (26, (.putfield 247, 3)), (29, (.aload_n 0, 1)), (30, (.bipush 60, 2)), (34, (.putfield 250, 3)), (37, (.aload_n 0, 1)), (38, (.bipush 60, 2)), (42, (.putfield 253, 3)), (45, (.aload_n 0, 1)), (46, (.bipush 60, 2)), (50, (.putfield 256, 3)), (53, (.aload_n 0, 1)), (54, (.bipush 60, 2)), (58, (.putfield 259, 3)), (61, (.aload_n 0, 1)), (62, (.bipush 10, 2))] := wAll_enc (by decide +kernel)
theorem d_M_init_633 : decode Y_M_init.2.1 633 = .ok (.putfield 238, 3) ∧ 633 + 3 = 636 := ⟨wri_31.1, rfl⟩
theorem d_M_init_636 : decode Y_M_init.2.1 636 = .ok (.aload_n 0, 1) ∧ 636 + 1 = 637 := ⟨wri_31.2.1, rfl⟩
theorem d_M_init_637 : decode Y_M_init.2.1 637 = .ok (.sipush 600, 3) ∧ 637 + 3 = 640 := ⟨wri_31.2.2.1, rfl⟩
theorem d_M_init_642 : decode Y_M_init.2.1 642 = .ok (.putfield 241, 3) ∧ 642 + 3 = 645 := ⟨wri_31.2.2.2.1, rfl⟩
theorem d_M_init_645 : decode Y_M_init.2.1 645 = .ok (.aload_n 0, 1) ∧ 645 + 1 = 646 := ⟨wri_31.2.2.2.2.1, rfl⟩
theorem d_M_init_646 : decode Y_M_init.2.1 646 = .ok (.sipush 600, 3) ∧ 646 + 3 = 649 := ⟨wri_31.2.2.2.2.2.1, rfl⟩
theorem d_M_init_651 : decode Y_M_init.2.1 651 = .ok (.putfield 244, 3) ∧ 651 + 3 = 654 := ⟨wri_31.2.2.2.2.2.2.1, rfl⟩
theorem d_M_init_654 : decode Y_M_init.2.1 654 = .ok (.aload_n 0, 1) ∧ 654 + 1 = 655 := ⟨wri_31.2.2.2.2.2.2.2.1, rfl⟩
theorem d_M_init_655 : decode Y_M_init.2.1 655 = .ok (.bipush 14, 2) ∧ 655 + 2 = 657 := ⟨wri_31.2.2.2.2.2.2.2.2.1, rfl⟩
theorem d_M_init_659 : decode Y_M_init.2.1 659 = .ok (.putfield 247, 3) ∧ 659 + 3 = 662 := ⟨wri_31.2.2.2.2.2.2.2.2.2.1, rfl⟩
theorem d_M_init_662 : decode Y_M_init.2.1 662 = .ok (.aload_n 0, 1) ∧ 662 + 1 = 663 := ⟨wri_31.2.2.2.2.2.2.2.2.2.2.1, rfl⟩
theorem d_M_init_663 : decode Y_M_init.2.1 663 = .ok (.bipush 60, 2) ∧ 663 + 2 = 665 := ⟨wri_31.2.2.2.2.2.2.2.2.2.2.2.1, rfl⟩
theorem d_M_init_667 : decode Y_M_init.2.1 667 = .ok (.putfield 250, 3) ∧ 667 + 3 = 670 := ⟨wri_31.2.2.2.2.2.2.2.2.2.2.2.2.1, rfl⟩
theorem d_M_init_670 : decode Y_M_init.2.1 670 = .ok (.aload_n 0, 1) ∧ 670 + 1 = 671 := ⟨wri_31.2.2.2.2.2.2.2.2.2.2.2.2.2.1, rfl⟩
theorem d_M_init_671 : decode Y_M_init.2.1 671 = .ok (.bipush 60, 2) ∧ 671 + 2 = 673 := ⟨wri_31.2.2.2.2.2.2.2.2.2.2.2.2.2.2.1, rfl⟩
theorem d_M_init_675 : decode Y_M_init.2.1 675 = .ok (.putfield 253, 3) ∧ 675 + 3 = 678 := ⟨wri_31.2.2.2.2.2.2.2.2.2.2.2.2.2.2.2.1, rfl⟩
theorem d_M_init_678 : decode Y_M_init.2.1 678 = .ok (.aload_n 0, 1) ∧ 678 + 1 = 679 := ⟨wri_31.2.2.2.2.2.2.2.2.2.2.2.2.2.2.2.2.1, rfl⟩
theorem d_M_init_679 : decode Y_M_init.2.1 679 = .ok (.bipush 60, 2) ∧ 679 + 2 = 681 := ⟨wri_31.2.2.2.2.2.2.2.2.2.2.2.2.2.2.2.2.2.1, rfl⟩
theorem d_M_init_683 : decode Y_M_init.2.1 683 = .ok (.putfield 256, 3) ∧ 683 + 3 = 686 := ⟨wri_31.2.2.2.2.2.2.2.2.2.2.2.2.2.2.2.2.2.2.1, rfl⟩
theorem d_M_init_686 : decode Y_M_init.2.1 686 = .ok (.aload_n 0, 1) ∧ 686 + 1 = 687 := ⟨wri_31.2.2.2.2.2.2.2.2.2.2.2.2.2.2.2.2.2.2.2.1, rfl⟩
theorem d_M_init_687 : decode Y_M_init.2.1 687 = .ok (.bipush 60, 2) ∧ 687 + 2 = 689 := ⟨wri_31.2.2.2.2.2.2.2.2.2.2.2.2.2.2.2.2.2.2.2.2.1, rfl⟩
theorem d_M_init_691 : decode Y_M_init.2.1 691 = .ok (.putfield 259, 3) ∧ 691 + 3 = 694 := ⟨wri_31.2.2.2.2.2.2.2.2.2.2.2.2.2.2.2.2.2.2.2.2.2.1, rfl⟩
theorem d_M_init_694 : decode Y_M_init.2.1 694 = .ok (.aload_n 0, 1) ∧ 694 + 1 = 695 := ⟨wri_31.2.2.2.2.2.2.2.2.2.2.2.2.2.2.2.2.2.2.2.2.2.2.1, rfl⟩
theorem d_M_init_695 : decode Y_M_init.2.1 695 = .ok (.bipush 10, 2) ∧ 695 + 2 = 697 := ⟨wri_31.2.2.2.2.2.2.2.2.2.2.2.2.2.2.2.2.2.2.2.2.2.2.2.1, rfl⟩
theorem d_M_init_640 : decode Y_M_init.2.1 640 = .ok (.newarray .int, 2) ∧ 640 + 2 = 642 := by decide +kernel
theorem d_M_init_649 : decode Y_M_init.2.1 649 = .ok (.newarray .int, 2) ∧ 649 + 2 = 651 := by decide +kernel
theorem d_M_init_657 : decode Y_M_init.2.1 657 = .ok (.newarray .int, 2) ∧ 657 + 2 = 659 := by decide +kernel
theorem d_M_init_665 : decode Y_M_init.2.1 665 = .ok (.newarray .int, 2) ∧ 665 + 2 = 667 := by decide +kernel
theorem d_M_init_673 : decode Y_M_init.2.1 673 = .ok (.newarray .int, 2) ∧ 673 + 2 = 675 := by decide +kernel
theorem d_M_init_681 : decode Y_M_init.2.1 681 = .ok (.newarray .int, 2) ∧ 681 + 2 = 683 := by decide +kernel
theorem d_M_init_689 : decode Y_M_init.2.1 689 = .ok (.newarray .int, 2) ∧ 689 + 2 = 691 := by decide +kernel
theorem d_M_init_697 : decode Y_M_init.2.1 697 = .ok (.newarray .int, 2) ∧ 697 + 2 = 699 := by decide +kernel
theorem wri_32 : wAll Y_M_init.2.1 699 [(0, (.putfield 262, 3)), (3, (.aload_n 0, 1)), (4, (.bipush 10, 2)), (8, (.putfield 265, 3)), (11, (.aload_n 0, 1)), (12, (.sipush 800, 3)), (17, (.putfield 268, 3)), (20, (.aload_n 0, 1)), (21, (.iconst 4, 1)), (24, (.putfield 271, 3)), (27, (.aload_n 0, 1)), (28, (.bipush 61, 2)), (32, (.putfield 274, 3)), (35, (.aload_n 0, 1)), (36, (.bipush 20, 2)), (40, (.putfield 277, 3)), (43, (.aload_n 0, 1)), (44, (.sipush 160, 3)), (49, (.putfield 280, 3)), (52, (.aload_n 0, 1)), (53, (.iconst 4, 1)), (56, (.putfield 283, 3)), (59, (.aload_n 0, 1)), (60, (.bipush 16, 2))] := wAll_enc (by decide +kernel)
theorem d_M_init_699 : decode Y_M_init.2.1 699 = .ok (.putfield 262, 3) ∧ 699 + 3 = 702 := ⟨wri_32.1, rfl⟩
theorem d_M_init_702 : decode Y_M_init.2.1 702 = .ok (.aload_n 0, 1) ∧ 702 + 1 = 703 := ⟨wri_32.2.1, rfl⟩
theorem d_M_init_703 : decode Y_M_init.2.1 703 = .ok (.bipush 10, 2) ∧ 703 + 2 = 705 := ⟨wri_32.2.2.1, rfl⟩
theorem d_M_init_707 : decode Y_M_init.2.1 707 = .ok (.putfield 265, 3) ∧ 707 + 3 = 710 := ⟨wri_32.2.2.2.1, rfl⟩
theorem d_M_init_710 : decode Y_M_init.2.1 710 = .ok (.aload_n 0, 1) ∧ 710 + 1 = 711 := ⟨wri_32.2.2.2.2.1, rfl⟩
theorem d_M_init_711 : decode Y_M_init.2.1 711 = .ok (.sipush 800, 3) ∧ 711 + 3 = 714 := ⟨wri_32.2.2.2.2.2.1, rfl⟩
theorem d_M_init_716 : decode Y_M_init.2.1 716 = .ok (.putfield 268, 3) ∧ 716 + 3 = 719 := ⟨wri_32.2.2.2.2.2.2.1, rfl⟩
theorem d_M_init_719 : decode Y_M_init.2.1 719 = .ok (.aload_n 0, 1) ∧ 719 + 1 = 720 := ⟨wri_32.2.2.2.2.2.2.2.1, rfl⟩
theorem d_M_init_720 : decode Y_M_init.2.1 720 = .ok (.iconst 4, 1) ∧ 720 + 1 = 721 := ⟨wri_32.2.2.2.2.2.2.2.2.1, rfl⟩
theorem d_M_init_723 : decode Y_M_init.2.1 723 = .ok (.putfield 271, 3) ∧ 723 + 3 = 726 := ⟨wri_32.2.2.2.2.2.2.2.2.2.1, rfl⟩
theorem d_M_init_726 : decode Y_M_init.2.1 726 = .ok (.aload_n 0, 1) ∧ 726 + 1 = 727 := ⟨wri_32.2.2.2.2.2.2.2.2.2.2.1, rfl⟩
theorem d_M_init_727 : decode Y_M_init.2.1 727 = .ok (.bipush 61, 2) ∧ 727 + 2 = 729 := ⟨wri_32.2.2.2.2.2.2.2.2.2.2.2.1, rfl⟩
theorem d_M_init_731 : decode Y_M_init.2.1 731 = .ok (.putfield 274, 3) ∧ 731 + 3 = 734 := ⟨wri_32.2.2.2.2.2.2.2.2.2.2.2.2.1, rfl⟩
theorem d_M_init_734 : decode Y_M_init.2.1 734 = .ok (.aload_n 0, 1) ∧ 734 + 1 = 735 := ⟨wri_32.2.2.2.2.2.2.2.2.2.2.2.2.2.1, rfl⟩
theorem d_M_init_735 : decode Y_M_init.2.1 735 = .ok (.bipush 20, 2) ∧ 735 + 2 = 737 := ⟨wri_32.2.2.2.2.2.2.2.2.2.2.2.2.2.2.1, rfl⟩
theorem d_M_init_739 : decode Y_M_init.2.1 739 = .ok (.putfield 277, 3) ∧ 739 + 3 = 742 := ⟨wri_32.2.2.2.2.2.2.2.2.2.2.2.2.2.2.2.1, rfl⟩
theorem d_M_init_742 : decode Y_M_init.2.1 742 = .ok (.aload_n 0, 1) ∧ 742 + 1 = 743 := ⟨wri_32.2.2.2.2.2.2.2.2.2.2.2.2.2.2.2.2.1, rfl⟩
theorem d_M_init_743 : decode Y_M_init.2.1 743 = .ok (.sipush 160, 3) ∧ 743 + 3 = 746 := ⟨wri_32.2.2.2.2.2.2.2.2.2.2.2.2.2.2.2.2.2.1, rfl⟩
theorem d_M_init_748 : decode Y_M_init.2.1 748 = .ok (.putfield 280, 3) ∧ 748 + 3 = 751 := ⟨wri_32.2.2.2.2.2.2.2.2.2.2.2.2.2.2.2.2.2.2.1, rfl⟩
theorem d_M_init_751 : decode Y_M_init.2.1 751 = .ok (.aload_n 0, 1) ∧ 751 + 1 = 752 := ⟨wri_32.2.2.2.2.2.2.2.2.2.2.2.2.2.2.2.2.2.2.2.1, rfl⟩
theorem d_M_init_752 : decode Y_M_init.2.1 752 = .ok (.iconst 4, 1) ∧ 752 + 1 = 753 := ⟨wri_32.2.2.2.2.2.2.2.2.2.2.2.2.2.2.2.2.2.2.2.2.1, rfl⟩
theorem d_M_init_755 : decode Y_M_init.2.1 755 = .ok (.putfield 283, 3) ∧ 755 + 3 = 758 := ⟨wri_32.2.2.2.2.2.2.2.2.2.2.2.2.2.2.2.2.2.2.2.2.2.1, rfl⟩
theorem d_M_init_758 : decode Y_M_init.2.1 758 = .ok (.aload_n 0, 1) ∧ 758 + 1 = 759 := ⟨wri_32.2.2.2.2.2.2.2.2.2.2.2.2.2.2.2.2.2.2.2.2.2.2.1, rfl⟩
theorem d_M_init_759 : decode Y_M_init.2.1 759 = .ok (.bipush 16, 2) ∧ 759 + 2 = 761 := ⟨wri_32.2.2.2.2.2.2.2.2.2.2.2.2.2.2.2.2.2.2.2.2.2.2.2.1, rfl⟩
theorem d_M_init_705 : decode Y_M_init.2.1 705 = .ok (.newarray .int, 2) ∧ 705 + 2 = 707 := by decide +kernel
theorem d_M_init_714 : decode Y_M_init.2.1 714 = .ok (.newarray .int, 2) ∧ 714 + 2 = 716 := by decide +kernel
theorem d_M_init_721 : decode Y_M_init.2.1 721 = .ok (.newarray .int, 2) ∧ 721 + 2 = 723 := by decide +kernel
theorem d_M_init_729 : decode Y_M_init.2.1 729 = .ok (.newarray .int, 2) ∧ 729 + 2 = 731 := by decide +kernel
theorem d_M_init_737 : decode Y_M_init.2.1 737 = .ok (.newarray .long, 2) ∧ 737 + 2 = 739 := by decide +kernel
theorem d_M_init_746 : decode Y_M_init.2.1 746 = .ok (.newarray .int, 2) ∧ 746 + 2 = 748 := by decide +kernel
theorem d_M_init_753 : decode Y_M_init.2.1 753 = .ok (.newarray .int, 2) ∧ 753 + 2 = 755 := by decide +kernel
theorem d_M_init_761 : decode Y_M_init.2.1 761 = .ok (.newarray .boolean, 2) ∧ 761 + 2 = 763 := by decide +kernel
theorem wri_33 : wAll Y_M_init.2.1 763 [(0, (.putfield 286, 3)), (3, (.aload_n 0, 1)), (4, (.iconst 4, 1)), (7, (.putfield 289, 3)), (10, (.aload_n 0, 1)), (11, (.sipush 161, 3)), (16, (.putfield 292, 3)), (19, (.aload_n 0, 1)), (20, (.sipush 3240, 3)), (25, (.putfield 295, 3)), (28, (.aload_n 0, 1)), (29, (.bipush 6, 2)), (33, (.putfield 298, 3)), (36, (.aload_n 0, 1)), (37, (.bipush 12, 2)), (41, (.putfield 301, 3)), (44, (.aload_n 0, 1)), (45, (.bipush 12, 2)), (49, (.putfield 304, 3)), (52, (.aload_n 0, 1)), (53, (.sipush 144, 3)), (58, (.putfield 307, 3)), (61, (.aload_n 0, 1))] := wAll_enc (by decide +kernel)
theorem d_M_init_763 : decode Y_M_init.2.1 763 = .ok (.putfield 286, 3) ∧ 763 + 3 = 766 := ⟨wri_33.1, rfl⟩
theorem d_M_init_766 : decode Y_M_init.2.1 766 = .ok (.aload_n 0, 1) ∧ 766 + 1 = 767 := ⟨wri_33.2.1, rfl⟩
theorem d_M_init_767 : decode Y_M_init.2.1 767 = .ok (.iconst 4, 1) ∧ 767 + 1 = 768 := ⟨wri_33.2.2.1, rfl⟩
theorem d_M_init_770 : decode Y_M_init.2.1 770 = .ok (.putfield 289, 3) ∧ 770 + 3 = 773 := ⟨wri_33.2.2.2.1, rfl⟩
theorem d_M_init_773 : decode Y_M_init.2.1 773 = .ok (.aload_n 0, 1) ∧ 773 + 1 = 774 := ⟨wri_33.2.2.2.2.1, rfl⟩
theorem d_M_init_774 : decode Y_M_init.2.1 774 = .ok (.sipush 161, 3) ∧ 774 + 3 = 777 := ⟨wri_33.2.2.2.2.2.1, rfl⟩
theorem d_M_init_779 : decode Y_M_init.2.1 779 = .ok (.putfield 292, 3) ∧ 779 + 3 = 782 := ⟨wri_33.2.2.2.2.2.2.1, rfl⟩
theorem d_M_init_782 : decode Y_M_init.2.1 782 = .ok (.aload_n 0, 1) ∧ 782 + 1 = 783 := ⟨wri_33.2.2.2.2.2.2.2.1, rfl⟩
theorem d_M_init_783 : decode Y_M_init.2.1 783 = .ok (.sipush 3240, 3) ∧ 783 + 3 = 786 := ⟨wri_33.2.2.2.2.2.2.2.2.1, rfl⟩
theorem d_M_init_788 : decode Y_M_init.2.1 788 = .ok (.putfield 295, 3) ∧ 788 + 3 = 791 := ⟨wri_33.2.2.2.2.2.2.2.2.2.1, rfl⟩
theorem d_M_init_791 : decode Y_M_init.2.1 791 = .ok (.aload_n 0, 1) ∧ 791 + 1 = 792 := ⟨wri_33.2.2.2.2.2.2.2.2.2.2.1, rfl⟩
theorem d_M_init_792 : decode Y_M_init.2.1 792 = .ok (.bipush 6, 2) ∧ 792 + 2 = 794 := ⟨wri_33.2.2.2.2.2.2.2.2.2.2.2.1, rfl⟩
theorem d_M_init_796 : decode Y_M_init.2.1 796 = .ok (.putfield 298, 3) ∧ 796 + 3 = 799 := ⟨wri_33.2.2.2.2.2.2.2.2.2.2.2.2.1, rfl⟩
theorem d_M_init_799 : decode Y_M_init.2.1 799 = .ok (.aload_n 0, 1) ∧ 799 + 1 = 800 := ⟨wri_33.2.2.2.2.2.2.2.2.2.2.2.2.2.1, rfl⟩
theorem d_M_init_800 : decode Y_M_init.2.1 800 = .ok (.bipush 12, 2) ∧ 800 + 2 = 802 := ⟨wri_33.2.2.2.2.2.2.2.2.2.2.2.2.2.2.1, rfl⟩
theorem d_M_init_804 : decode Y_M_init.2.1 804 = .ok (.putfield 301, 3) ∧ 804 + 3 = 807 := ⟨wri_33.2.2.2.2.2.2.2.2.2.2.2.2.2.2.2.1, rfl⟩
theorem d_M_init_807 : decode Y_M_init.2.1 807 = .ok (.aload_n 0, 1) ∧ 807 + 1 = 808 := ⟨wri_33.2.2.2.2.2.2.2.2.2.2.2.2.2.2.2.2.1, rfl⟩
theorem d_M_init_808 : decode Y_M_init.2.1 808 = .ok (.bipush 12, 2) ∧ 808 + 2 = 810 := ⟨wri_33.2.2.2.2.2.2.2.2.2.2.2.2.2.2.2.2.2.1, rfl⟩
theorem d_M_init_812 : decode Y_M_init.2.1 812 = .ok (.putfield 304, 3) ∧ 812 + 3 = 815 := ⟨wri_33.2.2.2.2.2.2.2.2.2.2.2.2.2.2.2.2.2.2.1, rfl⟩
theorem d_M_init_815 : decode Y_M_init.2.1 815 = .ok (.aload_n 0, 1) ∧ 815 + 1 = 816 := ⟨wri_33.2.2.2.2.2.2.2.2.2.2.2.2.2.2.2.2.2.2.2.1, rfl⟩
theorem d_M_init_816 : decode Y_M_init.2.1 816 = .ok (.sipush 144, 3) ∧ 816 + 3 = 819 := ⟨wri_33.2.2.2.2.2.2.2.2.2.2.2.2.2.2.2.2.2.2.2.2.1, rfl⟩
theorem d_M_init_821 : decode Y_M_init.2.1 821 = .ok (.putfield 307, 3) ∧ 821 + 3 = 824 := ⟨wri_33.2.2.2.2.2.2.2.2.2.2.2.2.2.2.2.2.2.2.2.2.2.1, rfl⟩
theorem d_M_init_824 : decode Y_M_init.2.1 824 = .ok (.aload_n 0, 1) ∧ 824 + 1 = 825 := ⟨wri_33.2.2.2.2.2.2.2.2.2.2.2.2.2.2.2.2.2.2.2.2.2.2.1, rfl⟩
theorem d_M_init_768 : decode Y_M_init.2.1 768 = .ok (.newarray .boolean, 2) ∧ 768 + 2 = 770 := by decide +kernel
theorem d_M_init_777 : decode Y_M_init.2.1 777 = .ok (.newarray .int, 2) ∧ 777 + 2 = 779 := by decide +kernel
theorem d_M_init_786 : decode Y_M_init.2.1 786 = .ok (.newarray .long, 2) ∧ 786 + 2 = 788 := by decide +kernel
theorem d_M_init_794 : decode Y_M_init.2.1 794 = .ok (.newarray .int, 2) ∧ 794 + 2 = 796 := by decide +kernel
theorem d_M_init_802 : decode Y_M_init.2.1 802 = .ok (.newarray .int, 2) ∧ 802 + 2 = 804 := by decide +kernel
theorem d_M_init_810 : decode Y_M_init.2.1 810 = .ok (.newarray .int, 2) ∧ 810 + 2 = 812 := by decide +kernel
theorem d_M_init_819 : decode Y_M_init.2.1 819 = .ok (.newarray .int, 2) ∧ 819 + 2 = 821 := by decide +kernel
theorem wri_34 : wAll Y_M_init.2.1 825 [(0, (.sipush 144, 3)), (5, (.putfield 310, 3)), (8, (.aload_n 0, 1)), (9, (.sipush 144, 3)), (14, (.putfield 313, 3)), (17, (.aload_n 0, 1)), (18, (.bipush 20, 2)), (22, (.putfield 316, 3)), (25, (.aload_n 0, 1)), (26, (.bipush 20, 2)), (30, (.putfield 319, 3)), (33, (.aload_n 0, 1)), (34, (.bipush 20, 2)), (38, (.putfield 322, 3)), (41, (.aload_n 0, 1)), (42, (.bipush 20, 2)), (46, (.putfield 325, 3)), (49, (.aload_n 0, 1)), (50, (.bipush 8, 2)), (54, (.putfield 328, 3))] := wAll_enc (by decide +kernel)
theorem d_M_init_825 : decode Y_M_init.2.1 825 = .ok (.sipush 144, 3) ∧ 825 + 3 = 828 := ⟨wri_34.1, rfl⟩
theorem d_M_init_830 : decode Y_M_init.2.1 830 = .ok (.putfield 310, 3) ∧ 830 + 3 = 833 := ⟨wri_34.2.1, rfl⟩
theorem d_M_init_833 : decode Y_M_init.2.1 833 = .ok (.aload_n 0, 1) ∧ 833 + 1 = 834 := ⟨wri_34.2.2.1, rfl⟩
theorem d_M_init_834 : decode Y_M_init.2.1 834 = .ok (.sipush 144, 3) ∧ 834 + 3 = 837 := ⟨wri_34.2.2.2.1, rfl⟩
theorem d_M_init_839 : decode Y_M_init.2.1 839 = .ok (.putfield 313, 3) ∧ 839 + 3 = 842 := ⟨wri_34.2.2.2.2.1, rfl⟩
theorem d_M_init_842 : decode Y_M_init.2.1 842 = .ok (.aload_n 0, 1) ∧ 842 + 1 = 843 := ⟨wri_34.2.2.2.2.2.1, rfl⟩
theorem d_M_init_843 : decode Y_M_init.2.1 843 = .ok (.bipush 20, 2) ∧ 843 + 2 = 845 := ⟨wri_34.2.2.2.2.2.2.1, rfl⟩
theorem d_M_init_847 : decode Y_M_init.2.1 847 = .ok (.putfield 316, 3) ∧ 847 + 3 = 850 := ⟨wri_34.2.2.2.2.2.2.2.1, rfl⟩
theorem d_M_init_850 : decode Y_M_init.2.1 850 = .ok (.aload_n 0, 1) ∧ 850 + 1 = 851 := ⟨wri_34.2.2.2.2.2.2.2.2.1, rfl⟩
theorem d_M_init_851 : decode Y_M_init.2.1 851 = .ok (.bipush 20, 2) ∧ 851 + 2 = 853 := ⟨wri_34.2.2.2.2.2.2.2.2.2.1, rfl⟩
theorem d_M_init_855 : decode Y_M_init.2.1 855 = .ok (.putfield 319, 3) ∧ 855 + 3 = 858 := ⟨wri_34.2.2.2.2.2.2.2.2.2.2.1, rfl⟩
theorem d_M_init_858 : decode Y_M_init.2.1 858 = .ok (.aload_n 0, 1) ∧ 858 + 1 = 859 := ⟨wri_34.2.2.2.2.2.2.2.2.2.2.2.1, rfl⟩
theorem d_M_init_859 : decode Y_M_init.2.1 859 = .ok (.bipush 20, 2) ∧ 859 + 2 = 861 := ⟨wri_34.2.2.2.2.2.2.2.2.2.2.2.2.1, rfl⟩
theorem d_M_init_863 : decode Y_M_init.2.1 863 = .ok (.putfield 322, 3) ∧ 863 + 3 = 866 := ⟨wri_34.2.2.2.2.2.2.2.2.2.2.2.2.2.1, rfl⟩
theorem d_M_init_866 : decode Y_M_init.2.1 866 = .ok (.aload_n 0, 1) ∧ 866 + 1 = 867 := ⟨wri_34.2.2.2.2.2.2.2.2.2.2.2.2.2.2.1, rfl⟩
theorem d_M_init_867 : decode Y_M_init.2.1 867 = .ok (.bipush 20, 2) ∧ 867 + 2 = 869 := ⟨wri_34.2.2.2.2.2.2.2.2.2.2.2.2.2.2.2.1, rfl⟩
theorem d_M_init_871 : decode Y_M_init.2.1 871 = .ok (.putfield 325, 3) ∧ 871 + 3 = 874 := ⟨wri_34.2.2.2.2.2.2.2.2.2.2.2.2.2.2.2.2.1, rfl⟩
theorem d_M_init_874 : decode Y_M_init.2.1 874 = .ok (.aload_n 0, 1) ∧ 874 + 1 = 875 := ⟨wri_34.2.2.2.2.2.2.2.2.2.2.2.2.2.2.2.2.2.1, rfl⟩
theorem d_M_init_875 : decode Y_M_init.2.1 875 = .ok (.bipush 8, 2) ∧ 875 + 2 = 877 := ⟨wri_34.2.2.2.2.2.2.2.2.2.2.2.2.2.2.2.2.2.2.1, rfl⟩
theorem d_M_init_879 : decode Y_M_init.2.1 879 = .ok (.putfield 328, 3) ∧ 879 + 3 = 882 := ⟨wri_34.2.2.2.2.2.2.2.2.2.2.2.2.2.2.2.2.2.2.2.1, rfl⟩
theorem d_M_init_828 : decode Y_M_init.2.1 828 = .ok (.newarray .int, 2) ∧ 828 + 2 = 830 := by decide +kernel
theorem d_M_init_837 : decode Y_M_init.2.1 837 = .ok (.newarray .int, 2) ∧ 837 + 2 = 839 := by decide +kernel
theorem d_M_init_845 : decode Y_M_init.2.1 845 = .ok (.newarray .int, 2) ∧ 845 + 2 = 847 := by decide +kernel
theorem d_M_init_853 : decode Y_M_init.2.1 853 = .ok (.newarray .int, 2) ∧ 853 + 2 = 855 := by decide +kernel
theorem d_M_init_861 : decode Y_M_init.2.1 861 = .ok (.newarray .int, 2) ∧ 861 + 2 = 863 := by decide +kernel
theorem d_M_init_869 : decode Y_M_init.2.1 869 = .ok (.newarray .int, 2) ∧ 869 + 2 = 871 := by decide +kernel
theorem d_M_init_877 : decode Y_M_init.2.1 877 = .ok (.newarray .int, 2) ∧ 877 + 2 = 879 := by decide +kernel
theorem d_M_init_882 : decode Y_M_init.2.1 882 = .ok (.return_, 1) := by decide +kernel
theorem n_Wh_init {E : xV} {A : List (Nat × (Nat × Int32))} {B : List (Nat × (Nat × Nat))} (hA : xlt 6 A) (hB : xlt 6 B) {K : xK} (h : K none 10 (s0 A ((5, (6, 10)) :: ((5, (5, 9)) :: ((5, (4, 8)) :: ((5, (3, 7)) :: B)))))) : Cx E Y_Wh_init [.ref 5] 6 (s0 A B) K := by
  refine x_entry (by decide) (fun a => Nat.le_of_ble_eq_true rfl) rfl ?_
  refine y_aload_n (q := 0) d_Wh_init_0 rfl rfl ?_
  refine y_objInit d_Wh_init_1 k_1_35 k_1_28 k_1_29 (Nat.le_of_ble_eq_true rfl) (Nat.le_of_ble_eq_true rfl) (Nat.le_of_ble_eq_true rfl) ?_
  refine y_aload_n (q := 0) d_Wh_init_4 rfl rfl ?_
  refine y_sipush (v := 1206) d_Wh_init_5 (by decide) ?_
  refine n_newi (z := 1206) (n' := 7) (cs' := 1) (ss' := 1206) hA hB (by decide) d_Wh_init_8 k_1_72 (by decide) (by decide) (by decide) rfl (Nat.le_of_ble_eq_true rfl) (Nat.le_of_ble_eq_true rfl) rfl rfl ⟨rfl, rfl, rfl⟩ ?_
  have hA := hA.le (show 6 ≤ 7 from by decide)
  have hB := hB.le (show 6 ≤ 7 from by decide)
  refine n_putrF (j := 3) (v := 7) fl_Wh_13 rfl rfl (by decide) (by decide) rfl (by decide) rfl (fun _ => rfl) (fun _ => rfl) rfl d_Wh_init_10 ?_
  have hB := hB.cons (k := 5) (v := (3, 7)) (by decide)
  refine y_aload_n (q := 0) d_Wh_init_13 rfl rfl ?_
  refine y_sipush (v := 480) d_Wh_init_14 (by decide) ?_
  refine n_newi (z := 480) (n' := 8) (cs' := 2) (ss' := 1686) hA hB (by decide) d_Wh_init_17 k_1_72 (by decide) (by decide) (by decide) rfl (Nat.le_of_ble_eq_true rfl) (Nat.le_of_ble_eq_true rfl) rfl rfl ⟨rfl, rfl, rfl⟩ ?_
  have hA := hA.le (show 7 ≤ 8 from by decide)
  have hB := hB.le (show 7 ≤ 8 from by decide)
  refine n_putrF (j := 4) (v := 8) fl_Wh_17 rfl rfl (by decide) (by decide) rfl (by decide) rfl (fun _ => rfl) (fun _ => rfl) rfl d_Wh_init_19 ?_
  have hB := hB.cons (k := 5) (v := (4, 8)) (by decide)
  refine y_aload_n (q := 0) d_Wh_init_22 rfl rfl ?_
  refine y_sipush (v := 480) d_Wh_init_23 (by decide) ?_
  refine n_newi (z := 480) (n' := 9) (cs' := 3) (ss' := 2166) hA hB (by decide) d_Wh_init_26 k_1_72 (by decide) (by decide) (by decide) rfl (Nat.le_of_ble_eq_true rfl) (Nat.le_of_ble_eq_true rfl) rfl rfl ⟨rfl, rfl, rfl⟩ ?_
  have hA := hA.le (show 8 ≤ 9 from by decide)
  have hB := hB.le (show 8 ≤ 9 from by decide)
  refine n_putrF (j := 5) (v := 9) fl_Wh_20 rfl rfl (by decide) (by decide) rfl (by decide) rfl (fun _ => rfl) (fun _ => rfl) rfl d_Wh_init_28 ?_
  have hB := hB.cons (k := 5) (v := (5, 9)) (by decide)
  refine y_aload_n (q := 0) d_Wh_init_31 rfl rfl ?_
  refine y_sipush (v := 9600) d_Wh_init_32 (by decide) ?_
  refine n_newj (z := 9600) (n' := 10) (cs' := 4) (ss' := 11766) hA hB (by decide) d_Wh_init_35 k_1_73 (by decide) (by decide) (by decide) rfl (Nat.le_of_ble_eq_true rfl) (Nat.le_of_ble_eq_true rfl) rfl rfl ⟨rfl, rfl, rfl⟩ ?_
  have hA := hA.le (show 9 ≤ 10 from by decide)
  have hB := hB.le (show 9 ≤ 10 from by decide)
  refine n_putrF (j := 6) (v := 10) fl_Wh_23 rfl rfl (by decide) (by decide) rfl (by decide) rfl (fun _ => rfl) (fun _ => rfl) rfl d_Wh_init_37 ?_
  have hB := hB.cons (k := 5) (v := (6, 10)) (by decide)
  exact x_vret rfl d_Wh_init_40 (Nat.le_of_ble_eq_true rfl) (Nat.le_of_ble_eq_true rfl) h
theorem n_Th_closeHolds {E : xV} {B : List (Nat × (Nat × Nat))}  (r_10_6 : la B 10 6 = 16 + 1) (r_10_5 : la B 10 5 = 15 + 1) (hB : xlt 17 B) {K : xK} (h : K none 17 (s0 ((16, (5, 63)) :: ((16, (5, 63)) :: ((16, (4, 16)) :: ((16, (5, 63)) :: ((16, (3, 8)) :: ((16, (5, 63)) :: ((16, (2, 4)) :: ((16, (5, 63)) :: ((16, (1, 3)) :: ((16, (5, 63)) :: ((16, (1, 3)) :: ((16, (0, 1)) :: ((16, (5, 63)) :: ((16, (4, 16)) :: ((16, (3, 8)) :: ((16, (2, 4)) :: ((16, (1, 3)) :: ((16, (0, 1)) :: ((15, (1, 1)) :: ((15, (5, 63)) :: ((10, (0, 1)) :: ((12, (0, (-4))) :: ((11, (0, (-4))) :: []))))))))))))))))))))))) B)) : Cx E Y_Th_closeHolds [.ref 10] 17 (s0 ((15, (1, 1)) :: ((15, (5, 63)) :: ((10, (0, 1)) :: ((12, (0, (-4))) :: ((11, (0, (-4))) :: []))))) B) K := by
  have hA : xlt 17 (((15, (1, 1)) :: ((15, (5, 63)) :: ((10, (0, 1)) :: ((12, (0, (-4))) :: ((11, (0, (-4))) :: []))))) : List (Nat × (Nat × Int32))) := (((((xlt.nil).cons (k := 11) (v := (0, (-4))) (by decide)).cons (k := 12) (v := (0, (-4))) (by decide)).cons (k := 10) (v := (0, 1)) (by decide)).cons (k := 15) (v := (5, 63)) (by decide)).cons (k := 15) (v := (1, 1)) (by decide)
  refine x_entry (by decide) (fun a => Nat.le_of_ble_eq_true rfl) rfl ?_
  refine y_iconst (v := 0) d_Th_closeHolds_0 (by decide) ?_
  refine y_istore_n (lv' := [(1, .int 0), (0, .ref 10)]) d_Th_closeHolds_1 rfl (by decide) rfl ?_
  refine y_iload_n (q := 0) d_Th_closeHolds_2 rfl rfl ?_
  refine y_bipush (v := 6) d_Th_closeHolds_3 (by decide) ?_
  refine y_icmp_ge (tgt := 30) d_Th_closeHolds_5 (fun c => absurd c (by decide)) (fun _ => ?_)
  refine y_aload_n (q := 1) d_Th_closeHolds_8 rfl rfl ?_
  refine n_getr (j := 6) (i := 16) fl_Th_28 (by decide) rfl (by decide) rfl r_10_6 d_Th_closeHolds_9 ?_
  refine y_iload_n (q := 0) d_Th_closeHolds_12 rfl rfl ?_
  refine y_aload_n (q := 1) d_Th_closeHolds_13 rfl rfl ?_
  refine n_getr (j := 5) (i := 15) fl_Th_25 (by decide) rfl (by decide) rfl r_10_5 d_Th_closeHolds_14 ?_
  refine y_iload_n (q := 0) d_Th_closeHolds_17 rfl rfl ?_
  refine n_iald (z := 6) (j := 0) (x := 0) (by decide) rfl (vp_d rfl) (by decide) rfl d_Th_closeHolds_18 ?_
  refine y_iconst (v := 1) d_Th_closeHolds_19 (by decide) ?_
  refine y_iload_n (q := 0) d_Th_closeHolds_20 rfl rfl ?_
  refine y_ishl d_Th_closeHolds_21 ?_
  refine y_topi (v := 1) (by decide) ?_
  refine y_ior d_Th_closeHolds_22 ?_
  refine y_topi (v := 1) (by decide) ?_
  refine n_iast (z := 6) (j := 0) (by decide) rfl (vp_d rfl) (by decide) d_Th_closeHolds_23 ?_
  have hA := hA.cons (k := 16) (v := (0, 1)) (by decide)
  refine y_iinc (q := 0) (v := 1) (lv' := [(1, .int 1), (0, .ref 10)]) d_Th_closeHolds_24 rfl (by decide) (by decide) rfl ?_
  refine y_goto (tgt := 2) d_Th_closeHolds_27 ?_
  refine y_iload_n (q := 0) d_Th_closeHolds_2 rfl rfl ?_
  refine y_bipush (v := 6) d_Th_closeHolds_3 (by decide) ?_
  refine y_icmp_ge (tgt := 30) d_Th_closeHolds_5 (fun c => absurd c (by decide)) (fun _ => ?_)
  refine y_aload_n (q := 1) d_Th_closeHolds_8 rfl rfl ?_
  refine n_getr (j := 6) (i := 16) fl_Th_28 (by decide) rfl (by decide) rfl r_10_6 d_Th_closeHolds_9 ?_
  refine y_iload_n (q := 0) d_Th_closeHolds_12 rfl rfl ?_
  refine y_aload_n (q := 1) d_Th_closeHolds_13 rfl rfl ?_
  refine n_getr (j := 5) (i := 15) fl_Th_25 (by decide) rfl (by decide) rfl r_10_5 d_Th_closeHolds_14 ?_
  refine y_iload_n (q := 0) d_Th_closeHolds_17 rfl rfl ?_
  refine n_iald (z := 6) (j := 1) (x := 1) (by decide) rfl (vp_d rfl) (by decide) rfl d_Th_closeHolds_18 ?_
  refine y_iconst (v := 1) d_Th_closeHolds_19 (by decide) ?_
  refine y_iload_n (q := 0) d_Th_closeHolds_20 rfl rfl ?_
  refine y_ishl d_Th_closeHolds_21 ?_
  refine y_topi (v := 2) (by decide) ?_
  refine y_ior d_Th_closeHolds_22 ?_
  refine y_topi (v := 3) (by decide) ?_
  refine n_iast (z := 6) (j := 1) (by decide) rfl (vp_d rfl) (by decide) d_Th_closeHolds_23 ?_
  have hA := hA.cons (k := 16) (v := (1, 3)) (by decide)
  refine y_iinc (q := 0) (v := 2) (lv' := [(1, .int 2), (0, .ref 10)]) d_Th_closeHolds_24 rfl (by decide) (by decide) rfl ?_
  refine y_goto (tgt := 2) d_Th_closeHolds_27 ?_
  refine y_iload_n (q := 0) d_Th_closeHolds_2 rfl rfl ?_
  refine y_bipush (v := 6) d_Th_closeHolds_3 (by decide) ?_
  refine y_icmp_ge (tgt := 30) d_Th_closeHolds_5 (fun c => absurd c (by decide)) (fun _ => ?_)
  refine y_aload_n (q := 1) d_Th_closeHolds_8 rfl rfl ?_
  refine n_getr (j := 6) (i := 16) fl_Th_28 (by decide) rfl (by decide) rfl r_10_6 d_Th_closeHolds_9 ?_
  refine y_iload_n (q := 0) d_Th_closeHolds_12 rfl rfl ?_
  refine y_aload_n (q := 1) d_Th_closeHolds_13 rfl rfl ?_
  refine n_getr (j := 5) (i := 15) fl_Th_25 (by decide) rfl (by decide) rfl r_10_5 d_Th_closeHolds_14 ?_
  refine y_iload_n (q := 0) d_Th_closeHolds_17 rfl rfl ?_
  refine n_iald (z := 6) (j := 2) (x := 0) (by decide) rfl (vp_d rfl) (by decide) rfl d_Th_closeHolds_18 ?_
  refine y_iconst (v := 1) d_Th_closeHolds_19 (by decide) ?_
  refine y_iload_n (q := 0) d_Th_closeHolds_20 rfl rfl ?_
  refine y_ishl d_Th_closeHolds_21 ?_
  refine y_topi (v := 4) (by decide) ?_
  refine y_ior d_Th_closeHolds_22 ?_
  refine y_topi (v := 4) (by decide) ?_
  refine n_iast (z := 6) (j := 2) (by decide) rfl (vp_d rfl) (by decide) d_Th_closeHolds_23 ?_
  have hA := hA.cons (k := 16) (v := (2, 4)) (by decide)
  refine y_iinc (q := 0) (v := 3) (lv' := [(1, .int 3), (0, .ref 10)]) d_Th_closeHolds_24 rfl (by decide) (by decide) rfl ?_
  refine y_goto (tgt := 2) d_Th_closeHolds_27 ?_
  refine y_iload_n (q := 0) d_Th_closeHolds_2 rfl rfl ?_
  refine y_bipush (v := 6) d_Th_closeHolds_3 (by decide) ?_
  refine y_icmp_ge (tgt := 30) d_Th_closeHolds_5 (fun c => absurd c (by decide)) (fun _ => ?_)
  refine y_aload_n (q := 1) d_Th_closeHolds_8 rfl rfl ?_
  refine n_getr (j := 6) (i := 16) fl_Th_28 (by decide) rfl (by decide) rfl r_10_6 d_Th_closeHolds_9 ?_
  refine y_iload_n (q := 0) d_Th_closeHolds_12 rfl rfl ?_
  refine y_aload_n (q := 1) d_Th_closeHolds_13 rfl rfl ?_
  refine n_getr (j := 5) (i := 15) fl_Th_25 (by decide) rfl (by decide) rfl r_10_5 d_Th_closeHolds_14 ?_
  refine y_iload_n (q := 0) d_Th_closeHolds_17 rfl rfl ?_
  refine n_iald (z := 6) (j := 3) (x := 0) (by decide) rfl (vp_d rfl) (by decide) rfl d_Th_closeHolds_18 ?_
  refine y_iconst (v := 1) d_Th_closeHolds_19 (by decide) ?_
  refine y_iload_n (q := 0) d_Th_closeHolds_20 rfl rfl ?_
  refine y_ishl d_Th_closeHolds_21 ?_
  refine y_topi (v := 8) (by decide) ?_
  refine y_ior d_Th_closeHolds_22 ?_
  refine y_topi (v := 8) (by decide) ?_
  refine n_iast (z := 6) (j := 3) (by decide) rfl (vp_d rfl) (by decide) d_Th_closeHolds_23 ?_
  have hA := hA.cons (k := 16) (v := (3, 8)) (by decide)
  refine y_iinc (q := 0) (v := 4) (lv' := [(1, .int 4), (0, .ref 10)]) d_Th_closeHolds_24 rfl (by decide) (by decide) rfl ?_
  refine y_goto (tgt := 2) d_Th_closeHolds_27 ?_
  refine y_iload_n (q := 0) d_Th_closeHolds_2 rfl rfl ?_
  refine y_bipush (v := 6) d_Th_closeHolds_3 (by decide) ?_
  refine y_icmp_ge (tgt := 30) d_Th_closeHolds_5 (fun c => absurd c (by decide)) (fun _ => ?_)
  refine y_aload_n (q := 1) d_Th_closeHolds_8 rfl rfl ?_
  refine n_getr (j := 6) (i := 16) fl_Th_28 (by decide) rfl (by decide) rfl r_10_6 d_Th_closeHolds_9 ?_
  refine y_iload_n (q := 0) d_Th_closeHolds_12 rfl rfl ?_
  refine y_aload_n (q := 1) d_Th_closeHolds_13 rfl rfl ?_
  refine n_getr (j := 5) (i := 15) fl_Th_25 (by decide) rfl (by decide) rfl r_10_5 d_Th_closeHolds_14 ?_
  refine y_iload_n (q := 0) d_Th_closeHolds_17 rfl rfl ?_
  refine n_iald (z := 6) (j := 4) (x := 0) (by decide) rfl (vp_d rfl) (by decide) rfl d_Th_closeHolds_18 ?_
  refine y_iconst (v := 1) d_Th_closeHolds_19 (by decide) ?_
  refine y_iload_n (q := 0) d_Th_closeHolds_20 rfl rfl ?_
  refine y_ishl d_Th_closeHolds_21 ?_
  refine y_topi (v := 16) (by decide) ?_
  refine y_ior d_Th_closeHolds_22 ?_
  refine y_topi (v := 16) (by decide) ?_
  refine n_iast (z := 6) (j := 4) (by decide) rfl (vp_d rfl) (by decide) d_Th_closeHolds_23 ?_
  have hA := hA.cons (k := 16) (v := (4, 16)) (by decide)
  refine y_iinc (q := 0) (v := 5) (lv' := [(1, .int 5), (0, .ref 10)]) d_Th_closeHolds_24 rfl (by decide) (by decide) rfl ?_
  refine y_goto (tgt := 2) d_Th_closeHolds_27 ?_
  refine y_iload_n (q := 0) d_Th_closeHolds_2 rfl rfl ?_
  refine y_bipush (v := 6) d_Th_closeHolds_3 (by decide) ?_
  refine y_icmp_ge (tgt := 30) d_Th_closeHolds_5 (fun c => absurd c (by decide)) (fun _ => ?_)
  refine y_aload_n (q := 1) d_Th_closeHolds_8 rfl rfl ?_
  refine n_getr (j := 6) (i := 16) fl_Th_28 (by decide) rfl (by decide) rfl r_10_6 d_Th_closeHolds_9 ?_
  refine y_iload_n (q := 0) d_Th_closeHolds_12 rfl rfl ?_
  refine y_aload_n (q := 1) d_Th_closeHolds_13 rfl rfl ?_
  refine n_getr (j := 5) (i := 15) fl_Th_25 (by decide) rfl (by decide) rfl r_10_5 d_Th_closeHolds_14 ?_
  refine y_iload_n (q := 0) d_Th_closeHolds_17 rfl rfl ?_
  refine n_iald (z := 6) (j := 5) (x := 63) (by decide) rfl (vp_d rfl) (by decide) rfl d_Th_closeHolds_18 ?_
  refine y_iconst (v := 1) d_Th_closeHolds_19 (by decide) ?_
  refine y_iload_n (q := 0) d_Th_closeHolds_20 rfl rfl ?_
  refine y_ishl d_Th_closeHolds_21 ?_
  refine y_topi (v := 32) (by decide) ?_
  refine y_ior d_Th_closeHolds_22 ?_
  refine y_topi (v := 63) (by decide) ?_
  refine n_iast (z := 6) (j := 5) (by decide) rfl (vp_d rfl) (by decide) d_Th_closeHolds_23 ?_
  have hA := hA.cons (k := 16) (v := (5, 63)) (by decide)
  refine y_iinc (q := 0) (v := 6) (lv' := [(1, .int 6), (0, .ref 10)]) d_Th_closeHolds_24 rfl (by decide) (by decide) rfl ?_
  refine y_goto (tgt := 2) d_Th_closeHolds_27 ?_
  refine y_iload_n (q := 0) d_Th_closeHolds_2 rfl rfl ?_
  refine y_bipush (v := 6) d_Th_closeHolds_3 (by decide) ?_
  refine y_icmp_ge (tgt := 30) d_Th_closeHolds_5 (fun _ => ?_) (fun c => absurd (by decide) c)
  refine y_iconst (v := 0) d_Th_closeHolds_30 (by decide) ?_
  refine y_istore_n (lv' := [(1, .int 0), (0, .ref 10)]) d_Th_closeHolds_31 rfl (by decide) rfl ?_
  refine y_iload_n (q := 0) d_Th_closeHolds_32 rfl rfl ?_
  refine y_bipush (v := 6) d_Th_closeHolds_33 (by decide) ?_
  refine y_icmp_ge (tgt := 87) d_Th_closeHolds_35 (fun c => absurd c (by decide)) (fun _ => ?_)
  refine y_iconst (v := 0) d_Th_closeHolds_38 (by decide) ?_
  refine y_istore_n (lv' := [(2, .int 0), (1, .int 0), (0, .ref 10)]) d_Th_closeHolds_39 rfl (by decide) rfl ?_
  refine y_iload_n (q := 0) d_Th_closeHolds_40 rfl rfl ?_
  refine y_bipush (v := 6) d_Th_closeHolds_41 (by decide) ?_
  refine y_icmp_ge (tgt := 81) d_Th_closeHolds_43 (fun c => absurd c (by decide)) (fun _ => ?_)
  refine y_aload_n (q := 2) d_Th_closeHolds_46 rfl rfl ?_
  refine n_getr (j := 6) (i := 16) fl_Th_28 (by decide) rfl (by decide) rfl r_10_6 d_Th_closeHolds_47 ?_
  refine y_iload_n (q := 0) d_Th_closeHolds_50 rfl rfl ?_
  refine n_iald (z := 6) (j := 0) (x := 1) (by decide) rfl (vp_d rfl) (by decide) rfl d_Th_closeHolds_51 ?_
  refine y_iload_n (q := 1) d_Th_closeHolds_52 rfl rfl ?_
  refine y_ishr d_Th_closeHolds_53 ?_
  refine y_topi (v := 1) (by decide) ?_
  refine y_iconst (v := 1) d_Th_closeHolds_54 (by decide) ?_
  refine y_iand d_Th_closeHolds_55 ?_
  refine y_topi (v := 1) (by decide) ?_
  refine y_iconst (v := 1) d_Th_closeHolds_56 (by decide) ?_
  refine y_icmp_ne (tgt := 75) d_Th_closeHolds_57 (fun c => absurd c (by decide)) (fun _ => ?_)
  refine y_aload_n (q := 2) d_Th_closeHolds_60 rfl rfl ?_
  refine n_getr (j := 6) (i := 16) fl_Th_28 (by decide) rfl (by decide) rfl r_10_6 d_Th_closeHolds_61 ?_
  refine y_iload_n (q := 0) d_Th_closeHolds_64 rfl rfl ?_
  refine y_dup2ir d_Th_closeHolds_65 ?_
  refine n_iald (z := 6) (j := 0) (x := 1) (by decide) rfl (vp_d rfl) (by decide) rfl d_Th_closeHolds_66 ?_
  refine y_aload_n (q := 2) d_Th_closeHolds_67 rfl rfl ?_
  refine n_getr (j := 6) (i := 16) fl_Th_28 (by decide) rfl (by decide) rfl r_10_6 d_Th_closeHolds_68 ?_
  refine y_iload_n (q := 1) d_Th_closeHolds_71 rfl rfl ?_
  refine n_iald (z := 6) (j := 0) (x := 1) (by decide) rfl (vp_d rfl) (by decide) rfl d_Th_closeHolds_72 ?_
  refine y_ior d_Th_closeHolds_73 ?_
  refine y_topi (v := 1) (by decide) ?_
  refine n_iast (z := 6) (j := 0) (by decide) rfl (vp_d rfl) (by decide) d_Th_closeHolds_74 ?_
  have hA := hA.cons (k := 16) (v := (0, 1)) (by decide)
  refine y_iinc (q := 0) (v := 1) (lv' := [(2, .int 1), (1, .int 0), (0, .ref 10)]) d_Th_closeHolds_75 rfl (by decide) (by decide) rfl ?_
  refine y_goto (tgt := 40) d_Th_closeHolds_78 ?_
  refine y_iload_n (q := 0) d_Th_closeHolds_40 rfl rfl ?_
  refine y_bipush (v := 6) d_Th_closeHolds_41 (by decide) ?_
  refine y_icmp_ge (tgt := 81) d_Th_closeHolds_43 (fun c => absurd c (by decide)) (fun _ => ?_)
  refine y_aload_n (q := 2) d_Th_closeHolds_46 rfl rfl ?_
  refine n_getr (j := 6) (i := 16) fl_Th_28 (by decide) rfl (by decide) rfl r_10_6 d_Th_closeHolds_47 ?_
  refine y_iload_n (q := 0) d_Th_closeHolds_50 rfl rfl ?_
  refine n_iald (z := 6) (j := 1) (x := 3) (by decide) rfl (vp_d rfl) (by decide) rfl d_Th_closeHolds_51 ?_
  refine y_iload_n (q := 1) d_Th_closeHolds_52 rfl rfl ?_
  refine y_ishr d_Th_closeHolds_53 ?_
  refine y_topi (v := 3) (by decide) ?_
  refine y_iconst (v := 1) d_Th_closeHolds_54 (by decide) ?_
  refine y_iand d_Th_closeHolds_55 ?_
  refine y_topi (v := 1) (by decide) ?_
  refine y_iconst (v := 1) d_Th_closeHolds_56 (by decide) ?_
  refine y_icmp_ne (tgt := 75) d_Th_closeHolds_57 (fun c => absurd c (by decide)) (fun _ => ?_)
  refine y_aload_n (q := 2) d_Th_closeHolds_60 rfl rfl ?_
  refine n_getr (j := 6) (i := 16) fl_Th_28 (by decide) rfl (by decide) rfl r_10_6 d_Th_closeHolds_61 ?_
  refine y_iload_n (q := 0) d_Th_closeHolds_64 rfl rfl ?_
  refine y_dup2ir d_Th_closeHolds_65 ?_
  refine n_iald (z := 6) (j := 1) (x := 3) (by decide) rfl (vp_d rfl) (by decide) rfl d_Th_closeHolds_66 ?_
  refine y_aload_n (q := 2) d_Th_closeHolds_67 rfl rfl ?_
  refine n_getr (j := 6) (i := 16) fl_Th_28 (by decide) rfl (by decide) rfl r_10_6 d_Th_closeHolds_68 ?_
  refine y_iload_n (q := 1) d_Th_closeHolds_71 rfl rfl ?_
  refine n_iald (z := 6) (j := 0) (x := 1) (by decide) rfl (vp_d rfl) (by decide) rfl d_Th_closeHolds_72 ?_
  refine y_ior d_Th_closeHolds_73 ?_
  refine y_topi (v := 3) (by decide) ?_
  refine n_iast (z := 6) (j := 1) (by decide) rfl (vp_d rfl) (by decide) d_Th_closeHolds_74 ?_
  have hA := hA.cons (k := 16) (v := (1, 3)) (by decide)
  refine y_iinc (q := 0) (v := 2) (lv' := [(2, .int 2), (1, .int 0), (0, .ref 10)]) d_Th_closeHolds_75 rfl (by decide) (by decide) rfl ?_
  refine y_goto (tgt := 40) d_Th_closeHolds_78 ?_
  refine y_iload_n (q := 0) d_Th_closeHolds_40 rfl rfl ?_
  refine y_bipush (v := 6) d_Th_closeHolds_41 (by decide) ?_
  refine y_icmp_ge (tgt := 81) d_Th_closeHolds_43 (fun c => absurd c (by decide)) (fun _ => ?_)
  refine y_aload_n (q := 2) d_Th_closeHolds_46 rfl rfl ?_
  refine n_getr (j := 6) (i := 16) fl_Th_28 (by decide) rfl (by decide) rfl r_10_6 d_Th_closeHolds_47 ?_
  refine y_iload_n (q := 0) d_Th_closeHolds_50 rfl rfl ?_
  refine n_iald (z := 6) (j := 2) (x := 4) (by decide) rfl (vp_d rfl) (by decide) rfl d_Th_closeHolds_51 ?_
  refine y_iload_n (q := 1) d_Th_closeHolds_52 rfl rfl ?_
  refine y_ishr d_Th_closeHolds_53 ?_
  refine y_topi (v := 4) (by decide) ?_
  refine y_iconst (v := 1) d_Th_closeHolds_54 (by decide) ?_
  refine y_iand d_Th_closeHolds_55 ?_
  refine y_topi (v := 0) (by decide) ?_
  refine y_iconst (v := 1) d_Th_closeHolds_56 (by decide) ?_
  refine y_icmp_ne (tgt := 75) d_Th_closeHolds_57 (fun _ => ?_) (fun c => absurd c (by decide))
  refine y_iinc (q := 0) (v := 3) (lv' := [(2, .int 3), (1, .int 0), (0, .ref 10)]) d_Th_closeHolds_75 rfl (by decide) (by decide) rfl ?_
  refine y_goto (tgt := 40) d_Th_closeHolds_78 ?_
  refine y_iload_n (q := 0) d_Th_closeHolds_40 rfl rfl ?_
  refine y_bipush (v := 6) d_Th_closeHolds_41 (by decide) ?_
  refine y_icmp_ge (tgt := 81) d_Th_closeHolds_43 (fun c => absurd c (by decide)) (fun _ => ?_)
  refine y_aload_n (q := 2) d_Th_closeHolds_46 rfl rfl ?_
  refine n_getr (j := 6) (i := 16) fl_Th_28 (by decide) rfl (by decide) rfl r_10_6 d_Th_closeHolds_47 ?_
  refine y_iload_n (q := 0) d_Th_closeHolds_50 rfl rfl ?_
  refine n_iald (z := 6) (j := 3) (x := 8) (by decide) rfl (vp_d rfl) (by decide) rfl d_Th_closeHolds_51 ?_
  refine y_iload_n (q := 1) d_Th_closeHolds_52 rfl rfl ?_
  refine y_ishr d_Th_closeHolds_53 ?_
  refine y_topi (v := 8) (by decide) ?_
  refine y_iconst (v := 1) d_Th_closeHolds_54 (by decide) ?_
  refine y_iand d_Th_closeHolds_55 ?_
  refine y_topi (v := 0) (by decide) ?_
  refine y_iconst (v := 1) d_Th_closeHolds_56 (by decide) ?_
  refine y_icmp_ne (tgt := 75) d_Th_closeHolds_57 (fun _ => ?_) (fun c => absurd c (by decide))
  refine y_iinc (q := 0) (v := 4) (lv' := [(2, .int 4), (1, .int 0), (0, .ref 10)]) d_Th_closeHolds_75 rfl (by decide) (by decide) rfl ?_
  refine y_goto (tgt := 40) d_Th_closeHolds_78 ?_
  refine y_iload_n (q := 0) d_Th_closeHolds_40 rfl rfl ?_
  refine y_bipush (v := 6) d_Th_closeHolds_41 (by decide) ?_
  refine y_icmp_ge (tgt := 81) d_Th_closeHolds_43 (fun c => absurd c (by decide)) (fun _ => ?_)
  refine y_aload_n (q := 2) d_Th_closeHolds_46 rfl rfl ?_
  refine n_getr (j := 6) (i := 16) fl_Th_28 (by decide) rfl (by decide) rfl r_10_6 d_Th_closeHolds_47 ?_
  refine y_iload_n (q := 0) d_Th_closeHolds_50 rfl rfl ?_
  refine n_iald (z := 6) (j := 4) (x := 16) (by decide) rfl (vp_d rfl) (by decide) rfl d_Th_closeHolds_51 ?_
  refine y_iload_n (q := 1) d_Th_closeHolds_52 rfl rfl ?_
  refine y_ishr d_Th_closeHolds_53 ?_
  refine y_topi (v := 16) (by decide) ?_
  refine y_iconst (v := 1) d_Th_closeHolds_54 (by decide) ?_
  refine y_iand d_Th_closeHolds_55 ?_
  refine y_topi (v := 0) (by decide) ?_
  refine y_iconst (v := 1) d_Th_closeHolds_56 (by decide) ?_
  refine y_icmp_ne (tgt := 75) d_Th_closeHolds_57 (fun _ => ?_) (fun c => absurd c (by decide))
  refine y_iinc (q := 0) (v := 5) (lv' := [(2, .int 5), (1, .int 0), (0, .ref 10)]) d_Th_closeHolds_75 rfl (by decide) (by decide) rfl ?_
  refine y_goto (tgt := 40) d_Th_closeHolds_78 ?_
  refine y_iload_n (q := 0) d_Th_closeHolds_40 rfl rfl ?_
  refine y_bipush (v := 6) d_Th_closeHolds_41 (by decide) ?_
  refine y_icmp_ge (tgt := 81) d_Th_closeHolds_43 (fun c => absurd c (by decide)) (fun _ => ?_)
  refine y_aload_n (q := 2) d_Th_closeHolds_46 rfl rfl ?_
  refine n_getr (j := 6) (i := 16) fl_Th_28 (by decide) rfl (by decide) rfl r_10_6 d_Th_closeHolds_47 ?_
  refine y_iload_n (q := 0) d_Th_closeHolds_50 rfl rfl ?_
  refine n_iald (z := 6) (j := 5) (x := 63) (by decide) rfl (vp_d rfl) (by decide) rfl d_Th_closeHolds_51 ?_
  refine y_iload_n (q := 1) d_Th_closeHolds_52 rfl rfl ?_
  refine y_ishr d_Th_closeHolds_53 ?_
  refine y_topi (v := 63) (by decide) ?_
  refine y_iconst (v := 1) d_Th_closeHolds_54 (by decide) ?_
  refine y_iand d_Th_closeHolds_55 ?_
  refine y_topi (v := 1) (by decide) ?_
  refine y_iconst (v := 1) d_Th_closeHolds_56 (by decide) ?_
  refine y_icmp_ne (tgt := 75) d_Th_closeHolds_57 (fun c => absurd c (by decide)) (fun _ => ?_)
  refine y_aload_n (q := 2) d_Th_closeHolds_60 rfl rfl ?_
  refine n_getr (j := 6) (i := 16) fl_Th_28 (by decide) rfl (by decide) rfl r_10_6 d_Th_closeHolds_61 ?_
  refine y_iload_n (q := 0) d_Th_closeHolds_64 rfl rfl ?_
  refine y_dup2ir d_Th_closeHolds_65 ?_
  refine n_iald (z := 6) (j := 5) (x := 63) (by decide) rfl (vp_d rfl) (by decide) rfl d_Th_closeHolds_66 ?_
  refine y_aload_n (q := 2) d_Th_closeHolds_67 rfl rfl ?_
  refine n_getr (j := 6) (i := 16) fl_Th_28 (by decide) rfl (by decide) rfl r_10_6 d_Th_closeHolds_68 ?_
  refine y_iload_n (q := 1) d_Th_closeHolds_71 rfl rfl ?_
  refine n_iald (z := 6) (j := 0) (x := 1) (by decide) rfl (vp_d rfl) (by decide) rfl d_Th_closeHolds_72 ?_
  refine y_ior d_Th_closeHolds_73 ?_
  refine y_topi (v := 63) (by decide) ?_
  refine n_iast (z := 6) (j := 5) (by decide) rfl (vp_d rfl) (by decide) d_Th_closeHolds_74 ?_
  have hA := hA.cons (k := 16) (v := (5, 63)) (by decide)
  refine y_iinc (q := 0) (v := 6) (lv' := [(2, .int 6), (1, .int 0), (0, .ref 10)]) d_Th_closeHolds_75 rfl (by decide) (by decide) rfl ?_
  refine y_goto (tgt := 40) d_Th_closeHolds_78 ?_
  refine y_iload_n (q := 0) d_Th_closeHolds_40 rfl rfl ?_
  refine y_bipush (v := 6) d_Th_closeHolds_41 (by decide) ?_
  refine y_icmp_ge (tgt := 81) d_Th_closeHolds_43 (fun _ => ?_) (fun c => absurd (by decide) c)
  refine y_iinc (q := 1) (v := 1) (lv' := [(1, .int 1), (2, .int 6), (0, .ref 10)]) d_Th_closeHolds_81 rfl (by decide) (by decide) rfl ?_
  refine y_goto (tgt := 32) d_Th_closeHolds_84 ?_
  refine y_iload_n (q := 0) d_Th_closeHolds_32 rfl rfl ?_
  refine y_bipush (v := 6) d_Th_closeHolds_33 (by decide) ?_
  refine y_icmp_ge (tgt := 87) d_Th_closeHolds_35 (fun c => absurd c (by decide)) (fun _ => ?_)
  refine y_iconst (v := 0) d_Th_closeHolds_38 (by decide) ?_
  refine y_istore_n (lv' := [(2, .int 0), (1, .int 1), (0, .ref 10)]) d_Th_closeHolds_39 rfl (by decide) rfl ?_
  refine y_iload_n (q := 0) d_Th_closeHolds_40 rfl rfl ?_
  refine y_bipush (v := 6) d_Th_closeHolds_41 (by decide) ?_
  refine y_icmp_ge (tgt := 81) d_Th_closeHolds_43 (fun c => absurd c (by decide)) (fun _ => ?_)
  refine y_aload_n (q := 2) d_Th_closeHolds_46 rfl rfl ?_
  refine n_getr (j := 6) (i := 16) fl_Th_28 (by decide) rfl (by decide) rfl r_10_6 d_Th_closeHolds_47 ?_
  refine y_iload_n (q := 0) d_Th_closeHolds_50 rfl rfl ?_
  refine n_iald (z := 6) (j := 0) (x := 1) (by decide) rfl (vp_d rfl) (by decide) rfl d_Th_closeHolds_51 ?_
  refine y_iload_n (q := 1) d_Th_closeHolds_52 rfl rfl ?_
  refine y_ishr d_Th_closeHolds_53 ?_
  refine y_topi (v := 0) (by decide) ?_
  refine y_iconst (v := 1) d_Th_closeHolds_54 (by decide) ?_
  refine y_iand d_Th_closeHolds_55 ?_
  refine y_topi (v := 0) (by decide) ?_
  refine y_iconst (v := 1) d_Th_closeHolds_56 (by decide) ?_
  refine y_icmp_ne (tgt := 75) d_Th_closeHolds_57 (fun _ => ?_) (fun c => absurd c (by decide))
  refine y_iinc (q := 0) (v := 1) (lv' := [(2, .int 1), (1, .int 1), (0, .ref 10)]) d_Th_closeHolds_75 rfl (by decide) (by decide) rfl ?_
  refine y_goto (tgt := 40) d_Th_closeHolds_78 ?_
  refine y_iload_n (q := 0) d_Th_closeHolds_40 rfl rfl ?_
  refine y_bipush (v := 6) d_Th_closeHolds_41 (by decide) ?_
  refine y_icmp_ge (tgt := 81) d_Th_closeHolds_43 (fun c => absurd c (by decide)) (fun _ => ?_)
  refine y_aload_n (q := 2) d_Th_closeHolds_46 rfl rfl ?_
  refine n_getr (j := 6) (i := 16) fl_Th_28 (by decide) rfl (by decide) rfl r_10_6 d_Th_closeHolds_47 ?_
  refine y_iload_n (q := 0) d_Th_closeHolds_50 rfl rfl ?_
  refine n_iald (z := 6) (j := 1) (x := 3) (by decide) rfl (vp_d rfl) (by decide) rfl d_Th_closeHolds_51 ?_
  refine y_iload_n (q := 1) d_Th_closeHolds_52 rfl rfl ?_
  refine y_ishr d_Th_closeHolds_53 ?_
  refine y_topi (v := 1) (by decide) ?_
  refine y_iconst (v := 1) d_Th_closeHolds_54 (by decide) ?_
  refine y_iand d_Th_closeHolds_55 ?_
  refine y_topi (v := 1) (by decide) ?_
  refine y_iconst (v := 1) d_Th_closeHolds_56 (by decide) ?_
  refine y_icmp_ne (tgt := 75) d_Th_closeHolds_57 (fun c => absurd c (by decide)) (fun _ => ?_)
  refine y_aload_n (q := 2) d_Th_closeHolds_60 rfl rfl ?_
  refine n_getr (j := 6) (i := 16) fl_Th_28 (by decide) rfl (by decide) rfl r_10_6 d_Th_closeHolds_61 ?_
  refine y_iload_n (q := 0) d_Th_closeHolds_64 rfl rfl ?_
  refine y_dup2ir d_Th_closeHolds_65 ?_
  refine n_iald (z := 6) (j := 1) (x := 3) (by decide) rfl (vp_d rfl) (by decide) rfl d_Th_closeHolds_66 ?_
  refine y_aload_n (q := 2) d_Th_closeHolds_67 rfl rfl ?_
  refine n_getr (j := 6) (i := 16) fl_Th_28 (by decide) rfl (by decide) rfl r_10_6 d_Th_closeHolds_68 ?_
  refine y_iload_n (q := 1) d_Th_closeHolds_71 rfl rfl ?_
  refine n_iald (z := 6) (j := 1) (x := 3) (by decide) rfl (vp_d rfl) (by decide) rfl d_Th_closeHolds_72 ?_
  refine y_ior d_Th_closeHolds_73 ?_
  refine y_topi (v := 3) (by decide) ?_
  refine n_iast (z := 6) (j := 1) (by decide) rfl (vp_d rfl) (by decide) d_Th_closeHolds_74 ?_
  have hA := hA.cons (k := 16) (v := (1, 3)) (by decide)
  refine y_iinc (q := 0) (v := 2) (lv' := [(2, .int 2), (1, .int 1), (0, .ref 10)]) d_Th_closeHolds_75 rfl (by decide) (by decide) rfl ?_
  refine y_goto (tgt := 40) d_Th_closeHolds_78 ?_
  refine y_iload_n (q := 0) d_Th_closeHolds_40 rfl rfl ?_
  refine y_bipush (v := 6) d_Th_closeHolds_41 (by decide) ?_
  refine y_icmp_ge (tgt := 81) d_Th_closeHolds_43 (fun c => absurd c (by decide)) (fun _ => ?_)
  refine y_aload_n (q := 2) d_Th_closeHolds_46 rfl rfl ?_
  refine n_getr (j := 6) (i := 16) fl_Th_28 (by decide) rfl (by decide) rfl r_10_6 d_Th_closeHolds_47 ?_
  refine y_iload_n (q := 0) d_Th_closeHolds_50 rfl rfl ?_
  refine n_iald (z := 6) (j := 2) (x := 4) (by decide) rfl (vp_d rfl) (by decide) rfl d_Th_closeHolds_51 ?_
  refine y_iload_n (q := 1) d_Th_closeHolds_52 rfl rfl ?_
  refine y_ishr d_Th_closeHolds_53 ?_
  refine y_topi (v := 2) (by decide) ?_
  refine y_iconst (v := 1) d_Th_closeHolds_54 (by decide) ?_
  refine y_iand d_Th_closeHolds_55 ?_
  refine y_topi (v := 0) (by decide) ?_
  refine y_iconst (v := 1) d_Th_closeHolds_56 (by decide) ?_
  refine y_icmp_ne (tgt := 75) d_Th_closeHolds_57 (fun _ => ?_) (fun c => absurd c (by decide))
  refine y_iinc (q := 0) (v := 3) (lv' := [(2, .int 3), (1, .int 1), (0, .ref 10)]) d_Th_closeHolds_75 rfl (by decide) (by decide) rfl ?_
  refine y_goto (tgt := 40) d_Th_closeHolds_78 ?_
  refine y_iload_n (q := 0) d_Th_closeHolds_40 rfl rfl ?_
  refine y_bipush (v := 6) d_Th_closeHolds_41 (by decide) ?_
  refine y_icmp_ge (tgt := 81) d_Th_closeHolds_43 (fun c => absurd c (by decide)) (fun _ => ?_)
  refine y_aload_n (q := 2) d_Th_closeHolds_46 rfl rfl ?_
  refine n_getr (j := 6) (i := 16) fl_Th_28 (by decide) rfl (by decide) rfl r_10_6 d_Th_closeHolds_47 ?_
  refine y_iload_n (q := 0) d_Th_closeHolds_50 rfl rfl ?_
  refine n_iald (z := 6) (j := 3) (x := 8) (by decide) rfl (vp_d rfl) (by decide) rfl d_Th_closeHolds_51 ?_
  refine y_iload_n (q := 1) d_Th_closeHolds_52 rfl rfl ?_
  refine y_ishr d_Th_closeHolds_53 ?_
  refine y_topi (v := 4) (by decide) ?_
  refine y_iconst (v := 1) d_Th_closeHolds_54 (by decide) ?_
  refine y_iand d_Th_closeHolds_55 ?_
  refine y_topi (v := 0) (by decide) ?_
  refine y_iconst (v := 1) d_Th_closeHolds_56 (by decide) ?_
  refine y_icmp_ne (tgt := 75) d_Th_closeHolds_57 (fun _ => ?_) (fun c => absurd c (by decide))
  refine y_iinc (q := 0) (v := 4) (lv' := [(2, .int 4), (1, .int 1), (0, .ref 10)]) d_Th_closeHolds_75 rfl (by decide) (by decide) rfl ?_
  refine y_goto (tgt := 40) d_Th_closeHolds_78 ?_
  refine y_iload_n (q := 0) d_Th_closeHolds_40 rfl rfl ?_
  refine y_bipush (v := 6) d_Th_closeHolds_41 (by decide) ?_
  refine y_icmp_ge (tgt := 81) d_Th_closeHolds_43 (fun c => absurd c (by decide)) (fun _ => ?_)
  refine y_aload_n (q := 2) d_Th_closeHolds_46 rfl rfl ?_
  refine n_getr (j := 6) (i := 16) fl_Th_28 (by decide) rfl (by decide) rfl r_10_6 d_Th_closeHolds_47 ?_
  refine y_iload_n (q := 0) d_Th_closeHolds_50 rfl rfl ?_
  refine n_iald (z := 6) (j := 4) (x := 16) (by decide) rfl (vp_d rfl) (by decide) rfl d_Th_closeHolds_51 ?_
  refine y_iload_n (q := 1) d_Th_closeHolds_52 rfl rfl ?_
  refine y_ishr d_Th_closeHolds_53 ?_
  refine y_topi (v := 8) (by decide) ?_
  refine y_iconst (v := 1) d_Th_closeHolds_54 (by decide) ?_
  refine y_iand d_Th_closeHolds_55 ?_
  refine y_topi (v := 0) (by decide) ?_
  refine y_iconst (v := 1) d_Th_closeHolds_56 (by decide) ?_
  refine y_icmp_ne (tgt := 75) d_Th_closeHolds_57 (fun _ => ?_) (fun c => absurd c (by decide))
  refine y_iinc (q := 0) (v := 5) (lv' := [(2, .int 5), (1, .int 1), (0, .ref 10)]) d_Th_closeHolds_75 rfl (by decide) (by decide) rfl ?_
  refine y_goto (tgt := 40) d_Th_closeHolds_78 ?_
  refine y_iload_n (q := 0) d_Th_closeHolds_40 rfl rfl ?_
  refine y_bipush (v := 6) d_Th_closeHolds_41 (by decide) ?_
  refine y_icmp_ge (tgt := 81) d_Th_closeHolds_43 (fun c => absurd c (by decide)) (fun _ => ?_)
  refine y_aload_n (q := 2) d_Th_closeHolds_46 rfl rfl ?_
  refine n_getr (j := 6) (i := 16) fl_Th_28 (by decide) rfl (by decide) rfl r_10_6 d_Th_closeHolds_47 ?_
  refine y_iload_n (q := 0) d_Th_closeHolds_50 rfl rfl ?_
  refine n_iald (z := 6) (j := 5) (x := 63) (by decide) rfl (vp_d rfl) (by decide) rfl d_Th_closeHolds_51 ?_
  refine y_iload_n (q := 1) d_Th_closeHolds_52 rfl rfl ?_
  refine y_ishr d_Th_closeHolds_53 ?_
  refine y_topi (v := 31) (by decide) ?_
  refine y_iconst (v := 1) d_Th_closeHolds_54 (by decide) ?_
  refine y_iand d_Th_closeHolds_55 ?_
  refine y_topi (v := 1) (by decide) ?_
  refine y_iconst (v := 1) d_Th_closeHolds_56 (by decide) ?_
  refine y_icmp_ne (tgt := 75) d_Th_closeHolds_57 (fun c => absurd c (by decide)) (fun _ => ?_)
  refine y_aload_n (q := 2) d_Th_closeHolds_60 rfl rfl ?_
  refine n_getr (j := 6) (i := 16) fl_Th_28 (by decide) rfl (by decide) rfl r_10_6 d_Th_closeHolds_61 ?_
  refine y_iload_n (q := 0) d_Th_closeHolds_64 rfl rfl ?_
  refine y_dup2ir d_Th_closeHolds_65 ?_
  refine n_iald (z := 6) (j := 5) (x := 63) (by decide) rfl (vp_d rfl) (by decide) rfl d_Th_closeHolds_66 ?_
  refine y_aload_n (q := 2) d_Th_closeHolds_67 rfl rfl ?_
  refine n_getr (j := 6) (i := 16) fl_Th_28 (by decide) rfl (by decide) rfl r_10_6 d_Th_closeHolds_68 ?_
  refine y_iload_n (q := 1) d_Th_closeHolds_71 rfl rfl ?_
  refine n_iald (z := 6) (j := 1) (x := 3) (by decide) rfl (vp_d rfl) (by decide) rfl d_Th_closeHolds_72 ?_
  refine y_ior d_Th_closeHolds_73 ?_
  refine y_topi (v := 63) (by decide) ?_
  refine n_iast (z := 6) (j := 5) (by decide) rfl (vp_d rfl) (by decide) d_Th_closeHolds_74 ?_
  have hA := hA.cons (k := 16) (v := (5, 63)) (by decide)
  refine y_iinc (q := 0) (v := 6) (lv' := [(2, .int 6), (1, .int 1), (0, .ref 10)]) d_Th_closeHolds_75 rfl (by decide) (by decide) rfl ?_
  refine y_goto (tgt := 40) d_Th_closeHolds_78 ?_
  refine y_iload_n (q := 0) d_Th_closeHolds_40 rfl rfl ?_
  refine y_bipush (v := 6) d_Th_closeHolds_41 (by decide) ?_
  refine y_icmp_ge (tgt := 81) d_Th_closeHolds_43 (fun _ => ?_) (fun c => absurd (by decide) c)
  refine y_iinc (q := 1) (v := 2) (lv' := [(1, .int 2), (2, .int 6), (0, .ref 10)]) d_Th_closeHolds_81 rfl (by decide) (by decide) rfl ?_
  refine y_goto (tgt := 32) d_Th_closeHolds_84 ?_
  refine y_iload_n (q := 0) d_Th_closeHolds_32 rfl rfl ?_
  refine y_bipush (v := 6) d_Th_closeHolds_33 (by decide) ?_
  refine y_icmp_ge (tgt := 87) d_Th_closeHolds_35 (fun c => absurd c (by decide)) (fun _ => ?_)
  refine y_iconst (v := 0) d_Th_closeHolds_38 (by decide) ?_
  refine y_istore_n (lv' := [(2, .int 0), (1, .int 2), (0, .ref 10)]) d_Th_closeHolds_39 rfl (by decide) rfl ?_
  refine y_iload_n (q := 0) d_Th_closeHolds_40 rfl rfl ?_
  refine y_bipush (v := 6) d_Th_closeHolds_41 (by decide) ?_
  refine y_icmp_ge (tgt := 81) d_Th_closeHolds_43 (fun c => absurd c (by decide)) (fun _ => ?_)
  refine y_aload_n (q := 2) d_Th_closeHolds_46 rfl rfl ?_
  refine n_getr (j := 6) (i := 16) fl_Th_28 (by decide) rfl (by decide) rfl r_10_6 d_Th_closeHolds_47 ?_
  refine y_iload_n (q := 0) d_Th_closeHolds_50 rfl rfl ?_
  refine n_iald (z := 6) (j := 0) (x := 1) (by decide) rfl (vp_d rfl) (by decide) rfl d_Th_closeHolds_51 ?_
  refine y_iload_n (q := 1) d_Th_closeHolds_52 rfl rfl ?_
  refine y_ishr d_Th_closeHolds_53 ?_
  refine y_topi (v := 0) (by decide) ?_
  refine y_iconst (v := 1) d_Th_closeHolds_54 (by decide) ?_
  refine y_iand d_Th_closeHolds_55 ?_
  refine y_topi (v := 0) (by decide) ?_
  refine y_iconst (v := 1) d_Th_closeHolds_56 (by decide) ?_
  refine y_icmp_ne (tgt := 75) d_Th_closeHolds_57 (fun _ => ?_) (fun c => absurd c (by decide))
  refine y_iinc (q := 0) (v := 1) (lv' := [(2, .int 1), (1, .int 2), (0, .ref 10)]) d_Th_closeHolds_75 rfl (by decide) (by decide) rfl ?_
  refine y_goto (tgt := 40) d_Th_closeHolds_78 ?_
  refine y_iload_n (q := 0) d_Th_closeHolds_40 rfl rfl ?_
  refine y_bipush (v := 6) d_Th_closeHolds_41 (by decide) ?_
  refine y_icmp_ge (tgt := 81) d_Th_closeHolds_43 (fun c => absurd c (by decide)) (fun _ => ?_)
  refine y_aload_n (q := 2) d_Th_closeHolds_46 rfl rfl ?_
  refine n_getr (j := 6) (i := 16) fl_Th_28 (by decide) rfl (by decide) rfl r_10_6 d_Th_closeHolds_47 ?_
  refine y_iload_n (q := 0) d_Th_closeHolds_50 rfl rfl ?_
  refine n_iald (z := 6) (j := 1) (x := 3) (by decide) rfl (vp_d rfl) (by decide) rfl d_Th_closeHolds_51 ?_
  refine y_iload_n (q := 1) d_Th_closeHolds_52 rfl rfl ?_
  refine y_ishr d_Th_closeHolds_53 ?_
  refine y_topi (v := 0) (by decide) ?_
  refine y_iconst (v := 1) d_Th_closeHolds_54 (by decide) ?_
  refine y_iand d_Th_closeHolds_55 ?_
  refine y_topi (v := 0) (by decide) ?_
  refine y_iconst (v := 1) d_Th_closeHolds_56 (by decide) ?_
  refine y_icmp_ne (tgt := 75) d_Th_closeHolds_57 (fun _ => ?_) (fun c => absurd c (by decide))
  refine y_iinc (q := 0) (v := 2) (lv' := [(2, .int 2), (1, .int 2), (0, .ref 10)]) d_Th_closeHolds_75 rfl (by decide) (by decide) rfl ?_
  refine y_goto (tgt := 40) d_Th_closeHolds_78 ?_
  refine y_iload_n (q := 0) d_Th_closeHolds_40 rfl rfl ?_
  refine y_bipush (v := 6) d_Th_closeHolds_41 (by decide) ?_
  refine y_icmp_ge (tgt := 81) d_Th_closeHolds_43 (fun c => absurd c (by decide)) (fun _ => ?_)
  refine y_aload_n (q := 2) d_Th_closeHolds_46 rfl rfl ?_
  refine n_getr (j := 6) (i := 16) fl_Th_28 (by decide) rfl (by decide) rfl r_10_6 d_Th_closeHolds_47 ?_
  refine y_iload_n (q := 0) d_Th_closeHolds_50 rfl rfl ?_
  refine n_iald (z := 6) (j := 2) (x := 4) (by decide) rfl (vp_d rfl) (by decide) rfl d_Th_closeHolds_51 ?_
  refine y_iload_n (q := 1) d_Th_closeHolds_52 rfl rfl ?_
  refine y_ishr d_Th_closeHolds_53 ?_
  refine y_topi (v := 1) (by decide) ?_
  refine y_iconst (v := 1) d_Th_closeHolds_54 (by decide) ?_
  refine y_iand d_Th_closeHolds_55 ?_
  refine y_topi (v := 1) (by decide) ?_
  refine y_iconst (v := 1) d_Th_closeHolds_56 (by decide) ?_
  refine y_icmp_ne (tgt := 75) d_Th_closeHolds_57 (fun c => absurd c (by decide)) (fun _ => ?_)
  refine y_aload_n (q := 2) d_Th_closeHolds_60 rfl rfl ?_
  refine n_getr (j := 6) (i := 16) fl_Th_28 (by decide) rfl (by decide) rfl r_10_6 d_Th_closeHolds_61 ?_
  refine y_iload_n (q := 0) d_Th_closeHolds_64 rfl rfl ?_
  refine y_dup2ir d_Th_closeHolds_65 ?_
  refine n_iald (z := 6) (j := 2) (x := 4) (by decide) rfl (vp_d rfl) (by decide) rfl d_Th_closeHolds_66 ?_
  refine y_aload_n (q := 2) d_Th_closeHolds_67 rfl rfl ?_
  refine n_getr (j := 6) (i := 16) fl_Th_28 (by decide) rfl (by decide) rfl r_10_6 d_Th_closeHolds_68 ?_
  refine y_iload_n (q := 1) d_Th_closeHolds_71 rfl rfl ?_
  refine n_iald (z := 6) (j := 2) (x := 4) (by decide) rfl (vp_d rfl) (by decide) rfl d_Th_closeHolds_72 ?_
  refine y_ior d_Th_closeHolds_73 ?_
  refine y_topi (v := 4) (by decide) ?_
  refine n_iast (z := 6) (j := 2) (by decide) rfl (vp_d rfl) (by decide) d_Th_closeHolds_74 ?_
  have hA := hA.cons (k := 16) (v := (2, 4)) (by decide)
  refine y_iinc (q := 0) (v := 3) (lv' := [(2, .int 3), (1, .int 2), (0, .ref 10)]) d_Th_closeHolds_75 rfl (by decide) (by decide) rfl ?_
  refine y_goto (tgt := 40) d_Th_closeHolds_78 ?_
  refine y_iload_n (q := 0) d_Th_closeHolds_40 rfl rfl ?_
  refine y_bipush (v := 6) d_Th_closeHolds_41 (by decide) ?_
  refine y_icmp_ge (tgt := 81) d_Th_closeHolds_43 (fun c => absurd c (by decide)) (fun _ => ?_)
  refine y_aload_n (q := 2) d_Th_closeHolds_46 rfl rfl ?_
  refine n_getr (j := 6) (i := 16) fl_Th_28 (by decide) rfl (by decide) rfl r_10_6 d_Th_closeHolds_47 ?_
  refine y_iload_n (q := 0) d_Th_closeHolds_50 rfl rfl ?_
  refine n_iald (z := 6) (j := 3) (x := 8) (by decide) rfl (vp_d rfl) (by decide) rfl d_Th_closeHolds_51 ?_
  refine y_iload_n (q := 1) d_Th_closeHolds_52 rfl rfl ?_
  refine y_ishr d_Th_closeHolds_53 ?_
  refine y_topi (v := 2) (by decide) ?_
  refine y_iconst (v := 1) d_Th_closeHolds_54 (by decide) ?_
  refine y_iand d_Th_closeHolds_55 ?_
  refine y_topi (v := 0) (by decide) ?_
  refine y_iconst (v := 1) d_Th_closeHolds_56 (by decide) ?_
  refine y_icmp_ne (tgt := 75) d_Th_closeHolds_57 (fun _ => ?_) (fun c => absurd c (by decide))
  refine y_iinc (q := 0) (v := 4) (lv' := [(2, .int 4), (1, .int 2), (0, .ref 10)]) d_Th_closeHolds_75 rfl (by decide) (by decide) rfl ?_
  refine y_goto (tgt := 40) d_Th_closeHolds_78 ?_
  refine y_iload_n (q := 0) d_Th_closeHolds_40 rfl rfl ?_
  refine y_bipush (v := 6) d_Th_closeHolds_41 (by decide) ?_
  refine y_icmp_ge (tgt := 81) d_Th_closeHolds_43 (fun c => absurd c (by decide)) (fun _ => ?_)
  refine y_aload_n (q := 2) d_Th_closeHolds_46 rfl rfl ?_
  refine n_getr (j := 6) (i := 16) fl_Th_28 (by decide) rfl (by decide) rfl r_10_6 d_Th_closeHolds_47 ?_
  refine y_iload_n (q := 0) d_Th_closeHolds_50 rfl rfl ?_
  refine n_iald (z := 6) (j := 4) (x := 16) (by decide) rfl (vp_d rfl) (by decide) rfl d_Th_closeHolds_51 ?_
  refine y_iload_n (q := 1) d_Th_closeHolds_52 rfl rfl ?_
  refine y_ishr d_Th_closeHolds_53 ?_
  refine y_topi (v := 4) (by decide) ?_
  refine y_iconst (v := 1) d_Th_closeHolds_54 (by decide) ?_
  refine y_iand d_Th_closeHolds_55 ?_
  refine y_topi (v := 0) (by decide) ?_
  refine y_iconst (v := 1) d_Th_closeHolds_56 (by decide) ?_
  refine y_icmp_ne (tgt := 75) d_Th_closeHolds_57 (fun _ => ?_) (fun c => absurd c (by decide))
  refine y_iinc (q := 0) (v := 5) (lv' := [(2, .int 5), (1, .int 2), (0, .ref 10)]) d_Th_closeHolds_75 rfl (by decide) (by decide) rfl ?_
  refine y_goto (tgt := 40) d_Th_closeHolds_78 ?_
  refine y_iload_n (q := 0) d_Th_closeHolds_40 rfl rfl ?_
  refine y_bipush (v := 6) d_Th_closeHolds_41 (by decide) ?_
  refine y_icmp_ge (tgt := 81) d_Th_closeHolds_43 (fun c => absurd c (by decide)) (fun _ => ?_)
  refine y_aload_n (q := 2) d_Th_closeHolds_46 rfl rfl ?_
  refine n_getr (j := 6) (i := 16) fl_Th_28 (by decide) rfl (by decide) rfl r_10_6 d_Th_closeHolds_47 ?_
  refine y_iload_n (q := 0) d_Th_closeHolds_50 rfl rfl ?_
  refine n_iald (z := 6) (j := 5) (x := 63) (by decide) rfl (vp_d rfl) (by decide) rfl d_Th_closeHolds_51 ?_
  refine y_iload_n (q := 1) d_Th_closeHolds_52 rfl rfl ?_
  refine y_ishr d_Th_closeHolds_53 ?_
  refine y_topi (v := 15) (by decide) ?_
  refine y_iconst (v := 1) d_Th_closeHolds_54 (by decide) ?_
  refine y_iand d_Th_closeHolds_55 ?_
  refine y_topi (v := 1) (by decide) ?_
  refine y_iconst (v := 1) d_Th_closeHolds_56 (by decide) ?_
  refine y_icmp_ne (tgt := 75) d_Th_closeHolds_57 (fun c => absurd c (by decide)) (fun _ => ?_)
  refine y_aload_n (q := 2) d_Th_closeHolds_60 rfl rfl ?_
  refine n_getr (j := 6) (i := 16) fl_Th_28 (by decide) rfl (by decide) rfl r_10_6 d_Th_closeHolds_61 ?_
  refine y_iload_n (q := 0) d_Th_closeHolds_64 rfl rfl ?_
  refine y_dup2ir d_Th_closeHolds_65 ?_
  refine n_iald (z := 6) (j := 5) (x := 63) (by decide) rfl (vp_d rfl) (by decide) rfl d_Th_closeHolds_66 ?_
  refine y_aload_n (q := 2) d_Th_closeHolds_67 rfl rfl ?_
  refine n_getr (j := 6) (i := 16) fl_Th_28 (by decide) rfl (by decide) rfl r_10_6 d_Th_closeHolds_68 ?_
  refine y_iload_n (q := 1) d_Th_closeHolds_71 rfl rfl ?_
  refine n_iald (z := 6) (j := 2) (x := 4) (by decide) rfl (vp_d rfl) (by decide) rfl d_Th_closeHolds_72 ?_
  refine y_ior d_Th_closeHolds_73 ?_
  refine y_topi (v := 63) (by decide) ?_
  refine n_iast (z := 6) (j := 5) (by decide) rfl (vp_d rfl) (by decide) d_Th_closeHolds_74 ?_
  have hA := hA.cons (k := 16) (v := (5, 63)) (by decide)
  refine y_iinc (q := 0) (v := 6) (lv' := [(2, .int 6), (1, .int 2), (0, .ref 10)]) d_Th_closeHolds_75 rfl (by decide) (by decide) rfl ?_
  refine y_goto (tgt := 40) d_Th_closeHolds_78 ?_
  refine y_iload_n (q := 0) d_Th_closeHolds_40 rfl rfl ?_
  refine y_bipush (v := 6) d_Th_closeHolds_41 (by decide) ?_
  refine y_icmp_ge (tgt := 81) d_Th_closeHolds_43 (fun _ => ?_) (fun c => absurd (by decide) c)
  refine y_iinc (q := 1) (v := 3) (lv' := [(1, .int 3), (2, .int 6), (0, .ref 10)]) d_Th_closeHolds_81 rfl (by decide) (by decide) rfl ?_
  refine y_goto (tgt := 32) d_Th_closeHolds_84 ?_
  refine y_iload_n (q := 0) d_Th_closeHolds_32 rfl rfl ?_
  refine y_bipush (v := 6) d_Th_closeHolds_33 (by decide) ?_
  refine y_icmp_ge (tgt := 87) d_Th_closeHolds_35 (fun c => absurd c (by decide)) (fun _ => ?_)
  refine y_iconst (v := 0) d_Th_closeHolds_38 (by decide) ?_
  refine y_istore_n (lv' := [(2, .int 0), (1, .int 3), (0, .ref 10)]) d_Th_closeHolds_39 rfl (by decide) rfl ?_
  refine y_iload_n (q := 0) d_Th_closeHolds_40 rfl rfl ?_
  refine y_bipush (v := 6) d_Th_closeHolds_41 (by decide) ?_
  refine y_icmp_ge (tgt := 81) d_Th_closeHolds_43 (fun c => absurd c (by decide)) (fun _ => ?_)
  refine y_aload_n (q := 2) d_Th_closeHolds_46 rfl rfl ?_
  refine n_getr (j := 6) (i := 16) fl_Th_28 (by decide) rfl (by decide) rfl r_10_6 d_Th_closeHolds_47 ?_
  refine y_iload_n (q := 0) d_Th_closeHolds_50 rfl rfl ?_
  refine n_iald (z := 6) (j := 0) (x := 1) (by decide) rfl (vp_d rfl) (by decide) rfl d_Th_closeHolds_51 ?_
  refine y_iload_n (q := 1) d_Th_closeHolds_52 rfl rfl ?_
  refine y_ishr d_Th_closeHolds_53 ?_
  refine y_topi (v := 0) (by decide) ?_
  refine y_iconst (v := 1) d_Th_closeHolds_54 (by decide) ?_
  refine y_iand d_Th_closeHolds_55 ?_
  refine y_topi (v := 0) (by decide) ?_
  refine y_iconst (v := 1) d_Th_closeHolds_56 (by decide) ?_
  refine y_icmp_ne (tgt := 75) d_Th_closeHolds_57 (fun _ => ?_) (fun c => absurd c (by decide))
  refine y_iinc (q := 0) (v := 1) (lv' := [(2, .int 1), (1, .int 3), (0, .ref 10)]) d_Th_closeHolds_75 rfl (by decide) (by decide) rfl ?_
  refine y_goto (tgt := 40) d_Th_closeHolds_78 ?_
  refine y_iload_n (q := 0) d_Th_closeHolds_40 rfl rfl ?_
  refine y_bipush (v := 6) d_Th_closeHolds_41 (by decide) ?_
  refine y_icmp_ge (tgt := 81) d_Th_closeHolds_43 (fun c => absurd c (by decide)) (fun _ => ?_)
  refine y_aload_n (q := 2) d_Th_closeHolds_46 rfl rfl ?_
  refine n_getr (j := 6) (i := 16) fl_Th_28 (by decide) rfl (by decide) rfl r_10_6 d_Th_closeHolds_47 ?_
  refine y_iload_n (q := 0) d_Th_closeHolds_50 rfl rfl ?_
  refine n_iald (z := 6) (j := 1) (x := 3) (by decide) rfl (vp_d rfl) (by decide) rfl d_Th_closeHolds_51 ?_
  refine y_iload_n (q := 1) d_Th_closeHolds_52 rfl rfl ?_
  refine y_ishr d_Th_closeHolds_53 ?_
  refine y_topi (v := 0) (by decide) ?_
  refine y_iconst (v := 1) d_Th_closeHolds_54 (by decide) ?_
  refine y_iand d_Th_closeHolds_55 ?_
  refine y_topi (v := 0) (by decide) ?_
  refine y_iconst (v := 1) d_Th_closeHolds_56 (by decide) ?_
  refine y_icmp_ne (tgt := 75) d_Th_closeHolds_57 (fun _ => ?_) (fun c => absurd c (by decide))
  refine y_iinc (q := 0) (v := 2) (lv' := [(2, .int 2), (1, .int 3), (0, .ref 10)]) d_Th_closeHolds_75 rfl (by decide) (by decide) rfl ?_
  refine y_goto (tgt := 40) d_Th_closeHolds_78 ?_
  refine y_iload_n (q := 0) d_Th_closeHolds_40 rfl rfl ?_
  refine y_bipush (v := 6) d_Th_closeHolds_41 (by decide) ?_
  refine y_icmp_ge (tgt := 81) d_Th_closeHolds_43 (fun c => absurd c (by decide)) (fun _ => ?_)
  refine y_aload_n (q := 2) d_Th_closeHolds_46 rfl rfl ?_
  refine n_getr (j := 6) (i := 16) fl_Th_28 (by decide) rfl (by decide) rfl r_10_6 d_Th_closeHolds_47 ?_
  refine y_iload_n (q := 0) d_Th_closeHolds_50 rfl rfl ?_
  refine n_iald (z := 6) (j := 2) (x := 4) (by decide) rfl (vp_d rfl) (by decide) rfl d_Th_closeHolds_51 ?_
  refine y_iload_n (q := 1) d_Th_closeHolds_52 rfl rfl ?_
  refine y_ishr d_Th_closeHolds_53 ?_
  refine y_topi (v := 0) (by decide) ?_
  refine y_iconst (v := 1) d_Th_closeHolds_54 (by decide) ?_
  refine y_iand d_Th_closeHolds_55 ?_
  refine y_topi (v := 0) (by decide) ?_
  refine y_iconst (v := 1) d_Th_closeHolds_56 (by decide) ?_
  refine y_icmp_ne (tgt := 75) d_Th_closeHolds_57 (fun _ => ?_) (fun c => absurd c (by decide))
  refine y_iinc (q := 0) (v := 3) (lv' := [(2, .int 3), (1, .int 3), (0, .ref 10)]) d_Th_closeHolds_75 rfl (by decide) (by decide) rfl ?_
  refine y_goto (tgt := 40) d_Th_closeHolds_78 ?_
  refine y_iload_n (q := 0) d_Th_closeHolds_40 rfl rfl ?_
  refine y_bipush (v := 6) d_Th_closeHolds_41 (by decide) ?_
  refine y_icmp_ge (tgt := 81) d_Th_closeHolds_43 (fun c => absurd c (by decide)) (fun _ => ?_)
  refine y_aload_n (q := 2) d_Th_closeHolds_46 rfl rfl ?_
  refine n_getr (j := 6) (i := 16) fl_Th_28 (by decide) rfl (by decide) rfl r_10_6 d_Th_closeHolds_47 ?_
  refine y_iload_n (q := 0) d_Th_closeHolds_50 rfl rfl ?_
  refine n_iald (z := 6) (j := 3) (x := 8) (by decide) rfl (vp_d rfl) (by decide) rfl d_Th_closeHolds_51 ?_
  refine y_iload_n (q := 1) d_Th_closeHolds_52 rfl rfl ?_
  refine y_ishr d_Th_closeHolds_53 ?_
  refine y_topi (v := 1) (by decide) ?_
  refine y_iconst (v := 1) d_Th_closeHolds_54 (by decide) ?_
  refine y_iand d_Th_closeHolds_55 ?_
  refine y_topi (v := 1) (by decide) ?_
  refine y_iconst (v := 1) d_Th_closeHolds_56 (by decide) ?_
  refine y_icmp_ne (tgt := 75) d_Th_closeHolds_57 (fun c => absurd c (by decide)) (fun _ => ?_)
  refine y_aload_n (q := 2) d_Th_closeHolds_60 rfl rfl ?_
  refine n_getr (j := 6) (i := 16) fl_Th_28 (by decide) rfl (by decide) rfl r_10_6 d_Th_closeHolds_61 ?_
  refine y_iload_n (q := 0) d_Th_closeHolds_64 rfl rfl ?_
  refine y_dup2ir d_Th_closeHolds_65 ?_
  refine n_iald (z := 6) (j := 3) (x := 8) (by decide) rfl (vp_d rfl) (by decide) rfl d_Th_closeHolds_66 ?_
  refine y_aload_n (q := 2) d_Th_closeHolds_67 rfl rfl ?_
  refine n_getr (j := 6) (i := 16) fl_Th_28 (by decide) rfl (by decide) rfl r_10_6 d_Th_closeHolds_68 ?_
  refine y_iload_n (q := 1) d_Th_closeHolds_71 rfl rfl ?_
  refine n_iald (z := 6) (j := 3) (x := 8) (by decide) rfl (vp_d rfl) (by decide) rfl d_Th_closeHolds_72 ?_
  refine y_ior d_Th_closeHolds_73 ?_
  refine y_topi (v := 8) (by decide) ?_
  refine n_iast (z := 6) (j := 3) (by decide) rfl (vp_d rfl) (by decide) d_Th_closeHolds_74 ?_
  have hA := hA.cons (k := 16) (v := (3, 8)) (by decide)
  refine y_iinc (q := 0) (v := 4) (lv' := [(2, .int 4), (1, .int 3), (0, .ref 10)]) d_Th_closeHolds_75 rfl (by decide) (by decide) rfl ?_
  refine y_goto (tgt := 40) d_Th_closeHolds_78 ?_
  refine y_iload_n (q := 0) d_Th_closeHolds_40 rfl rfl ?_
  refine y_bipush (v := 6) d_Th_closeHolds_41 (by decide) ?_
  refine y_icmp_ge (tgt := 81) d_Th_closeHolds_43 (fun c => absurd c (by decide)) (fun _ => ?_)
  refine y_aload_n (q := 2) d_Th_closeHolds_46 rfl rfl ?_
  refine n_getr (j := 6) (i := 16) fl_Th_28 (by decide) rfl (by decide) rfl r_10_6 d_Th_closeHolds_47 ?_
  refine y_iload_n (q := 0) d_Th_closeHolds_50 rfl rfl ?_
  refine n_iald (z := 6) (j := 4) (x := 16) (by decide) rfl (vp_d rfl) (by decide) rfl d_Th_closeHolds_51 ?_
  refine y_iload_n (q := 1) d_Th_closeHolds_52 rfl rfl ?_
  refine y_ishr d_Th_closeHolds_53 ?_
  refine y_topi (v := 2) (by decide) ?_
  refine y_iconst (v := 1) d_Th_closeHolds_54 (by decide) ?_
  refine y_iand d_Th_closeHolds_55 ?_
  refine y_topi (v := 0) (by decide) ?_
  refine y_iconst (v := 1) d_Th_closeHolds_56 (by decide) ?_
  refine y_icmp_ne (tgt := 75) d_Th_closeHolds_57 (fun _ => ?_) (fun c => absurd c (by decide))
  refine y_iinc (q := 0) (v := 5) (lv' := [(2, .int 5), (1, .int 3), (0, .ref 10)]) d_Th_closeHolds_75 rfl (by decide) (by decide) rfl ?_
  refine y_goto (tgt := 40) d_Th_closeHolds_78 ?_
  refine y_iload_n (q := 0) d_Th_closeHolds_40 rfl rfl ?_
  refine y_bipush (v := 6) d_Th_closeHolds_41 (by decide) ?_
  refine y_icmp_ge (tgt := 81) d_Th_closeHolds_43 (fun c => absurd c (by decide)) (fun _ => ?_)
  refine y_aload_n (q := 2) d_Th_closeHolds_46 rfl rfl ?_
  refine n_getr (j := 6) (i := 16) fl_Th_28 (by decide) rfl (by decide) rfl r_10_6 d_Th_closeHolds_47 ?_
  refine y_iload_n (q := 0) d_Th_closeHolds_50 rfl rfl ?_
  refine n_iald (z := 6) (j := 5) (x := 63) (by decide) rfl (vp_d rfl) (by decide) rfl d_Th_closeHolds_51 ?_
  refine y_iload_n (q := 1) d_Th_closeHolds_52 rfl rfl ?_
  refine y_ishr d_Th_closeHolds_53 ?_
  refine y_topi (v := 7) (by decide) ?_
  refine y_iconst (v := 1) d_Th_closeHolds_54 (by decide) ?_
  refine y_iand d_Th_closeHolds_55 ?_
  refine y_topi (v := 1) (by decide) ?_
  refine y_iconst (v := 1) d_Th_closeHolds_56 (by decide) ?_
  refine y_icmp_ne (tgt := 75) d_Th_closeHolds_57 (fun c => absurd c (by decide)) (fun _ => ?_)
  refine y_aload_n (q := 2) d_Th_closeHolds_60 rfl rfl ?_
  refine n_getr (j := 6) (i := 16) fl_Th_28 (by decide) rfl (by decide) rfl r_10_6 d_Th_closeHolds_61 ?_
  refine y_iload_n (q := 0) d_Th_closeHolds_64 rfl rfl ?_
  refine y_dup2ir d_Th_closeHolds_65 ?_
  refine n_iald (z := 6) (j := 5) (x := 63) (by decide) rfl (vp_d rfl) (by decide) rfl d_Th_closeHolds_66 ?_
  refine y_aload_n (q := 2) d_Th_closeHolds_67 rfl rfl ?_
  refine n_getr (j := 6) (i := 16) fl_Th_28 (by decide) rfl (by decide) rfl r_10_6 d_Th_closeHolds_68 ?_
  refine y_iload_n (q := 1) d_Th_closeHolds_71 rfl rfl ?_
  refine n_iald (z := 6) (j := 3) (x := 8) (by decide) rfl (vp_d rfl) (by decide) rfl d_Th_closeHolds_72 ?_
  refine y_ior d_Th_closeHolds_73 ?_
  refine y_topi (v := 63) (by decide) ?_
  refine n_iast (z := 6) (j := 5) (by decide) rfl (vp_d rfl) (by decide) d_Th_closeHolds_74 ?_
  have hA := hA.cons (k := 16) (v := (5, 63)) (by decide)
  refine y_iinc (q := 0) (v := 6) (lv' := [(2, .int 6), (1, .int 3), (0, .ref 10)]) d_Th_closeHolds_75 rfl (by decide) (by decide) rfl ?_
  refine y_goto (tgt := 40) d_Th_closeHolds_78 ?_
  refine y_iload_n (q := 0) d_Th_closeHolds_40 rfl rfl ?_
  refine y_bipush (v := 6) d_Th_closeHolds_41 (by decide) ?_
  refine y_icmp_ge (tgt := 81) d_Th_closeHolds_43 (fun _ => ?_) (fun c => absurd (by decide) c)
  refine y_iinc (q := 1) (v := 4) (lv' := [(1, .int 4), (2, .int 6), (0, .ref 10)]) d_Th_closeHolds_81 rfl (by decide) (by decide) rfl ?_
  refine y_goto (tgt := 32) d_Th_closeHolds_84 ?_
  refine y_iload_n (q := 0) d_Th_closeHolds_32 rfl rfl ?_
  refine y_bipush (v := 6) d_Th_closeHolds_33 (by decide) ?_
  refine y_icmp_ge (tgt := 87) d_Th_closeHolds_35 (fun c => absurd c (by decide)) (fun _ => ?_)
  refine y_iconst (v := 0) d_Th_closeHolds_38 (by decide) ?_
  refine y_istore_n (lv' := [(2, .int 0), (1, .int 4), (0, .ref 10)]) d_Th_closeHolds_39 rfl (by decide) rfl ?_
  refine y_iload_n (q := 0) d_Th_closeHolds_40 rfl rfl ?_
  refine y_bipush (v := 6) d_Th_closeHolds_41 (by decide) ?_
  refine y_icmp_ge (tgt := 81) d_Th_closeHolds_43 (fun c => absurd c (by decide)) (fun _ => ?_)
  refine y_aload_n (q := 2) d_Th_closeHolds_46 rfl rfl ?_
  refine n_getr (j := 6) (i := 16) fl_Th_28 (by decide) rfl (by decide) rfl r_10_6 d_Th_closeHolds_47 ?_
  refine y_iload_n (q := 0) d_Th_closeHolds_50 rfl rfl ?_
  refine n_iald (z := 6) (j := 0) (x := 1) (by decide) rfl (vp_d rfl) (by decide) rfl d_Th_closeHolds_51 ?_
  refine y_iload_n (q := 1) d_Th_closeHolds_52 rfl rfl ?_
  refine y_ishr d_Th_closeHolds_53 ?_
  refine y_topi (v := 0) (by decide) ?_
  refine y_iconst (v := 1) d_Th_closeHolds_54 (by decide) ?_
  refine y_iand d_Th_closeHolds_55 ?_
  refine y_topi (v := 0) (by decide) ?_
  refine y_iconst (v := 1) d_Th_closeHolds_56 (by decide) ?_
  refine y_icmp_ne (tgt := 75) d_Th_closeHolds_57 (fun _ => ?_) (fun c => absurd c (by decide))
  refine y_iinc (q := 0) (v := 1) (lv' := [(2, .int 1), (1, .int 4), (0, .ref 10)]) d_Th_closeHolds_75 rfl (by decide) (by decide) rfl ?_
  refine y_goto (tgt := 40) d_Th_closeHolds_78 ?_
  refine y_iload_n (q := 0) d_Th_closeHolds_40 rfl rfl ?_
  refine y_bipush (v := 6) d_Th_closeHolds_41 (by decide) ?_
  refine y_icmp_ge (tgt := 81) d_Th_closeHolds_43 (fun c => absurd c (by decide)) (fun _ => ?_)
  refine y_aload_n (q := 2) d_Th_closeHolds_46 rfl rfl ?_
  refine n_getr (j := 6) (i := 16) fl_Th_28 (by decide) rfl (by decide) rfl r_10_6 d_Th_closeHolds_47 ?_
  refine y_iload_n (q := 0) d_Th_closeHolds_50 rfl rfl ?_
  refine n_iald (z := 6) (j := 1) (x := 3) (by decide) rfl (vp_d rfl) (by decide) rfl d_Th_closeHolds_51 ?_
  refine y_iload_n (q := 1) d_Th_closeHolds_52 rfl rfl ?_
  refine y_ishr d_Th_closeHolds_53 ?_
  refine y_topi (v := 0) (by decide) ?_
  refine y_iconst (v := 1) d_Th_closeHolds_54 (by decide) ?_
  refine y_iand d_Th_closeHolds_55 ?_
  refine y_topi (v := 0) (by decide) ?_
  refine y_iconst (v := 1) d_Th_closeHolds_56 (by decide) ?_
  refine y_icmp_ne (tgt := 75) d_Th_closeHolds_57 (fun _ => ?_) (fun c => absurd c (by decide))
  refine y_iinc (q := 0) (v := 2) (lv' := [(2, .int 2), (1, .int 4), (0, .ref 10)]) d_Th_closeHolds_75 rfl (by decide) (by decide) rfl ?_
  refine y_goto (tgt := 40) d_Th_closeHolds_78 ?_
  refine y_iload_n (q := 0) d_Th_closeHolds_40 rfl rfl ?_
  refine y_bipush (v := 6) d_Th_closeHolds_41 (by decide) ?_
  refine y_icmp_ge (tgt := 81) d_Th_closeHolds_43 (fun c => absurd c (by decide)) (fun _ => ?_)
  refine y_aload_n (q := 2) d_Th_closeHolds_46 rfl rfl ?_
  refine n_getr (j := 6) (i := 16) fl_Th_28 (by decide) rfl (by decide) rfl r_10_6 d_Th_closeHolds_47 ?_
  refine y_iload_n (q := 0) d_Th_closeHolds_50 rfl rfl ?_
  refine n_iald (z := 6) (j := 2) (x := 4) (by decide) rfl (vp_d rfl) (by decide) rfl d_Th_closeHolds_51 ?_
  refine y_iload_n (q := 1) d_Th_closeHolds_52 rfl rfl ?_
  refine y_ishr d_Th_closeHolds_53 ?_
  refine y_topi (v := 0) (by decide) ?_
  refine y_iconst (v := 1) d_Th_closeHolds_54 (by decide) ?_
  refine y_iand d_Th_closeHolds_55 ?_
  refine y_topi (v := 0) (by decide) ?_
  refine y_iconst (v := 1) d_Th_closeHolds_56 (by decide) ?_
  refine y_icmp_ne (tgt := 75) d_Th_closeHolds_57 (fun _ => ?_) (fun c => absurd c (by decide))
  refine y_iinc (q := 0) (v := 3) (lv' := [(2, .int 3), (1, .int 4), (0, .ref 10)]) d_Th_closeHolds_75 rfl (by decide) (by decide) rfl ?_
  refine y_goto (tgt := 40) d_Th_closeHolds_78 ?_
  refine y_iload_n (q := 0) d_Th_closeHolds_40 rfl rfl ?_
  refine y_bipush (v := 6) d_Th_closeHolds_41 (by decide) ?_
  refine y_icmp_ge (tgt := 81) d_Th_closeHolds_43 (fun c => absurd c (by decide)) (fun _ => ?_)
  refine y_aload_n (q := 2) d_Th_closeHolds_46 rfl rfl ?_
  refine n_getr (j := 6) (i := 16) fl_Th_28 (by decide) rfl (by decide) rfl r_10_6 d_Th_closeHolds_47 ?_
  refine y_iload_n (q := 0) d_Th_closeHolds_50 rfl rfl ?_
  refine n_iald (z := 6) (j := 3) (x := 8) (by decide) rfl (vp_d rfl) (by decide) rfl d_Th_closeHolds_51 ?_
  refine y_iload_n (q := 1) d_Th_closeHolds_52 rfl rfl ?_
  refine y_ishr d_Th_closeHolds_53 ?_
  refine y_topi (v := 0) (by decide) ?_
  refine y_iconst (v := 1) d_Th_closeHolds_54 (by decide) ?_
  refine y_iand d_Th_closeHolds_55 ?_
  refine y_topi (v := 0) (by decide) ?_
  refine y_iconst (v := 1) d_Th_closeHolds_56 (by decide) ?_
  refine y_icmp_ne (tgt := 75) d_Th_closeHolds_57 (fun _ => ?_) (fun c => absurd c (by decide))
  refine y_iinc (q := 0) (v := 4) (lv' := [(2, .int 4), (1, .int 4), (0, .ref 10)]) d_Th_closeHolds_75 rfl (by decide) (by decide) rfl ?_
  refine y_goto (tgt := 40) d_Th_closeHolds_78 ?_
  refine y_iload_n (q := 0) d_Th_closeHolds_40 rfl rfl ?_
  refine y_bipush (v := 6) d_Th_closeHolds_41 (by decide) ?_
  refine y_icmp_ge (tgt := 81) d_Th_closeHolds_43 (fun c => absurd c (by decide)) (fun _ => ?_)
  refine y_aload_n (q := 2) d_Th_closeHolds_46 rfl rfl ?_
  refine n_getr (j := 6) (i := 16) fl_Th_28 (by decide) rfl (by decide) rfl r_10_6 d_Th_closeHolds_47 ?_
  refine y_iload_n (q := 0) d_Th_closeHolds_50 rfl rfl ?_
  refine n_iald (z := 6) (j := 4) (x := 16) (by decide) rfl (vp_d rfl) (by decide) rfl d_Th_closeHolds_51 ?_
  refine y_iload_n (q := 1) d_Th_closeHolds_52 rfl rfl ?_
  refine y_ishr d_Th_closeHolds_53 ?_
  refine y_topi (v := 1) (by decide) ?_
  refine y_iconst (v := 1) d_Th_closeHolds_54 (by decide) ?_
  refine y_iand d_Th_closeHolds_55 ?_
  refine y_topi (v := 1) (by decide) ?_
  refine y_iconst (v := 1) d_Th_closeHolds_56 (by decide) ?_
  refine y_icmp_ne (tgt := 75) d_Th_closeHolds_57 (fun c => absurd c (by decide)) (fun _ => ?_)
  refine y_aload_n (q := 2) d_Th_closeHolds_60 rfl rfl ?_
  refine n_getr (j := 6) (i := 16) fl_Th_28 (by decide) rfl (by decide) rfl r_10_6 d_Th_closeHolds_61 ?_
  refine y_iload_n (q := 0) d_Th_closeHolds_64 rfl rfl ?_
  refine y_dup2ir d_Th_closeHolds_65 ?_
  refine n_iald (z := 6) (j := 4) (x := 16) (by decide) rfl (vp_d rfl) (by decide) rfl d_Th_closeHolds_66 ?_
  refine y_aload_n (q := 2) d_Th_closeHolds_67 rfl rfl ?_
  refine n_getr (j := 6) (i := 16) fl_Th_28 (by decide) rfl (by decide) rfl r_10_6 d_Th_closeHolds_68 ?_
  refine y_iload_n (q := 1) d_Th_closeHolds_71 rfl rfl ?_
  refine n_iald (z := 6) (j := 4) (x := 16) (by decide) rfl (vp_d rfl) (by decide) rfl d_Th_closeHolds_72 ?_
  refine y_ior d_Th_closeHolds_73 ?_
  refine y_topi (v := 16) (by decide) ?_
  refine n_iast (z := 6) (j := 4) (by decide) rfl (vp_d rfl) (by decide) d_Th_closeHolds_74 ?_
  have hA := hA.cons (k := 16) (v := (4, 16)) (by decide)
  refine y_iinc (q := 0) (v := 5) (lv' := [(2, .int 5), (1, .int 4), (0, .ref 10)]) d_Th_closeHolds_75 rfl (by decide) (by decide) rfl ?_
  refine y_goto (tgt := 40) d_Th_closeHolds_78 ?_
  refine y_iload_n (q := 0) d_Th_closeHolds_40 rfl rfl ?_
  refine y_bipush (v := 6) d_Th_closeHolds_41 (by decide) ?_
  refine y_icmp_ge (tgt := 81) d_Th_closeHolds_43 (fun c => absurd c (by decide)) (fun _ => ?_)
  refine y_aload_n (q := 2) d_Th_closeHolds_46 rfl rfl ?_
  refine n_getr (j := 6) (i := 16) fl_Th_28 (by decide) rfl (by decide) rfl r_10_6 d_Th_closeHolds_47 ?_
  refine y_iload_n (q := 0) d_Th_closeHolds_50 rfl rfl ?_
  refine n_iald (z := 6) (j := 5) (x := 63) (by decide) rfl (vp_d rfl) (by decide) rfl d_Th_closeHolds_51 ?_
  refine y_iload_n (q := 1) d_Th_closeHolds_52 rfl rfl ?_
  refine y_ishr d_Th_closeHolds_53 ?_
  refine y_topi (v := 3) (by decide) ?_
  refine y_iconst (v := 1) d_Th_closeHolds_54 (by decide) ?_
  refine y_iand d_Th_closeHolds_55 ?_
  refine y_topi (v := 1) (by decide) ?_
  refine y_iconst (v := 1) d_Th_closeHolds_56 (by decide) ?_
  refine y_icmp_ne (tgt := 75) d_Th_closeHolds_57 (fun c => absurd c (by decide)) (fun _ => ?_)
  refine y_aload_n (q := 2) d_Th_closeHolds_60 rfl rfl ?_
  refine n_getr (j := 6) (i := 16) fl_Th_28 (by decide) rfl (by decide) rfl r_10_6 d_Th_closeHolds_61 ?_
  refine y_iload_n (q := 0) d_Th_closeHolds_64 rfl rfl ?_
  refine y_dup2ir d_Th_closeHolds_65 ?_
  refine n_iald (z := 6) (j := 5) (x := 63) (by decide) rfl (vp_d rfl) (by decide) rfl d_Th_closeHolds_66 ?_
  refine y_aload_n (q := 2) d_Th_closeHolds_67 rfl rfl ?_
  refine n_getr (j := 6) (i := 16) fl_Th_28 (by decide) rfl (by decide) rfl r_10_6 d_Th_closeHolds_68 ?_
  refine y_iload_n (q := 1) d_Th_closeHolds_71 rfl rfl ?_
  refine n_iald (z := 6) (j := 4) (x := 16) (by decide) rfl (vp_d rfl) (by decide) rfl d_Th_closeHolds_72 ?_
  refine y_ior d_Th_closeHolds_73 ?_
  refine y_topi (v := 63) (by decide) ?_
  refine n_iast (z := 6) (j := 5) (by decide) rfl (vp_d rfl) (by decide) d_Th_closeHolds_74 ?_
  have hA := hA.cons (k := 16) (v := (5, 63)) (by decide)
  refine y_iinc (q := 0) (v := 6) (lv' := [(2, .int 6), (1, .int 4), (0, .ref 10)]) d_Th_closeHolds_75 rfl (by decide) (by decide) rfl ?_
  refine y_goto (tgt := 40) d_Th_closeHolds_78 ?_
  refine y_iload_n (q := 0) d_Th_closeHolds_40 rfl rfl ?_
  refine y_bipush (v := 6) d_Th_closeHolds_41 (by decide) ?_
  refine y_icmp_ge (tgt := 81) d_Th_closeHolds_43 (fun _ => ?_) (fun c => absurd (by decide) c)
  refine y_iinc (q := 1) (v := 5) (lv' := [(1, .int 5), (2, .int 6), (0, .ref 10)]) d_Th_closeHolds_81 rfl (by decide) (by decide) rfl ?_
  refine y_goto (tgt := 32) d_Th_closeHolds_84 ?_
  refine y_iload_n (q := 0) d_Th_closeHolds_32 rfl rfl ?_
  refine y_bipush (v := 6) d_Th_closeHolds_33 (by decide) ?_
  refine y_icmp_ge (tgt := 87) d_Th_closeHolds_35 (fun c => absurd c (by decide)) (fun _ => ?_)
  refine y_iconst (v := 0) d_Th_closeHolds_38 (by decide) ?_
  refine y_istore_n (lv' := [(2, .int 0), (1, .int 5), (0, .ref 10)]) d_Th_closeHolds_39 rfl (by decide) rfl ?_
  refine y_iload_n (q := 0) d_Th_closeHolds_40 rfl rfl ?_
  refine y_bipush (v := 6) d_Th_closeHolds_41 (by decide) ?_
  refine y_icmp_ge (tgt := 81) d_Th_closeHolds_43 (fun c => absurd c (by decide)) (fun _ => ?_)
  refine y_aload_n (q := 2) d_Th_closeHolds_46 rfl rfl ?_
  refine n_getr (j := 6) (i := 16) fl_Th_28 (by decide) rfl (by decide) rfl r_10_6 d_Th_closeHolds_47 ?_
  refine y_iload_n (q := 0) d_Th_closeHolds_50 rfl rfl ?_
  refine n_iald (z := 6) (j := 0) (x := 1) (by decide) rfl (vp_d rfl) (by decide) rfl d_Th_closeHolds_51 ?_
  refine y_iload_n (q := 1) d_Th_closeHolds_52 rfl rfl ?_
  refine y_ishr d_Th_closeHolds_53 ?_
  refine y_topi (v := 0) (by decide) ?_
  refine y_iconst (v := 1) d_Th_closeHolds_54 (by decide) ?_
  refine y_iand d_Th_closeHolds_55 ?_
  refine y_topi (v := 0) (by decide) ?_
  refine y_iconst (v := 1) d_Th_closeHolds_56 (by decide) ?_
  refine y_icmp_ne (tgt := 75) d_Th_closeHolds_57 (fun _ => ?_) (fun c => absurd c (by decide))
  refine y_iinc (q := 0) (v := 1) (lv' := [(2, .int 1), (1, .int 5), (0, .ref 10)]) d_Th_closeHolds_75 rfl (by decide) (by decide) rfl ?_
  refine y_goto (tgt := 40) d_Th_closeHolds_78 ?_
  refine y_iload_n (q := 0) d_Th_closeHolds_40 rfl rfl ?_
  refine y_bipush (v := 6) d_Th_closeHolds_41 (by decide) ?_
  refine y_icmp_ge (tgt := 81) d_Th_closeHolds_43 (fun c => absurd c (by decide)) (fun _ => ?_)
  refine y_aload_n (q := 2) d_Th_closeHolds_46 rfl rfl ?_
  refine n_getr (j := 6) (i := 16) fl_Th_28 (by decide) rfl (by decide) rfl r_10_6 d_Th_closeHolds_47 ?_
  refine y_iload_n (q := 0) d_Th_closeHolds_50 rfl rfl ?_
  refine n_iald (z := 6) (j := 1) (x := 3) (by decide) rfl (vp_d rfl) (by decide) rfl d_Th_closeHolds_51 ?_
  refine y_iload_n (q := 1) d_Th_closeHolds_52 rfl rfl ?_
  refine y_ishr d_Th_closeHolds_53 ?_
  refine y_topi (v := 0) (by decide) ?_
  refine y_iconst (v := 1) d_Th_closeHolds_54 (by decide) ?_
  refine y_iand d_Th_closeHolds_55 ?_
  refine y_topi (v := 0) (by decide) ?_
  refine y_iconst (v := 1) d_Th_closeHolds_56 (by decide) ?_
  refine y_icmp_ne (tgt := 75) d_Th_closeHolds_57 (fun _ => ?_) (fun c => absurd c (by decide))
  refine y_iinc (q := 0) (v := 2) (lv' := [(2, .int 2), (1, .int 5), (0, .ref 10)]) d_Th_closeHolds_75 rfl (by decide) (by decide) rfl ?_
  refine y_goto (tgt := 40) d_Th_closeHolds_78 ?_
  refine y_iload_n (q := 0) d_Th_closeHolds_40 rfl rfl ?_
  refine y_bipush (v := 6) d_Th_closeHolds_41 (by decide) ?_
  refine y_icmp_ge (tgt := 81) d_Th_closeHolds_43 (fun c => absurd c (by decide)) (fun _ => ?_)
  refine y_aload_n (q := 2) d_Th_closeHolds_46 rfl rfl ?_
  refine n_getr (j := 6) (i := 16) fl_Th_28 (by decide) rfl (by decide) rfl r_10_6 d_Th_closeHolds_47 ?_
  refine y_iload_n (q := 0) d_Th_closeHolds_50 rfl rfl ?_
  refine n_iald (z := 6) (j := 2) (x := 4) (by decide) rfl (vp_d rfl) (by decide) rfl d_Th_closeHolds_51 ?_
  refine y_iload_n (q := 1) d_Th_closeHolds_52 rfl rfl ?_
  refine y_ishr d_Th_closeHolds_53 ?_
  refine y_topi (v := 0) (by decide) ?_
  refine y_iconst (v := 1) d_Th_closeHolds_54 (by decide) ?_
  refine y_iand d_Th_closeHolds_55 ?_
  refine y_topi (v := 0) (by decide) ?_
  refine y_iconst (v := 1) d_Th_closeHolds_56 (by decide) ?_
  refine y_icmp_ne (tgt := 75) d_Th_closeHolds_57 (fun _ => ?_) (fun c => absurd c (by decide))
  refine y_iinc (q := 0) (v := 3) (lv' := [(2, .int 3), (1, .int 5), (0, .ref 10)]) d_Th_closeHolds_75 rfl (by decide) (by decide) rfl ?_
  refine y_goto (tgt := 40) d_Th_closeHolds_78 ?_
  refine y_iload_n (q := 0) d_Th_closeHolds_40 rfl rfl ?_
  refine y_bipush (v := 6) d_Th_closeHolds_41 (by decide) ?_
  refine y_icmp_ge (tgt := 81) d_Th_closeHolds_43 (fun c => absurd c (by decide)) (fun _ => ?_)
  refine y_aload_n (q := 2) d_Th_closeHolds_46 rfl rfl ?_
  refine n_getr (j := 6) (i := 16) fl_Th_28 (by decide) rfl (by decide) rfl r_10_6 d_Th_closeHolds_47 ?_
  refine y_iload_n (q := 0) d_Th_closeHolds_50 rfl rfl ?_
  refine n_iald (z := 6) (j := 3) (x := 8) (by decide) rfl (vp_d rfl) (by decide) rfl d_Th_closeHolds_51 ?_
  refine y_iload_n (q := 1) d_Th_closeHolds_52 rfl rfl ?_
  refine y_ishr d_Th_closeHolds_53 ?_
  refine y_topi (v := 0) (by decide) ?_
  refine y_iconst (v := 1) d_Th_closeHolds_54 (by decide) ?_
  refine y_iand d_Th_closeHolds_55 ?_
  refine y_topi (v := 0) (by decide) ?_
  refine y_iconst (v := 1) d_Th_closeHolds_56 (by decide) ?_
  refine y_icmp_ne (tgt := 75) d_Th_closeHolds_57 (fun _ => ?_) (fun c => absurd c (by decide))
  refine y_iinc (q := 0) (v := 4) (lv' := [(2, .int 4), (1, .int 5), (0, .ref 10)]) d_Th_closeHolds_75 rfl (by decide) (by decide) rfl ?_
  refine y_goto (tgt := 40) d_Th_closeHolds_78 ?_
  refine y_iload_n (q := 0) d_Th_closeHolds_40 rfl rfl ?_
  refine y_bipush (v := 6) d_Th_closeHolds_41 (by decide) ?_
  refine y_icmp_ge (tgt := 81) d_Th_closeHolds_43 (fun c => absurd c (by decide)) (fun _ => ?_)
  refine y_aload_n (q := 2) d_Th_closeHolds_46 rfl rfl ?_
  refine n_getr (j := 6) (i := 16) fl_Th_28 (by decide) rfl (by decide) rfl r_10_6 d_Th_closeHolds_47 ?_
  refine y_iload_n (q := 0) d_Th_closeHolds_50 rfl rfl ?_
  refine n_iald (z := 6) (j := 4) (x := 16) (by decide) rfl (vp_d rfl) (by decide) rfl d_Th_closeHolds_51 ?_
  refine y_iload_n (q := 1) d_Th_closeHolds_52 rfl rfl ?_
  refine y_ishr d_Th_closeHolds_53 ?_
  refine y_topi (v := 0) (by decide) ?_
  refine y_iconst (v := 1) d_Th_closeHolds_54 (by decide) ?_
  refine y_iand d_Th_closeHolds_55 ?_
  refine y_topi (v := 0) (by decide) ?_
  refine y_iconst (v := 1) d_Th_closeHolds_56 (by decide) ?_
  refine y_icmp_ne (tgt := 75) d_Th_closeHolds_57 (fun _ => ?_) (fun c => absurd c (by decide))
  refine y_iinc (q := 0) (v := 5) (lv' := [(2, .int 5), (1, .int 5), (0, .ref 10)]) d_Th_closeHolds_75 rfl (by decide) (by decide) rfl ?_
  refine y_goto (tgt := 40) d_Th_closeHolds_78 ?_
  refine y_iload_n (q := 0) d_Th_closeHolds_40 rfl rfl ?_
  refine y_bipush (v := 6) d_Th_closeHolds_41 (by decide) ?_
  refine y_icmp_ge (tgt := 81) d_Th_closeHolds_43 (fun c => absurd c (by decide)) (fun _ => ?_)
  refine y_aload_n (q := 2) d_Th_closeHolds_46 rfl rfl ?_
  refine n_getr (j := 6) (i := 16) fl_Th_28 (by decide) rfl (by decide) rfl r_10_6 d_Th_closeHolds_47 ?_
  refine y_iload_n (q := 0) d_Th_closeHolds_50 rfl rfl ?_
  refine n_iald (z := 6) (j := 5) (x := 63) (by decide) rfl (vp_d rfl) (by decide) rfl d_Th_closeHolds_51 ?_
  refine y_iload_n (q := 1) d_Th_closeHolds_52 rfl rfl ?_
  refine y_ishr d_Th_closeHolds_53 ?_
  refine y_topi (v := 1) (by decide) ?_
  refine y_iconst (v := 1) d_Th_closeHolds_54 (by decide) ?_
  refine y_iand d_Th_closeHolds_55 ?_
  refine y_topi (v := 1) (by decide) ?_
  refine y_iconst (v := 1) d_Th_closeHolds_56 (by decide) ?_
  refine y_icmp_ne (tgt := 75) d_Th_closeHolds_57 (fun c => absurd c (by decide)) (fun _ => ?_)
  refine y_aload_n (q := 2) d_Th_closeHolds_60 rfl rfl ?_
  refine n_getr (j := 6) (i := 16) fl_Th_28 (by decide) rfl (by decide) rfl r_10_6 d_Th_closeHolds_61 ?_
  refine y_iload_n (q := 0) d_Th_closeHolds_64 rfl rfl ?_
  refine y_dup2ir d_Th_closeHolds_65 ?_
  refine n_iald (z := 6) (j := 5) (x := 63) (by decide) rfl (vp_d rfl) (by decide) rfl d_Th_closeHolds_66 ?_
  refine y_aload_n (q := 2) d_Th_closeHolds_67 rfl rfl ?_
  refine n_getr (j := 6) (i := 16) fl_Th_28 (by decide) rfl (by decide) rfl r_10_6 d_Th_closeHolds_68 ?_
  refine y_iload_n (q := 1) d_Th_closeHolds_71 rfl rfl ?_
  refine n_iald (z := 6) (j := 5) (x := 63) (by decide) rfl (vp_d rfl) (by decide) rfl d_Th_closeHolds_72 ?_
  refine y_ior d_Th_closeHolds_73 ?_
  refine y_topi (v := 63) (by decide) ?_
  refine n_iast (z := 6) (j := 5) (by decide) rfl (vp_d rfl) (by decide) d_Th_closeHolds_74 ?_
  have hA := hA.cons (k := 16) (v := (5, 63)) (by decide)
  refine y_iinc (q := 0) (v := 6) (lv' := [(2, .int 6), (1, .int 5), (0, .ref 10)]) d_Th_closeHolds_75 rfl (by decide) (by decide) rfl ?_
  refine y_goto (tgt := 40) d_Th_closeHolds_78 ?_
  refine y_iload_n (q := 0) d_Th_closeHolds_40 rfl rfl ?_
  refine y_bipush (v := 6) d_Th_closeHolds_41 (by decide) ?_
  refine y_icmp_ge (tgt := 81) d_Th_closeHolds_43 (fun _ => ?_) (fun c => absurd (by decide) c)
  refine y_iinc (q := 1) (v := 6) (lv' := [(1, .int 6), (2, .int 6), (0, .ref 10)]) d_Th_closeHolds_81 rfl (by decide) (by decide) rfl ?_
  refine y_goto (tgt := 32) d_Th_closeHolds_84 ?_
  refine y_iload_n (q := 0) d_Th_closeHolds_32 rfl rfl ?_
  refine y_bipush (v := 6) d_Th_closeHolds_33 (by decide) ?_
  refine y_icmp_ge (tgt := 87) d_Th_closeHolds_35 (fun _ => ?_) (fun c => absurd (by decide) c)
  exact x_vret rfl d_Th_closeHolds_87 (Nat.le_of_ble_eq_true rfl) (Nat.le_of_ble_eq_true rfl) h
theorem n_Th_init {E : xV} {B : List (Nat × (Nat × Nat))}  (hB : xlt 11 B) {K : xK} (h : K none 17 (s0 ((16, (5, 63)) :: ((16, (5, 63)) :: ((16, (4, 16)) :: ((16, (5, 63)) :: ((16, (3, 8)) :: ((16, (5, 63)) :: ((16, (2, 4)) :: ((16, (5, 63)) :: ((16, (1, 3)) :: ((16, (5, 63)) :: ((16, (1, 3)) :: ((16, (0, 1)) :: ((16, (5, 63)) :: ((16, (4, 16)) :: ((16, (3, 8)) :: ((16, (2, 4)) :: ((16, (1, 3)) :: ((16, (0, 1)) :: ((15, (1, 1)) :: ((15, (5, 63)) :: ((10, (0, 1)) :: ((12, (0, (-4))) :: ((11, (0, (-4))) :: []))))))))))))))))))))))) ((10, (6, 17)) :: ((10, (5, 16)) :: ((10, (4, 15)) :: ((10, (3, 14)) :: ((10, (2, 13)) :: ((10, (1, 12)) :: B)))))))) : Cx E Y_Th_init [.ref 10] 11 (s0 [] B) K := by
  have hA : xlt 11 ([] : List (Nat × (Nat × Int32))) := xlt.nil
  refine x_entry (by decide) (fun a => Nat.le_of_ble_eq_true rfl) rfl ?_
  refine y_aload_n (q := 0) d_Th_init_0 rfl rfl ?_
  refine y_objInit d_Th_init_1 k_1_79 k_1_28 k_1_29 (Nat.le_of_ble_eq_true rfl) (Nat.le_of_ble_eq_true rfl) (Nat.le_of_ble_eq_true rfl) ?_
  refine y_aload_n (q := 0) d_Th_init_4 rfl rfl ?_
  refine y_bipush (v := 40) d_Th_init_5 (by decide) ?_
  refine n_newi (z := 40) (n' := 12) (cs' := 1) (ss' := 40) hA hB (by decide) d_Th_init_7 k_1_72 (by decide) (by decide) (by decide) rfl (Nat.le_of_ble_eq_true rfl) (Nat.le_of_ble_eq_true rfl) rfl rfl ⟨rfl, rfl, rfl⟩ ?_
  have hA := hA.le (show 11 ≤ 12 from by decide)
  have hB := hB.le (show 11 ≤ 12 from by decide)
  refine n_putrF (j := 1) (v := 12) fl_Th_11 rfl rfl (by decide) (by decide) rfl (by decide) rfl (fun _ => rfl) (fun _ => rfl) rfl d_Th_init_9 ?_
  have hB := hB.cons (k := 10) (v := (1, 12)) (by decide)
  refine y_aload_n (q := 0) d_Th_init_12 rfl rfl ?_
  refine y_bipush (v := 40) d_Th_init_13 (by decide) ?_
  refine n_newi (z := 40) (n' := 13) (cs' := 2) (ss' := 80) hA hB (by decide) d_Th_init_15 k_1_72 (by decide) (by decide) (by decide) rfl (Nat.le_of_ble_eq_true rfl) (Nat.le_of_ble_eq_true rfl) rfl rfl ⟨rfl, rfl, rfl⟩ ?_
  have hA := hA.le (show 12 ≤ 13 from by decide)
  have hB := hB.le (show 12 ≤ 13 from by decide)
  refine n_putrF (j := 2) (v := 13) fl_Th_15 rfl rfl (by decide) (by decide) rfl (by decide) rfl (fun _ => rfl) (fun _ => rfl) rfl d_Th_init_17 ?_
  have hB := hB.cons (k := 10) (v := (2, 13)) (by decide)
  refine y_aload_n (q := 0) d_Th_init_20 rfl rfl ?_
  refine y_bipush (v := 40) d_Th_init_21 (by decide) ?_
  refine n_newz (z := 40) (n' := 14) (cs' := 3) (ss' := 120) hA hB (by decide) d_Th_init_23 k_1_114 (by decide) (by decide) (by decide) rfl (Nat.le_of_ble_eq_true rfl) (Nat.le_of_ble_eq_true rfl) rfl rfl ⟨rfl, rfl, rfl⟩ ?_
  have hA := hA.le (show 13 ≤ 14 from by decide)
  have hB := hB.le (show 13 ≤ 14 from by decide)
  refine n_putrF (j := 3) (v := 14) fl_Th_18 rfl rfl (by decide) (by decide) rfl (by decide) rfl (fun _ => rfl) (fun _ => rfl) rfl d_Th_init_25 ?_
  have hB := hB.cons (k := 10) (v := (3, 14)) (by decide)
  refine y_aload_n (q := 0) d_Th_init_28 rfl rfl ?_
  refine y_bipush (v := 40) d_Th_init_29 (by decide) ?_
  refine n_newz (z := 40) (n' := 15) (cs' := 4) (ss' := 160) hA hB (by decide) d_Th_init_31 k_1_114 (by decide) (by decide) (by decide) rfl (Nat.le_of_ble_eq_true rfl) (Nat.le_of_ble_eq_true rfl) rfl rfl ⟨rfl, rfl, rfl⟩ ?_
  have hA := hA.le (show 14 ≤ 15 from by decide)
  have hB := hB.le (show 14 ≤ 15 from by decide)
  refine n_putrF (j := 4) (v := 15) fl_Th_22 rfl rfl (by decide) (by decide) rfl (by decide) rfl (fun _ => rfl) (fun _ => rfl) rfl d_Th_init_33 ?_
  have hB := hB.cons (k := 10) (v := (4, 15)) (by decide)
  refine y_aload_n (q := 0) d_Th_init_36 rfl rfl ?_
  refine y_bipush (v := 6) d_Th_init_37 (by decide) ?_
  refine n_newi (z := 6) (n' := 16) (cs' := 5) (ss' := 166) hA hB (by decide) d_Th_init_39 k_1_72 (by decide) (by decide) (by decide) rfl (Nat.le_of_ble_eq_true rfl) (Nat.le_of_ble_eq_true rfl) rfl rfl ⟨rfl, rfl, rfl⟩ ?_
  have hA := hA.le (show 15 ≤ 16 from by decide)
  have hB := hB.le (show 15 ≤ 16 from by decide)
  refine n_putrF (j := 5) (v := 16) fl_Th_25 rfl rfl (by decide) (by decide) rfl (by decide) rfl (fun _ => rfl) (fun _ => rfl) rfl d_Th_init_41 ?_
  have hB := hB.cons (k := 10) (v := (5, 16)) (by decide)
  refine y_aload_n (q := 0) d_Th_init_44 rfl rfl ?_
  refine y_bipush (v := 6) d_Th_init_45 (by decide) ?_
  refine n_newi (z := 6) (n' := 17) (cs' := 6) (ss' := 172) hA hB (by decide) d_Th_init_47 k_1_72 (by decide) (by decide) (by decide) rfl (Nat.le_of_ble_eq_true rfl) (Nat.le_of_ble_eq_true rfl) rfl rfl ⟨rfl, rfl, rfl⟩ ?_
  have hA := hA.le (show 16 ≤ 17 from by decide)
  have hB := hB.le (show 16 ≤ 17 from by decide)
  refine n_putrF (j := 6) (v := 17) fl_Th_28 rfl rfl (by decide) (by decide) rfl (by decide) rfl (fun _ => rfl) (fun _ => rfl) rfl d_Th_init_49 ?_
  have hB := hB.cons (k := 10) (v := (6, 17)) (by decide)
  refine y_aload_n (q := 0) d_Th_init_52 rfl rfl ?_
  refine n_getr (j := 1) (i := 11) fl_Th_11 (by decide) rfl (by decide) rfl rfl d_Th_init_53 ?_
  refine y_iconst (v := 0) d_Th_init_56 (by decide) ?_
  refine y_bipush (v := (-4)) d_Th_init_57 (by decide) ?_
  refine n_iast (z := 40) (j := 0) (by decide) rfl (vp_d rfl) (by decide) d_Th_init_59 ?_
  have hA := hA.cons (k := 11) (v := (0, (-4))) (by decide)
  refine y_aload_n (q := 0) d_Th_init_60 rfl rfl ?_
  refine n_getr (j := 2) (i := 12) fl_Th_15 (by decide) rfl (by decide) rfl rfl d_Th_init_61 ?_
  refine y_iconst (v := 0) d_Th_init_64 (by decide) ?_
  refine y_bipush (v := (-4)) d_Th_init_65 (by decide) ?_
  refine n_iast (z := 40) (j := 0) (by decide) rfl (vp_d rfl) (by decide) d_Th_init_67 ?_
  have hA := hA.cons (k := 12) (v := (0, (-4))) (by decide)
  refine y_aload_n (q := 0) d_Th_init_68 rfl rfl ?_
  refine y_iconst (v := 1) d_Th_init_69 (by decide) ?_
  refine n_puti (j := 0) fl_Th_31 (by decide) rfl (by decide) rfl rfl rfl d_Th_init_70 ?_
  have hA := hA.cons (k := 10) (v := (0, 1)) (by decide)
  refine y_aload_n (q := 0) d_Th_init_73 rfl rfl ?_
  refine n_getr (j := 5) (i := 15) fl_Th_25 (by decide) rfl (by decide) rfl rfl d_Th_init_74 ?_
  refine y_iconst (v := 5) d_Th_init_77 (by decide) ?_
  refine y_bipush (v := 63) d_Th_init_78 (by decide) ?_
  refine n_iast (z := 6) (j := 5) (by decide) rfl (vp_d rfl) (by decide) d_Th_init_80 ?_
  have hA := hA.cons (k := 15) (v := (5, 63)) (by decide)
  refine y_aload_n (q := 0) d_Th_init_81 rfl rfl ?_
  refine n_getr (j := 5) (i := 15) fl_Th_25 (by decide) rfl (by decide) rfl rfl d_Th_init_82 ?_
  refine y_iconst (v := 1) d_Th_init_85 (by decide) ?_
  refine y_iconst (v := 1) d_Th_init_86 (by decide) ?_
  refine n_iast (z := 6) (j := 1) (by decide) rfl (vp_d rfl) (by decide) d_Th_init_87 ?_
  have hA := hA.cons (k := 15) (v := (1, 1)) (by decide)
  refine y_aload_n (q := 0) d_Th_init_88 rfl rfl ?_
  refine y_invV (Z := Y_Th_closeHolds) (kb := 10) (As := []) (rest := []) (show xM "RightsHouse$Things" 35 Y_Th_closeHolds 0 from ⟨k_1_80, k_1_3, k_1_83, by decide, by decide, by decide +kernel⟩) k_1_82 (tb_s (q := (⟨"RightsHouse$Things", "closeHolds", "()V"⟩, 7)) (by decide +kernel)) (by decide) rfl (by decide) rfl d_Th_init_89 rfl rfl ⟨⟨Nat.le_of_ble_eq_true rfl, Nat.le_of_ble_eq_true rfl⟩, Nat.le_of_ble_eq_true rfl, Nat.le_of_ble_eq_true rfl⟩ (Nat.le_of_ble_eq_true rfl) rfl rfl (n_Th_closeHolds rfl rfl hB ?_)
  show Wx E Y_Th_init 92 [(0, .ref 10)] [] 17 6 172 (s0 ((16, (5, 63)) :: ((16, (5, 63)) :: ((16, (4, 16)) :: ((16, (5, 63)) :: ((16, (3, 8)) :: ((16, (5, 63)) :: ((16, (2, 4)) :: ((16, (5, 63)) :: ((16, (1, 3)) :: ((16, (5, 63)) :: ((16, (1, 3)) :: ((16, (0, 1)) :: ((16, (5, 63)) :: ((16, (4, 16)) :: ((16, (3, 8)) :: ((16, (2, 4)) :: ((16, (1, 3)) :: ((16, (0, 1)) :: ((15, (1, 1)) :: ((15, (5, 63)) :: ((10, (0, 1)) :: ((12, (0, (-4))) :: ((11, (0, (-4))) :: []))))))))))))))))))))))) ((10, (6, 17)) :: ((10, (5, 16)) :: ((10, (4, 15)) :: ((10, (3, 14)) :: ((10, (2, 13)) :: ((10, (1, 12)) :: B))))))) _
  have hA := ((((((((((((((((((((((((xlt.nil : xlt 17 ([] : List (Nat × (Nat × Int32))))).cons (k := 11) (v := (0, (-4))) (by decide)).cons (k := 12) (v := (0, (-4))) (by decide)).cons (k := 10) (v := (0, 1)) (by decide)).cons (k := 15) (v := (5, 63)) (by decide)).cons (k := 15) (v := (1, 1)) (by decide)).cons (k := 16) (v := (0, 1)) (by decide)).cons (k := 16) (v := (1, 3)) (by decide)).cons (k := 16) (v := (2, 4)) (by decide)).cons (k := 16) (v := (3, 8)) (by decide)).cons (k := 16) (v := (4, 16)) (by decide)).cons (k := 16) (v := (5, 63)) (by decide)).cons (k := 16) (v := (0, 1)) (by decide)).cons (k := 16) (v := (1, 3)) (by decide)).cons (k := 16) (v := (5, 63)) (by decide)).cons (k := 16) (v := (1, 3)) (by decide)).cons (k := 16) (v := (5, 63)) (by decide)).cons (k := 16) (v := (2, 4)) (by decide)).cons (k := 16) (v := (5, 63)) (by decide)).cons (k := 16) (v := (3, 8)) (by decide)).cons (k := 16) (v := (5, 63)) (by decide)).cons (k := 16) (v := (4, 16)) (by decide)).cons (k := 16) (v := (5, 63)) (by decide)).cons (k := 16) (v := (5, 63)) (by decide)
  have hB := hB.le (show 17 ≤ 17 from by decide)
  exact x_vret rfl d_Th_init_92 (Nat.le_of_ble_eq_true rfl) (Nat.le_of_ble_eq_true rfl) h
theorem n_Po_init {E : xV} {A : List (Nat × (Nat × Int32))} {B : List (Nat × (Nat × Nat))} (hA : xlt 18 A) (hB : xlt 18 B) {K : xK} (h : K none 27 (s0 A ((17, (12, 27)) :: ((17, (11, 26)) :: ((17, (10, 25)) :: ((17, (8, 24)) :: ((17, (5, 23)) :: ((17, (4, 22)) :: ((17, (3, 21)) :: ((17, (2, 20)) :: ((17, (1, 19)) :: ((17, (7, 11)) :: ((17, (6, 6)) :: B))))))))))))) : Cx E Y_Po_init [.ref 17, .ref 5, .ref 10] 18 (s0 A B) K := by
  refine x_entry (by decide) (fun a => Nat.le_of_ble_eq_true rfl) rfl ?_
  refine y_aload_n (q := 0) d_Po_init_0 rfl rfl ?_
  refine y_objInit d_Po_init_1 k_1_120 k_1_28 k_1_29 (Nat.le_of_ble_eq_true rfl) (Nat.le_of_ble_eq_true rfl) (Nat.le_of_ble_eq_true rfl) ?_
  refine y_aload_n (q := 0) d_Po_init_4 rfl rfl ?_
  refine y_aload_n (q := 1) d_Po_init_5 rfl rfl ?_
  refine n_putrF (j := 6) (v := 6) fl_Po_11 rfl rfl (by decide) (by decide) rfl (by decide) rfl (fun _ => rfl) (fun _ => rfl) rfl d_Po_init_6 ?_
  have hB := hB.cons (k := 17) (v := (6, 6)) (by decide)
  refine y_aload_n (q := 0) d_Po_init_9 rfl rfl ?_
  refine y_aload_n (q := 2) d_Po_init_10 rfl rfl ?_
  refine n_putrF (j := 7) (v := 11) fl_Po_17 rfl rfl (by decide) (by decide) rfl (by decide) rfl (fun _ => rfl) (fun _ => rfl) rfl d_Po_init_11 ?_
  have hB := hB.cons (k := 17) (v := (7, 11)) (by decide)
  refine y_aload_n (q := 0) d_Po_init_14 rfl rfl ?_
  refine y_bipush (v := 8) d_Po_init_15 (by decide) ?_
  refine n_newi (z := 8) (n' := 19) (cs' := 1) (ss' := 8) hA hB (by decide) d_Po_init_17 k_1_72 (by decide) (by decide) (by decide) rfl (Nat.le_of_ble_eq_true rfl) (Nat.le_of_ble_eq_true rfl) rfl rfl ⟨rfl, rfl, rfl⟩ ?_
  have hA := hA.le (show 18 ≤ 19 from by decide)
  have hB := hB.le (show 18 ≤ 19 from by decide)
  refine n_putrF (j := 1) (v := 19) fl_Po_21 rfl rfl (by decide) (by decide) rfl (by decide) rfl (fun _ => rfl) (fun _ => rfl) rfl d_Po_init_19 ?_
  have hB := hB.cons (k := 17) (v := (1, 19)) (by decide)
  refine y_aload_n (q := 0) d_Po_init_22 rfl rfl ?_
  refine y_bipush (v := 8) d_Po_init_23 (by decide) ?_
  refine n_newi (z := 8) (n' := 20) (cs' := 2) (ss' := 16) hA hB (by decide) d_Po_init_25 k_1_72 (by decide) (by decide) (by decide) rfl (Nat.le_of_ble_eq_true rfl) (Nat.le_of_ble_eq_true rfl) rfl rfl ⟨rfl, rfl, rfl⟩ ?_
  have hA := hA.le (show 19 ≤ 20 from by decide)
  have hB := hB.le (show 19 ≤ 20 from by decide)
  refine n_putrF (j := 2) (v := 20) fl_Po_25 rfl rfl (by decide) (by decide) rfl (by decide) rfl (fun _ => rfl) (fun _ => rfl) rfl d_Po_init_27 ?_
  have hB := hB.cons (k := 17) (v := (2, 20)) (by decide)
  refine y_aload_n (q := 0) d_Po_init_30 rfl rfl ?_
  refine y_sipush (v := 2160) d_Po_init_31 (by decide) ?_
  refine n_newi (z := 2160) (n' := 21) (cs' := 3) (ss' := 2176) hA hB (by decide) d_Po_init_34 k_1_72 (by decide) (by decide) (by decide) rfl (Nat.le_of_ble_eq_true rfl) (Nat.le_of_ble_eq_true rfl) rfl rfl ⟨rfl, rfl, rfl⟩ ?_
  have hA := hA.le (show 20 ≤ 21 from by decide)
  have hB := hB.le (show 20 ≤ 21 from by decide)
  refine n_putrF (j := 3) (v := 21) fl_Po_28 rfl rfl (by decide) (by decide) rfl (by decide) rfl (fun _ => rfl) (fun _ => rfl) rfl d_Po_init_36 ?_
  have hB := hB.cons (k := 17) (v := (3, 21)) (by decide)
  refine y_aload_n (q := 0) d_Po_init_39 rfl rfl ?_
  refine y_sipush (v := 9600) d_Po_init_40 (by decide) ?_
  refine n_newi (z := 9600) (n' := 22) (cs' := 4) (ss' := 11776) hA hB (by decide) d_Po_init_43 k_1_72 (by decide) (by decide) (by decide) rfl (Nat.le_of_ble_eq_true rfl) (Nat.le_of_ble_eq_true rfl) rfl rfl ⟨rfl, rfl, rfl⟩ ?_
  have hA := hA.le (show 21 ≤ 22 from by decide)
  have hB := hB.le (show 21 ≤ 22 from by decide)
  refine n_putrF (j := 4) (v := 22) fl_Po_31 rfl rfl (by decide) (by decide) rfl (by decide) rfl (fun _ => rfl) (fun _ => rfl) rfl d_Po_init_45 ?_
  have hB := hB.cons (k := 17) (v := (4, 22)) (by decide)
  refine y_aload_n (q := 0) d_Po_init_48 rfl rfl ?_
  refine y_sipush (v := 9600) d_Po_init_49 (by decide) ?_
  refine n_newj (z := 9600) (n' := 23) (cs' := 5) (ss' := 21376) hA hB (by decide) d_Po_init_52 k_1_73 (by decide) (by decide) (by decide) rfl (Nat.le_of_ble_eq_true rfl) (Nat.le_of_ble_eq_true rfl) rfl rfl ⟨rfl, rfl, rfl⟩ ?_
  have hA := hA.le (show 22 ≤ 23 from by decide)
  have hB := hB.le (show 22 ≤ 23 from by decide)
  refine n_putrF (j := 5) (v := 23) fl_Po_34 rfl rfl (by decide) (by decide) rfl (by decide) rfl (fun _ => rfl) (fun _ => rfl) rfl d_Po_init_54 ?_
  have hB := hB.cons (k := 17) (v := (5, 23)) (by decide)
  refine y_aload_n (q := 0) d_Po_init_57 rfl rfl ?_
  refine y_sipush (v := 1200) d_Po_init_58 (by decide) ?_
  refine n_newi (z := 1200) (n' := 24) (cs' := 6) (ss' := 22576) hA hB (by decide) d_Po_init_61 k_1_72 (by decide) (by decide) (by decide) rfl (Nat.le_of_ble_eq_true rfl) (Nat.le_of_ble_eq_true rfl) rfl rfl ⟨rfl, rfl, rfl⟩ ?_
  have hA := hA.le (show 23 ≤ 24 from by decide)
  have hB := hB.le (show 23 ≤ 24 from by decide)
  refine n_putrF (j := 8) (v := 24) fl_Po_38 rfl rfl (by decide) (by decide) rfl (by decide) rfl (fun _ => rfl) (fun _ => rfl) rfl d_Po_init_63 ?_
  have hB := hB.cons (k := 17) (v := (8, 24)) (by decide)
  refine y_aload_n (q := 0) d_Po_init_66 rfl rfl ?_
  refine y_sipush (v := 1201) d_Po_init_67 (by decide) ?_
  refine n_newi (z := 1201) (n' := 25) (cs' := 7) (ss' := 23777) hA hB (by decide) d_Po_init_70 k_1_72 (by decide) (by decide) (by decide) rfl (Nat.le_of_ble_eq_true rfl) (Nat.le_of_ble_eq_true rfl) rfl rfl ⟨rfl, rfl, rfl⟩ ?_
  have hA := hA.le (show 24 ≤ 25 from by decide)
  have hB := hB.le (show 24 ≤ 25 from by decide)
  refine n_putrF (j := 10) (v := 25) fl_Po_41 rfl rfl (by decide) (by decide) rfl (by decide) rfl (fun _ => rfl) (fun _ => rfl) rfl d_Po_init_72 ?_
  have hB := hB.cons (k := 17) (v := (10, 25)) (by decide)
  refine y_aload_n (q := 0) d_Po_init_75 rfl rfl ?_
  refine y_sipush (v := 1201) d_Po_init_76 (by decide) ?_
  refine n_newi (z := 1201) (n' := 26) (cs' := 8) (ss' := 24978) hA hB (by decide) d_Po_init_79 k_1_72 (by decide) (by decide) (by decide) rfl (Nat.le_of_ble_eq_true rfl) (Nat.le_of_ble_eq_true rfl) rfl rfl ⟨rfl, rfl, rfl⟩ ?_
  have hA := hA.le (show 25 ≤ 26 from by decide)
  have hB := hB.le (show 25 ≤ 26 from by decide)
  refine n_putrF (j := 11) (v := 26) fl_Po_44 rfl rfl (by decide) (by decide) rfl (by decide) rfl (fun _ => rfl) (fun _ => rfl) rfl d_Po_init_81 ?_
  have hB := hB.cons (k := 17) (v := (11, 26)) (by decide)
  refine y_aload_n (q := 0) d_Po_init_84 rfl rfl ?_
  refine y_sipush (v := 1201) d_Po_init_85 (by decide) ?_
  refine n_newj (z := 1201) (n' := 27) (cs' := 9) (ss' := 26179) hA hB (by decide) d_Po_init_88 k_1_73 (by decide) (by decide) (by decide) rfl (Nat.le_of_ble_eq_true rfl) (Nat.le_of_ble_eq_true rfl) rfl rfl ⟨rfl, rfl, rfl⟩ ?_
  have hA := hA.le (show 26 ≤ 27 from by decide)
  have hB := hB.le (show 26 ≤ 27 from by decide)
  refine n_putrF (j := 12) (v := 27) fl_Po_47 rfl rfl (by decide) (by decide) rfl (by decide) rfl (fun _ => rfl) (fun _ => rfl) rfl d_Po_init_90 ?_
  have hB := hB.cons (k := 17) (v := (12, 27)) (by decide)
  exact x_vret rfl d_Po_init_93 (Nat.le_of_ble_eq_true rfl) (Nat.le_of_ble_eq_true rfl) h
theorem n_Ju_init {E : xV} {A : List (Nat × (Nat × Int32))} {B : List (Nat × (Nat × Nat))} (hA : xlt 28 A) (hB : xlt 28 B) {K : xK} (h : K none 34 (s0 A ((27, (17, 34)) :: ((27, (15, 33)) :: ((27, (14, 32)) :: ((27, (11, 31)) :: ((27, (9, 30)) :: ((27, (8, 29)) :: ((27, (2, 18)) :: ((27, (1, 11)) :: ((27, (0, 6)) :: B))))))))))) : Cx E Y_Ju_init [.ref 27, .ref 5, .ref 10, .ref 17] 28 (s0 A B) K := by
  refine x_entry (by decide) (fun a => Nat.le_of_ble_eq_true rfl) rfl ?_
  refine y_aload_n (q := 0) d_Ju_init_0 rfl rfl ?_
  refine y_objInit d_Ju_init_1 k_1_185 k_1_28 k_1_29 (Nat.le_of_ble_eq_true rfl) (Nat.le_of_ble_eq_true rfl) (Nat.le_of_ble_eq_true rfl) ?_
  refine y_aload_n (q := 0) d_Ju_init_4 rfl rfl ?_
  refine y_aload_n (q := 1) d_Ju_init_5 rfl rfl ?_
  refine n_putrF (j := 0) (v := 6) fl_Ju_9 rfl rfl (by decide) (by decide) rfl (by decide) rfl (fun _ => rfl) (fun _ => rfl) rfl d_Ju_init_6 ?_
  have hB := hB.cons (k := 27) (v := (0, 6)) (by decide)
  refine y_aload_n (q := 0) d_Ju_init_9 rfl rfl ?_
  refine y_aload_n (q := 2) d_Ju_init_10 rfl rfl ?_
  refine n_putrF (j := 1) (v := 11) fl_Ju_15 rfl rfl (by decide) (by decide) rfl (by decide) rfl (fun _ => rfl) (fun _ => rfl) rfl d_Ju_init_11 ?_
  have hB := hB.cons (k := 27) (v := (1, 11)) (by decide)
  refine y_aload_n (q := 0) d_Ju_init_14 rfl rfl ?_
  refine y_aload_n (q := 3) d_Ju_init_15 rfl rfl ?_
  refine n_putrF (j := 2) (v := 18) fl_Ju_19 rfl rfl (by decide) (by decide) rfl (by decide) rfl (fun _ => rfl) (fun _ => rfl) rfl d_Ju_init_16 ?_
  have hB := hB.cons (k := 27) (v := (2, 18)) (by decide)
  refine y_aload_n (q := 0) d_Ju_init_19 rfl rfl ?_
  refine y_bipush (v := 64) d_Ju_init_20 (by decide) ?_
  refine n_newj (z := 64) (n' := 29) (cs' := 1) (ss' := 64) hA hB (by decide) d_Ju_init_22 k_1_73 (by decide) (by decide) (by decide) rfl (Nat.le_of_ble_eq_true rfl) (Nat.le_of_ble_eq_true rfl) rfl rfl ⟨rfl, rfl, rfl⟩ ?_
  have hA := hA.le (show 28 ≤ 29 from by decide)
  have hB := hB.le (show 28 ≤ 29 from by decide)
  refine n_putrF (j := 8) (v := 29) fl_Ju_23 rfl rfl (by decide) (by decide) rfl (by decide) rfl (fun _ => rfl) (fun _ => rfl) rfl d_Ju_init_24 ?_
  have hB := hB.cons (k := 27) (v := (8, 29)) (by decide)
  refine y_aload_n (q := 0) d_Ju_init_27 rfl rfl ?_
  refine y_bipush (v := 64) d_Ju_init_28 (by decide) ?_
  refine n_newz (z := 64) (n' := 30) (cs' := 2) (ss' := 128) hA hB (by decide) d_Ju_init_30 k_1_114 (by decide) (by decide) (by decide) rfl (Nat.le_of_ble_eq_true rfl) (Nat.le_of_ble_eq_true rfl) rfl rfl ⟨rfl, rfl, rfl⟩ ?_
  have hA := hA.le (show 29 ≤ 30 from by decide)
  have hB := hB.le (show 29 ≤ 30 from by decide)
  refine n_putrF (j := 9) (v := 30) fl_Ju_27 rfl rfl (by decide) (by decide) rfl (by decide) rfl (fun _ => rfl) (fun _ => rfl) rfl d_Ju_init_32 ?_
  have hB := hB.cons (k := 27) (v := (9, 30)) (by decide)
  refine y_aload_n (q := 0) d_Ju_init_35 rfl rfl ?_
  refine y_bipush (v := 64) d_Ju_init_36 (by decide) ?_
  refine n_newi (z := 64) (n' := 31) (cs' := 3) (ss' := 192) hA hB (by decide) d_Ju_init_38 k_1_72 (by decide) (by decide) (by decide) rfl (Nat.le_of_ble_eq_true rfl) (Nat.le_of_ble_eq_true rfl) rfl rfl ⟨rfl, rfl, rfl⟩ ?_
  have hA := hA.le (show 30 ≤ 31 from by decide)
  have hB := hB.le (show 30 ≤ 31 from by decide)
  refine n_putrF (j := 11) (v := 31) fl_Ju_31 rfl rfl (by decide) (by decide) rfl (by decide) rfl (fun _ => rfl) (fun _ => rfl) rfl d_Ju_init_40 ?_
  have hB := hB.cons (k := 27) (v := (11, 31)) (by decide)
  refine y_aload_n (q := 0) d_Ju_init_43 rfl rfl ?_
  refine y_iconst (v := 4) d_Ju_init_44 (by decide) ?_
  refine n_newi (z := 4) (n' := 32) (cs' := 4) (ss' := 196) hA hB (by decide) d_Ju_init_45 k_1_72 (by decide) (by decide) (by decide) rfl (Nat.le_of_ble_eq_true rfl) (Nat.le_of_ble_eq_true rfl) rfl rfl ⟨rfl, rfl, rfl⟩ ?_
  have hA := hA.le (show 31 ≤ 32 from by decide)
  have hB := hB.le (show 31 ≤ 32 from by decide)
  refine n_putrF (j := 14) (v := 32) fl_Ju_35 rfl rfl (by decide) (by decide) rfl (by decide) rfl (fun _ => rfl) (fun _ => rfl) rfl d_Ju_init_47 ?_
  have hB := hB.cons (k := 27) (v := (14, 32)) (by decide)
  refine y_aload_n (q := 0) d_Ju_init_50 rfl rfl ?_
  refine y_iconst (v := 4) d_Ju_init_51 (by decide) ?_
  refine n_newi (z := 4) (n' := 33) (cs' := 5) (ss' := 200) hA hB (by decide) d_Ju_init_52 k_1_72 (by decide) (by decide) (by decide) rfl (Nat.le_of_ble_eq_true rfl) (Nat.le_of_ble_eq_true rfl) rfl rfl ⟨rfl, rfl, rfl⟩ ?_
  have hA := hA.le (show 32 ≤ 33 from by decide)
  have hB := hB.le (show 32 ≤ 33 from by decide)
  refine n_putrF (j := 15) (v := 33) fl_Ju_38 rfl rfl (by decide) (by decide) rfl (by decide) rfl (fun _ => rfl) (fun _ => rfl) rfl d_Ju_init_54 ?_
  have hB := hB.cons (k := 27) (v := (15, 33)) (by decide)
  refine y_aload_n (q := 0) d_Ju_init_57 rfl rfl ?_
  refine y_bipush (v := 6) d_Ju_init_58 (by decide) ?_
  refine n_newi (z := 6) (n' := 34) (cs' := 6) (ss' := 206) hA hB (by decide) d_Ju_init_60 k_1_72 (by decide) (by decide) (by decide) rfl (Nat.le_of_ble_eq_true rfl) (Nat.le_of_ble_eq_true rfl) rfl rfl ⟨rfl, rfl, rfl⟩ ?_
  have hA := hA.le (show 33 ≤ 34 from by decide)
  have hB := hB.le (show 33 ≤ 34 from by decide)
  refine n_putrF (j := 17) (v := 34) fl_Ju_41 rfl rfl (by decide) (by decide) rfl (by decide) rfl (fun _ => rfl) (fun _ => rfl) rfl d_Ju_init_62 ?_
  have hB := hB.cons (k := 27) (v := (17, 34)) (by decide)
  exact x_vret rfl d_Ju_init_65 (Nat.le_of_ble_eq_true rfl) (Nat.le_of_ble_eq_true rfl) h
theorem n_Ro_init {E : xV} {A : List (Nat × (Nat × Int32))} {B : List (Nat × (Nat × Nat))} (hA : xlt 35 A) (hB : xlt 35 B) {K : xK} (h : K none 41 (s0 ((34, (5, (-4))) :: A) ((34, (9, 41)) :: ((34, (8, 40)) :: ((34, (7, 39)) :: ((34, (4, 38)) :: ((34, (3, 37)) :: ((34, (2, 36)) :: ((34, (0, 6)) :: B))))))))) : Cx E Y_Ro_init [.ref 34, .ref 5] 35 (s0 A B) K := by
  refine x_entry (by decide) (fun a => Nat.le_of_ble_eq_true rfl) rfl ?_
  refine y_aload_n (q := 0) d_Ro_init_0 rfl rfl ?_
  refine y_objInit d_Ro_init_1 k_2_17 k_1_28 k_1_29 (Nat.le_of_ble_eq_true rfl) (Nat.le_of_ble_eq_true rfl) (Nat.le_of_ble_eq_true rfl) ?_
  refine y_aload_n (q := 0) d_Ro_init_4 rfl rfl ?_
  refine y_aload_n (q := 1) d_Ro_init_5 rfl rfl ?_
  refine n_putrF (j := 0) (v := 6) fl_Ro_11 rfl rfl (by decide) (by decide) rfl (by decide) rfl (fun _ => rfl) (fun _ => rfl) rfl d_Ro_init_6 ?_
  have hB := hB.cons (k := 34) (v := (0, 6)) (by decide)
  refine y_aload_n (q := 0) d_Ro_init_9 rfl rfl ?_
  refine y_bipush (v := 20) d_Ro_init_10 (by decide) ?_
  refine n_newi (z := 20) (n' := 36) (cs' := 1) (ss' := 20) hA hB (by decide) d_Ro_init_12 k_1_72 (by decide) (by decide) (by decide) rfl (Nat.le_of_ble_eq_true rfl) (Nat.le_of_ble_eq_true rfl) rfl rfl ⟨rfl, rfl, rfl⟩ ?_
  have hA := hA.le (show 35 ≤ 36 from by decide)
  have hB := hB.le (show 35 ≤ 36 from by decide)
  refine n_putrF (j := 2) (v := 36) fl_Ro_15 rfl rfl (by decide) (by decide) rfl (by decide) rfl (fun _ => rfl) (fun _ => rfl) rfl d_Ro_init_14 ?_
  have hB := hB.cons (k := 34) (v := (2, 36)) (by decide)
  refine y_aload_n (q := 0) d_Ro_init_17 rfl rfl ?_
  refine y_bipush (v := 20) d_Ro_init_18 (by decide) ?_
  refine n_newi (z := 20) (n' := 37) (cs' := 2) (ss' := 40) hA hB (by decide) d_Ro_init_20 k_1_72 (by decide) (by decide) (by decide) rfl (Nat.le_of_ble_eq_true rfl) (Nat.le_of_ble_eq_true rfl) rfl rfl ⟨rfl, rfl, rfl⟩ ?_
  have hA := hA.le (show 36 ≤ 37 from by decide)
  have hB := hB.le (show 36 ≤ 37 from by decide)
  refine n_putrF (j := 3) (v := 37) fl_Ro_19 rfl rfl (by decide) (by decide) rfl (by decide) rfl (fun _ => rfl) (fun _ => rfl) rfl d_Ro_init_22 ?_
  have hB := hB.cons (k := 34) (v := (3, 37)) (by decide)
  refine y_aload_n (q := 0) d_Ro_init_25 rfl rfl ?_
  refine y_bipush (v := 20) d_Ro_init_26 (by decide) ?_
  refine n_newi (z := 20) (n' := 38) (cs' := 3) (ss' := 60) hA hB (by decide) d_Ro_init_28 k_1_72 (by decide) (by decide) (by decide) rfl (Nat.le_of_ble_eq_true rfl) (Nat.le_of_ble_eq_true rfl) rfl rfl ⟨rfl, rfl, rfl⟩ ?_
  have hA := hA.le (show 37 ≤ 38 from by decide)
  have hB := hB.le (show 37 ≤ 38 from by decide)
  refine n_putrF (j := 4) (v := 38) fl_Ro_22 rfl rfl (by decide) (by decide) rfl (by decide) rfl (fun _ => rfl) (fun _ => rfl) rfl d_Ro_init_30 ?_
  have hB := hB.cons (k := 34) (v := (4, 38)) (by decide)
  refine y_aload_n (q := 0) d_Ro_init_33 rfl rfl ?_
  refine y_bipush (v := 8) d_Ro_init_34 (by decide) ?_
  refine n_newi (z := 8) (n' := 39) (cs' := 4) (ss' := 68) hA hB (by decide) d_Ro_init_36 k_1_72 (by decide) (by decide) (by decide) rfl (Nat.le_of_ble_eq_true rfl) (Nat.le_of_ble_eq_true rfl) rfl rfl ⟨rfl, rfl, rfl⟩ ?_
  have hA := hA.le (show 38 ≤ 39 from by decide)
  have hB := hB.le (show 38 ≤ 39 from by decide)
  refine n_putrF (j := 7) (v := 39) fl_Ro_25 rfl rfl (by decide) (by decide) rfl (by decide) rfl (fun _ => rfl) (fun _ => rfl) rfl d_Ro_init_38 ?_
  have hB := hB.cons (k := 34) (v := (7, 39)) (by decide)
  refine y_aload_n (q := 0) d_Ro_init_41 rfl rfl ?_
  refine y_bipush (v := 8) d_Ro_init_42 (by decide) ?_
  refine n_newi (z := 8) (n' := 40) (cs' := 5) (ss' := 76) hA hB (by decide) d_Ro_init_44 k_1_72 (by decide) (by decide) (by decide) rfl (Nat.le_of_ble_eq_true rfl) (Nat.le_of_ble_eq_true rfl) rfl rfl ⟨rfl, rfl, rfl⟩ ?_
  have hA := hA.le (show 39 ≤ 40 from by decide)
  have hB := hB.le (show 39 ≤ 40 from by decide)
  refine n_putrF (j := 8) (v := 40) fl_Ro_28 rfl rfl (by decide) (by decide) rfl (by decide) rfl (fun _ => rfl) (fun _ => rfl) rfl d_Ro_init_46 ?_
  have hB := hB.cons (k := 34) (v := (8, 40)) (by decide)
  refine y_aload_n (q := 0) d_Ro_init_49 rfl rfl ?_
  refine y_bipush (v := 20) d_Ro_init_50 (by decide) ?_
  refine n_newi (z := 20) (n' := 41) (cs' := 6) (ss' := 96) hA hB (by decide) d_Ro_init_52 k_1_72 (by decide) (by decide) (by decide) rfl (Nat.le_of_ble_eq_true rfl) (Nat.le_of_ble_eq_true rfl) rfl rfl ⟨rfl, rfl, rfl⟩ ?_
  have hA := hA.le (show 40 ≤ 41 from by decide)
  have hB := hB.le (show 40 ≤ 41 from by decide)
  refine n_putrF (j := 9) (v := 41) fl_Ro_33 rfl rfl (by decide) (by decide) rfl (by decide) rfl (fun _ => rfl) (fun _ => rfl) rfl d_Ro_init_54 ?_
  have hB := hB.cons (k := 34) (v := (9, 41)) (by decide)
  refine y_aload_n (q := 0) d_Ro_init_57 rfl rfl ?_
  refine y_bipush (v := (-4)) d_Ro_init_58 (by decide) ?_
  refine n_puti (j := 5) fl_Ro_36 (by decide) rfl (by decide) rfl rfl rfl d_Ro_init_60 ?_
  have hA := hA.cons (k := 34) (v := (5, (-4))) (by decide)
  exact x_vret rfl d_Ro_init_63 (Nat.le_of_ble_eq_true rfl) (Nat.le_of_ble_eq_true rfl) h
theorem n_Wo_init {E : xV} {A : List (Nat × (Nat × Int32))} {B : List (Nat × (Nat × Nat))} (hA : xlt 42 A) (hB : xlt 42 B) {K : xK} (h : K none 52 (s0 ((49, (31, (-4))) :: ((44, (31, (-4))) :: ((49, (30, (-4))) :: ((44, (30, (-4))) :: ((49, (29, (-4))) :: ((44, (29, (-4))) :: ((49, (28, (-4))) :: ((44, (28, (-4))) :: ((49, (27, (-4))) :: ((44, (27, (-4))) :: ((49, (26, (-4))) :: ((44, (26, (-4))) :: ((49, (25, (-4))) :: ((44, (25, (-4))) :: ((49, (24, (-4))) :: ((44, (24, (-4))) :: ((49, (23, (-4))) :: ((44, (23, (-4))) :: ((49, (22, (-4))) :: ((44, (22, (-4))) :: ((49, (21, (-4))) :: ((44, (21, (-4))) :: ((49, (20, (-4))) :: ((44, (20, (-4))) :: ((49, (19, (-4))) :: ((44, (19, (-4))) :: ((49, (18, (-4))) :: ((44, (18, (-4))) :: ((49, (17, (-4))) :: ((44, (17, (-4))) :: ((49, (16, (-4))) :: ((44, (16, (-4))) :: ((49, (15, (-4))) :: ((44, (15, (-4))) :: ((49, (14, (-4))) :: ((44, (14, (-4))) :: ((49, (13, (-4))) :: ((44, (13, (-4))) :: ((49, (12, (-4))) :: ((44, (12, (-4))) :: ((49, (11, (-4))) :: ((44, (11, (-4))) :: ((49, (10, (-4))) :: ((44, (10, (-4))) :: ((49, (9, (-4))) :: ((44, (9, (-4))) :: ((49, (8, (-4))) :: ((44, (8, (-4))) :: ((49, (7, (-4))) :: ((44, (7, (-4))) :: ((49, (6, (-4))) :: ((44, (6, (-4))) :: ((49, (5, (-4))) :: ((44, (5, (-4))) :: ((49, (4, (-4))) :: ((44, (4, (-4))) :: ((49, (3, (-4))) :: ((44, (3, (-4))) :: ((49, (2, (-4))) :: ((44, (2, (-4))) :: ((49, (1, (-4))) :: ((44, (1, (-4))) :: ((49, (0, (-4))) :: ((44, (0, (-4))) :: A)))))))))))))))))))))))))))))))))))))))))))))))))))))))))))))))) ((41, (11, 52)) :: ((41, (10, 51)) :: ((41, (9, 50)) :: ((41, (8, 49)) :: ((41, (7, 48)) :: ((41, (6, 47)) :: ((41, (5, 46)) :: ((41, (4, 45)) :: ((41, (3, 44)) :: ((41, (2, 43)) :: ((41, (0, 6)) :: B))))))))))))) : Cx E Y_Wo_init [.ref 41, .ref 5] 42 (s0 A B) K := by
  refine x_entry (by decide) (fun a => Nat.le_of_ble_eq_true rfl) rfl ?_
  refine y_aload_n (q := 0) d_Wo_init_0 rfl rfl ?_
  refine y_objInit d_Wo_init_1 k_2_59 k_1_28 k_1_29 (Nat.le_of_ble_eq_true rfl) (Nat.le_of_ble_eq_true rfl) (Nat.le_of_ble_eq_true rfl) ?_
  refine y_aload_n (q := 0) d_Wo_init_4 rfl rfl ?_
  refine y_aload_n (q := 1) d_Wo_init_5 rfl rfl ?_
  refine n_putrF (j := 0) (v := 6) fl_Wo_9 rfl rfl (by decide) (by decide) rfl (by decide) rfl (fun _ => rfl) (fun _ => rfl) rfl d_Wo_init_6 ?_
  have hB := hB.cons (k := 41) (v := (0, 6)) (by decide)
  refine y_aload_n (q := 0) d_Wo_init_9 rfl rfl ?_
  refine y_iconst (v := 4) d_Wo_init_10 (by decide) ?_
  refine n_newi (z := 4) (n' := 43) (cs' := 1) (ss' := 4) hA hB (by decide) d_Wo_init_11 k_1_72 (by decide) (by decide) (by decide) rfl (Nat.le_of_ble_eq_true rfl) (Nat.le_of_ble_eq_true rfl) rfl rfl ⟨rfl, rfl, rfl⟩ ?_
  have hA := hA.le (show 42 ≤ 43 from by decide)
  have hB := hB.le (show 42 ≤ 43 from by decide)
  refine n_putrF (j := 2) (v := 43) fl_Wo_15 rfl rfl (by decide) (by decide) rfl (by decide) rfl (fun _ => rfl) (fun _ => rfl) rfl d_Wo_init_13 ?_
  have hB := hB.cons (k := 41) (v := (2, 43)) (by decide)
  refine y_aload_n (q := 0) d_Wo_init_16 rfl rfl ?_
  refine y_bipush (v := 32) d_Wo_init_17 (by decide) ?_
  refine n_newi (z := 32) (n' := 44) (cs' := 2) (ss' := 36) hA hB (by decide) d_Wo_init_19 k_1_72 (by decide) (by decide) (by decide) rfl (Nat.le_of_ble_eq_true rfl) (Nat.le_of_ble_eq_true rfl) rfl rfl ⟨rfl, rfl, rfl⟩ ?_
  have hA := hA.le (show 43 ≤ 44 from by decide)
  have hB := hB.le (show 43 ≤ 44 from by decide)
  refine n_putrF (j := 3) (v := 44) fl_Wo_19 rfl rfl (by decide) (by decide) rfl (by decide) rfl (fun _ => rfl) (fun _ => rfl) rfl d_Wo_init_21 ?_
  have hB := hB.cons (k := 41) (v := (3, 44)) (by decide)
  refine y_aload_n (q := 0) d_Wo_init_24 rfl rfl ?_
  refine y_bipush (v := 32) d_Wo_init_25 (by decide) ?_
  refine n_newi (z := 32) (n' := 45) (cs' := 3) (ss' := 68) hA hB (by decide) d_Wo_init_27 k_1_72 (by decide) (by decide) (by decide) rfl (Nat.le_of_ble_eq_true rfl) (Nat.le_of_ble_eq_true rfl) rfl rfl ⟨rfl, rfl, rfl⟩ ?_
  have hA := hA.le (show 44 ≤ 45 from by decide)
  have hB := hB.le (show 44 ≤ 45 from by decide)
  refine n_putrF (j := 4) (v := 45) fl_Wo_22 rfl rfl (by decide) (by decide) rfl (by decide) rfl (fun _ => rfl) (fun _ => rfl) rfl d_Wo_init_29 ?_
  have hB := hB.cons (k := 41) (v := (4, 45)) (by decide)
  refine y_aload_n (q := 0) d_Wo_init_32 rfl rfl ?_
  refine y_iconst (v := 4) d_Wo_init_33 (by decide) ?_
  refine n_newi (z := 4) (n' := 46) (cs' := 4) (ss' := 72) hA hB (by decide) d_Wo_init_34 k_1_72 (by decide) (by decide) (by decide) rfl (Nat.le_of_ble_eq_true rfl) (Nat.le_of_ble_eq_true rfl) rfl rfl ⟨rfl, rfl, rfl⟩ ?_
  have hA := hA.le (show 45 ≤ 46 from by decide)
  have hB := hB.le (show 45 ≤ 46 from by decide)
  refine n_putrF (j := 5) (v := 46) fl_Wo_25 rfl rfl (by decide) (by decide) rfl (by decide) rfl (fun _ => rfl) (fun _ => rfl) rfl d_Wo_init_36 ?_
  have hB := hB.cons (k := 41) (v := (5, 46)) (by decide)
  refine y_aload_n (q := 0) d_Wo_init_39 rfl rfl ?_
  refine y_bipush (v := 48) d_Wo_init_40 (by decide) ?_
  refine n_newi (z := 48) (n' := 47) (cs' := 5) (ss' := 120) hA hB (by decide) d_Wo_init_42 k_1_72 (by decide) (by decide) (by decide) rfl (Nat.le_of_ble_eq_true rfl) (Nat.le_of_ble_eq_true rfl) rfl rfl ⟨rfl, rfl, rfl⟩ ?_
  have hA := hA.le (show 46 ≤ 47 from by decide)
  have hB := hB.le (show 46 ≤ 47 from by decide)
  refine n_putrF (j := 6) (v := 47) fl_Wo_28 rfl rfl (by decide) (by decide) rfl (by decide) rfl (fun _ => rfl) (fun _ => rfl) rfl d_Wo_init_44 ?_
  have hB := hB.cons (k := 41) (v := (6, 47)) (by decide)
  refine y_aload_n (q := 0) d_Wo_init_47 rfl rfl ?_
  refine y_bipush (v := 48) d_Wo_init_48 (by decide) ?_
  refine n_newi (z := 48) (n' := 48) (cs' := 6) (ss' := 168) hA hB (by decide) d_Wo_init_50 k_1_72 (by decide) (by decide) (by decide) rfl (Nat.le_of_ble_eq_true rfl) (Nat.le_of_ble_eq_true rfl) rfl rfl ⟨rfl, rfl, rfl⟩ ?_
  have hA := hA.le (show 47 ≤ 48 from by decide)
  have hB := hB.le (show 47 ≤ 48 from by decide)
  refine n_putrF (j := 7) (v := 48) fl_Wo_31 rfl rfl (by decide) (by decide) rfl (by decide) rfl (fun _ => rfl) (fun _ => rfl) rfl d_Wo_init_52 ?_
  have hB := hB.cons (k := 41) (v := (7, 48)) (by decide)
  refine y_aload_n (q := 0) d_Wo_init_55 rfl rfl ?_
  refine y_bipush (v := 48) d_Wo_init_56 (by decide) ?_
  refine n_newi (z := 48) (n' := 49) (cs' := 7) (ss' := 216) hA hB (by decide) d_Wo_init_58 k_1_72 (by decide) (by decide) (by decide) rfl (Nat.le_of_ble_eq_true rfl) (Nat.le_of_ble_eq_true rfl) rfl rfl ⟨rfl, rfl, rfl⟩ ?_
  have hA := hA.le (show 48 ≤ 49 from by decide)
  have hB := hB.le (show 48 ≤ 49 from by decide)
  refine n_putrF (j := 8) (v := 49) fl_Wo_34 rfl rfl (by decide) (by decide) rfl (by decide) rfl (fun _ => rfl) (fun _ => rfl) rfl d_Wo_init_60 ?_
  have hB := hB.cons (k := 41) (v := (8, 49)) (by decide)
  refine y_aload_n (q := 0) d_Wo_init_63 rfl rfl ?_
  refine y_bipush (v := 32) d_Wo_init_64 (by decide) ?_
  refine n_newi (z := 32) (n' := 50) (cs' := 8) (ss' := 248) hA hB (by decide) d_Wo_init_66 k_1_72 (by decide) (by decide) (by decide) rfl (Nat.le_of_ble_eq_true rfl) (Nat.le_of_ble_eq_true rfl) rfl rfl ⟨rfl, rfl, rfl⟩ ?_
  have hA := hA.le (show 49 ≤ 50 from by decide)
  have hB := hB.le (show 49 ≤ 50 from by decide)
  refine n_putrF (j := 9) (v := 50) fl_Wo_37 rfl rfl (by decide) (by decide) rfl (by decide) rfl (fun _ => rfl) (fun _ => rfl) rfl d_Wo_init_68 ?_
  have hB := hB.cons (k := 41) (v := (9, 50)) (by decide)
  refine y_aload_n (q := 0) d_Wo_init_71 rfl rfl ?_
  refine y_bipush (v := 8) d_Wo_init_72 (by decide) ?_
  refine n_newi (z := 8) (n' := 51) (cs' := 9) (ss' := 256) hA hB (by decide) d_Wo_init_74 k_1_72 (by decide) (by decide) (by decide) rfl (Nat.le_of_ble_eq_true rfl) (Nat.le_of_ble_eq_true rfl) rfl rfl ⟨rfl, rfl, rfl⟩ ?_
  have hA := hA.le (show 50 ≤ 51 from by decide)
  have hB := hB.le (show 50 ≤ 51 from by decide)
  refine n_putrF (j := 10) (v := 51) fl_Wo_40 rfl rfl (by decide) (by decide) rfl (by decide) rfl (fun _ => rfl) (fun _ => rfl) rfl d_Wo_init_76 ?_
  have hB := hB.cons (k := 41) (v := (10, 51)) (by decide)
  refine y_aload_n (q := 0) d_Wo_init_79 rfl rfl ?_
  refine y_bipush (v := 8) d_Wo_init_80 (by decide) ?_
  refine n_newi (z := 8) (n' := 52) (cs' := 10) (ss' := 264) hA hB (by decide) d_Wo_init_82 k_1_72 (by decide) (by decide) (by decide) rfl (Nat.le_of_ble_eq_true rfl) (Nat.le_of_ble_eq_true rfl) rfl rfl ⟨rfl, rfl, rfl⟩ ?_
  have hA := hA.le (show 51 ≤ 52 from by decide)
  have hB := hB.le (show 51 ≤ 52 from by decide)
  refine n_putrF (j := 11) (v := 52) fl_Wo_43 rfl rfl (by decide) (by decide) rfl (by decide) rfl (fun _ => rfl) (fun _ => rfl) rfl d_Wo_init_84 ?_
  have hB := hB.cons (k := 41) (v := (11, 52)) (by decide)
  refine y_iconst (v := 0) d_Wo_init_87 (by decide) ?_
  refine y_istore_n (lv' := [(2, .int 0), (0, .ref 41), (1, .ref 5)]) d_Wo_init_88 rfl (by decide) rfl ?_
  refine y_iload_n (q := 0) d_Wo_init_89 rfl rfl ?_
  refine y_bipush (v := 32) d_Wo_init_90 (by decide) ?_
  refine y_icmp_ge (tgt := 117) d_Wo_init_92 (fun c => absurd c (by decide)) (fun _ => ?_)
  refine y_aload_n (q := 1) d_Wo_init_95 rfl rfl ?_
  refine n_getr (j := 4) (i := 44) fl_Wo_22 (by decide) rfl (by decide) rfl rfl d_Wo_init_96 ?_
  refine y_iload_n (q := 0) d_Wo_init_99 rfl rfl ?_
  refine y_bipush (v := (-4)) d_Wo_init_100 (by decide) ?_
  refine n_iast (z := 32) (j := 0) (by decide) rfl (vp_d rfl) (by decide) d_Wo_init_102 ?_
  have hA := hA.cons (k := 44) (v := (0, (-4))) (by decide)
  refine y_aload_n (q := 1) d_Wo_init_103 rfl rfl ?_
  refine n_getr (j := 9) (i := 49) fl_Wo_37 (by decide) rfl (by decide) rfl rfl d_Wo_init_104 ?_
  refine y_iload_n (q := 0) d_Wo_init_107 rfl rfl ?_
  refine y_bipush (v := (-4)) d_Wo_init_108 (by decide) ?_
  refine n_iast (z := 32) (j := 0) (by decide) rfl (vp_d rfl) (by decide) d_Wo_init_110 ?_
  have hA := hA.cons (k := 49) (v := (0, (-4))) (by decide)
  refine y_iinc (q := 0) (v := 1) (lv' := [(2, .int 1), (0, .ref 41), (1, .ref 5)]) d_Wo_init_111 rfl (by decide) (by decide) rfl ?_
  refine y_goto (tgt := 89) d_Wo_init_114 ?_
  refine y_iload_n (q := 0) d_Wo_init_89 rfl rfl ?_
  refine y_bipush (v := 32) d_Wo_init_90 (by decide) ?_
  refine y_icmp_ge (tgt := 117) d_Wo_init_92 (fun c => absurd c (by decide)) (fun _ => ?_)
  refine y_aload_n (q := 1) d_Wo_init_95 rfl rfl ?_
  refine n_getr (j := 4) (i := 44) fl_Wo_22 (by decide) rfl (by decide) rfl rfl d_Wo_init_96 ?_
  refine y_iload_n (q := 0) d_Wo_init_99 rfl rfl ?_
  refine y_bipush (v := (-4)) d_Wo_init_100 (by decide) ?_
  refine n_iast (z := 32) (j := 1) (by decide) rfl (vp_d rfl) (by decide) d_Wo_init_102 ?_
  have hA := hA.cons (k := 44) (v := (1, (-4))) (by decide)
  refine y_aload_n (q := 1) d_Wo_init_103 rfl rfl ?_
  refine n_getr (j := 9) (i := 49) fl_Wo_37 (by decide) rfl (by decide) rfl rfl d_Wo_init_104 ?_
  refine y_iload_n (q := 0) d_Wo_init_107 rfl rfl ?_
  refine y_bipush (v := (-4)) d_Wo_init_108 (by decide) ?_
  refine n_iast (z := 32) (j := 1) (by decide) rfl (vp_d rfl) (by decide) d_Wo_init_110 ?_
  have hA := hA.cons (k := 49) (v := (1, (-4))) (by decide)
  refine y_iinc (q := 0) (v := 2) (lv' := [(2, .int 2), (0, .ref 41), (1, .ref 5)]) d_Wo_init_111 rfl (by decide) (by decide) rfl ?_
  refine y_goto (tgt := 89) d_Wo_init_114 ?_
  refine y_iload_n (q := 0) d_Wo_init_89 rfl rfl ?_
  refine y_bipush (v := 32) d_Wo_init_90 (by decide) ?_
  refine y_icmp_ge (tgt := 117) d_Wo_init_92 (fun c => absurd c (by decide)) (fun _ => ?_)
  refine y_aload_n (q := 1) d_Wo_init_95 rfl rfl ?_
  refine n_getr (j := 4) (i := 44) fl_Wo_22 (by decide) rfl (by decide) rfl rfl d_Wo_init_96 ?_
  refine y_iload_n (q := 0) d_Wo_init_99 rfl rfl ?_
  refine y_bipush (v := (-4)) d_Wo_init_100 (by decide) ?_
  refine n_iast (z := 32) (j := 2) (by decide) rfl (vp_d rfl) (by decide) d_Wo_init_102 ?_
  have hA := hA.cons (k := 44) (v := (2, (-4))) (by decide)
  refine y_aload_n (q := 1) d_Wo_init_103 rfl rfl ?_
  refine n_getr (j := 9) (i := 49) fl_Wo_37 (by decide) rfl (by decide) rfl rfl d_Wo_init_104 ?_
  refine y_iload_n (q := 0) d_Wo_init_107 rfl rfl ?_
  refine y_bipush (v := (-4)) d_Wo_init_108 (by decide) ?_
  refine n_iast (z := 32) (j := 2) (by decide) rfl (vp_d rfl) (by decide) d_Wo_init_110 ?_
  have hA := hA.cons (k := 49) (v := (2, (-4))) (by decide)
  refine y_iinc (q := 0) (v := 3) (lv' := [(2, .int 3), (0, .ref 41), (1, .ref 5)]) d_Wo_init_111 rfl (by decide) (by decide) rfl ?_
  refine y_goto (tgt := 89) d_Wo_init_114 ?_
  refine y_iload_n (q := 0) d_Wo_init_89 rfl rfl ?_
  refine y_bipush (v := 32) d_Wo_init_90 (by decide) ?_
  refine y_icmp_ge (tgt := 117) d_Wo_init_92 (fun c => absurd c (by decide)) (fun _ => ?_)
  refine y_aload_n (q := 1) d_Wo_init_95 rfl rfl ?_
  refine n_getr (j := 4) (i := 44) fl_Wo_22 (by decide) rfl (by decide) rfl rfl d_Wo_init_96 ?_
  refine y_iload_n (q := 0) d_Wo_init_99 rfl rfl ?_
  refine y_bipush (v := (-4)) d_Wo_init_100 (by decide) ?_
  refine n_iast (z := 32) (j := 3) (by decide) rfl (vp_d rfl) (by decide) d_Wo_init_102 ?_
  have hA := hA.cons (k := 44) (v := (3, (-4))) (by decide)
  refine y_aload_n (q := 1) d_Wo_init_103 rfl rfl ?_
  refine n_getr (j := 9) (i := 49) fl_Wo_37 (by decide) rfl (by decide) rfl rfl d_Wo_init_104 ?_
  refine y_iload_n (q := 0) d_Wo_init_107 rfl rfl ?_
  refine y_bipush (v := (-4)) d_Wo_init_108 (by decide) ?_
  refine n_iast (z := 32) (j := 3) (by decide) rfl (vp_d rfl) (by decide) d_Wo_init_110 ?_
  have hA := hA.cons (k := 49) (v := (3, (-4))) (by decide)
  refine y_iinc (q := 0) (v := 4) (lv' := [(2, .int 4), (0, .ref 41), (1, .ref 5)]) d_Wo_init_111 rfl (by decide) (by decide) rfl ?_
  refine y_goto (tgt := 89) d_Wo_init_114 ?_
  refine y_iload_n (q := 0) d_Wo_init_89 rfl rfl ?_
  refine y_bipush (v := 32) d_Wo_init_90 (by decide) ?_
  refine y_icmp_ge (tgt := 117) d_Wo_init_92 (fun c => absurd c (by decide)) (fun _ => ?_)
  refine y_aload_n (q := 1) d_Wo_init_95 rfl rfl ?_
  refine n_getr (j := 4) (i := 44) fl_Wo_22 (by decide) rfl (by decide) rfl rfl d_Wo_init_96 ?_
  refine y_iload_n (q := 0) d_Wo_init_99 rfl rfl ?_
  refine y_bipush (v := (-4)) d_Wo_init_100 (by decide) ?_
  refine n_iast (z := 32) (j := 4) (by decide) rfl (vp_d rfl) (by decide) d_Wo_init_102 ?_
  have hA := hA.cons (k := 44) (v := (4, (-4))) (by decide)
  refine y_aload_n (q := 1) d_Wo_init_103 rfl rfl ?_
  refine n_getr (j := 9) (i := 49) fl_Wo_37 (by decide) rfl (by decide) rfl rfl d_Wo_init_104 ?_
  refine y_iload_n (q := 0) d_Wo_init_107 rfl rfl ?_
  refine y_bipush (v := (-4)) d_Wo_init_108 (by decide) ?_
  refine n_iast (z := 32) (j := 4) (by decide) rfl (vp_d rfl) (by decide) d_Wo_init_110 ?_
  have hA := hA.cons (k := 49) (v := (4, (-4))) (by decide)
  refine y_iinc (q := 0) (v := 5) (lv' := [(2, .int 5), (0, .ref 41), (1, .ref 5)]) d_Wo_init_111 rfl (by decide) (by decide) rfl ?_
  refine y_goto (tgt := 89) d_Wo_init_114 ?_
  refine y_iload_n (q := 0) d_Wo_init_89 rfl rfl ?_
  refine y_bipush (v := 32) d_Wo_init_90 (by decide) ?_
  refine y_icmp_ge (tgt := 117) d_Wo_init_92 (fun c => absurd c (by decide)) (fun _ => ?_)
  refine y_aload_n (q := 1) d_Wo_init_95 rfl rfl ?_
  refine n_getr (j := 4) (i := 44) fl_Wo_22 (by decide) rfl (by decide) rfl rfl d_Wo_init_96 ?_
  refine y_iload_n (q := 0) d_Wo_init_99 rfl rfl ?_
  refine y_bipush (v := (-4)) d_Wo_init_100 (by decide) ?_
  refine n_iast (z := 32) (j := 5) (by decide) rfl (vp_d rfl) (by decide) d_Wo_init_102 ?_
  have hA := hA.cons (k := 44) (v := (5, (-4))) (by decide)
  refine y_aload_n (q := 1) d_Wo_init_103 rfl rfl ?_
  refine n_getr (j := 9) (i := 49) fl_Wo_37 (by decide) rfl (by decide) rfl rfl d_Wo_init_104 ?_
  refine y_iload_n (q := 0) d_Wo_init_107 rfl rfl ?_
  refine y_bipush (v := (-4)) d_Wo_init_108 (by decide) ?_
  refine n_iast (z := 32) (j := 5) (by decide) rfl (vp_d rfl) (by decide) d_Wo_init_110 ?_
  have hA := hA.cons (k := 49) (v := (5, (-4))) (by decide)
  refine y_iinc (q := 0) (v := 6) (lv' := [(2, .int 6), (0, .ref 41), (1, .ref 5)]) d_Wo_init_111 rfl (by decide) (by decide) rfl ?_
  refine y_goto (tgt := 89) d_Wo_init_114 ?_
  refine y_iload_n (q := 0) d_Wo_init_89 rfl rfl ?_
  refine y_bipush (v := 32) d_Wo_init_90 (by decide) ?_
  refine y_icmp_ge (tgt := 117) d_Wo_init_92 (fun c => absurd c (by decide)) (fun _ => ?_)
  refine y_aload_n (q := 1) d_Wo_init_95 rfl rfl ?_
  refine n_getr (j := 4) (i := 44) fl_Wo_22 (by decide) rfl (by decide) rfl rfl d_Wo_init_96 ?_
  refine y_iload_n (q := 0) d_Wo_init_99 rfl rfl ?_
  refine y_bipush (v := (-4)) d_Wo_init_100 (by decide) ?_
  refine n_iast (z := 32) (j := 6) (by decide) rfl (vp_d rfl) (by decide) d_Wo_init_102 ?_
  have hA := hA.cons (k := 44) (v := (6, (-4))) (by decide)
  refine y_aload_n (q := 1) d_Wo_init_103 rfl rfl ?_
  refine n_getr (j := 9) (i := 49) fl_Wo_37 (by decide) rfl (by decide) rfl rfl d_Wo_init_104 ?_
  refine y_iload_n (q := 0) d_Wo_init_107 rfl rfl ?_
  refine y_bipush (v := (-4)) d_Wo_init_108 (by decide) ?_
  refine n_iast (z := 32) (j := 6) (by decide) rfl (vp_d rfl) (by decide) d_Wo_init_110 ?_
  have hA := hA.cons (k := 49) (v := (6, (-4))) (by decide)
  refine y_iinc (q := 0) (v := 7) (lv' := [(2, .int 7), (0, .ref 41), (1, .ref 5)]) d_Wo_init_111 rfl (by decide) (by decide) rfl ?_
  refine y_goto (tgt := 89) d_Wo_init_114 ?_
  refine y_iload_n (q := 0) d_Wo_init_89 rfl rfl ?_
  refine y_bipush (v := 32) d_Wo_init_90 (by decide) ?_
  refine y_icmp_ge (tgt := 117) d_Wo_init_92 (fun c => absurd c (by decide)) (fun _ => ?_)
  refine y_aload_n (q := 1) d_Wo_init_95 rfl rfl ?_
  refine n_getr (j := 4) (i := 44) fl_Wo_22 (by decide) rfl (by decide) rfl rfl d_Wo_init_96 ?_
  refine y_iload_n (q := 0) d_Wo_init_99 rfl rfl ?_
  refine y_bipush (v := (-4)) d_Wo_init_100 (by decide) ?_
  refine n_iast (z := 32) (j := 7) (by decide) rfl (vp_d rfl) (by decide) d_Wo_init_102 ?_
  have hA := hA.cons (k := 44) (v := (7, (-4))) (by decide)
  refine y_aload_n (q := 1) d_Wo_init_103 rfl rfl ?_
  refine n_getr (j := 9) (i := 49) fl_Wo_37 (by decide) rfl (by decide) rfl rfl d_Wo_init_104 ?_
  refine y_iload_n (q := 0) d_Wo_init_107 rfl rfl ?_
  refine y_bipush (v := (-4)) d_Wo_init_108 (by decide) ?_
  refine n_iast (z := 32) (j := 7) (by decide) rfl (vp_d rfl) (by decide) d_Wo_init_110 ?_
  have hA := hA.cons (k := 49) (v := (7, (-4))) (by decide)
  refine y_iinc (q := 0) (v := 8) (lv' := [(2, .int 8), (0, .ref 41), (1, .ref 5)]) d_Wo_init_111 rfl (by decide) (by decide) rfl ?_
  refine y_goto (tgt := 89) d_Wo_init_114 ?_
  refine y_iload_n (q := 0) d_Wo_init_89 rfl rfl ?_
  refine y_bipush (v := 32) d_Wo_init_90 (by decide) ?_
  refine y_icmp_ge (tgt := 117) d_Wo_init_92 (fun c => absurd c (by decide)) (fun _ => ?_)
  refine y_aload_n (q := 1) d_Wo_init_95 rfl rfl ?_
  refine n_getr (j := 4) (i := 44) fl_Wo_22 (by decide) rfl (by decide) rfl rfl d_Wo_init_96 ?_
  refine y_iload_n (q := 0) d_Wo_init_99 rfl rfl ?_
  refine y_bipush (v := (-4)) d_Wo_init_100 (by decide) ?_
  refine n_iast (z := 32) (j := 8) (by decide) rfl (vp_d rfl) (by decide) d_Wo_init_102 ?_
  have hA := hA.cons (k := 44) (v := (8, (-4))) (by decide)
  refine y_aload_n (q := 1) d_Wo_init_103 rfl rfl ?_
  refine n_getr (j := 9) (i := 49) fl_Wo_37 (by decide) rfl (by decide) rfl rfl d_Wo_init_104 ?_
  refine y_iload_n (q := 0) d_Wo_init_107 rfl rfl ?_
  refine y_bipush (v := (-4)) d_Wo_init_108 (by decide) ?_
  refine n_iast (z := 32) (j := 8) (by decide) rfl (vp_d rfl) (by decide) d_Wo_init_110 ?_
  have hA := hA.cons (k := 49) (v := (8, (-4))) (by decide)
  refine y_iinc (q := 0) (v := 9) (lv' := [(2, .int 9), (0, .ref 41), (1, .ref 5)]) d_Wo_init_111 rfl (by decide) (by decide) rfl ?_
  refine y_goto (tgt := 89) d_Wo_init_114 ?_
  refine y_iload_n (q := 0) d_Wo_init_89 rfl rfl ?_
  refine y_bipush (v := 32) d_Wo_init_90 (by decide) ?_
  refine y_icmp_ge (tgt := 117) d_Wo_init_92 (fun c => absurd c (by decide)) (fun _ => ?_)
  refine y_aload_n (q := 1) d_Wo_init_95 rfl rfl ?_
  refine n_getr (j := 4) (i := 44) fl_Wo_22 (by decide) rfl (by decide) rfl rfl d_Wo_init_96 ?_
  refine y_iload_n (q := 0) d_Wo_init_99 rfl rfl ?_
  refine y_bipush (v := (-4)) d_Wo_init_100 (by decide) ?_
  refine n_iast (z := 32) (j := 9) (by decide) rfl (vp_d rfl) (by decide) d_Wo_init_102 ?_
  have hA := hA.cons (k := 44) (v := (9, (-4))) (by decide)
  refine y_aload_n (q := 1) d_Wo_init_103 rfl rfl ?_
  refine n_getr (j := 9) (i := 49) fl_Wo_37 (by decide) rfl (by decide) rfl rfl d_Wo_init_104 ?_
  refine y_iload_n (q := 0) d_Wo_init_107 rfl rfl ?_
  refine y_bipush (v := (-4)) d_Wo_init_108 (by decide) ?_
  refine n_iast (z := 32) (j := 9) (by decide) rfl (vp_d rfl) (by decide) d_Wo_init_110 ?_
  have hA := hA.cons (k := 49) (v := (9, (-4))) (by decide)
  refine y_iinc (q := 0) (v := 10) (lv' := [(2, .int 10), (0, .ref 41), (1, .ref 5)]) d_Wo_init_111 rfl (by decide) (by decide) rfl ?_
  refine y_goto (tgt := 89) d_Wo_init_114 ?_
  refine y_iload_n (q := 0) d_Wo_init_89 rfl rfl ?_
  refine y_bipush (v := 32) d_Wo_init_90 (by decide) ?_
  refine y_icmp_ge (tgt := 117) d_Wo_init_92 (fun c => absurd c (by decide)) (fun _ => ?_)
  refine y_aload_n (q := 1) d_Wo_init_95 rfl rfl ?_
  refine n_getr (j := 4) (i := 44) fl_Wo_22 (by decide) rfl (by decide) rfl rfl d_Wo_init_96 ?_
  refine y_iload_n (q := 0) d_Wo_init_99 rfl rfl ?_
  refine y_bipush (v := (-4)) d_Wo_init_100 (by decide) ?_
  refine n_iast (z := 32) (j := 10) (by decide) rfl (vp_d rfl) (by decide) d_Wo_init_102 ?_
  have hA := hA.cons (k := 44) (v := (10, (-4))) (by decide)
  refine y_aload_n (q := 1) d_Wo_init_103 rfl rfl ?_
  refine n_getr (j := 9) (i := 49) fl_Wo_37 (by decide) rfl (by decide) rfl rfl d_Wo_init_104 ?_
  refine y_iload_n (q := 0) d_Wo_init_107 rfl rfl ?_
  refine y_bipush (v := (-4)) d_Wo_init_108 (by decide) ?_
  refine n_iast (z := 32) (j := 10) (by decide) rfl (vp_d rfl) (by decide) d_Wo_init_110 ?_
  have hA := hA.cons (k := 49) (v := (10, (-4))) (by decide)
  refine y_iinc (q := 0) (v := 11) (lv' := [(2, .int 11), (0, .ref 41), (1, .ref 5)]) d_Wo_init_111 rfl (by decide) (by decide) rfl ?_
  refine y_goto (tgt := 89) d_Wo_init_114 ?_
  refine y_iload_n (q := 0) d_Wo_init_89 rfl rfl ?_
  refine y_bipush (v := 32) d_Wo_init_90 (by decide) ?_
  refine y_icmp_ge (tgt := 117) d_Wo_init_92 (fun c => absurd c (by decide)) (fun _ => ?_)
  refine y_aload_n (q := 1) d_Wo_init_95 rfl rfl ?_
  refine n_getr (j := 4) (i := 44) fl_Wo_22 (by decide) rfl (by decide) rfl rfl d_Wo_init_96 ?_
  refine y_iload_n (q := 0) d_Wo_init_99 rfl rfl ?_
  refine y_bipush (v := (-4)) d_Wo_init_100 (by decide) ?_
  refine n_iast (z := 32) (j := 11) (by decide) rfl (vp_d rfl) (by decide) d_Wo_init_102 ?_
  have hA := hA.cons (k := 44) (v := (11, (-4))) (by decide)
  refine y_aload_n (q := 1) d_Wo_init_103 rfl rfl ?_
  refine n_getr (j := 9) (i := 49) fl_Wo_37 (by decide) rfl (by decide) rfl rfl d_Wo_init_104 ?_
  refine y_iload_n (q := 0) d_Wo_init_107 rfl rfl ?_
  refine y_bipush (v := (-4)) d_Wo_init_108 (by decide) ?_
  refine n_iast (z := 32) (j := 11) (by decide) rfl (vp_d rfl) (by decide) d_Wo_init_110 ?_
  have hA := hA.cons (k := 49) (v := (11, (-4))) (by decide)
  refine y_iinc (q := 0) (v := 12) (lv' := [(2, .int 12), (0, .ref 41), (1, .ref 5)]) d_Wo_init_111 rfl (by decide) (by decide) rfl ?_
  refine y_goto (tgt := 89) d_Wo_init_114 ?_
  refine y_iload_n (q := 0) d_Wo_init_89 rfl rfl ?_
  refine y_bipush (v := 32) d_Wo_init_90 (by decide) ?_
  refine y_icmp_ge (tgt := 117) d_Wo_init_92 (fun c => absurd c (by decide)) (fun _ => ?_)
  refine y_aload_n (q := 1) d_Wo_init_95 rfl rfl ?_
  refine n_getr (j := 4) (i := 44) fl_Wo_22 (by decide) rfl (by decide) rfl rfl d_Wo_init_96 ?_
  refine y_iload_n (q := 0) d_Wo_init_99 rfl rfl ?_
  refine y_bipush (v := (-4)) d_Wo_init_100 (by decide) ?_
  refine n_iast (z := 32) (j := 12) (by decide) rfl (vp_d rfl) (by decide) d_Wo_init_102 ?_
  have hA := hA.cons (k := 44) (v := (12, (-4))) (by decide)
  refine y_aload_n (q := 1) d_Wo_init_103 rfl rfl ?_
  refine n_getr (j := 9) (i := 49) fl_Wo_37 (by decide) rfl (by decide) rfl rfl d_Wo_init_104 ?_
  refine y_iload_n (q := 0) d_Wo_init_107 rfl rfl ?_
  refine y_bipush (v := (-4)) d_Wo_init_108 (by decide) ?_
  refine n_iast (z := 32) (j := 12) (by decide) rfl (vp_d rfl) (by decide) d_Wo_init_110 ?_
  have hA := hA.cons (k := 49) (v := (12, (-4))) (by decide)
  refine y_iinc (q := 0) (v := 13) (lv' := [(2, .int 13), (0, .ref 41), (1, .ref 5)]) d_Wo_init_111 rfl (by decide) (by decide) rfl ?_
  refine y_goto (tgt := 89) d_Wo_init_114 ?_
  refine y_iload_n (q := 0) d_Wo_init_89 rfl rfl ?_
  refine y_bipush (v := 32) d_Wo_init_90 (by decide) ?_
  refine y_icmp_ge (tgt := 117) d_Wo_init_92 (fun c => absurd c (by decide)) (fun _ => ?_)
  refine y_aload_n (q := 1) d_Wo_init_95 rfl rfl ?_
  refine n_getr (j := 4) (i := 44) fl_Wo_22 (by decide) rfl (by decide) rfl rfl d_Wo_init_96 ?_
  refine y_iload_n (q := 0) d_Wo_init_99 rfl rfl ?_
  refine y_bipush (v := (-4)) d_Wo_init_100 (by decide) ?_
  refine n_iast (z := 32) (j := 13) (by decide) rfl (vp_d rfl) (by decide) d_Wo_init_102 ?_
  have hA := hA.cons (k := 44) (v := (13, (-4))) (by decide)
  refine y_aload_n (q := 1) d_Wo_init_103 rfl rfl ?_
  refine n_getr (j := 9) (i := 49) fl_Wo_37 (by decide) rfl (by decide) rfl rfl d_Wo_init_104 ?_
  refine y_iload_n (q := 0) d_Wo_init_107 rfl rfl ?_
  refine y_bipush (v := (-4)) d_Wo_init_108 (by decide) ?_
  refine n_iast (z := 32) (j := 13) (by decide) rfl (vp_d rfl) (by decide) d_Wo_init_110 ?_
  have hA := hA.cons (k := 49) (v := (13, (-4))) (by decide)
  refine y_iinc (q := 0) (v := 14) (lv' := [(2, .int 14), (0, .ref 41), (1, .ref 5)]) d_Wo_init_111 rfl (by decide) (by decide) rfl ?_
  refine y_goto (tgt := 89) d_Wo_init_114 ?_
  refine y_iload_n (q := 0) d_Wo_init_89 rfl rfl ?_
  refine y_bipush (v := 32) d_Wo_init_90 (by decide) ?_
  refine y_icmp_ge (tgt := 117) d_Wo_init_92 (fun c => absurd c (by decide)) (fun _ => ?_)
  refine y_aload_n (q := 1) d_Wo_init_95 rfl rfl ?_
  refine n_getr (j := 4) (i := 44) fl_Wo_22 (by decide) rfl (by decide) rfl rfl d_Wo_init_96 ?_
  refine y_iload_n (q := 0) d_Wo_init_99 rfl rfl ?_
  refine y_bipush (v := (-4)) d_Wo_init_100 (by decide) ?_
  refine n_iast (z := 32) (j := 14) (by decide) rfl (vp_d rfl) (by decide) d_Wo_init_102 ?_
  have hA := hA.cons (k := 44) (v := (14, (-4))) (by decide)
  refine y_aload_n (q := 1) d_Wo_init_103 rfl rfl ?_
  refine n_getr (j := 9) (i := 49) fl_Wo_37 (by decide) rfl (by decide) rfl rfl d_Wo_init_104 ?_
  refine y_iload_n (q := 0) d_Wo_init_107 rfl rfl ?_
  refine y_bipush (v := (-4)) d_Wo_init_108 (by decide) ?_
  refine n_iast (z := 32) (j := 14) (by decide) rfl (vp_d rfl) (by decide) d_Wo_init_110 ?_
  have hA := hA.cons (k := 49) (v := (14, (-4))) (by decide)
  refine y_iinc (q := 0) (v := 15) (lv' := [(2, .int 15), (0, .ref 41), (1, .ref 5)]) d_Wo_init_111 rfl (by decide) (by decide) rfl ?_
  refine y_goto (tgt := 89) d_Wo_init_114 ?_
  refine y_iload_n (q := 0) d_Wo_init_89 rfl rfl ?_
  refine y_bipush (v := 32) d_Wo_init_90 (by decide) ?_
  refine y_icmp_ge (tgt := 117) d_Wo_init_92 (fun c => absurd c (by decide)) (fun _ => ?_)
  refine y_aload_n (q := 1) d_Wo_init_95 rfl rfl ?_
  refine n_getr (j := 4) (i := 44) fl_Wo_22 (by decide) rfl (by decide) rfl rfl d_Wo_init_96 ?_
  refine y_iload_n (q := 0) d_Wo_init_99 rfl rfl ?_
  refine y_bipush (v := (-4)) d_Wo_init_100 (by decide) ?_
  refine n_iast (z := 32) (j := 15) (by decide) rfl (vp_d rfl) (by decide) d_Wo_init_102 ?_
  have hA := hA.cons (k := 44) (v := (15, (-4))) (by decide)
  refine y_aload_n (q := 1) d_Wo_init_103 rfl rfl ?_
  refine n_getr (j := 9) (i := 49) fl_Wo_37 (by decide) rfl (by decide) rfl rfl d_Wo_init_104 ?_
  refine y_iload_n (q := 0) d_Wo_init_107 rfl rfl ?_
  refine y_bipush (v := (-4)) d_Wo_init_108 (by decide) ?_
  refine n_iast (z := 32) (j := 15) (by decide) rfl (vp_d rfl) (by decide) d_Wo_init_110 ?_
  have hA := hA.cons (k := 49) (v := (15, (-4))) (by decide)
  refine y_iinc (q := 0) (v := 16) (lv' := [(2, .int 16), (0, .ref 41), (1, .ref 5)]) d_Wo_init_111 rfl (by decide) (by decide) rfl ?_
  refine y_goto (tgt := 89) d_Wo_init_114 ?_
  refine y_iload_n (q := 0) d_Wo_init_89 rfl rfl ?_
  refine y_bipush (v := 32) d_Wo_init_90 (by decide) ?_
  refine y_icmp_ge (tgt := 117) d_Wo_init_92 (fun c => absurd c (by decide)) (fun _ => ?_)
  refine y_aload_n (q := 1) d_Wo_init_95 rfl rfl ?_
  refine n_getr (j := 4) (i := 44) fl_Wo_22 (by decide) rfl (by decide) rfl rfl d_Wo_init_96 ?_
  refine y_iload_n (q := 0) d_Wo_init_99 rfl rfl ?_
  refine y_bipush (v := (-4)) d_Wo_init_100 (by decide) ?_
  refine n_iast (z := 32) (j := 16) (by decide) rfl (vp_d rfl) (by decide) d_Wo_init_102 ?_
  have hA := hA.cons (k := 44) (v := (16, (-4))) (by decide)
  refine y_aload_n (q := 1) d_Wo_init_103 rfl rfl ?_
  refine n_getr (j := 9) (i := 49) fl_Wo_37 (by decide) rfl (by decide) rfl rfl d_Wo_init_104 ?_
  refine y_iload_n (q := 0) d_Wo_init_107 rfl rfl ?_
  refine y_bipush (v := (-4)) d_Wo_init_108 (by decide) ?_
  refine n_iast (z := 32) (j := 16) (by decide) rfl (vp_d rfl) (by decide) d_Wo_init_110 ?_
  have hA := hA.cons (k := 49) (v := (16, (-4))) (by decide)
  refine y_iinc (q := 0) (v := 17) (lv' := [(2, .int 17), (0, .ref 41), (1, .ref 5)]) d_Wo_init_111 rfl (by decide) (by decide) rfl ?_
  refine y_goto (tgt := 89) d_Wo_init_114 ?_
  refine y_iload_n (q := 0) d_Wo_init_89 rfl rfl ?_
  refine y_bipush (v := 32) d_Wo_init_90 (by decide) ?_
  refine y_icmp_ge (tgt := 117) d_Wo_init_92 (fun c => absurd c (by decide)) (fun _ => ?_)
  refine y_aload_n (q := 1) d_Wo_init_95 rfl rfl ?_
  refine n_getr (j := 4) (i := 44) fl_Wo_22 (by decide) rfl (by decide) rfl rfl d_Wo_init_96 ?_
  refine y_iload_n (q := 0) d_Wo_init_99 rfl rfl ?_
  refine y_bipush (v := (-4)) d_Wo_init_100 (by decide) ?_
  refine n_iast (z := 32) (j := 17) (by decide) rfl (vp_d rfl) (by decide) d_Wo_init_102 ?_
  have hA := hA.cons (k := 44) (v := (17, (-4))) (by decide)
  refine y_aload_n (q := 1) d_Wo_init_103 rfl rfl ?_
  refine n_getr (j := 9) (i := 49) fl_Wo_37 (by decide) rfl (by decide) rfl rfl d_Wo_init_104 ?_
  refine y_iload_n (q := 0) d_Wo_init_107 rfl rfl ?_
  refine y_bipush (v := (-4)) d_Wo_init_108 (by decide) ?_
  refine n_iast (z := 32) (j := 17) (by decide) rfl (vp_d rfl) (by decide) d_Wo_init_110 ?_
  have hA := hA.cons (k := 49) (v := (17, (-4))) (by decide)
  refine y_iinc (q := 0) (v := 18) (lv' := [(2, .int 18), (0, .ref 41), (1, .ref 5)]) d_Wo_init_111 rfl (by decide) (by decide) rfl ?_
  refine y_goto (tgt := 89) d_Wo_init_114 ?_
  refine y_iload_n (q := 0) d_Wo_init_89 rfl rfl ?_
  refine y_bipush (v := 32) d_Wo_init_90 (by decide) ?_
  refine y_icmp_ge (tgt := 117) d_Wo_init_92 (fun c => absurd c (by decide)) (fun _ => ?_)
  refine y_aload_n (q := 1) d_Wo_init_95 rfl rfl ?_
  refine n_getr (j := 4) (i := 44) fl_Wo_22 (by decide) rfl (by decide) rfl rfl d_Wo_init_96 ?_
  refine y_iload_n (q := 0) d_Wo_init_99 rfl rfl ?_
  refine y_bipush (v := (-4)) d_Wo_init_100 (by decide) ?_
  refine n_iast (z := 32) (j := 18) (by decide) rfl (vp_d rfl) (by decide) d_Wo_init_102 ?_
  have hA := hA.cons (k := 44) (v := (18, (-4))) (by decide)
  refine y_aload_n (q := 1) d_Wo_init_103 rfl rfl ?_
  refine n_getr (j := 9) (i := 49) fl_Wo_37 (by decide) rfl (by decide) rfl rfl d_Wo_init_104 ?_
  refine y_iload_n (q := 0) d_Wo_init_107 rfl rfl ?_
  refine y_bipush (v := (-4)) d_Wo_init_108 (by decide) ?_
  refine n_iast (z := 32) (j := 18) (by decide) rfl (vp_d rfl) (by decide) d_Wo_init_110 ?_
  have hA := hA.cons (k := 49) (v := (18, (-4))) (by decide)
  refine y_iinc (q := 0) (v := 19) (lv' := [(2, .int 19), (0, .ref 41), (1, .ref 5)]) d_Wo_init_111 rfl (by decide) (by decide) rfl ?_
  refine y_goto (tgt := 89) d_Wo_init_114 ?_
  refine y_iload_n (q := 0) d_Wo_init_89 rfl rfl ?_
  refine y_bipush (v := 32) d_Wo_init_90 (by decide) ?_
  refine y_icmp_ge (tgt := 117) d_Wo_init_92 (fun c => absurd c (by decide)) (fun _ => ?_)
  refine y_aload_n (q := 1) d_Wo_init_95 rfl rfl ?_
  refine n_getr (j := 4) (i := 44) fl_Wo_22 (by decide) rfl (by decide) rfl rfl d_Wo_init_96 ?_
  refine y_iload_n (q := 0) d_Wo_init_99 rfl rfl ?_
  refine y_bipush (v := (-4)) d_Wo_init_100 (by decide) ?_
  refine n_iast (z := 32) (j := 19) (by decide) rfl (vp_d rfl) (by decide) d_Wo_init_102 ?_
  have hA := hA.cons (k := 44) (v := (19, (-4))) (by decide)
  refine y_aload_n (q := 1) d_Wo_init_103 rfl rfl ?_
  refine n_getr (j := 9) (i := 49) fl_Wo_37 (by decide) rfl (by decide) rfl rfl d_Wo_init_104 ?_
  refine y_iload_n (q := 0) d_Wo_init_107 rfl rfl ?_
  refine y_bipush (v := (-4)) d_Wo_init_108 (by decide) ?_
  refine n_iast (z := 32) (j := 19) (by decide) rfl (vp_d rfl) (by decide) d_Wo_init_110 ?_
  have hA := hA.cons (k := 49) (v := (19, (-4))) (by decide)
  refine y_iinc (q := 0) (v := 20) (lv' := [(2, .int 20), (0, .ref 41), (1, .ref 5)]) d_Wo_init_111 rfl (by decide) (by decide) rfl ?_
  refine y_goto (tgt := 89) d_Wo_init_114 ?_
  refine y_iload_n (q := 0) d_Wo_init_89 rfl rfl ?_
  refine y_bipush (v := 32) d_Wo_init_90 (by decide) ?_
  refine y_icmp_ge (tgt := 117) d_Wo_init_92 (fun c => absurd c (by decide)) (fun _ => ?_)
  refine y_aload_n (q := 1) d_Wo_init_95 rfl rfl ?_
  refine n_getr (j := 4) (i := 44) fl_Wo_22 (by decide) rfl (by decide) rfl rfl d_Wo_init_96 ?_
  refine y_iload_n (q := 0) d_Wo_init_99 rfl rfl ?_
  refine y_bipush (v := (-4)) d_Wo_init_100 (by decide) ?_
  refine n_iast (z := 32) (j := 20) (by decide) rfl (vp_d rfl) (by decide) d_Wo_init_102 ?_
  have hA := hA.cons (k := 44) (v := (20, (-4))) (by decide)
  refine y_aload_n (q := 1) d_Wo_init_103 rfl rfl ?_
  refine n_getr (j := 9) (i := 49) fl_Wo_37 (by decide) rfl (by decide) rfl rfl d_Wo_init_104 ?_
  refine y_iload_n (q := 0) d_Wo_init_107 rfl rfl ?_
  refine y_bipush (v := (-4)) d_Wo_init_108 (by decide) ?_
  refine n_iast (z := 32) (j := 20) (by decide) rfl (vp_d rfl) (by decide) d_Wo_init_110 ?_
  have hA := hA.cons (k := 49) (v := (20, (-4))) (by decide)
  refine y_iinc (q := 0) (v := 21) (lv' := [(2, .int 21), (0, .ref 41), (1, .ref 5)]) d_Wo_init_111 rfl (by decide) (by decide) rfl ?_
  refine y_goto (tgt := 89) d_Wo_init_114 ?_
  refine y_iload_n (q := 0) d_Wo_init_89 rfl rfl ?_
  refine y_bipush (v := 32) d_Wo_init_90 (by decide) ?_
  refine y_icmp_ge (tgt := 117) d_Wo_init_92 (fun c => absurd c (by decide)) (fun _ => ?_)
  refine y_aload_n (q := 1) d_Wo_init_95 rfl rfl ?_
  refine n_getr (j := 4) (i := 44) fl_Wo_22 (by decide) rfl (by decide) rfl rfl d_Wo_init_96 ?_
  refine y_iload_n (q := 0) d_Wo_init_99 rfl rfl ?_
  refine y_bipush (v := (-4)) d_Wo_init_100 (by decide) ?_
  refine n_iast (z := 32) (j := 21) (by decide) rfl (vp_d rfl) (by decide) d_Wo_init_102 ?_
  have hA := hA.cons (k := 44) (v := (21, (-4))) (by decide)
  refine y_aload_n (q := 1) d_Wo_init_103 rfl rfl ?_
  refine n_getr (j := 9) (i := 49) fl_Wo_37 (by decide) rfl (by decide) rfl rfl d_Wo_init_104 ?_
  refine y_iload_n (q := 0) d_Wo_init_107 rfl rfl ?_
  refine y_bipush (v := (-4)) d_Wo_init_108 (by decide) ?_
  refine n_iast (z := 32) (j := 21) (by decide) rfl (vp_d rfl) (by decide) d_Wo_init_110 ?_
  have hA := hA.cons (k := 49) (v := (21, (-4))) (by decide)
  refine y_iinc (q := 0) (v := 22) (lv' := [(2, .int 22), (0, .ref 41), (1, .ref 5)]) d_Wo_init_111 rfl (by decide) (by decide) rfl ?_
  refine y_goto (tgt := 89) d_Wo_init_114 ?_
  refine y_iload_n (q := 0) d_Wo_init_89 rfl rfl ?_
  refine y_bipush (v := 32) d_Wo_init_90 (by decide) ?_
  refine y_icmp_ge (tgt := 117) d_Wo_init_92 (fun c => absurd c (by decide)) (fun _ => ?_)
  refine y_aload_n (q := 1) d_Wo_init_95 rfl rfl ?_
  refine n_getr (j := 4) (i := 44) fl_Wo_22 (by decide) rfl (by decide) rfl rfl d_Wo_init_96 ?_
  refine y_iload_n (q := 0) d_Wo_init_99 rfl rfl ?_
  refine y_bipush (v := (-4)) d_Wo_init_100 (by decide) ?_
  refine n_iast (z := 32) (j := 22) (by decide) rfl (vp_d rfl) (by decide) d_Wo_init_102 ?_
  have hA := hA.cons (k := 44) (v := (22, (-4))) (by decide)
  refine y_aload_n (q := 1) d_Wo_init_103 rfl rfl ?_
  refine n_getr (j := 9) (i := 49) fl_Wo_37 (by decide) rfl (by decide) rfl rfl d_Wo_init_104 ?_
  refine y_iload_n (q := 0) d_Wo_init_107 rfl rfl ?_
  refine y_bipush (v := (-4)) d_Wo_init_108 (by decide) ?_
  refine n_iast (z := 32) (j := 22) (by decide) rfl (vp_d rfl) (by decide) d_Wo_init_110 ?_
  have hA := hA.cons (k := 49) (v := (22, (-4))) (by decide)
  refine y_iinc (q := 0) (v := 23) (lv' := [(2, .int 23), (0, .ref 41), (1, .ref 5)]) d_Wo_init_111 rfl (by decide) (by decide) rfl ?_
  refine y_goto (tgt := 89) d_Wo_init_114 ?_
  refine y_iload_n (q := 0) d_Wo_init_89 rfl rfl ?_
  refine y_bipush (v := 32) d_Wo_init_90 (by decide) ?_
  refine y_icmp_ge (tgt := 117) d_Wo_init_92 (fun c => absurd c (by decide)) (fun _ => ?_)
  refine y_aload_n (q := 1) d_Wo_init_95 rfl rfl ?_
  refine n_getr (j := 4) (i := 44) fl_Wo_22 (by decide) rfl (by decide) rfl rfl d_Wo_init_96 ?_
  refine y_iload_n (q := 0) d_Wo_init_99 rfl rfl ?_
  refine y_bipush (v := (-4)) d_Wo_init_100 (by decide) ?_
  refine n_iast (z := 32) (j := 23) (by decide) rfl (vp_d rfl) (by decide) d_Wo_init_102 ?_
  have hA := hA.cons (k := 44) (v := (23, (-4))) (by decide)
  refine y_aload_n (q := 1) d_Wo_init_103 rfl rfl ?_
  refine n_getr (j := 9) (i := 49) fl_Wo_37 (by decide) rfl (by decide) rfl rfl d_Wo_init_104 ?_
  refine y_iload_n (q := 0) d_Wo_init_107 rfl rfl ?_
  refine y_bipush (v := (-4)) d_Wo_init_108 (by decide) ?_
  refine n_iast (z := 32) (j := 23) (by decide) rfl (vp_d rfl) (by decide) d_Wo_init_110 ?_
  have hA := hA.cons (k := 49) (v := (23, (-4))) (by decide)
  refine y_iinc (q := 0) (v := 24) (lv' := [(2, .int 24), (0, .ref 41), (1, .ref 5)]) d_Wo_init_111 rfl (by decide) (by decide) rfl ?_
  refine y_goto (tgt := 89) d_Wo_init_114 ?_
  refine y_iload_n (q := 0) d_Wo_init_89 rfl rfl ?_
  refine y_bipush (v := 32) d_Wo_init_90 (by decide) ?_
  refine y_icmp_ge (tgt := 117) d_Wo_init_92 (fun c => absurd c (by decide)) (fun _ => ?_)
  refine y_aload_n (q := 1) d_Wo_init_95 rfl rfl ?_
  refine n_getr (j := 4) (i := 44) fl_Wo_22 (by decide) rfl (by decide) rfl rfl d_Wo_init_96 ?_
  refine y_iload_n (q := 0) d_Wo_init_99 rfl rfl ?_
  refine y_bipush (v := (-4)) d_Wo_init_100 (by decide) ?_
  refine n_iast (z := 32) (j := 24) (by decide) rfl (vp_d rfl) (by decide) d_Wo_init_102 ?_
  have hA := hA.cons (k := 44) (v := (24, (-4))) (by decide)
  refine y_aload_n (q := 1) d_Wo_init_103 rfl rfl ?_
  refine n_getr (j := 9) (i := 49) fl_Wo_37 (by decide) rfl (by decide) rfl rfl d_Wo_init_104 ?_
  refine y_iload_n (q := 0) d_Wo_init_107 rfl rfl ?_
  refine y_bipush (v := (-4)) d_Wo_init_108 (by decide) ?_
  refine n_iast (z := 32) (j := 24) (by decide) rfl (vp_d rfl) (by decide) d_Wo_init_110 ?_
  have hA := hA.cons (k := 49) (v := (24, (-4))) (by decide)
  refine y_iinc (q := 0) (v := 25) (lv' := [(2, .int 25), (0, .ref 41), (1, .ref 5)]) d_Wo_init_111 rfl (by decide) (by decide) rfl ?_
  refine y_goto (tgt := 89) d_Wo_init_114 ?_
  refine y_iload_n (q := 0) d_Wo_init_89 rfl rfl ?_
  refine y_bipush (v := 32) d_Wo_init_90 (by decide) ?_
  refine y_icmp_ge (tgt := 117) d_Wo_init_92 (fun c => absurd c (by decide)) (fun _ => ?_)
  refine y_aload_n (q := 1) d_Wo_init_95 rfl rfl ?_
  refine n_getr (j := 4) (i := 44) fl_Wo_22 (by decide) rfl (by decide) rfl rfl d_Wo_init_96 ?_
  refine y_iload_n (q := 0) d_Wo_init_99 rfl rfl ?_
  refine y_bipush (v := (-4)) d_Wo_init_100 (by decide) ?_
  refine n_iast (z := 32) (j := 25) (by decide) rfl (vp_d rfl) (by decide) d_Wo_init_102 ?_
  have hA := hA.cons (k := 44) (v := (25, (-4))) (by decide)
  refine y_aload_n (q := 1) d_Wo_init_103 rfl rfl ?_
  refine n_getr (j := 9) (i := 49) fl_Wo_37 (by decide) rfl (by decide) rfl rfl d_Wo_init_104 ?_
  refine y_iload_n (q := 0) d_Wo_init_107 rfl rfl ?_
  refine y_bipush (v := (-4)) d_Wo_init_108 (by decide) ?_
  refine n_iast (z := 32) (j := 25) (by decide) rfl (vp_d rfl) (by decide) d_Wo_init_110 ?_
  have hA := hA.cons (k := 49) (v := (25, (-4))) (by decide)
  refine y_iinc (q := 0) (v := 26) (lv' := [(2, .int 26), (0, .ref 41), (1, .ref 5)]) d_Wo_init_111 rfl (by decide) (by decide) rfl ?_
  refine y_goto (tgt := 89) d_Wo_init_114 ?_
  refine y_iload_n (q := 0) d_Wo_init_89 rfl rfl ?_
  refine y_bipush (v := 32) d_Wo_init_90 (by decide) ?_
  refine y_icmp_ge (tgt := 117) d_Wo_init_92 (fun c => absurd c (by decide)) (fun _ => ?_)
  refine y_aload_n (q := 1) d_Wo_init_95 rfl rfl ?_
  refine n_getr (j := 4) (i := 44) fl_Wo_22 (by decide) rfl (by decide) rfl rfl d_Wo_init_96 ?_
  refine y_iload_n (q := 0) d_Wo_init_99 rfl rfl ?_
  refine y_bipush (v := (-4)) d_Wo_init_100 (by decide) ?_
  refine n_iast (z := 32) (j := 26) (by decide) rfl (vp_d rfl) (by decide) d_Wo_init_102 ?_
  have hA := hA.cons (k := 44) (v := (26, (-4))) (by decide)
  refine y_aload_n (q := 1) d_Wo_init_103 rfl rfl ?_
  refine n_getr (j := 9) (i := 49) fl_Wo_37 (by decide) rfl (by decide) rfl rfl d_Wo_init_104 ?_
  refine y_iload_n (q := 0) d_Wo_init_107 rfl rfl ?_
  refine y_bipush (v := (-4)) d_Wo_init_108 (by decide) ?_
  refine n_iast (z := 32) (j := 26) (by decide) rfl (vp_d rfl) (by decide) d_Wo_init_110 ?_
  have hA := hA.cons (k := 49) (v := (26, (-4))) (by decide)
  refine y_iinc (q := 0) (v := 27) (lv' := [(2, .int 27), (0, .ref 41), (1, .ref 5)]) d_Wo_init_111 rfl (by decide) (by decide) rfl ?_
  refine y_goto (tgt := 89) d_Wo_init_114 ?_
  refine y_iload_n (q := 0) d_Wo_init_89 rfl rfl ?_
  refine y_bipush (v := 32) d_Wo_init_90 (by decide) ?_
  refine y_icmp_ge (tgt := 117) d_Wo_init_92 (fun c => absurd c (by decide)) (fun _ => ?_)
  refine y_aload_n (q := 1) d_Wo_init_95 rfl rfl ?_
  refine n_getr (j := 4) (i := 44) fl_Wo_22 (by decide) rfl (by decide) rfl rfl d_Wo_init_96 ?_
  refine y_iload_n (q := 0) d_Wo_init_99 rfl rfl ?_
  refine y_bipush (v := (-4)) d_Wo_init_100 (by decide) ?_
  refine n_iast (z := 32) (j := 27) (by decide) rfl (vp_d rfl) (by decide) d_Wo_init_102 ?_
  have hA := hA.cons (k := 44) (v := (27, (-4))) (by decide)
  refine y_aload_n (q := 1) d_Wo_init_103 rfl rfl ?_
  refine n_getr (j := 9) (i := 49) fl_Wo_37 (by decide) rfl (by decide) rfl rfl d_Wo_init_104 ?_
  refine y_iload_n (q := 0) d_Wo_init_107 rfl rfl ?_
  refine y_bipush (v := (-4)) d_Wo_init_108 (by decide) ?_
  refine n_iast (z := 32) (j := 27) (by decide) rfl (vp_d rfl) (by decide) d_Wo_init_110 ?_
  have hA := hA.cons (k := 49) (v := (27, (-4))) (by decide)
  refine y_iinc (q := 0) (v := 28) (lv' := [(2, .int 28), (0, .ref 41), (1, .ref 5)]) d_Wo_init_111 rfl (by decide) (by decide) rfl ?_
  refine y_goto (tgt := 89) d_Wo_init_114 ?_
  refine y_iload_n (q := 0) d_Wo_init_89 rfl rfl ?_
  refine y_bipush (v := 32) d_Wo_init_90 (by decide) ?_
  refine y_icmp_ge (tgt := 117) d_Wo_init_92 (fun c => absurd c (by decide)) (fun _ => ?_)
  refine y_aload_n (q := 1) d_Wo_init_95 rfl rfl ?_
  refine n_getr (j := 4) (i := 44) fl_Wo_22 (by decide) rfl (by decide) rfl rfl d_Wo_init_96 ?_
  refine y_iload_n (q := 0) d_Wo_init_99 rfl rfl ?_
  refine y_bipush (v := (-4)) d_Wo_init_100 (by decide) ?_
  refine n_iast (z := 32) (j := 28) (by decide) rfl (vp_d rfl) (by decide) d_Wo_init_102 ?_
  have hA := hA.cons (k := 44) (v := (28, (-4))) (by decide)
  refine y_aload_n (q := 1) d_Wo_init_103 rfl rfl ?_
  refine n_getr (j := 9) (i := 49) fl_Wo_37 (by decide) rfl (by decide) rfl rfl d_Wo_init_104 ?_
  refine y_iload_n (q := 0) d_Wo_init_107 rfl rfl ?_
  refine y_bipush (v := (-4)) d_Wo_init_108 (by decide) ?_
  refine n_iast (z := 32) (j := 28) (by decide) rfl (vp_d rfl) (by decide) d_Wo_init_110 ?_
  have hA := hA.cons (k := 49) (v := (28, (-4))) (by decide)
  refine y_iinc (q := 0) (v := 29) (lv' := [(2, .int 29), (0, .ref 41), (1, .ref 5)]) d_Wo_init_111 rfl (by decide) (by decide) rfl ?_
  refine y_goto (tgt := 89) d_Wo_init_114 ?_
  refine y_iload_n (q := 0) d_Wo_init_89 rfl rfl ?_
  refine y_bipush (v := 32) d_Wo_init_90 (by decide) ?_
  refine y_icmp_ge (tgt := 117) d_Wo_init_92 (fun c => absurd c (by decide)) (fun _ => ?_)
  refine y_aload_n (q := 1) d_Wo_init_95 rfl rfl ?_
  refine n_getr (j := 4) (i := 44) fl_Wo_22 (by decide) rfl (by decide) rfl rfl d_Wo_init_96 ?_
  refine y_iload_n (q := 0) d_Wo_init_99 rfl rfl ?_
  refine y_bipush (v := (-4)) d_Wo_init_100 (by decide) ?_
  refine n_iast (z := 32) (j := 29) (by decide) rfl (vp_d rfl) (by decide) d_Wo_init_102 ?_
  have hA := hA.cons (k := 44) (v := (29, (-4))) (by decide)
  refine y_aload_n (q := 1) d_Wo_init_103 rfl rfl ?_
  refine n_getr (j := 9) (i := 49) fl_Wo_37 (by decide) rfl (by decide) rfl rfl d_Wo_init_104 ?_
  refine y_iload_n (q := 0) d_Wo_init_107 rfl rfl ?_
  refine y_bipush (v := (-4)) d_Wo_init_108 (by decide) ?_
  refine n_iast (z := 32) (j := 29) (by decide) rfl (vp_d rfl) (by decide) d_Wo_init_110 ?_
  have hA := hA.cons (k := 49) (v := (29, (-4))) (by decide)
  refine y_iinc (q := 0) (v := 30) (lv' := [(2, .int 30), (0, .ref 41), (1, .ref 5)]) d_Wo_init_111 rfl (by decide) (by decide) rfl ?_
  refine y_goto (tgt := 89) d_Wo_init_114 ?_
  refine y_iload_n (q := 0) d_Wo_init_89 rfl rfl ?_
  refine y_bipush (v := 32) d_Wo_init_90 (by decide) ?_
  refine y_icmp_ge (tgt := 117) d_Wo_init_92 (fun c => absurd c (by decide)) (fun _ => ?_)
  refine y_aload_n (q := 1) d_Wo_init_95 rfl rfl ?_
  refine n_getr (j := 4) (i := 44) fl_Wo_22 (by decide) rfl (by decide) rfl rfl d_Wo_init_96 ?_
  refine y_iload_n (q := 0) d_Wo_init_99 rfl rfl ?_
  refine y_bipush (v := (-4)) d_Wo_init_100 (by decide) ?_
  refine n_iast (z := 32) (j := 30) (by decide) rfl (vp_d rfl) (by decide) d_Wo_init_102 ?_
  have hA := hA.cons (k := 44) (v := (30, (-4))) (by decide)
  refine y_aload_n (q := 1) d_Wo_init_103 rfl rfl ?_
  refine n_getr (j := 9) (i := 49) fl_Wo_37 (by decide) rfl (by decide) rfl rfl d_Wo_init_104 ?_
  refine y_iload_n (q := 0) d_Wo_init_107 rfl rfl ?_
  refine y_bipush (v := (-4)) d_Wo_init_108 (by decide) ?_
  refine n_iast (z := 32) (j := 30) (by decide) rfl (vp_d rfl) (by decide) d_Wo_init_110 ?_
  have hA := hA.cons (k := 49) (v := (30, (-4))) (by decide)
  refine y_iinc (q := 0) (v := 31) (lv' := [(2, .int 31), (0, .ref 41), (1, .ref 5)]) d_Wo_init_111 rfl (by decide) (by decide) rfl ?_
  refine y_goto (tgt := 89) d_Wo_init_114 ?_
  refine y_iload_n (q := 0) d_Wo_init_89 rfl rfl ?_
  refine y_bipush (v := 32) d_Wo_init_90 (by decide) ?_
  refine y_icmp_ge (tgt := 117) d_Wo_init_92 (fun c => absurd c (by decide)) (fun _ => ?_)
  refine y_aload_n (q := 1) d_Wo_init_95 rfl rfl ?_
  refine n_getr (j := 4) (i := 44) fl_Wo_22 (by decide) rfl (by decide) rfl rfl d_Wo_init_96 ?_
  refine y_iload_n (q := 0) d_Wo_init_99 rfl rfl ?_
  refine y_bipush (v := (-4)) d_Wo_init_100 (by decide) ?_
  refine n_iast (z := 32) (j := 31) (by decide) rfl (vp_d rfl) (by decide) d_Wo_init_102 ?_
  have hA := hA.cons (k := 44) (v := (31, (-4))) (by decide)
  refine y_aload_n (q := 1) d_Wo_init_103 rfl rfl ?_
  refine n_getr (j := 9) (i := 49) fl_Wo_37 (by decide) rfl (by decide) rfl rfl d_Wo_init_104 ?_
  refine y_iload_n (q := 0) d_Wo_init_107 rfl rfl ?_
  refine y_bipush (v := (-4)) d_Wo_init_108 (by decide) ?_
  refine n_iast (z := 32) (j := 31) (by decide) rfl (vp_d rfl) (by decide) d_Wo_init_110 ?_
  have hA := hA.cons (k := 49) (v := (31, (-4))) (by decide)
  refine y_iinc (q := 0) (v := 32) (lv' := [(2, .int 32), (0, .ref 41), (1, .ref 5)]) d_Wo_init_111 rfl (by decide) (by decide) rfl ?_
  refine y_goto (tgt := 89) d_Wo_init_114 ?_
  refine y_iload_n (q := 0) d_Wo_init_89 rfl rfl ?_
  refine y_bipush (v := 32) d_Wo_init_90 (by decide) ?_
  refine y_icmp_ge (tgt := 117) d_Wo_init_92 (fun _ => ?_) (fun c => absurd (by decide) c)
  exact x_vret rfl d_Wo_init_117 (Nat.le_of_ble_eq_true rfl) (Nat.le_of_ble_eq_true rfl) h
theorem n_Le_init {E : xV} {A : List (Nat × (Nat × Int32))} {B : List (Nat × (Nat × Nat))} (hA : xlt 53 A) (hB : xlt 53 B) {K : xK} (h : K none 59 (s0 A ((52, (8, 59)) :: ((52, (7, 58)) :: ((52, (6, 57)) :: ((52, (4, 56)) :: ((52, (3, 55)) :: ((52, (2, 54)) :: ((52, (0, 11)) :: B))))))))) : Cx E Y_Le_init [.ref 52, .ref 10] 53 (s0 A B) K := by
  refine x_entry (by decide) (fun a => Nat.le_of_ble_eq_true rfl) rfl ?_
  refine y_aload_n (q := 0) d_Le_init_0 rfl rfl ?_
  refine y_objInit d_Le_init_1 k_2_116 k_1_28 k_1_29 (Nat.le_of_ble_eq_true rfl) (Nat.le_of_ble_eq_true rfl) (Nat.le_of_ble_eq_true rfl) ?_
  refine y_aload_n (q := 0) d_Le_init_4 rfl rfl ?_
  refine y_aload_n (q := 1) d_Le_init_5 rfl rfl ?_
  refine n_putrF (j := 0) (v := 11) fl_Le_11 rfl rfl (by decide) (by decide) rfl (by decide) rfl (fun _ => rfl) (fun _ => rfl) rfl d_Le_init_6 ?_
  have hB := hB.cons (k := 52) (v := (0, 11)) (by decide)
  refine y_aload_n (q := 0) d_Le_init_9 rfl rfl ?_
  refine y_sipush (v := 480) d_Le_init_10 (by decide) ?_
  refine n_newi (z := 480) (n' := 54) (cs' := 1) (ss' := 480) hA hB (by decide) d_Le_init_13 k_1_72 (by decide) (by decide) (by decide) rfl (Nat.le_of_ble_eq_true rfl) (Nat.le_of_ble_eq_true rfl) rfl rfl ⟨rfl, rfl, rfl⟩ ?_
  have hA := hA.le (show 53 ≤ 54 from by decide)
  have hB := hB.le (show 53 ≤ 54 from by decide)
  refine n_putrF (j := 2) (v := 54) fl_Le_15 rfl rfl (by decide) (by decide) rfl (by decide) rfl (fun _ => rfl) (fun _ => rfl) rfl d_Le_init_15 ?_
  have hB := hB.cons (k := 52) (v := (2, 54)) (by decide)
  refine y_aload_n (q := 0) d_Le_init_18 rfl rfl ?_
  refine y_bipush (v := 60) d_Le_init_19 (by decide) ?_
  refine n_newz (z := 60) (n' := 55) (cs' := 2) (ss' := 540) hA hB (by decide) d_Le_init_21 k_1_114 (by decide) (by decide) (by decide) rfl (Nat.le_of_ble_eq_true rfl) (Nat.le_of_ble_eq_true rfl) rfl rfl ⟨rfl, rfl, rfl⟩ ?_
  have hA := hA.le (show 54 ≤ 55 from by decide)
  have hB := hB.le (show 54 ≤ 55 from by decide)
  refine n_putrF (j := 3) (v := 55) fl_Le_19 rfl rfl (by decide) (by decide) rfl (by decide) rfl (fun _ => rfl) (fun _ => rfl) rfl d_Le_init_23 ?_
  have hB := hB.cons (k := 52) (v := (3, 55)) (by decide)
  refine y_aload_n (q := 0) d_Le_init_26 rfl rfl ?_
  refine y_bipush (v := 60) d_Le_init_27 (by decide) ?_
  refine n_newi (z := 60) (n' := 56) (cs' := 3) (ss' := 600) hA hB (by decide) d_Le_init_29 k_1_72 (by decide) (by decide) (by decide) rfl (Nat.le_of_ble_eq_true rfl) (Nat.le_of_ble_eq_true rfl) rfl rfl ⟨rfl, rfl, rfl⟩ ?_
  have hA := hA.le (show 55 ≤ 56 from by decide)
  have hB := hB.le (show 55 ≤ 56 from by decide)
  refine n_putrF (j := 4) (v := 56) fl_Le_23 rfl rfl (by decide) (by decide) rfl (by decide) rfl (fun _ => rfl) (fun _ => rfl) rfl d_Le_init_31 ?_
  have hB := hB.cons (k := 52) (v := (4, 56)) (by decide)
  refine y_aload_n (q := 0) d_Le_init_34 rfl rfl ?_
  refine y_sipush (v := 144) d_Le_init_35 (by decide) ?_
  refine n_newi (z := 144) (n' := 57) (cs' := 4) (ss' := 744) hA hB (by decide) d_Le_init_38 k_1_72 (by decide) (by decide) (by decide) rfl (Nat.le_of_ble_eq_true rfl) (Nat.le_of_ble_eq_true rfl) rfl rfl ⟨rfl, rfl, rfl⟩ ?_
  have hA := hA.le (show 56 ≤ 57 from by decide)
  have hB := hB.le (show 56 ≤ 57 from by decide)
  refine n_putrF (j := 6) (v := 57) fl_Le_26 rfl rfl (by decide) (by decide) rfl (by decide) rfl (fun _ => rfl) (fun _ => rfl) rfl d_Le_init_40 ?_
  have hB := hB.cons (k := 52) (v := (6, 57)) (by decide)
  refine y_aload_n (q := 0) d_Le_init_43 rfl rfl ?_
  refine y_sipush (v := 144) d_Le_init_44 (by decide) ?_
  refine n_newi (z := 144) (n' := 58) (cs' := 5) (ss' := 888) hA hB (by decide) d_Le_init_47 k_1_72 (by decide) (by decide) (by decide) rfl (Nat.le_of_ble_eq_true rfl) (Nat.le_of_ble_eq_true rfl) rfl rfl ⟨rfl, rfl, rfl⟩ ?_
  have hA := hA.le (show 57 ≤ 58 from by decide)
  have hB := hB.le (show 57 ≤ 58 from by decide)
  refine n_putrF (j := 7) (v := 58) fl_Le_29 rfl rfl (by decide) (by decide) rfl (by decide) rfl (fun _ => rfl) (fun _ => rfl) rfl d_Le_init_49 ?_
  have hB := hB.cons (k := 52) (v := (7, 58)) (by decide)
  refine y_aload_n (q := 0) d_Le_init_52 rfl rfl ?_
  refine y_sipush (v := 1728) d_Le_init_53 (by decide) ?_
  refine n_newi (z := 1728) (n' := 59) (cs' := 6) (ss' := 2616) hA hB (by decide) d_Le_init_56 k_1_72 (by decide) (by decide) (by decide) rfl (Nat.le_of_ble_eq_true rfl) (Nat.le_of_ble_eq_true rfl) rfl rfl ⟨rfl, rfl, rfl⟩ ?_
  have hA := hA.le (show 58 ≤ 59 from by decide)
  have hB := hB.le (show 58 ≤ 59 from by decide)
  refine n_putrF (j := 8) (v := 59) fl_Le_32 rfl rfl (by decide) (by decide) rfl (by decide) rfl (fun _ => rfl) (fun _ => rfl) rfl d_Le_init_58 ?_
  have hB := hB.cons (k := 52) (v := (8, 59)) (by decide)
  exact x_vret rfl d_Le_init_61 (Nat.le_of_ble_eq_true rfl) (Nat.le_of_ble_eq_true rfl) h
theorem n_Fl_init {E : xV} {A : List (Nat × (Nat × Int32))} {B : List (Nat × (Nat × Nat))} (hA : xlt 60 A) (hB : xlt 60 B) {K : xK} (h : K none 70 (s0 ((60, (13, 255)) :: ((60, (12, 255)) :: ((60, (11, 255)) :: ((60, (10, 255)) :: ((60, (9, 255)) :: ((60, (8, 255)) :: ((60, (7, 255)) :: ((60, (6, 255)) :: ((60, (5, 255)) :: ((60, (4, 255)) :: ((60, (3, 255)) :: ((60, (2, 255)) :: ((60, (1, 255)) :: ((60, (0, 255)) :: A)))))))))))))) ((59, (10, 70)) :: ((59, (9, 69)) :: ((59, (8, 68)) :: ((59, (7, 67)) :: ((59, (6, 66)) :: ((59, (5, 65)) :: ((59, (4, 64)) :: ((59, (3, 63)) :: ((59, (2, 62)) :: ((59, (0, 61)) :: B)))))))))))) : Cx E Y_Fl_init [.ref 59] 60 (s0 A B) K := by
  refine x_entry (by decide) (fun a => Nat.le_of_ble_eq_true rfl) rfl ?_
  refine y_aload_n (q := 0) d_Fl_init_0 rfl rfl ?_
  refine y_objInit d_Fl_init_1 k_2_161 k_1_28 k_1_29 (Nat.le_of_ble_eq_true rfl) (Nat.le_of_ble_eq_true rfl) (Nat.le_of_ble_eq_true rfl) ?_
  refine y_aload_n (q := 0) d_Fl_init_4 rfl rfl ?_
  refine y_bipush (v := 14) d_Fl_init_5 (by decide) ?_
  refine n_newi (z := 14) (n' := 61) (cs' := 1) (ss' := 14) hA hB (by decide) d_Fl_init_7 k_1_72 (by decide) (by decide) (by decide) rfl (Nat.le_of_ble_eq_true rfl) (Nat.le_of_ble_eq_true rfl) rfl rfl ⟨rfl, rfl, rfl⟩ ?_
  have hA := hA.le (show 60 ≤ 61 from by decide)
  have hB := hB.le (show 60 ≤ 61 from by decide)
  refine n_putrF (j := 0) (v := 61) fl_Fl_11 rfl rfl (by decide) (by decide) rfl (by decide) rfl (fun _ => rfl) (fun _ => rfl) rfl d_Fl_init_9 ?_
  have hB := hB.cons (k := 59) (v := (0, 61)) (by decide)
  refine y_iconst (v := 0) d_Fl_init_12 (by decide) ?_
  refine y_istore_n (lv' := [(1, .int 0), (0, .ref 59)]) d_Fl_init_13 rfl (by decide) rfl ?_
  refine y_iload_n (q := 0) d_Fl_init_14 rfl rfl ?_
  refine y_bipush (v := 14) d_Fl_init_15 (by decide) ?_
  refine y_icmp_ge (tgt := 35) d_Fl_init_17 (fun c => absurd c (by decide)) (fun _ => ?_)
  refine y_aload_n (q := 1) d_Fl_init_20 rfl rfl ?_
  refine n_getr (j := 0) (i := 60) fl_Fl_11 (by decide) rfl (by decide) rfl rfl d_Fl_init_21 ?_
  refine y_iload_n (q := 0) d_Fl_init_24 rfl rfl ?_
  refine y_sipush (v := 255) d_Fl_init_25 (by decide) ?_
  refine n_iast (z := 14) (j := 0) (by decide) rfl (vp_d rfl) (by decide) d_Fl_init_28 ?_
  have hA := hA.cons (k := 60) (v := (0, 255)) (by decide)
  refine y_iinc (q := 0) (v := 1) (lv' := [(1, .int 1), (0, .ref 59)]) d_Fl_init_29 rfl (by decide) (by decide) rfl ?_
  refine y_goto (tgt := 14) d_Fl_init_32 ?_
  refine y_iload_n (q := 0) d_Fl_init_14 rfl rfl ?_
  refine y_bipush (v := 14) d_Fl_init_15 (by decide) ?_
  refine y_icmp_ge (tgt := 35) d_Fl_init_17 (fun c => absurd c (by decide)) (fun _ => ?_)
  refine y_aload_n (q := 1) d_Fl_init_20 rfl rfl ?_
  refine n_getr (j := 0) (i := 60) fl_Fl_11 (by decide) rfl (by decide) rfl rfl d_Fl_init_21 ?_
  refine y_iload_n (q := 0) d_Fl_init_24 rfl rfl ?_
  refine y_sipush (v := 255) d_Fl_init_25 (by decide) ?_
  refine n_iast (z := 14) (j := 1) (by decide) rfl (vp_d rfl) (by decide) d_Fl_init_28 ?_
  have hA := hA.cons (k := 60) (v := (1, 255)) (by decide)
  refine y_iinc (q := 0) (v := 2) (lv' := [(1, .int 2), (0, .ref 59)]) d_Fl_init_29 rfl (by decide) (by decide) rfl ?_
  refine y_goto (tgt := 14) d_Fl_init_32 ?_
  refine y_iload_n (q := 0) d_Fl_init_14 rfl rfl ?_
  refine y_bipush (v := 14) d_Fl_init_15 (by decide) ?_
  refine y_icmp_ge (tgt := 35) d_Fl_init_17 (fun c => absurd c (by decide)) (fun _ => ?_)
  refine y_aload_n (q := 1) d_Fl_init_20 rfl rfl ?_
  refine n_getr (j := 0) (i := 60) fl_Fl_11 (by decide) rfl (by decide) rfl rfl d_Fl_init_21 ?_
  refine y_iload_n (q := 0) d_Fl_init_24 rfl rfl ?_
  refine y_sipush (v := 255) d_Fl_init_25 (by decide) ?_
  refine n_iast (z := 14) (j := 2) (by decide) rfl (vp_d rfl) (by decide) d_Fl_init_28 ?_
  have hA := hA.cons (k := 60) (v := (2, 255)) (by decide)
  refine y_iinc (q := 0) (v := 3) (lv' := [(1, .int 3), (0, .ref 59)]) d_Fl_init_29 rfl (by decide) (by decide) rfl ?_
  refine y_goto (tgt := 14) d_Fl_init_32 ?_
  refine y_iload_n (q := 0) d_Fl_init_14 rfl rfl ?_
  refine y_bipush (v := 14) d_Fl_init_15 (by decide) ?_
  refine y_icmp_ge (tgt := 35) d_Fl_init_17 (fun c => absurd c (by decide)) (fun _ => ?_)
  refine y_aload_n (q := 1) d_Fl_init_20 rfl rfl ?_
  refine n_getr (j := 0) (i := 60) fl_Fl_11 (by decide) rfl (by decide) rfl rfl d_Fl_init_21 ?_
  refine y_iload_n (q := 0) d_Fl_init_24 rfl rfl ?_
  refine y_sipush (v := 255) d_Fl_init_25 (by decide) ?_
  refine n_iast (z := 14) (j := 3) (by decide) rfl (vp_d rfl) (by decide) d_Fl_init_28 ?_
  have hA := hA.cons (k := 60) (v := (3, 255)) (by decide)
  refine y_iinc (q := 0) (v := 4) (lv' := [(1, .int 4), (0, .ref 59)]) d_Fl_init_29 rfl (by decide) (by decide) rfl ?_
  refine y_goto (tgt := 14) d_Fl_init_32 ?_
  refine y_iload_n (q := 0) d_Fl_init_14 rfl rfl ?_
  refine y_bipush (v := 14) d_Fl_init_15 (by decide) ?_
  refine y_icmp_ge (tgt := 35) d_Fl_init_17 (fun c => absurd c (by decide)) (fun _ => ?_)
  refine y_aload_n (q := 1) d_Fl_init_20 rfl rfl ?_
  refine n_getr (j := 0) (i := 60) fl_Fl_11 (by decide) rfl (by decide) rfl rfl d_Fl_init_21 ?_
  refine y_iload_n (q := 0) d_Fl_init_24 rfl rfl ?_
  refine y_sipush (v := 255) d_Fl_init_25 (by decide) ?_
  refine n_iast (z := 14) (j := 4) (by decide) rfl (vp_d rfl) (by decide) d_Fl_init_28 ?_
  have hA := hA.cons (k := 60) (v := (4, 255)) (by decide)
  refine y_iinc (q := 0) (v := 5) (lv' := [(1, .int 5), (0, .ref 59)]) d_Fl_init_29 rfl (by decide) (by decide) rfl ?_
  refine y_goto (tgt := 14) d_Fl_init_32 ?_
  refine y_iload_n (q := 0) d_Fl_init_14 rfl rfl ?_
  refine y_bipush (v := 14) d_Fl_init_15 (by decide) ?_
  refine y_icmp_ge (tgt := 35) d_Fl_init_17 (fun c => absurd c (by decide)) (fun _ => ?_)
  refine y_aload_n (q := 1) d_Fl_init_20 rfl rfl ?_
  refine n_getr (j := 0) (i := 60) fl_Fl_11 (by decide) rfl (by decide) rfl rfl d_Fl_init_21 ?_
  refine y_iload_n (q := 0) d_Fl_init_24 rfl rfl ?_
  refine y_sipush (v := 255) d_Fl_init_25 (by decide) ?_
  refine n_iast (z := 14) (j := 5) (by decide) rfl (vp_d rfl) (by decide) d_Fl_init_28 ?_
  have hA := hA.cons (k := 60) (v := (5, 255)) (by decide)
  refine y_iinc (q := 0) (v := 6) (lv' := [(1, .int 6), (0, .ref 59)]) d_Fl_init_29 rfl (by decide) (by decide) rfl ?_
  refine y_goto (tgt := 14) d_Fl_init_32 ?_
  refine y_iload_n (q := 0) d_Fl_init_14 rfl rfl ?_
  refine y_bipush (v := 14) d_Fl_init_15 (by decide) ?_
  refine y_icmp_ge (tgt := 35) d_Fl_init_17 (fun c => absurd c (by decide)) (fun _ => ?_)
  refine y_aload_n (q := 1) d_Fl_init_20 rfl rfl ?_
  refine n_getr (j := 0) (i := 60) fl_Fl_11 (by decide) rfl (by decide) rfl rfl d_Fl_init_21 ?_
  refine y_iload_n (q := 0) d_Fl_init_24 rfl rfl ?_
  refine y_sipush (v := 255) d_Fl_init_25 (by decide) ?_
  refine n_iast (z := 14) (j := 6) (by decide) rfl (vp_d rfl) (by decide) d_Fl_init_28 ?_
  have hA := hA.cons (k := 60) (v := (6, 255)) (by decide)
  refine y_iinc (q := 0) (v := 7) (lv' := [(1, .int 7), (0, .ref 59)]) d_Fl_init_29 rfl (by decide) (by decide) rfl ?_
  refine y_goto (tgt := 14) d_Fl_init_32 ?_
  refine y_iload_n (q := 0) d_Fl_init_14 rfl rfl ?_
  refine y_bipush (v := 14) d_Fl_init_15 (by decide) ?_
  refine y_icmp_ge (tgt := 35) d_Fl_init_17 (fun c => absurd c (by decide)) (fun _ => ?_)
  refine y_aload_n (q := 1) d_Fl_init_20 rfl rfl ?_
  refine n_getr (j := 0) (i := 60) fl_Fl_11 (by decide) rfl (by decide) rfl rfl d_Fl_init_21 ?_
  refine y_iload_n (q := 0) d_Fl_init_24 rfl rfl ?_
  refine y_sipush (v := 255) d_Fl_init_25 (by decide) ?_
  refine n_iast (z := 14) (j := 7) (by decide) rfl (vp_d rfl) (by decide) d_Fl_init_28 ?_
  have hA := hA.cons (k := 60) (v := (7, 255)) (by decide)
  refine y_iinc (q := 0) (v := 8) (lv' := [(1, .int 8), (0, .ref 59)]) d_Fl_init_29 rfl (by decide) (by decide) rfl ?_
  refine y_goto (tgt := 14) d_Fl_init_32 ?_
  refine y_iload_n (q := 0) d_Fl_init_14 rfl rfl ?_
  refine y_bipush (v := 14) d_Fl_init_15 (by decide) ?_
  refine y_icmp_ge (tgt := 35) d_Fl_init_17 (fun c => absurd c (by decide)) (fun _ => ?_)
  refine y_aload_n (q := 1) d_Fl_init_20 rfl rfl ?_
  refine n_getr (j := 0) (i := 60) fl_Fl_11 (by decide) rfl (by decide) rfl rfl d_Fl_init_21 ?_
  refine y_iload_n (q := 0) d_Fl_init_24 rfl rfl ?_
  refine y_sipush (v := 255) d_Fl_init_25 (by decide) ?_
  refine n_iast (z := 14) (j := 8) (by decide) rfl (vp_d rfl) (by decide) d_Fl_init_28 ?_
  have hA := hA.cons (k := 60) (v := (8, 255)) (by decide)
  refine y_iinc (q := 0) (v := 9) (lv' := [(1, .int 9), (0, .ref 59)]) d_Fl_init_29 rfl (by decide) (by decide) rfl ?_
  refine y_goto (tgt := 14) d_Fl_init_32 ?_
  refine y_iload_n (q := 0) d_Fl_init_14 rfl rfl ?_
  refine y_bipush (v := 14) d_Fl_init_15 (by decide) ?_
  refine y_icmp_ge (tgt := 35) d_Fl_init_17 (fun c => absurd c (by decide)) (fun _ => ?_)
  refine y_aload_n (q := 1) d_Fl_init_20 rfl rfl ?_
  refine n_getr (j := 0) (i := 60) fl_Fl_11 (by decide) rfl (by decide) rfl rfl d_Fl_init_21 ?_
  refine y_iload_n (q := 0) d_Fl_init_24 rfl rfl ?_
  refine y_sipush (v := 255) d_Fl_init_25 (by decide) ?_
  refine n_iast (z := 14) (j := 9) (by decide) rfl (vp_d rfl) (by decide) d_Fl_init_28 ?_
  have hA := hA.cons (k := 60) (v := (9, 255)) (by decide)
  refine y_iinc (q := 0) (v := 10) (lv' := [(1, .int 10), (0, .ref 59)]) d_Fl_init_29 rfl (by decide) (by decide) rfl ?_
  refine y_goto (tgt := 14) d_Fl_init_32 ?_
  refine y_iload_n (q := 0) d_Fl_init_14 rfl rfl ?_
  refine y_bipush (v := 14) d_Fl_init_15 (by decide) ?_
  refine y_icmp_ge (tgt := 35) d_Fl_init_17 (fun c => absurd c (by decide)) (fun _ => ?_)
  refine y_aload_n (q := 1) d_Fl_init_20 rfl rfl ?_
  refine n_getr (j := 0) (i := 60) fl_Fl_11 (by decide) rfl (by decide) rfl rfl d_Fl_init_21 ?_
  refine y_iload_n (q := 0) d_Fl_init_24 rfl rfl ?_
  refine y_sipush (v := 255) d_Fl_init_25 (by decide) ?_
  refine n_iast (z := 14) (j := 10) (by decide) rfl (vp_d rfl) (by decide) d_Fl_init_28 ?_
  have hA := hA.cons (k := 60) (v := (10, 255)) (by decide)
  refine y_iinc (q := 0) (v := 11) (lv' := [(1, .int 11), (0, .ref 59)]) d_Fl_init_29 rfl (by decide) (by decide) rfl ?_
  refine y_goto (tgt := 14) d_Fl_init_32 ?_
  refine y_iload_n (q := 0) d_Fl_init_14 rfl rfl ?_
  refine y_bipush (v := 14) d_Fl_init_15 (by decide) ?_
  refine y_icmp_ge (tgt := 35) d_Fl_init_17 (fun c => absurd c (by decide)) (fun _ => ?_)
  refine y_aload_n (q := 1) d_Fl_init_20 rfl rfl ?_
  refine n_getr (j := 0) (i := 60) fl_Fl_11 (by decide) rfl (by decide) rfl rfl d_Fl_init_21 ?_
  refine y_iload_n (q := 0) d_Fl_init_24 rfl rfl ?_
  refine y_sipush (v := 255) d_Fl_init_25 (by decide) ?_
  refine n_iast (z := 14) (j := 11) (by decide) rfl (vp_d rfl) (by decide) d_Fl_init_28 ?_
  have hA := hA.cons (k := 60) (v := (11, 255)) (by decide)
  refine y_iinc (q := 0) (v := 12) (lv' := [(1, .int 12), (0, .ref 59)]) d_Fl_init_29 rfl (by decide) (by decide) rfl ?_
  refine y_goto (tgt := 14) d_Fl_init_32 ?_
  refine y_iload_n (q := 0) d_Fl_init_14 rfl rfl ?_
  refine y_bipush (v := 14) d_Fl_init_15 (by decide) ?_
  refine y_icmp_ge (tgt := 35) d_Fl_init_17 (fun c => absurd c (by decide)) (fun _ => ?_)
  refine y_aload_n (q := 1) d_Fl_init_20 rfl rfl ?_
  refine n_getr (j := 0) (i := 60) fl_Fl_11 (by decide) rfl (by decide) rfl rfl d_Fl_init_21 ?_
  refine y_iload_n (q := 0) d_Fl_init_24 rfl rfl ?_
  refine y_sipush (v := 255) d_Fl_init_25 (by decide) ?_
  refine n_iast (z := 14) (j := 12) (by decide) rfl (vp_d rfl) (by decide) d_Fl_init_28 ?_
  have hA := hA.cons (k := 60) (v := (12, 255)) (by decide)
  refine y_iinc (q := 0) (v := 13) (lv' := [(1, .int 13), (0, .ref 59)]) d_Fl_init_29 rfl (by decide) (by decide) rfl ?_
  refine y_goto (tgt := 14) d_Fl_init_32 ?_
  refine y_iload_n (q := 0) d_Fl_init_14 rfl rfl ?_
  refine y_bipush (v := 14) d_Fl_init_15 (by decide) ?_
  refine y_icmp_ge (tgt := 35) d_Fl_init_17 (fun c => absurd c (by decide)) (fun _ => ?_)
  refine y_aload_n (q := 1) d_Fl_init_20 rfl rfl ?_
  refine n_getr (j := 0) (i := 60) fl_Fl_11 (by decide) rfl (by decide) rfl rfl d_Fl_init_21 ?_
  refine y_iload_n (q := 0) d_Fl_init_24 rfl rfl ?_
  refine y_sipush (v := 255) d_Fl_init_25 (by decide) ?_
  refine n_iast (z := 14) (j := 13) (by decide) rfl (vp_d rfl) (by decide) d_Fl_init_28 ?_
  have hA := hA.cons (k := 60) (v := (13, 255)) (by decide)
  refine y_iinc (q := 0) (v := 14) (lv' := [(1, .int 14), (0, .ref 59)]) d_Fl_init_29 rfl (by decide) (by decide) rfl ?_
  refine y_goto (tgt := 14) d_Fl_init_32 ?_
  refine y_iload_n (q := 0) d_Fl_init_14 rfl rfl ?_
  refine y_bipush (v := 14) d_Fl_init_15 (by decide) ?_
  refine y_icmp_ge (tgt := 35) d_Fl_init_17 (fun _ => ?_) (fun c => absurd (by decide) c)
  refine y_aload_n (q := 1) d_Fl_init_35 rfl rfl ?_
  refine y_bipush (v := 60) d_Fl_init_36 (by decide) ?_
  refine n_newi (z := 60) (n' := 62) (cs' := 2) (ss' := 74) hA hB (by decide) d_Fl_init_38 k_1_72 (by decide) (by decide) (by decide) rfl (Nat.le_of_ble_eq_true rfl) (Nat.le_of_ble_eq_true rfl) rfl rfl ⟨rfl, rfl, rfl⟩ ?_
  have hA := hA.le (show 61 ≤ 62 from by decide)
  have hB := hB.le (show 61 ≤ 62 from by decide)
  refine n_putrF (j := 2) (v := 62) fl_Fl_15 rfl rfl (by decide) (by decide) rfl (by decide) rfl (fun _ => rfl) (fun _ => rfl) rfl d_Fl_init_40 ?_
  have hB := hB.cons (k := 59) (v := (2, 62)) (by decide)
  refine y_aload_n (q := 1) d_Fl_init_43 rfl rfl ?_
  refine y_bipush (v := 60) d_Fl_init_44 (by decide) ?_
  refine n_newi (z := 60) (n' := 63) (cs' := 3) (ss' := 134) hA hB (by decide) d_Fl_init_46 k_1_72 (by decide) (by decide) (by decide) rfl (Nat.le_of_ble_eq_true rfl) (Nat.le_of_ble_eq_true rfl) rfl rfl ⟨rfl, rfl, rfl⟩ ?_
  have hA := hA.le (show 62 ≤ 63 from by decide)
  have hB := hB.le (show 62 ≤ 63 from by decide)
  refine n_putrF (j := 3) (v := 63) fl_Fl_18 rfl rfl (by decide) (by decide) rfl (by decide) rfl (fun _ => rfl) (fun _ => rfl) rfl d_Fl_init_48 ?_
  have hB := hB.cons (k := 59) (v := (3, 63)) (by decide)
  refine y_aload_n (q := 1) d_Fl_init_51 rfl rfl ?_
  refine y_bipush (v := 60) d_Fl_init_52 (by decide) ?_
  refine n_newi (z := 60) (n' := 64) (cs' := 4) (ss' := 194) hA hB (by decide) d_Fl_init_54 k_1_72 (by decide) (by decide) (by decide) rfl (Nat.le_of_ble_eq_true rfl) (Nat.le_of_ble_eq_true rfl) rfl rfl ⟨rfl, rfl, rfl⟩ ?_
  have hA := hA.le (show 63 ≤ 64 from by decide)
  have hB := hB.le (show 63 ≤ 64 from by decide)
  refine n_putrF (j := 4) (v := 64) fl_Fl_21 rfl rfl (by decide) (by decide) rfl (by decide) rfl (fun _ => rfl) (fun _ => rfl) rfl d_Fl_init_56 ?_
  have hB := hB.cons (k := 59) (v := (4, 64)) (by decide)
  refine y_aload_n (q := 1) d_Fl_init_59 rfl rfl ?_
  refine y_bipush (v := 60) d_Fl_init_60 (by decide) ?_
  refine n_newi (z := 60) (n' := 65) (cs' := 5) (ss' := 254) hA hB (by decide) d_Fl_init_62 k_1_72 (by decide) (by decide) (by decide) rfl (Nat.le_of_ble_eq_true rfl) (Nat.le_of_ble_eq_true rfl) rfl rfl ⟨rfl, rfl, rfl⟩ ?_
  have hA := hA.le (show 64 ≤ 65 from by decide)
  have hB := hB.le (show 64 ≤ 65 from by decide)
  refine n_putrF (j := 5) (v := 65) fl_Fl_24 rfl rfl (by decide) (by decide) rfl (by decide) rfl (fun _ => rfl) (fun _ => rfl) rfl d_Fl_init_64 ?_
  have hB := hB.cons (k := 59) (v := (5, 65)) (by decide)
  refine y_aload_n (q := 1) d_Fl_init_67 rfl rfl ?_
  refine y_bipush (v := 10) d_Fl_init_68 (by decide) ?_
  refine n_newi (z := 10) (n' := 66) (cs' := 6) (ss' := 264) hA hB (by decide) d_Fl_init_70 k_1_72 (by decide) (by decide) (by decide) rfl (Nat.le_of_ble_eq_true rfl) (Nat.le_of_ble_eq_true rfl) rfl rfl ⟨rfl, rfl, rfl⟩ ?_
  have hA := hA.le (show 65 ≤ 66 from by decide)
  have hB := hB.le (show 65 ≤ 66 from by decide)
  refine n_putrF (j := 6) (v := 66) fl_Fl_27 rfl rfl (by decide) (by decide) rfl (by decide) rfl (fun _ => rfl) (fun _ => rfl) rfl d_Fl_init_72 ?_
  have hB := hB.cons (k := 59) (v := (6, 66)) (by decide)
  refine y_aload_n (q := 1) d_Fl_init_75 rfl rfl ?_
  refine y_bipush (v := 10) d_Fl_init_76 (by decide) ?_
  refine n_newi (z := 10) (n' := 67) (cs' := 7) (ss' := 274) hA hB (by decide) d_Fl_init_78 k_1_72 (by decide) (by decide) (by decide) rfl (Nat.le_of_ble_eq_true rfl) (Nat.le_of_ble_eq_true rfl) rfl rfl ⟨rfl, rfl, rfl⟩ ?_
  have hA := hA.le (show 66 ≤ 67 from by decide)
  have hB := hB.le (show 66 ≤ 67 from by decide)
  refine n_putrF (j := 7) (v := 67) fl_Fl_30 rfl rfl (by decide) (by decide) rfl (by decide) rfl (fun _ => rfl) (fun _ => rfl) rfl d_Fl_init_80 ?_
  have hB := hB.cons (k := 59) (v := (7, 67)) (by decide)
  refine y_aload_n (q := 1) d_Fl_init_83 rfl rfl ?_
  refine y_sipush (v := 800) d_Fl_init_84 (by decide) ?_
  refine n_newi (z := 800) (n' := 68) (cs' := 8) (ss' := 1074) hA hB (by decide) d_Fl_init_87 k_1_72 (by decide) (by decide) (by decide) rfl (Nat.le_of_ble_eq_true rfl) (Nat.le_of_ble_eq_true rfl) rfl rfl ⟨rfl, rfl, rfl⟩ ?_
  have hA := hA.le (show 67 ≤ 68 from by decide)
  have hB := hB.le (show 67 ≤ 68 from by decide)
  refine n_putrF (j := 8) (v := 68) fl_Fl_33 rfl rfl (by decide) (by decide) rfl (by decide) rfl (fun _ => rfl) (fun _ => rfl) rfl d_Fl_init_89 ?_
  have hB := hB.cons (k := 59) (v := (8, 68)) (by decide)
  refine y_aload_n (q := 1) d_Fl_init_92 rfl rfl ?_
  refine y_iconst (v := 4) d_Fl_init_93 (by decide) ?_
  refine n_newi (z := 4) (n' := 69) (cs' := 9) (ss' := 1078) hA hB (by decide) d_Fl_init_94 k_1_72 (by decide) (by decide) (by decide) rfl (Nat.le_of_ble_eq_true rfl) (Nat.le_of_ble_eq_true rfl) rfl rfl ⟨rfl, rfl, rfl⟩ ?_
  have hA := hA.le (show 68 ≤ 69 from by decide)
  have hB := hB.le (show 68 ≤ 69 from by decide)
  refine n_putrF (j := 9) (v := 69) fl_Fl_36 rfl rfl (by decide) (by decide) rfl (by decide) rfl (fun _ => rfl) (fun _ => rfl) rfl d_Fl_init_96 ?_
  have hB := hB.cons (k := 59) (v := (9, 69)) (by decide)
  refine y_aload_n (q := 1) d_Fl_init_99 rfl rfl ?_
  refine y_bipush (v := 60) d_Fl_init_100 (by decide) ?_
  refine n_newi (z := 60) (n' := 70) (cs' := 10) (ss' := 1138) hA hB (by decide) d_Fl_init_102 k_1_72 (by decide) (by decide) (by decide) rfl (Nat.le_of_ble_eq_true rfl) (Nat.le_of_ble_eq_true rfl) rfl rfl ⟨rfl, rfl, rfl⟩ ?_
  have hA := hA.le (show 69 ≤ 70 from by decide)
  have hB := hB.le (show 69 ≤ 70 from by decide)
  refine n_putrF (j := 10) (v := 70) fl_Fl_39 rfl rfl (by decide) (by decide) rfl (by decide) rfl (fun _ => rfl) (fun _ => rfl) rfl d_Fl_init_104 ?_
  have hB := hB.cons (k := 59) (v := (10, 70)) (by decide)
  exact x_vret rfl d_Fl_init_107 (Nat.le_of_ble_eq_true rfl) (Nat.le_of_ble_eq_true rfl) h
theorem n_Gu_init {E : xV} {A : List (Nat × (Nat × Int32))} {B : List (Nat × (Nat × Nat))} (hA : xlt 71 A) (hB : xlt 71 B) {K : xK} (h : K none 98 (s0 ((74, (3, 8)) :: ((74, (2, 4)) :: ((74, (1, 2)) :: ((74, (0, 1)) :: A)))) ((70, (8, 98)) :: ((70, (5, 97)) :: ((70, (4, 76)) :: (mnaL 75 20 ++ ((70, (3, 75)) :: ((70, (2, 74)) :: ((70, (1, 73)) :: ((70, (0, 72)) :: B)))))))))) : Cx E Y_Gu_init [.ref 70] 71 (s0 A B) K := by
  refine x_entry (by decide) (fun a => Nat.le_of_ble_eq_true rfl) rfl ?_
  refine y_aload_n (q := 0) d_Gu_init_0 rfl rfl ?_
  refine y_objInit d_Gu_init_1 k_2_210 k_1_28 k_1_29 (Nat.le_of_ble_eq_true rfl) (Nat.le_of_ble_eq_true rfl) (Nat.le_of_ble_eq_true rfl) ?_
  refine y_aload_n (q := 0) d_Gu_init_4 rfl rfl ?_
  refine y_bipush (v := 20) d_Gu_init_5 (by decide) ?_
  refine n_newj (z := 20) (n' := 72) (cs' := 1) (ss' := 20) hA hB (by decide) d_Gu_init_7 k_1_73 (by decide) (by decide) (by decide) rfl (Nat.le_of_ble_eq_true rfl) (Nat.le_of_ble_eq_true rfl) rfl rfl ⟨rfl, rfl, rfl⟩ ?_
  have hA := hA.le (show 71 ≤ 72 from by decide)
  have hB := hB.le (show 71 ≤ 72 from by decide)
  refine n_putrF (j := 0) (v := 72) fl_Gu_13 rfl rfl (by decide) (by decide) rfl (by decide) rfl (fun _ => rfl) (fun _ => rfl) rfl d_Gu_init_9 ?_
  have hB := hB.cons (k := 70) (v := (0, 72)) (by decide)
  refine y_aload_n (q := 0) d_Gu_init_12 rfl rfl ?_
  refine y_sipush (v := 160) d_Gu_init_13 (by decide) ?_
  refine n_newi (z := 160) (n' := 73) (cs' := 2) (ss' := 180) hA hB (by decide) d_Gu_init_16 k_1_72 (by decide) (by decide) (by decide) rfl (Nat.le_of_ble_eq_true rfl) (Nat.le_of_ble_eq_true rfl) rfl rfl ⟨rfl, rfl, rfl⟩ ?_
  have hA := hA.le (show 72 ≤ 73 from by decide)
  have hB := hB.le (show 72 ≤ 73 from by decide)
  refine n_putrF (j := 1) (v := 73) fl_Gu_17 rfl rfl (by decide) (by decide) rfl (by decide) rfl (fun _ => rfl) (fun _ => rfl) rfl d_Gu_init_18 ?_
  have hB := hB.cons (k := 70) (v := (1, 73)) (by decide)
  refine y_aload_n (q := 0) d_Gu_init_21 rfl rfl ?_
  refine y_iconst (v := 4) d_Gu_init_22 (by decide) ?_
  refine n_newi (z := 4) (n' := 74) (cs' := 3) (ss' := 184) hA hB (by decide) d_Gu_init_23 k_1_72 (by decide) (by decide) (by decide) rfl (Nat.le_of_ble_eq_true rfl) (Nat.le_of_ble_eq_true rfl) rfl rfl ⟨rfl, rfl, rfl⟩ ?_
  have hA := hA.le (show 73 ≤ 74 from by decide)
  have hB := hB.le (show 73 ≤ 74 from by decide)
  refine n_putrF (j := 2) (v := 74) fl_Gu_21 rfl rfl (by decide) (by decide) rfl (by decide) rfl (fun _ => rfl) (fun _ => rfl) rfl d_Gu_init_25 ?_
  have hB := hB.cons (k := 70) (v := (2, 74)) (by decide)
  refine y_aload_n (q := 0) d_Gu_init_28 rfl rfl ?_
  refine y_iconst (v := 4) d_Gu_init_29 (by decide) ?_
  refine n_newi (z := 4) (n' := 75) (cs' := 4) (ss' := 188) hA hB (by decide) d_Gu_init_30 k_1_72 (by decide) (by decide) (by decide) rfl (Nat.le_of_ble_eq_true rfl) (Nat.le_of_ble_eq_true rfl) rfl rfl ⟨rfl, rfl, rfl⟩ ?_
  have hA := hA.le (show 74 ≤ 75 from by decide)
  have hB := hB.le (show 74 ≤ 75 from by decide)
  refine n_putrF (j := 3) (v := 75) fl_Gu_24 rfl rfl (by decide) (by decide) rfl (by decide) rfl (fun _ => rfl) (fun _ => rfl) rfl d_Gu_init_32 ?_
  have hB := hB.cons (k := 70) (v := (3, 75)) (by decide)
  refine y_iconst (v := 0) d_Gu_init_35 (by decide) ?_
  refine y_istore_n (lv' := [(1, .int 0), (0, .ref 70)]) d_Gu_init_36 rfl (by decide) rfl ?_
  refine y_iload_n (q := 0) d_Gu_init_37 rfl rfl ?_
  refine y_iconst (v := 4) d_Gu_init_38 (by decide) ?_
  refine y_icmp_ge (tgt := 57) d_Gu_init_39 (fun c => absurd c (by decide)) (fun _ => ?_)
  refine y_aload_n (q := 1) d_Gu_init_42 rfl rfl ?_
  refine n_getr (j := 3) (i := 74) fl_Gu_24 (by decide) rfl (by decide) rfl rfl d_Gu_init_43 ?_
  refine y_iload_n (q := 0) d_Gu_init_46 rfl rfl ?_
  refine y_iconst (v := 1) d_Gu_init_47 (by decide) ?_
  refine y_iload_n (q := 0) d_Gu_init_48 rfl rfl ?_
  refine y_ishl d_Gu_init_49 ?_
  refine y_topi (v := 1) (by decide) ?_
  refine n_iast (z := 4) (j := 0) (by decide) rfl (vp_d rfl) (by decide) d_Gu_init_50 ?_
  have hA := hA.cons (k := 74) (v := (0, 1)) (by decide)
  refine y_iinc (q := 0) (v := 1) (lv' := [(1, .int 1), (0, .ref 70)]) d_Gu_init_51 rfl (by decide) (by decide) rfl ?_
  refine y_goto (tgt := 37) d_Gu_init_54 ?_
  refine y_iload_n (q := 0) d_Gu_init_37 rfl rfl ?_
  refine y_iconst (v := 4) d_Gu_init_38 (by decide) ?_
  refine y_icmp_ge (tgt := 57) d_Gu_init_39 (fun c => absurd c (by decide)) (fun _ => ?_)
  refine y_aload_n (q := 1) d_Gu_init_42 rfl rfl ?_
  refine n_getr (j := 3) (i := 74) fl_Gu_24 (by decide) rfl (by decide) rfl rfl d_Gu_init_43 ?_
  refine y_iload_n (q := 0) d_Gu_init_46 rfl rfl ?_
  refine y_iconst (v := 1) d_Gu_init_47 (by decide) ?_
  refine y_iload_n (q := 0) d_Gu_init_48 rfl rfl ?_
  refine y_ishl d_Gu_init_49 ?_
  refine y_topi (v := 2) (by decide) ?_
  refine n_iast (z := 4) (j := 1) (by decide) rfl (vp_d rfl) (by decide) d_Gu_init_50 ?_
  have hA := hA.cons (k := 74) (v := (1, 2)) (by decide)
  refine y_iinc (q := 0) (v := 2) (lv' := [(1, .int 2), (0, .ref 70)]) d_Gu_init_51 rfl (by decide) (by decide) rfl ?_
  refine y_goto (tgt := 37) d_Gu_init_54 ?_
  refine y_iload_n (q := 0) d_Gu_init_37 rfl rfl ?_
  refine y_iconst (v := 4) d_Gu_init_38 (by decide) ?_
  refine y_icmp_ge (tgt := 57) d_Gu_init_39 (fun c => absurd c (by decide)) (fun _ => ?_)
  refine y_aload_n (q := 1) d_Gu_init_42 rfl rfl ?_
  refine n_getr (j := 3) (i := 74) fl_Gu_24 (by decide) rfl (by decide) rfl rfl d_Gu_init_43 ?_
  refine y_iload_n (q := 0) d_Gu_init_46 rfl rfl ?_
  refine y_iconst (v := 1) d_Gu_init_47 (by decide) ?_
  refine y_iload_n (q := 0) d_Gu_init_48 rfl rfl ?_
  refine y_ishl d_Gu_init_49 ?_
  refine y_topi (v := 4) (by decide) ?_
  refine n_iast (z := 4) (j := 2) (by decide) rfl (vp_d rfl) (by decide) d_Gu_init_50 ?_
  have hA := hA.cons (k := 74) (v := (2, 4)) (by decide)
  refine y_iinc (q := 0) (v := 3) (lv' := [(1, .int 3), (0, .ref 70)]) d_Gu_init_51 rfl (by decide) (by decide) rfl ?_
  refine y_goto (tgt := 37) d_Gu_init_54 ?_
  refine y_iload_n (q := 0) d_Gu_init_37 rfl rfl ?_
  refine y_iconst (v := 4) d_Gu_init_38 (by decide) ?_
  refine y_icmp_ge (tgt := 57) d_Gu_init_39 (fun c => absurd c (by decide)) (fun _ => ?_)
  refine y_aload_n (q := 1) d_Gu_init_42 rfl rfl ?_
  refine n_getr (j := 3) (i := 74) fl_Gu_24 (by decide) rfl (by decide) rfl rfl d_Gu_init_43 ?_
  refine y_iload_n (q := 0) d_Gu_init_46 rfl rfl ?_
  refine y_iconst (v := 1) d_Gu_init_47 (by decide) ?_
  refine y_iload_n (q := 0) d_Gu_init_48 rfl rfl ?_
  refine y_ishl d_Gu_init_49 ?_
  refine y_topi (v := 8) (by decide) ?_
  refine n_iast (z := 4) (j := 3) (by decide) rfl (vp_d rfl) (by decide) d_Gu_init_50 ?_
  have hA := hA.cons (k := 74) (v := (3, 8)) (by decide)
  refine y_iinc (q := 0) (v := 4) (lv' := [(1, .int 4), (0, .ref 70)]) d_Gu_init_51 rfl (by decide) (by decide) rfl ?_
  refine y_goto (tgt := 37) d_Gu_init_54 ?_
  refine y_iload_n (q := 0) d_Gu_init_37 rfl rfl ?_
  refine y_iconst (v := 4) d_Gu_init_38 (by decide) ?_
  refine y_icmp_ge (tgt := 57) d_Gu_init_39 (fun _ => ?_) (fun c => absurd (by decide) c)
  refine y_aload_n (q := 1) d_Gu_init_57 rfl rfl ?_
  refine y_bipush (v := 20) d_Gu_init_58 (by decide) ?_
  refine y_bipush (v := 20) d_Gu_init_60 (by decide) ?_
  refine n_mna (N := 20) (M := 20) (n' := 96) (cs' := 25) (ss' := 608) hA hB (by decide) d_Gu_init_62 k_2_211 k_1_73 (by decide) (by decide) (by decide) (by decide) (by decide) rfl (by decide) (Nat.le_of_ble_eq_true rfl) (Nat.le_of_ble_eq_true rfl) rfl rfl ⟨rfl, rfl, rfl⟩ ?_
  have hB := xlt_mna (N := 20) hB (show 75 < 96 from by decide) (show 75 ≤ 96 from by decide)
  have hA := hA.le (show 75 ≤ 96 from by decide)
  refine n_putrF (j := 4) (v := 76) fl_Gu_29 rfl rfl (by decide) (by decide) rfl (by decide) rfl (fun _ => rfl) (fun _ => rfl) rfl d_Gu_init_66 ?_
  have hB := hB.cons (k := 70) (v := (4, 76)) (by decide)
  refine y_aload_n (q := 1) d_Gu_init_69 rfl rfl ?_
  refine y_bipush (v := 20) d_Gu_init_70 (by decide) ?_
  refine n_newi (z := 20) (n' := 97) (cs' := 26) (ss' := 628) hA hB (by decide) d_Gu_init_72 k_1_72 (by decide) (by decide) (by decide) rfl (Nat.le_of_ble_eq_true rfl) (Nat.le_of_ble_eq_true rfl) rfl rfl ⟨rfl, rfl, rfl⟩ ?_
  have hA := hA.le (show 96 ≤ 97 from by decide)
  have hB := hB.le (show 96 ≤ 97 from by decide)
  refine n_putrF (j := 5) (v := 97) fl_Gu_32 rfl rfl (by decide) (by decide) rfl (by decide) rfl (fun _ => rfl) (fun _ => rfl) rfl d_Gu_init_74 ?_
  have hB := hB.cons (k := 70) (v := (5, 97)) (by decide)
  refine y_aload_n (q := 1) d_Gu_init_77 rfl rfl ?_
  refine y_bipush (v := 20) d_Gu_init_78 (by decide) ?_
  refine n_newj (z := 20) (n' := 98) (cs' := 27) (ss' := 648) hA hB (by decide) d_Gu_init_80 k_1_73 (by decide) (by decide) (by decide) rfl (Nat.le_of_ble_eq_true rfl) (Nat.le_of_ble_eq_true rfl) rfl rfl ⟨rfl, rfl, rfl⟩ ?_
  have hA := hA.le (show 97 ≤ 98 from by decide)
  have hB := hB.le (show 97 ≤ 98 from by decide)
  refine n_putrF (j := 8) (v := 98) fl_Gu_35 rfl rfl (by decide) (by decide) rfl (by decide) rfl (fun _ => rfl) (fun _ => rfl) rfl d_Gu_init_82 ?_
  have hB := hB.cons (k := 70) (v := (8, 98)) (by decide)
  exact x_vret rfl d_Gu_init_85 (Nat.le_of_ble_eq_true rfl) (Nat.le_of_ble_eq_true rfl) h
theorem n_Ga_init {E : xV} {A : List (Nat × (Nat × Int32))} {B : List (Nat × (Nat × Nat))} (hA : xlt 99 A) (hB : xlt 99 B) {K : xK} (h : K none 110 (s0 ((109, (5, (-4))) :: ((109, (4, (-4))) :: A)) ((98, (13, 110)) :: ((98, (11, 109)) :: ((98, (10, 108)) :: ((98, (9, 107)) :: ((98, (8, 106)) :: ((98, (7, 105)) :: ((98, (6, 104)) :: ((98, (5, 103)) :: ((98, (4, 102)) :: ((98, (3, 101)) :: ((98, (1, 100)) :: B))))))))))))) : Cx E Y_Ga_init [.ref 98] 99 (s0 A B) K := by
  refine x_entry (by decide) (fun a => Nat.le_of_ble_eq_true rfl) rfl ?_
  refine y_aload_n (q := 0) d_Ga_init_0 rfl rfl ?_
  refine y_objInit d_Ga_init_1 k_3_9 k_1_28 k_1_29 (Nat.le_of_ble_eq_true rfl) (Nat.le_of_ble_eq_true rfl) (Nat.le_of_ble_eq_true rfl) ?_
  refine y_aload_n (q := 0) d_Ga_init_4 rfl rfl ?_
  refine y_bipush (v := 6) d_Ga_init_5 (by decide) ?_
  refine n_newi (z := 6) (n' := 100) (cs' := 1) (ss' := 6) hA hB (by decide) d_Ga_init_7 k_1_72 (by decide) (by decide) (by decide) rfl (Nat.le_of_ble_eq_true rfl) (Nat.le_of_ble_eq_true rfl) rfl rfl ⟨rfl, rfl, rfl⟩ ?_
  have hA := hA.le (show 99 ≤ 100 from by decide)
  have hB := hB.le (show 99 ≤ 100 from by decide)
  refine n_putrF (j := 1) (v := 100) fl_Ga_11 rfl rfl (by decide) (by decide) rfl (by decide) rfl (fun _ => rfl) (fun _ => rfl) rfl d_Ga_init_9 ?_
  have hB := hB.cons (k := 98) (v := (1, 100)) (by decide)
  refine y_aload_n (q := 0) d_Ga_init_12 rfl rfl ?_
  refine y_bipush (v := 12) d_Ga_init_13 (by decide) ?_
  refine n_newi (z := 12) (n' := 101) (cs' := 2) (ss' := 18) hA hB (by decide) d_Ga_init_15 k_1_72 (by decide) (by decide) (by decide) rfl (Nat.le_of_ble_eq_true rfl) (Nat.le_of_ble_eq_true rfl) rfl rfl ⟨rfl, rfl, rfl⟩ ?_
  have hA := hA.le (show 100 ≤ 101 from by decide)
  have hB := hB.le (show 100 ≤ 101 from by decide)
  refine n_putrF (j := 3) (v := 101) fl_Ga_15 rfl rfl (by decide) (by decide) rfl (by decide) rfl (fun _ => rfl) (fun _ => rfl) rfl d_Ga_init_17 ?_
  have hB := hB.cons (k := 98) (v := (3, 101)) (by decide)
  refine y_aload_n (q := 0) d_Ga_init_20 rfl rfl ?_
  refine y_bipush (v := 12) d_Ga_init_21 (by decide) ?_
  refine n_newi (z := 12) (n' := 102) (cs' := 3) (ss' := 30) hA hB (by decide) d_Ga_init_23 k_1_72 (by decide) (by decide) (by decide) rfl (Nat.le_of_ble_eq_true rfl) (Nat.le_of_ble_eq_true rfl) rfl rfl ⟨rfl, rfl, rfl⟩ ?_
  have hA := hA.le (show 101 ≤ 102 from by decide)
  have hB := hB.le (show 101 ≤ 102 from by decide)
  refine n_putrF (j := 4) (v := 102) fl_Ga_18 rfl rfl (by decide) (by decide) rfl (by decide) rfl (fun _ => rfl) (fun _ => rfl) rfl d_Ga_init_25 ?_
  have hB := hB.cons (k := 98) (v := (4, 102)) (by decide)
  refine y_aload_n (q := 0) d_Ga_init_28 rfl rfl ?_
  refine y_sipush (v := 144) d_Ga_init_29 (by decide) ?_
  refine n_newi (z := 144) (n' := 103) (cs' := 4) (ss' := 174) hA hB (by decide) d_Ga_init_32 k_1_72 (by decide) (by decide) (by decide) rfl (Nat.le_of_ble_eq_true rfl) (Nat.le_of_ble_eq_true rfl) rfl rfl ⟨rfl, rfl, rfl⟩ ?_
  have hA := hA.le (show 102 ≤ 103 from by decide)
  have hB := hB.le (show 102 ≤ 103 from by decide)
  refine n_putrF (j := 5) (v := 103) fl_Ga_21 rfl rfl (by decide) (by decide) rfl (by decide) rfl (fun _ => rfl) (fun _ => rfl) rfl d_Ga_init_34 ?_
  have hB := hB.cons (k := 98) (v := (5, 103)) (by decide)
  refine y_aload_n (q := 0) d_Ga_init_37 rfl rfl ?_
  refine y_sipush (v := 144) d_Ga_init_38 (by decide) ?_
  refine n_newi (z := 144) (n' := 104) (cs' := 5) (ss' := 318) hA hB (by decide) d_Ga_init_41 k_1_72 (by decide) (by decide) (by decide) rfl (Nat.le_of_ble_eq_true rfl) (Nat.le_of_ble_eq_true rfl) rfl rfl ⟨rfl, rfl, rfl⟩ ?_
  have hA := hA.le (show 103 ≤ 104 from by decide)
  have hB := hB.le (show 103 ≤ 104 from by decide)
  refine n_putrF (j := 6) (v := 104) fl_Ga_24 rfl rfl (by decide) (by decide) rfl (by decide) rfl (fun _ => rfl) (fun _ => rfl) rfl d_Ga_init_43 ?_
  have hB := hB.cons (k := 98) (v := (6, 104)) (by decide)
  refine y_aload_n (q := 0) d_Ga_init_46 rfl rfl ?_
  refine y_sipush (v := 144) d_Ga_init_47 (by decide) ?_
  refine n_newi (z := 144) (n' := 105) (cs' := 6) (ss' := 462) hA hB (by decide) d_Ga_init_50 k_1_72 (by decide) (by decide) (by decide) rfl (Nat.le_of_ble_eq_true rfl) (Nat.le_of_ble_eq_true rfl) rfl rfl ⟨rfl, rfl, rfl⟩ ?_
  have hA := hA.le (show 104 ≤ 105 from by decide)
  have hB := hB.le (show 104 ≤ 105 from by decide)
  refine n_putrF (j := 7) (v := 105) fl_Ga_27 rfl rfl (by decide) (by decide) rfl (by decide) rfl (fun _ => rfl) (fun _ => rfl) rfl d_Ga_init_52 ?_
  have hB := hB.cons (k := 98) (v := (7, 105)) (by decide)
  refine y_aload_n (q := 0) d_Ga_init_55 rfl rfl ?_
  refine y_bipush (v := 20) d_Ga_init_56 (by decide) ?_
  refine n_newi (z := 20) (n' := 106) (cs' := 7) (ss' := 482) hA hB (by decide) d_Ga_init_58 k_1_72 (by decide) (by decide) (by decide) rfl (Nat.le_of_ble_eq_true rfl) (Nat.le_of_ble_eq_true rfl) rfl rfl ⟨rfl, rfl, rfl⟩ ?_
  have hA := hA.le (show 105 ≤ 106 from by decide)
  have hB := hB.le (show 105 ≤ 106 from by decide)
  refine n_putrF (j := 8) (v := 106) fl_Ga_30 rfl rfl (by decide) (by decide) rfl (by decide) rfl (fun _ => rfl) (fun _ => rfl) rfl d_Ga_init_60 ?_
  have hB := hB.cons (k := 98) (v := (8, 106)) (by decide)
  refine y_aload_n (q := 0) d_Ga_init_63 rfl rfl ?_
  refine y_bipush (v := 20) d_Ga_init_64 (by decide) ?_
  refine n_newi (z := 20) (n' := 107) (cs' := 8) (ss' := 502) hA hB (by decide) d_Ga_init_66 k_1_72 (by decide) (by decide) (by decide) rfl (Nat.le_of_ble_eq_true rfl) (Nat.le_of_ble_eq_true rfl) rfl rfl ⟨rfl, rfl, rfl⟩ ?_
  have hA := hA.le (show 106 ≤ 107 from by decide)
  have hB := hB.le (show 106 ≤ 107 from by decide)
  refine n_putrF (j := 9) (v := 107) fl_Ga_33 rfl rfl (by decide) (by decide) rfl (by decide) rfl (fun _ => rfl) (fun _ => rfl) rfl d_Ga_init_68 ?_
  have hB := hB.cons (k := 98) (v := (9, 107)) (by decide)
  refine y_aload_n (q := 0) d_Ga_init_71 rfl rfl ?_
  refine y_bipush (v := 20) d_Ga_init_72 (by decide) ?_
  refine n_newi (z := 20) (n' := 108) (cs' := 9) (ss' := 522) hA hB (by decide) d_Ga_init_74 k_1_72 (by decide) (by decide) (by decide) rfl (Nat.le_of_ble_eq_true rfl) (Nat.le_of_ble_eq_true rfl) rfl rfl ⟨rfl, rfl, rfl⟩ ?_
  have hA := hA.le (show 107 ≤ 108 from by decide)
  have hB := hB.le (show 107 ≤ 108 from by decide)
  refine n_putrF (j := 10) (v := 108) fl_Ga_36 rfl rfl (by decide) (by decide) rfl (by decide) rfl (fun _ => rfl) (fun _ => rfl) rfl d_Ga_init_76 ?_
  have hB := hB.cons (k := 98) (v := (10, 108)) (by decide)
  refine y_aload_n (q := 0) d_Ga_init_79 rfl rfl ?_
  refine y_bipush (v := 20) d_Ga_init_80 (by decide) ?_
  refine n_newi (z := 20) (n' := 109) (cs' := 10) (ss' := 542) hA hB (by decide) d_Ga_init_82 k_1_72 (by decide) (by decide) (by decide) rfl (Nat.le_of_ble_eq_true rfl) (Nat.le_of_ble_eq_true rfl) rfl rfl ⟨rfl, rfl, rfl⟩ ?_
  have hA := hA.le (show 108 ≤ 109 from by decide)
  have hB := hB.le (show 108 ≤ 109 from by decide)
  refine n_putrF (j := 11) (v := 109) fl_Ga_39 rfl rfl (by decide) (by decide) rfl (by decide) rfl (fun _ => rfl) (fun _ => rfl) rfl d_Ga_init_84 ?_
  have hB := hB.cons (k := 98) (v := (11, 109)) (by decide)
  refine y_aload_n (q := 0) d_Ga_init_87 rfl rfl ?_
  refine y_bipush (v := 8) d_Ga_init_88 (by decide) ?_
  refine n_newi (z := 8) (n' := 110) (cs' := 11) (ss' := 550) hA hB (by decide) d_Ga_init_90 k_1_72 (by decide) (by decide) (by decide) rfl (Nat.le_of_ble_eq_true rfl) (Nat.le_of_ble_eq_true rfl) rfl rfl ⟨rfl, rfl, rfl⟩ ?_
  have hA := hA.le (show 109 ≤ 110 from by decide)
  have hB := hB.le (show 109 ≤ 110 from by decide)
  refine n_putrF (j := 13) (v := 110) fl_Ga_42 rfl rfl (by decide) (by decide) rfl (by decide) rfl (fun _ => rfl) (fun _ => rfl) rfl d_Ga_init_92 ?_
  have hB := hB.cons (k := 98) (v := (13, 110)) (by decide)
  refine y_aload_n (q := 0) d_Ga_init_95 rfl rfl ?_
  refine n_getr (j := 13) (i := 109) fl_Ga_42 (by decide) rfl (by decide) rfl rfl d_Ga_init_96 ?_
  refine y_iconst (v := 4) d_Ga_init_99 (by decide) ?_
  refine y_bipush (v := (-4)) d_Ga_init_100 (by decide) ?_
  refine n_iast (z := 8) (j := 4) (by decide) rfl (vp_d rfl) (by decide) d_Ga_init_102 ?_
  have hA := hA.cons (k := 109) (v := (4, (-4))) (by decide)
  refine y_aload_n (q := 0) d_Ga_init_103 rfl rfl ?_
  refine n_getr (j := 13) (i := 109) fl_Ga_42 (by decide) rfl (by decide) rfl rfl d_Ga_init_104 ?_
  refine y_iconst (v := 5) d_Ga_init_107 (by decide) ?_
  refine y_bipush (v := (-4)) d_Ga_init_108 (by decide) ?_
  refine n_iast (z := 8) (j := 5) (by decide) rfl (vp_d rfl) (by decide) d_Ga_init_110 ?_
  have hA := hA.cons (k := 109) (v := (5, (-4))) (by decide)
  exact x_vret rfl d_Ga_init_111 (Nat.le_of_ble_eq_true rfl) (Nat.le_of_ble_eq_true rfl) h
theorem n_H_init {E : xV} {B : List (Nat × (Nat × Nat))}  (hB : xlt 1 B) {K : xK} (h : K none 110 (s0 ((109, (5, (-4))) :: ((109, (4, (-4))) :: ((74, (3, 8)) :: ((74, (2, 4)) :: ((74, (1, 2)) :: ((74, (0, 1)) :: ((60, (13, 255)) :: ((60, (12, 255)) :: ((60, (11, 255)) :: ((60, (10, 255)) :: ((60, (9, 255)) :: ((60, (8, 255)) :: ((60, (7, 255)) :: ((60, (6, 255)) :: ((60, (5, 255)) :: ((60, (4, 255)) :: ((60, (3, 255)) :: ((60, (2, 255)) :: ((60, (1, 255)) :: ((60, (0, 255)) :: ((49, (31, (-4))) :: ((44, (31, (-4))) :: ((49, (30, (-4))) :: ((44, (30, (-4))) :: ((49, (29, (-4))) :: ((44, (29, (-4))) :: ((49, (28, (-4))) :: ((44, (28, (-4))) :: ((49, (27, (-4))) :: ((44, (27, (-4))) :: ((49, (26, (-4))) :: ((44, (26, (-4))) :: ((49, (25, (-4))) :: ((44, (25, (-4))) :: ((49, (24, (-4))) :: ((44, (24, (-4))) :: ((49, (23, (-4))) :: ((44, (23, (-4))) :: ((49, (22, (-4))) :: ((44, (22, (-4))) :: ((49, (21, (-4))) :: ((44, (21, (-4))) :: ((49, (20, (-4))) :: ((44, (20, (-4))) :: ((49, (19, (-4))) :: ((44, (19, (-4))) :: ((49, (18, (-4))) :: ((44, (18, (-4))) :: ((49, (17, (-4))) :: ((44, (17, (-4))) :: ((49, (16, (-4))) :: ((44, (16, (-4))) :: ((49, (15, (-4))) :: ((44, (15, (-4))) :: ((49, (14, (-4))) :: ((44, (14, (-4))) :: ((49, (13, (-4))) :: ((44, (13, (-4))) :: ((49, (12, (-4))) :: ((44, (12, (-4))) :: ((49, (11, (-4))) :: ((44, (11, (-4))) :: ((49, (10, (-4))) :: ((44, (10, (-4))) :: ((49, (9, (-4))) :: ((44, (9, (-4))) :: ((49, (8, (-4))) :: ((44, (8, (-4))) :: ((49, (7, (-4))) :: ((44, (7, (-4))) :: ((49, (6, (-4))) :: ((44, (6, (-4))) :: ((49, (5, (-4))) :: ((44, (5, (-4))) :: ((49, (4, (-4))) :: ((44, (4, (-4))) :: ((49, (3, (-4))) :: ((44, (3, (-4))) :: ((49, (2, (-4))) :: ((44, (2, (-4))) :: ((49, (1, (-4))) :: ((44, (1, (-4))) :: ((49, (0, (-4))) :: ((44, (0, (-4))) :: ((34, (5, (-4))) :: ((16, (5, 63)) :: ((16, (5, 63)) :: ((16, (4, 16)) :: ((16, (5, 63)) :: ((16, (3, 8)) :: ((16, (5, 63)) :: ((16, (2, 4)) :: ((16, (5, 63)) :: ((16, (1, 3)) :: ((16, (5, 63)) :: ((16, (1, 3)) :: ((16, (0, 1)) :: ((16, (5, 63)) :: ((16, (4, 16)) :: ((16, (3, 8)) :: ((16, (2, 4)) :: ((16, (1, 3)) :: ((16, (0, 1)) :: ((15, (1, 1)) :: ((15, (5, 63)) :: ((10, (0, 1)) :: ((12, (0, (-4))) :: ((11, (0, (-4))) :: [])))))))))))))))))))))))))))))))))))))))))))))))))))))))))))))))))))))))))))))))))))))))))))))))))))))))))))) ((0, (17, 99)) :: ((98, (13, 110)) :: ((98, (11, 109)) :: ((98, (10, 108)) :: ((98, (9, 107)) :: ((98, (8, 106)) :: ((98, (7, 105)) :: ((98, (6, 104)) :: ((98, (5, 103)) :: ((98, (4, 102)) :: ((98, (3, 101)) :: ((98, (1, 100)) :: ((0, (16, 71)) :: ((70, (8, 98)) :: ((70, (5, 97)) :: ((70, (4, 76)) :: (mnaL 75 20 ++ ((70, (3, 75)) :: ((70, (2, 74)) :: ((70, (1, 73)) :: ((70, (0, 72)) :: ((0, (15, 60)) :: ((59, (10, 70)) :: ((59, (9, 69)) :: ((59, (8, 68)) :: ((59, (7, 67)) :: ((59, (6, 66)) :: ((59, (5, 65)) :: ((59, (4, 64)) :: ((59, (3, 63)) :: ((59, (2, 62)) :: ((59, (0, 61)) :: ((0, (14, 53)) :: ((52, (8, 59)) :: ((52, (7, 58)) :: ((52, (6, 57)) :: ((52, (4, 56)) :: ((52, (3, 55)) :: ((52, (2, 54)) :: ((52, (0, 11)) :: ((0, (13, 42)) :: ((41, (11, 52)) :: ((41, (10, 51)) :: ((41, (9, 50)) :: ((41, (8, 49)) :: ((41, (7, 48)) :: ((41, (6, 47)) :: ((41, (5, 46)) :: ((41, (4, 45)) :: ((41, (3, 44)) :: ((41, (2, 43)) :: ((41, (0, 6)) :: ((0, (12, 35)) :: ((34, (9, 41)) :: ((34, (8, 40)) :: ((34, (7, 39)) :: ((34, (4, 38)) :: ((34, (3, 37)) :: ((34, (2, 36)) :: ((34, (0, 6)) :: ((0, (11, 28)) :: ((27, (17, 34)) :: ((27, (15, 33)) :: ((27, (14, 32)) :: ((27, (11, 31)) :: ((27, (9, 30)) :: ((27, (8, 29)) :: ((27, (2, 18)) :: ((27, (1, 11)) :: ((27, (0, 6)) :: ((0, (10, 18)) :: ((17, (12, 27)) :: ((17, (11, 26)) :: ((17, (10, 25)) :: ((17, (8, 24)) :: ((17, (5, 23)) :: ((17, (4, 22)) :: ((17, (3, 21)) :: ((17, (2, 20)) :: ((17, (1, 19)) :: ((17, (7, 11)) :: ((17, (6, 6)) :: ((0, (9, 11)) :: ((10, (6, 17)) :: ((10, (5, 16)) :: ((10, (4, 15)) :: ((10, (3, 14)) :: ((10, (2, 13)) :: ((10, (1, 12)) :: ((0, (8, 6)) :: ((5, (6, 10)) :: ((5, (5, 9)) :: ((5, (4, 8)) :: ((5, (3, 7)) :: ((0, (6, 5)) :: ((0, (4, 4)) :: ((0, (3, 3)) :: ((0, (0, 2)) :: B)))))))))))))))))))))))))))))))))))))))))))))))))))))))))))))))))))))))))))))))))))))))))))))))))))) : Cx E Y_H_init [.ref 0] 1 (s0 [] B) K := by
  have hA : xlt 1 ([] : List (Nat × (Nat × Int32))) := xlt.nil
  refine x_entry (by decide) (fun a => Nat.le_of_ble_eq_true rfl) rfl ?_
  refine y_aload_n (q := 0) d_H_init_0 rfl rfl ?_
  refine y_objInit d_H_init_1 k_1_27 k_1_28 k_1_29 (Nat.le_of_ble_eq_true rfl) (Nat.le_of_ble_eq_true rfl) (Nat.le_of_ble_eq_true rfl) ?_
  refine y_aload_n (q := 0) d_H_init_4 rfl rfl ?_
  refine y_sipush (v := 1200) d_H_init_5 (by decide) ?_
  refine n_newi (z := 1200) (n' := 2) (cs' := 1) (ss' := 1200) hA hB (by decide) d_H_init_8 k_1_72 (by decide) (by decide) (by decide) rfl (Nat.le_of_ble_eq_true rfl) (Nat.le_of_ble_eq_true rfl) rfl rfl ⟨rfl, rfl, rfl⟩ ?_
  have hA := hA.le (show 1 ≤ 2 from by decide)
  have hB := hB.le (show 1 ≤ 2 from by decide)
  refine n_putrF (j := 0) (v := 2) fl_H_9 rfl rfl (by decide) (by decide) rfl (by decide) rfl (fun _ => rfl) (fun _ => rfl) rfl d_H_init_10 ?_
  have hB := hB.cons (k := 0) (v := (0, 2)) (by decide)
  refine y_aload_n (q := 0) d_H_init_13 rfl rfl ?_
  refine y_bipush (v := 40) d_H_init_14 (by decide) ?_
  refine n_newi (z := 40) (n' := 3) (cs' := 2) (ss' := 1240) hA hB (by decide) d_H_init_16 k_1_72 (by decide) (by decide) (by decide) rfl (Nat.le_of_ble_eq_true rfl) (Nat.le_of_ble_eq_true rfl) rfl rfl ⟨rfl, rfl, rfl⟩ ?_
  have hA := hA.le (show 2 ≤ 3 from by decide)
  have hB := hB.le (show 2 ≤ 3 from by decide)
  refine n_putrF (j := 3) (v := 3) fl_H_13 rfl rfl (by decide) (by decide) rfl (by decide) rfl (fun _ => rfl) (fun _ => rfl) rfl d_H_init_18 ?_
  have hB := hB.cons (k := 0) (v := (3, 3)) (by decide)
  refine y_aload_n (q := 0) d_H_init_21 rfl rfl ?_
  refine y_bipush (v := 40) d_H_init_22 (by decide) ?_
  refine n_newi (z := 40) (n' := 4) (cs' := 3) (ss' := 1280) hA hB (by decide) d_H_init_24 k_1_72 (by decide) (by decide) (by decide) rfl (Nat.le_of_ble_eq_true rfl) (Nat.le_of_ble_eq_true rfl) rfl rfl ⟨rfl, rfl, rfl⟩ ?_
  have hA := hA.le (show 3 ≤ 4 from by decide)
  have hB := hB.le (show 3 ≤ 4 from by decide)
  refine n_putrF (j := 4) (v := 4) fl_H_16 rfl rfl (by decide) (by decide) rfl (by decide) rfl (fun _ => rfl) (fun _ => rfl) rfl d_H_init_26 ?_
  have hB := hB.cons (k := 0) (v := (4, 4)) (by decide)
  refine y_aload_n (q := 0) d_H_init_29 rfl rfl ?_
  refine y_sipush (v := 2100) d_H_init_30 (by decide) ?_
  refine n_newi (z := 2100) (n' := 5) (cs' := 4) (ss' := 3380) hA hB (by decide) d_H_init_33 k_1_72 (by decide) (by decide) (by decide) rfl (Nat.le_of_ble_eq_true rfl) (Nat.le_of_ble_eq_true rfl) rfl rfl ⟨rfl, rfl, rfl⟩ ?_
  have hA := hA.le (show 4 ≤ 5 from by decide)
  have hB := hB.le (show 4 ≤ 5 from by decide)
  refine n_putrF (j := 6) (v := 5) fl_H_19 rfl rfl (by decide) (by decide) rfl (by decide) rfl (fun _ => rfl) (fun _ => rfl) rfl d_H_init_35 ?_
  have hB := hB.cons (k := 0) (v := (6, 5)) (by decide)
  refine y_aload_n (q := 0) d_H_init_38 rfl rfl ?_
  refine n_new (n' := 6) (cs' := 5) (ss' := 3387) ty_8 hA hB d_H_init_39 rfl cu_8 ct_8 k_1_30 k_1_31 k_1_2 (by decide) rfl (by decide) cd_8 (Nat.le_of_ble_eq_true rfl) (Nat.le_of_ble_eq_true rfl) rfl rfl ⟨rfl, rfl, rfl⟩ ?_
  have hA := hA.le (show 5 ≤ 6 from by decide)
  have hB := hB.le (show 5 ≤ 6 from by decide)
  refine y_dupr d_H_init_42 ?_
  refine y_invI (Z := Y_Wh_init) (kb := 5) (As := []) (rest := [.ref 5, .ref 0]) (show xM "RightsHouse" 24 Y_Wh_init 0 from ⟨k_1_32, k_1_2, k_1_34, by decide, by decide, by decide +kernel⟩) k_1_33 rfl rfl d_H_init_43 rfl rfl ⟨⟨Nat.le_of_ble_eq_true rfl, Nat.le_of_ble_eq_true rfl⟩, Nat.le_of_ble_eq_true rfl, Nat.le_of_ble_eq_true rfl⟩ (Nat.le_of_ble_eq_true rfl) rfl rfl (n_Wh_init hA hB ?_)
  show Wx E Y_H_init 46 [(0, .ref 0)] [.ref 5, .ref 0] 10 9 15153 (s0 [] ((5, (6, 10)) :: ((5, (5, 9)) :: ((5, (4, 8)) :: ((5, (3, 7)) :: ((0, (6, 5)) :: ((0, (4, 4)) :: ((0, (3, 3)) :: ((0, (0, 2)) :: B))))))))) _
  have hA := hA.le (show 6 ≤ 10 from by decide)
  have hB := ((((hB.le (show 6 ≤ 10 from by decide)).cons (k := 5) (v := (3, 7)) (by decide)).cons (k := 5) (v := (4, 8)) (by decide)).cons (k := 5) (v := (5, 9)) (by decide)).cons (k := 5) (v := (6, 10)) (by decide)
  refine n_putrF (j := 8) (v := 6) fl_H_25 rfl rfl (by decide) (by decide) rfl (by decide) rfl (fun _ => rfl) (fun _ => rfl) rfl d_H_init_46 ?_
  have hB := hB.cons (k := 0) (v := (8, 6)) (by decide)
  refine y_aload_n (q := 0) d_H_init_49 rfl rfl ?_
  refine n_new (n' := 11) (cs' := 10) (ss' := 15160) ty_7 hA hB d_H_init_50 rfl cu_7 ct_7 k_1_74 k_1_75 k_1_3 (by decide) rfl (by decide) cd_7 (Nat.le_of_ble_eq_true rfl) (Nat.le_of_ble_eq_true rfl) rfl rfl ⟨rfl, rfl, rfl⟩ ?_
  have hA := hA.le (show 10 ≤ 11 from by decide)
  have hB := hB.le (show 10 ≤ 11 from by decide)
  refine y_dupr d_H_init_53 ?_
  refine y_invI (Z := Y_Th_init) (kb := 10) (As := []) (rest := [.ref 10, .ref 0]) (show xM "RightsHouse" 31 Y_Th_init 0 from ⟨k_1_76, k_1_3, k_1_78, by decide, by decide, by decide +kernel⟩) k_1_77 rfl rfl d_H_init_54 rfl rfl ⟨⟨Nat.le_of_ble_eq_true rfl, Nat.le_of_ble_eq_true rfl⟩, Nat.le_of_ble_eq_true rfl, Nat.le_of_ble_eq_true rfl⟩ (Nat.le_of_ble_eq_true rfl) rfl rfl (n_Th_init  hB ?_)
  show Wx E Y_H_init 57 [(0, .ref 0)] [.ref 10, .ref 0] 17 16 15332 (s0 ((16, (5, 63)) :: ((16, (5, 63)) :: ((16, (4, 16)) :: ((16, (5, 63)) :: ((16, (3, 8)) :: ((16, (5, 63)) :: ((16, (2, 4)) :: ((16, (5, 63)) :: ((16, (1, 3)) :: ((16, (5, 63)) :: ((16, (1, 3)) :: ((16, (0, 1)) :: ((16, (5, 63)) :: ((16, (4, 16)) :: ((16, (3, 8)) :: ((16, (2, 4)) :: ((16, (1, 3)) :: ((16, (0, 1)) :: ((15, (1, 1)) :: ((15, (5, 63)) :: ((10, (0, 1)) :: ((12, (0, (-4))) :: ((11, (0, (-4))) :: []))))))))))))))))))))))) ((10, (6, 17)) :: ((10, (5, 16)) :: ((10, (4, 15)) :: ((10, (3, 14)) :: ((10, (2, 13)) :: ((10, (1, 12)) :: ((0, (8, 6)) :: ((5, (6, 10)) :: ((5, (5, 9)) :: ((5, (4, 8)) :: ((5, (3, 7)) :: ((0, (6, 5)) :: ((0, (4, 4)) :: ((0, (3, 3)) :: ((0, (0, 2)) :: B)))))))))))))))) _
  have hA := ((((((((((((((((((((((((xlt.nil : xlt 17 ([] : List (Nat × (Nat × Int32))))).cons (k := 11) (v := (0, (-4))) (by decide)).cons (k := 12) (v := (0, (-4))) (by decide)).cons (k := 10) (v := (0, 1)) (by decide)).cons (k := 15) (v := (5, 63)) (by decide)).cons (k := 15) (v := (1, 1)) (by decide)).cons (k := 16) (v := (0, 1)) (by decide)).cons (k := 16) (v := (1, 3)) (by decide)).cons (k := 16) (v := (2, 4)) (by decide)).cons (k := 16) (v := (3, 8)) (by decide)).cons (k := 16) (v := (4, 16)) (by decide)).cons (k := 16) (v := (5, 63)) (by decide)).cons (k := 16) (v := (0, 1)) (by decide)).cons (k := 16) (v := (1, 3)) (by decide)).cons (k := 16) (v := (5, 63)) (by decide)).cons (k := 16) (v := (1, 3)) (by decide)).cons (k := 16) (v := (5, 63)) (by decide)).cons (k := 16) (v := (2, 4)) (by decide)).cons (k := 16) (v := (5, 63)) (by decide)).cons (k := 16) (v := (3, 8)) (by decide)).cons (k := 16) (v := (5, 63)) (by decide)).cons (k := 16) (v := (4, 16)) (by decide)).cons (k := 16) (v := (5, 63)) (by decide)).cons (k := 16) (v := (5, 63)) (by decide)
  have hB := ((((((hB.le (show 11 ≤ 17 from by decide)).cons (k := 10) (v := (1, 12)) (by decide)).cons (k := 10) (v := (2, 13)) (by decide)).cons (k := 10) (v := (3, 14)) (by decide)).cons (k := 10) (v := (4, 15)) (by decide)).cons (k := 10) (v := (5, 16)) (by decide)).cons (k := 10) (v := (6, 17)) (by decide)
  refine n_putrF (j := 9) (v := 11) fl_H_32 rfl rfl (by decide) (by decide) rfl (by decide) rfl (fun _ => rfl) (fun _ => rfl) rfl d_H_init_57 ?_
  have hB := hB.cons (k := 0) (v := (9, 11)) (by decide)
  refine y_aload_n (q := 0) d_H_init_60 rfl rfl ?_
  refine n_new (n' := 18) (cs' := 17) (ss' := 15349) ty_5 hA hB d_H_init_61 rfl cu_5 ct_5 k_1_115 k_1_116 k_1_4 (by decide) rfl (by decide) cd_5 (Nat.le_of_ble_eq_true rfl) (Nat.le_of_ble_eq_true rfl) rfl rfl ⟨rfl, rfl, rfl⟩ ?_
  have hA := hA.le (show 17 ≤ 18 from by decide)
  have hB := hB.le (show 17 ≤ 18 from by decide)
  refine y_dupr d_H_init_64 ?_
  refine y_aload_n (q := 0) d_H_init_65 rfl rfl ?_
  refine n_getr (j := 8) (i := 5) fl_H_25 (by decide) rfl (by decide) rfl rfl d_H_init_66 ?_
  refine y_aload_n (q := 0) d_H_init_69 rfl rfl ?_
  refine n_getr (j := 9) (i := 10) fl_H_32 (by decide) rfl (by decide) rfl rfl d_H_init_70 ?_
  refine y_invI (Z := Y_Po_init) (kb := 17) (As := [.ref 5, .ref 10]) (rest := [.ref 17, .ref 0]) (show xM "RightsHouse" 38 Y_Po_init 2 from ⟨k_1_117, k_1_4, k_1_119, by decide, by decide, by decide +kernel⟩) k_1_118 rfl rfl d_H_init_73 rfl rfl ⟨⟨Nat.le_of_ble_eq_true rfl, Nat.le_of_ble_eq_true rfl⟩, Nat.le_of_ble_eq_true rfl, Nat.le_of_ble_eq_true rfl⟩ (Nat.le_of_ble_eq_true rfl) rfl rfl (n_Po_init hA hB ?_)
  show Wx E Y_H_init 76 [(0, .ref 0)] [.ref 17, .ref 0] 27 26 41528 (s0 ((16, (5, 63)) :: ((16, (5, 63)) :: ((16, (4, 16)) :: ((16, (5, 63)) :: ((16, (3, 8)) :: ((16, (5, 63)) :: ((16, (2, 4)) :: ((16, (5, 63)) :: ((16, (1, 3)) :: ((16, (5, 63)) :: ((16, (1, 3)) :: ((16, (0, 1)) :: ((16, (5, 63)) :: ((16, (4, 16)) :: ((16, (3, 8)) :: ((16, (2, 4)) :: ((16, (1, 3)) :: ((16, (0, 1)) :: ((15, (1, 1)) :: ((15, (5, 63)) :: ((10, (0, 1)) :: ((12, (0, (-4))) :: ((11, (0, (-4))) :: []))))))))))))))))))))))) ((17, (12, 27)) :: ((17, (11, 26)) :: ((17, (10, 25)) :: ((17, (8, 24)) :: ((17, (5, 23)) :: ((17, (4, 22)) :: ((17, (3, 21)) :: ((17, (2, 20)) :: ((17, (1, 19)) :: ((17, (7, 11)) :: ((17, (6, 6)) :: ((0, (9, 11)) :: ((10, (6, 17)) :: ((10, (5, 16)) :: ((10, (4, 15)) :: ((10, (3, 14)) :: ((10, (2, 13)) :: ((10, (1, 12)) :: ((0, (8, 6)) :: ((5, (6, 10)) :: ((5, (5, 9)) :: ((5, (4, 8)) :: ((5, (3, 7)) :: ((0, (6, 5)) :: ((0, (4, 4)) :: ((0, (3, 3)) :: ((0, (0, 2)) :: B)))))))))))))))))))))))))))) _
  have hA := hA.le (show 18 ≤ 27 from by decide)
  have hB := (((((((((((hB.le (show 18 ≤ 27 from by decide)).cons (k := 17) (v := (6, 6)) (by decide)).cons (k := 17) (v := (7, 11)) (by decide)).cons (k := 17) (v := (1, 19)) (by decide)).cons (k := 17) (v := (2, 20)) (by decide)).cons (k := 17) (v := (3, 21)) (by decide)).cons (k := 17) (v := (4, 22)) (by decide)).cons (k := 17) (v := (5, 23)) (by decide)).cons (k := 17) (v := (8, 24)) (by decide)).cons (k := 17) (v := (10, 25)) (by decide)).cons (k := 17) (v := (11, 26)) (by decide)).cons (k := 17) (v := (12, 27)) (by decide)
  refine n_putrF (j := 10) (v := 18) fl_H_41 rfl rfl (by decide) (by decide) rfl (by decide) rfl (fun _ => rfl) (fun _ => rfl) rfl d_H_init_76 ?_
  have hB := hB.cons (k := 0) (v := (10, 18)) (by decide)
  refine y_aload_n (q := 0) d_H_init_79 rfl rfl ?_
  refine n_new (n' := 28) (cs' := 27) (ss' := 41548) ty_3 hA hB d_H_init_80 rfl cu_3 ct_3 k_1_180 k_1_181 k_1_5 (by decide) rfl (by decide) cd_3 (Nat.le_of_ble_eq_true rfl) (Nat.le_of_ble_eq_true rfl) rfl rfl ⟨rfl, rfl, rfl⟩ ?_
  have hA := hA.le (show 27 ≤ 28 from by decide)
  have hB := hB.le (show 27 ≤ 28 from by decide)
  refine y_dupr d_H_init_83 ?_
  refine y_aload_n (q := 0) d_H_init_84 rfl rfl ?_
  refine n_getr (j := 8) (i := 5) fl_H_25 (by decide) rfl (by decide) rfl rfl d_H_init_85 ?_
  refine y_aload_n (q := 0) d_H_init_88 rfl rfl ?_
  refine n_getr (j := 9) (i := 10) fl_H_32 (by decide) rfl (by decide) rfl rfl d_H_init_89 ?_
  refine y_aload_n (q := 0) d_H_init_92 rfl rfl ?_
  refine n_getr (j := 10) (i := 17) fl_H_41 (by decide) rfl (by decide) rfl rfl d_H_init_93 ?_
  refine y_invI (Z := Y_Ju_init) (kb := 27) (As := [.ref 5, .ref 10, .ref 17]) (rest := [.ref 27, .ref 0]) (show xM "RightsHouse" 47 Y_Ju_init 3 from ⟨k_1_182, k_1_5, k_1_184, by decide, by decide, by decide +kernel⟩) k_1_183 rfl rfl d_H_init_96 rfl rfl ⟨⟨Nat.le_of_ble_eq_true rfl, Nat.le_of_ble_eq_true rfl⟩, Nat.le_of_ble_eq_true rfl, Nat.le_of_ble_eq_true rfl⟩ (Nat.le_of_ble_eq_true rfl) rfl rfl (n_Ju_init hA hB ?_)
  show Wx E Y_H_init 99 [(0, .ref 0)] [.ref 27, .ref 0] 34 33 41754 (s0 ((16, (5, 63)) :: ((16, (5, 63)) :: ((16, (4, 16)) :: ((16, (5, 63)) :: ((16, (3, 8)) :: ((16, (5, 63)) :: ((16, (2, 4)) :: ((16, (5, 63)) :: ((16, (1, 3)) :: ((16, (5, 63)) :: ((16, (1, 3)) :: ((16, (0, 1)) :: ((16, (5, 63)) :: ((16, (4, 16)) :: ((16, (3, 8)) :: ((16, (2, 4)) :: ((16, (1, 3)) :: ((16, (0, 1)) :: ((15, (1, 1)) :: ((15, (5, 63)) :: ((10, (0, 1)) :: ((12, (0, (-4))) :: ((11, (0, (-4))) :: []))))))))))))))))))))))) ((27, (17, 34)) :: ((27, (15, 33)) :: ((27, (14, 32)) :: ((27, (11, 31)) :: ((27, (9, 30)) :: ((27, (8, 29)) :: ((27, (2, 18)) :: ((27, (1, 11)) :: ((27, (0, 6)) :: ((0, (10, 18)) :: ((17, (12, 27)) :: ((17, (11, 26)) :: ((17, (10, 25)) :: ((17, (8, 24)) :: ((17, (5, 23)) :: ((17, (4, 22)) :: ((17, (3, 21)) :: ((17, (2, 20)) :: ((17, (1, 19)) :: ((17, (7, 11)) :: ((17, (6, 6)) :: ((0, (9, 11)) :: ((10, (6, 17)) :: ((10, (5, 16)) :: ((10, (4, 15)) :: ((10, (3, 14)) :: ((10, (2, 13)) :: ((10, (1, 12)) :: ((0, (8, 6)) :: ((5, (6, 10)) :: ((5, (5, 9)) :: ((5, (4, 8)) :: ((5, (3, 7)) :: ((0, (6, 5)) :: ((0, (4, 4)) :: ((0, (3, 3)) :: ((0, (0, 2)) :: B)))))))))))))))))))))))))))))))))))))) _
  have hA := hA.le (show 28 ≤ 34 from by decide)
  have hB := (((((((((hB.le (show 28 ≤ 34 from by decide)).cons (k := 27) (v := (0, 6)) (by decide)).cons (k := 27) (v := (1, 11)) (by decide)).cons (k := 27) (v := (2, 18)) (by decide)).cons (k := 27) (v := (8, 29)) (by decide)).cons (k := 27) (v := (9, 30)) (by decide)).cons (k := 27) (v := (11, 31)) (by decide)).cons (k := 27) (v := (14, 32)) (by decide)).cons (k := 27) (v := (15, 33)) (by decide)).cons (k := 27) (v := (17, 34)) (by decide)
  refine n_putrF (j := 11) (v := 28) fl_H_50 rfl rfl (by decide) (by decide) rfl (by decide) rfl (fun _ => rfl) (fun _ => rfl) rfl d_H_init_99 ?_
  have hB := hB.cons (k := 0) (v := (11, 28)) (by decide)
  refine y_aload_n (q := 0) d_H_init_102 rfl rfl ?_
  refine n_new (n' := 35) (cs' := 34) (ss' := 41764) ty_6 hA hB d_H_init_103 rfl cu_6 ct_6 k_2_12 k_2_13 k_1_6 (by decide) rfl (by decide) cd_6 (Nat.le_of_ble_eq_true rfl) (Nat.le_of_ble_eq_true rfl) rfl rfl ⟨rfl, rfl, rfl⟩ ?_
  have hA := hA.le (show 34 ≤ 35 from by decide)
  have hB := hB.le (show 34 ≤ 35 from by decide)
  refine y_dupr d_H_init_106 ?_
  refine y_aload_n (q := 0) d_H_init_107 rfl rfl ?_
  refine n_getr (j := 8) (i := 5) fl_H_25 (by decide) rfl (by decide) rfl rfl d_H_init_108 ?_
  refine y_invI (Z := Y_Ro_init) (kb := 34) (As := [.ref 5]) (rest := [.ref 34, .ref 0]) (show xM "RightsHouse" 56 Y_Ro_init 1 from ⟨k_2_14, k_1_6, k_2_16, by decide, by decide, by decide +kernel⟩) k_2_15 rfl rfl d_H_init_111 rfl rfl ⟨⟨Nat.le_of_ble_eq_true rfl, Nat.le_of_ble_eq_true rfl⟩, Nat.le_of_ble_eq_true rfl, Nat.le_of_ble_eq_true rfl⟩ (Nat.le_of_ble_eq_true rfl) rfl rfl (n_Ro_init hA hB ?_)
  show Wx E Y_H_init 114 [(0, .ref 0)] [.ref 34, .ref 0] 41 40 41860 (s0 ((34, (5, (-4))) :: ((16, (5, 63)) :: ((16, (5, 63)) :: ((16, (4, 16)) :: ((16, (5, 63)) :: ((16, (3, 8)) :: ((16, (5, 63)) :: ((16, (2, 4)) :: ((16, (5, 63)) :: ((16, (1, 3)) :: ((16, (5, 63)) :: ((16, (1, 3)) :: ((16, (0, 1)) :: ((16, (5, 63)) :: ((16, (4, 16)) :: ((16, (3, 8)) :: ((16, (2, 4)) :: ((16, (1, 3)) :: ((16, (0, 1)) :: ((15, (1, 1)) :: ((15, (5, 63)) :: ((10, (0, 1)) :: ((12, (0, (-4))) :: ((11, (0, (-4))) :: [])))))))))))))))))))))))) ((34, (9, 41)) :: ((34, (8, 40)) :: ((34, (7, 39)) :: ((34, (4, 38)) :: ((34, (3, 37)) :: ((34, (2, 36)) :: ((34, (0, 6)) :: ((0, (11, 28)) :: ((27, (17, 34)) :: ((27, (15, 33)) :: ((27, (14, 32)) :: ((27, (11, 31)) :: ((27, (9, 30)) :: ((27, (8, 29)) :: ((27, (2, 18)) :: ((27, (1, 11)) :: ((27, (0, 6)) :: ((0, (10, 18)) :: ((17, (12, 27)) :: ((17, (11, 26)) :: ((17, (10, 25)) :: ((17, (8, 24)) :: ((17, (5, 23)) :: ((17, (4, 22)) :: ((17, (3, 21)) :: ((17, (2, 20)) :: ((17, (1, 19)) :: ((17, (7, 11)) :: ((17, (6, 6)) :: ((0, (9, 11)) :: ((10, (6, 17)) :: ((10, (5, 16)) :: ((10, (4, 15)) :: ((10, (3, 14)) :: ((10, (2, 13)) :: ((10, (1, 12)) :: ((0, (8, 6)) :: ((5, (6, 10)) :: ((5, (5, 9)) :: ((5, (4, 8)) :: ((5, (3, 7)) :: ((0, (6, 5)) :: ((0, (4, 4)) :: ((0, (3, 3)) :: ((0, (0, 2)) :: B)))))))))))))))))))))))))))))))))))))))))))))) _
  have hA := (hA.le (show 35 ≤ 41 from by decide)).cons (k := 34) (v := (5, (-4))) (by decide)
  have hB := (((((((hB.le (show 35 ≤ 41 from by decide)).cons (k := 34) (v := (0, 6)) (by decide)).cons (k := 34) (v := (2, 36)) (by decide)).cons (k := 34) (v := (3, 37)) (by decide)).cons (k := 34) (v := (4, 38)) (by decide)).cons (k := 34) (v := (7, 39)) (by decide)).cons (k := 34) (v := (8, 40)) (by decide)).cons (k := 34) (v := (9, 41)) (by decide)
  refine n_putrF (j := 12) (v := 35) fl_H_59 rfl rfl (by decide) (by decide) rfl (by decide) rfl (fun _ => rfl) (fun _ => rfl) rfl d_H_init_114 ?_
  have hB := hB.cons (k := 0) (v := (12, 35)) (by decide)
  refine y_aload_n (q := 0) d_H_init_117 rfl rfl ?_
  refine n_new (n' := 42) (cs' := 41) (ss' := 41875) ty_9 hA hB d_H_init_118 rfl cu_9 ct_9 k_2_54 k_2_55 k_1_7 (by decide) rfl (by decide) cd_9 (Nat.le_of_ble_eq_true rfl) (Nat.le_of_ble_eq_true rfl) rfl rfl ⟨rfl, rfl, rfl⟩ ?_
  have hA := hA.le (show 41 ≤ 42 from by decide)
  have hB := hB.le (show 41 ≤ 42 from by decide)
  refine y_dupr d_H_init_121 ?_
  refine y_aload_n (q := 0) d_H_init_122 rfl rfl ?_
  refine n_getr (j := 8) (i := 5) fl_H_25 (by decide) rfl (by decide) rfl rfl d_H_init_123 ?_
  refine y_invI (Z := Y_Wo_init) (kb := 41) (As := [.ref 5]) (rest := [.ref 41, .ref 0]) (show xM "RightsHouse" 65 Y_Wo_init 1 from ⟨k_2_56, k_1_7, k_2_58, by decide, by decide, by decide +kernel⟩) k_2_57 rfl rfl d_H_init_126 rfl rfl ⟨⟨Nat.le_of_ble_eq_true rfl, Nat.le_of_ble_eq_true rfl⟩, Nat.le_of_ble_eq_true rfl, Nat.le_of_ble_eq_true rfl⟩ (Nat.le_of_ble_eq_true rfl) rfl rfl (n_Wo_init hA hB ?_)
  show Wx E Y_H_init 129 [(0, .ref 0)] [.ref 41, .ref 0] 52 51 42139 (s0 ((49, (31, (-4))) :: ((44, (31, (-4))) :: ((49, (30, (-4))) :: ((44, (30, (-4))) :: ((49, (29, (-4))) :: ((44, (29, (-4))) :: ((49, (28, (-4))) :: ((44, (28, (-4))) :: ((49, (27, (-4))) :: ((44, (27, (-4))) :: ((49, (26, (-4))) :: ((44, (26, (-4))) :: ((49, (25, (-4))) :: ((44, (25, (-4))) :: ((49, (24, (-4))) :: ((44, (24, (-4))) :: ((49, (23, (-4))) :: ((44, (23, (-4))) :: ((49, (22, (-4))) :: ((44, (22, (-4))) :: ((49, (21, (-4))) :: ((44, (21, (-4))) :: ((49, (20, (-4))) :: ((44, (20, (-4))) :: ((49, (19, (-4))) :: ((44, (19, (-4))) :: ((49, (18, (-4))) :: ((44, (18, (-4))) :: ((49, (17, (-4))) :: ((44, (17, (-4))) :: ((49, (16, (-4))) :: ((44, (16, (-4))) :: ((49, (15, (-4))) :: ((44, (15, (-4))) :: ((49, (14, (-4))) :: ((44, (14, (-4))) :: ((49, (13, (-4))) :: ((44, (13, (-4))) :: ((49, (12, (-4))) :: ((44, (12, (-4))) :: ((49, (11, (-4))) :: ((44, (11, (-4))) :: ((49, (10, (-4))) :: ((44, (10, (-4))) :: ((49, (9, (-4))) :: ((44, (9, (-4))) :: ((49, (8, (-4))) :: ((44, (8, (-4))) :: ((49, (7, (-4))) :: ((44, (7, (-4))) :: ((49, (6, (-4))) :: ((44, (6, (-4))) :: ((49, (5, (-4))) :: ((44, (5, (-4))) :: ((49, (4, (-4))) :: ((44, (4, (-4))) :: ((49, (3, (-4))) :: ((44, (3, (-4))) :: ((49, (2, (-4))) :: ((44, (2, (-4))) :: ((49, (1, (-4))) :: ((44, (1, (-4))) :: ((49, (0, (-4))) :: ((44, (0, (-4))) :: ((34, (5, (-4))) :: ((16, (5, 63)) :: ((16, (5, 63)) :: ((16, (4, 16)) :: ((16, (5, 63)) :: ((16, (3, 8)) :: ((16, (5, 63)) :: ((16, (2, 4)) :: ((16, (5, 63)) :: ((16, (1, 3)) :: ((16, (5, 63)) :: ((16, (1, 3)) :: ((16, (0, 1)) :: ((16, (5, 63)) :: ((16, (4, 16)) :: ((16, (3, 8)) :: ((16, (2, 4)) :: ((16, (1, 3)) :: ((16, (0, 1)) :: ((15, (1, 1)) :: ((15, (5, 63)) :: ((10, (0, 1)) :: ((12, (0, (-4))) :: ((11, (0, (-4))) :: [])))))))))))))))))))))))))))))))))))))))))))))))))))))))))))))))))))))))))))))))))))))))) ((41, (11, 52)) :: ((41, (10, 51)) :: ((41, (9, 50)) :: ((41, (8, 49)) :: ((41, (7, 48)) :: ((41, (6, 47)) :: ((41, (5, 46)) :: ((41, (4, 45)) :: ((41, (3, 44)) :: ((41, (2, 43)) :: ((41, (0, 6)) :: ((0, (12, 35)) :: ((34, (9, 41)) :: ((34, (8, 40)) :: ((34, (7, 39)) :: ((34, (4, 38)) :: ((34, (3, 37)) :: ((34, (2, 36)) :: ((34, (0, 6)) :: ((0, (11, 28)) :: ((27, (17, 34)) :: ((27, (15, 33)) :: ((27, (14, 32)) :: ((27, (11, 31)) :: ((27, (9, 30)) :: ((27, (8, 29)) :: ((27, (2, 18)) :: ((27, (1, 11)) :: ((27, (0, 6)) :: ((0, (10, 18)) :: ((17, (12, 27)) :: ((17, (11, 26)) :: ((17, (10, 25)) :: ((17, (8, 24)) :: ((17, (5, 23)) :: ((17, (4, 22)) :: ((17, (3, 21)) :: ((17, (2, 20)) :: ((17, (1, 19)) :: ((17, (7, 11)) :: ((17, (6, 6)) :: ((0, (9, 11)) :: ((10, (6, 17)) :: ((10, (5, 16)) :: ((10, (4, 15)) :: ((10, (3, 14)) :: ((10, (2, 13)) :: ((10, (1, 12)) :: ((0, (8, 6)) :: ((5, (6, 10)) :: ((5, (5, 9)) :: ((5, (4, 8)) :: ((5, (3, 7)) :: ((0, (6, 5)) :: ((0, (4, 4)) :: ((0, (3, 3)) :: ((0, (0, 2)) :: B)))))))))))))))))))))))))))))))))))))))))))))))))))))))))) _
  have hA := ((((((((((((((((((((((((((((((((((((((((((((((((((((((((((((((((hA.le (show 42 ≤ 52 from by decide)).cons (k := 44) (v := (0, (-4))) (by decide)).cons (k := 49) (v := (0, (-4))) (by decide)).cons (k := 44) (v := (1, (-4))) (by decide)).cons (k := 49) (v := (1, (-4))) (by decide)).cons (k := 44) (v := (2, (-4))) (by decide)).cons (k := 49) (v := (2, (-4))) (by decide)).cons (k := 44) (v := (3, (-4))) (by decide)).cons (k := 49) (v := (3, (-4))) (by decide)).cons (k := 44) (v := (4, (-4))) (by decide)).cons (k := 49) (v := (4, (-4))) (by decide)).cons (k := 44) (v := (5, (-4))) (by decide)).cons (k := 49) (v := (5, (-4))) (by decide)).cons (k := 44) (v := (6, (-4))) (by decide)).cons (k := 49) (v := (6, (-4))) (by decide)).cons (k := 44) (v := (7, (-4))) (by decide)).cons (k := 49) (v := (7, (-4))) (by decide)).cons (k := 44) (v := (8, (-4))) (by decide)).cons (k := 49) (v := (8, (-4))) (by decide)).cons (k := 44) (v := (9, (-4))) (by decide)).cons (k := 49) (v := (9, (-4))) (by decide)).cons (k := 44) (v := (10, (-4))) (by decide)).cons (k := 49) (v := (10, (-4))) (by decide)).cons (k := 44) (v := (11, (-4))) (by decide)).cons (k := 49) (v := (11, (-4))) (by decide)).cons (k := 44) (v := (12, (-4))) (by decide)).cons (k := 49) (v := (12, (-4))) (by decide)).cons (k := 44) (v := (13, (-4))) (by decide)).cons (k := 49) (v := (13, (-4))) (by decide)).cons (k := 44) (v := (14, (-4))) (by decide)).cons (k := 49) (v := (14, (-4))) (by decide)).cons (k := 44) (v := (15, (-4))) (by decide)).cons (k := 49) (v := (15, (-4))) (by decide)).cons (k := 44) (v := (16, (-4))) (by decide)).cons (k := 49) (v := (16, (-4))) (by decide)).cons (k := 44) (v := (17, (-4))) (by decide)).cons (k := 49) (v := (17, (-4))) (by decide)).cons (k := 44) (v := (18, (-4))) (by decide)).cons (k := 49) (v := (18, (-4))) (by decide)).cons (k := 44) (v := (19, (-4))) (by decide)).cons (k := 49) (v := (19, (-4))) (by decide)).cons (k := 44) (v := (20, (-4))) (by decide)).cons (k := 49) (v := (20, (-4))) (by decide)).cons (k := 44) (v := (21, (-4))) (by decide)).cons (k := 49) (v := (21, (-4))) (by decide)).cons (k := 44) (v := (22, (-4))) (by decide)).cons (k := 49) (v := (22, (-4))) (by decide)).cons (k := 44) (v := (23, (-4))) (by decide)).cons (k := 49) (v := (23, (-4))) (by decide)).cons (k := 44) (v := (24, (-4))) (by decide)).cons (k := 49) (v := (24, (-4))) (by decide)).cons (k := 44) (v := (25, (-4))) (by decide)).cons (k := 49) (v := (25, (-4))) (by decide)).cons (k := 44) (v := (26, (-4))) (by decide)).cons (k := 49) (v := (26, (-4))) (by decide)).cons (k := 44) (v := (27, (-4))) (by decide)).cons (k := 49) (v := (27, (-4))) (by decide)).cons (k := 44) (v := (28, (-4))) (by decide)).cons (k := 49) (v := (28, (-4))) (by decide)).cons (k := 44) (v := (29, (-4))) (by decide)).cons (k := 49) (v := (29, (-4))) (by decide)).cons (k := 44) (v := (30, (-4))) (by decide)).cons (k := 49) (v := (30, (-4))) (by decide)).cons (k := 44) (v := (31, (-4))) (by decide)).cons (k := 49) (v := (31, (-4))) (by decide)
  have hB := (((((((((((hB.le (show 42 ≤ 52 from by decide)).cons (k := 41) (v := (0, 6)) (by decide)).cons (k := 41) (v := (2, 43)) (by decide)).cons (k := 41) (v := (3, 44)) (by decide)).cons (k := 41) (v := (4, 45)) (by decide)).cons (k := 41) (v := (5, 46)) (by decide)).cons (k := 41) (v := (6, 47)) (by decide)).cons (k := 41) (v := (7, 48)) (by decide)).cons (k := 41) (v := (8, 49)) (by decide)).cons (k := 41) (v := (9, 50)) (by decide)).cons (k := 41) (v := (10, 51)) (by decide)).cons (k := 41) (v := (11, 52)) (by decide)
  refine n_putrF (j := 13) (v := 42) fl_H_66 rfl rfl (by decide) (by decide) rfl (by decide) rfl (fun _ => rfl) (fun _ => rfl) rfl d_H_init_129 ?_
  have hB := hB.cons (k := 0) (v := (13, 42)) (by decide)
  refine y_aload_n (q := 0) d_H_init_132 rfl rfl ?_
  refine n_new (n' := 53) (cs' := 52) (ss' := 42150) ty_4 hA hB d_H_init_133 rfl cu_4 ct_4 k_2_111 k_2_112 k_1_8 (by decide) rfl (by decide) cd_4 (Nat.le_of_ble_eq_true rfl) (Nat.le_of_ble_eq_true rfl) rfl rfl ⟨rfl, rfl, rfl⟩ ?_
  have hA := hA.le (show 52 ≤ 53 from by decide)
  have hB := hB.le (show 52 ≤ 53 from by decide)
  refine y_dupr d_H_init_136 ?_
  refine y_aload_n (q := 0) d_H_init_137 rfl rfl ?_
  refine n_getr (j := 9) (i := 10) fl_H_32 (by decide) rfl (by decide) rfl rfl d_H_init_138 ?_
  refine y_invI (Z := Y_Le_init) (kb := 52) (As := [.ref 10]) (rest := [.ref 52, .ref 0]) (show xM "RightsHouse" 72 Y_Le_init 1 from ⟨k_2_113, k_1_8, k_2_115, by decide, by decide, by decide +kernel⟩) k_2_114 rfl rfl d_H_init_141 rfl rfl ⟨⟨Nat.le_of_ble_eq_true rfl, Nat.le_of_ble_eq_true rfl⟩, Nat.le_of_ble_eq_true rfl, Nat.le_of_ble_eq_true rfl⟩ (Nat.le_of_ble_eq_true rfl) rfl rfl (n_Le_init hA hB ?_)
  show Wx E Y_H_init 144 [(0, .ref 0)] [.ref 52, .ref 0] 59 58 44766 (s0 ((49, (31, (-4))) :: ((44, (31, (-4))) :: ((49, (30, (-4))) :: ((44, (30, (-4))) :: ((49, (29, (-4))) :: ((44, (29, (-4))) :: ((49, (28, (-4))) :: ((44, (28, (-4))) :: ((49, (27, (-4))) :: ((44, (27, (-4))) :: ((49, (26, (-4))) :: ((44, (26, (-4))) :: ((49, (25, (-4))) :: ((44, (25, (-4))) :: ((49, (24, (-4))) :: ((44, (24, (-4))) :: ((49, (23, (-4))) :: ((44, (23, (-4))) :: ((49, (22, (-4))) :: ((44, (22, (-4))) :: ((49, (21, (-4))) :: ((44, (21, (-4))) :: ((49, (20, (-4))) :: ((44, (20, (-4))) :: ((49, (19, (-4))) :: ((44, (19, (-4))) :: ((49, (18, (-4))) :: ((44, (18, (-4))) :: ((49, (17, (-4))) :: ((44, (17, (-4))) :: ((49, (16, (-4))) :: ((44, (16, (-4))) :: ((49, (15, (-4))) :: ((44, (15, (-4))) :: ((49, (14, (-4))) :: ((44, (14, (-4))) :: ((49, (13, (-4))) :: ((44, (13, (-4))) :: ((49, (12, (-4))) :: ((44, (12, (-4))) :: ((49, (11, (-4))) :: ((44, (11, (-4))) :: ((49, (10, (-4))) :: ((44, (10, (-4))) :: ((49, (9, (-4))) :: ((44, (9, (-4))) :: ((49, (8, (-4))) :: ((44, (8, (-4))) :: ((49, (7, (-4))) :: ((44, (7, (-4))) :: ((49, (6, (-4))) :: ((44, (6, (-4))) :: ((49, (5, (-4))) :: ((44, (5, (-4))) :: ((49, (4, (-4))) :: ((44, (4, (-4))) :: ((49, (3, (-4))) :: ((44, (3, (-4))) :: ((49, (2, (-4))) :: ((44, (2, (-4))) :: ((49, (1, (-4))) :: ((44, (1, (-4))) :: ((49, (0, (-4))) :: ((44, (0, (-4))) :: ((34, (5, (-4))) :: ((16, (5, 63)) :: ((16, (5, 63)) :: ((16, (4, 16)) :: ((16, (5, 63)) :: ((16, (3, 8)) :: ((16, (5, 63)) :: ((16, (2, 4)) :: ((16, (5, 63)) :: ((16, (1, 3)) :: ((16, (5, 63)) :: ((16, (1, 3)) :: ((16, (0, 1)) :: ((16, (5, 63)) :: ((16, (4, 16)) :: ((16, (3, 8)) :: ((16, (2, 4)) :: ((16, (1, 3)) :: ((16, (0, 1)) :: ((15, (1, 1)) :: ((15, (5, 63)) :: ((10, (0, 1)) :: ((12, (0, (-4))) :: ((11, (0, (-4))) :: [])))))))))))))))))))))))))))))))))))))))))))))))))))))))))))))))))))))))))))))))))))))))) ((52, (8, 59)) :: ((52, (7, 58)) :: ((52, (6, 57)) :: ((52, (4, 56)) :: ((52, (3, 55)) :: ((52, (2, 54)) :: ((52, (0, 11)) :: ((0, (13, 42)) :: ((41, (11, 52)) :: ((41, (10, 51)) :: ((41, (9, 50)) :: ((41, (8, 49)) :: ((41, (7, 48)) :: ((41, (6, 47)) :: ((41, (5, 46)) :: ((41, (4, 45)) :: ((41, (3, 44)) :: ((41, (2, 43)) :: ((41, (0, 6)) :: ((0, (12, 35)) :: ((34, (9, 41)) :: ((34, (8, 40)) :: ((34, (7, 39)) :: ((34, (4, 38)) :: ((34, (3, 37)) :: ((34, (2, 36)) :: ((34, (0, 6)) :: ((0, (11, 28)) :: ((27, (17, 34)) :: ((27, (15, 33)) :: ((27, (14, 32)) :: ((27, (11, 31)) :: ((27, (9, 30)) :: ((27, (8, 29)) :: ((27, (2, 18)) :: ((27, (1, 11)) :: ((27, (0, 6)) :: ((0, (10, 18)) :: ((17, (12, 27)) :: ((17, (11, 26)) :: ((17, (10, 25)) :: ((17, (8, 24)) :: ((17, (5, 23)) :: ((17, (4, 22)) :: ((17, (3, 21)) :: ((17, (2, 20)) :: ((17, (1, 19)) :: ((17, (7, 11)) :: ((17, (6, 6)) :: ((0, (9, 11)) :: ((10, (6, 17)) :: ((10, (5, 16)) :: ((10, (4, 15)) :: ((10, (3, 14)) :: ((10, (2, 13)) :: ((10, (1, 12)) :: ((0, (8, 6)) :: ((5, (6, 10)) :: ((5, (5, 9)) :: ((5, (4, 8)) :: ((5, (3, 7)) :: ((0, (6, 5)) :: ((0, (4, 4)) :: ((0, (3, 3)) :: ((0, (0, 2)) :: B)))))))))))))))))))))))))))))))))))))))))))))))))))))))))))))))))) _
  have hA := hA.le (show 53 ≤ 59 from by decide)
  have hB := (((((((hB.le (show 53 ≤ 59 from by decide)).cons (k := 52) (v := (0, 11)) (by decide)).cons (k := 52) (v := (2, 54)) (by decide)).cons (k := 52) (v := (3, 55)) (by decide)).cons (k := 52) (v := (4, 56)) (by decide)).cons (k := 52) (v := (6, 57)) (by decide)).cons (k := 52) (v := (7, 58)) (by decide)).cons (k := 52) (v := (8, 59)) (by decide)
  refine n_putrF (j := 14) (v := 53) fl_H_75 rfl rfl (by decide) (by decide) rfl (by decide) rfl (fun _ => rfl) (fun _ => rfl) rfl d_H_init_144 ?_
  have hB := hB.cons (k := 0) (v := (14, 53)) (by decide)
  refine y_aload_n (q := 0) d_H_init_147 rfl rfl ?_
  refine n_new (n' := 60) (cs' := 59) (ss' := 44778) ty_0 hA hB d_H_init_148 rfl cu_0 ct_0 k_2_156 k_2_157 k_1_9 (by decide) rfl (by decide) cd_0 (Nat.le_of_ble_eq_true rfl) (Nat.le_of_ble_eq_true rfl) rfl rfl ⟨rfl, rfl, rfl⟩ ?_
  have hA := hA.le (show 59 ≤ 60 from by decide)
  have hB := hB.le (show 59 ≤ 60 from by decide)
  refine y_dupr d_H_init_151 ?_
  refine y_invI (Z := Y_Fl_init) (kb := 59) (As := []) (rest := [.ref 59, .ref 0]) (show xM "RightsHouse" 81 Y_Fl_init 0 from ⟨k_2_158, k_1_9, k_2_160, by decide, by decide, by decide +kernel⟩) k_2_159 rfl rfl d_H_init_152 rfl rfl ⟨⟨Nat.le_of_ble_eq_true rfl, Nat.le_of_ble_eq_true rfl⟩, Nat.le_of_ble_eq_true rfl, Nat.le_of_ble_eq_true rfl⟩ (Nat.le_of_ble_eq_true rfl) rfl rfl (n_Fl_init hA hB ?_)
  show Wx E Y_H_init 155 [(0, .ref 0)] [.ref 59, .ref 0] 70 69 45916 (s0 ((60, (13, 255)) :: ((60, (12, 255)) :: ((60, (11, 255)) :: ((60, (10, 255)) :: ((60, (9, 255)) :: ((60, (8, 255)) :: ((60, (7, 255)) :: ((60, (6, 255)) :: ((60, (5, 255)) :: ((60, (4, 255)) :: ((60, (3, 255)) :: ((60, (2, 255)) :: ((60, (1, 255)) :: ((60, (0, 255)) :: ((49, (31, (-4))) :: ((44, (31, (-4))) :: ((49, (30, (-4))) :: ((44, (30, (-4))) :: ((49, (29, (-4))) :: ((44, (29, (-4))) :: ((49, (28, (-4))) :: ((44, (28, (-4))) :: ((49, (27, (-4))) :: ((44, (27, (-4))) :: ((49, (26, (-4))) :: ((44, (26, (-4))) :: ((49, (25, (-4))) :: ((44, (25, (-4))) :: ((49, (24, (-4))) :: ((44, (24, (-4))) :: ((49, (23, (-4))) :: ((44, (23, (-4))) :: ((49, (22, (-4))) :: ((44, (22, (-4))) :: ((49, (21, (-4))) :: ((44, (21, (-4))) :: ((49, (20, (-4))) :: ((44, (20, (-4))) :: ((49, (19, (-4))) :: ((44, (19, (-4))) :: ((49, (18, (-4))) :: ((44, (18, (-4))) :: ((49, (17, (-4))) :: ((44, (17, (-4))) :: ((49, (16, (-4))) :: ((44, (16, (-4))) :: ((49, (15, (-4))) :: ((44, (15, (-4))) :: ((49, (14, (-4))) :: ((44, (14, (-4))) :: ((49, (13, (-4))) :: ((44, (13, (-4))) :: ((49, (12, (-4))) :: ((44, (12, (-4))) :: ((49, (11, (-4))) :: ((44, (11, (-4))) :: ((49, (10, (-4))) :: ((44, (10, (-4))) :: ((49, (9, (-4))) :: ((44, (9, (-4))) :: ((49, (8, (-4))) :: ((44, (8, (-4))) :: ((49, (7, (-4))) :: ((44, (7, (-4))) :: ((49, (6, (-4))) :: ((44, (6, (-4))) :: ((49, (5, (-4))) :: ((44, (5, (-4))) :: ((49, (4, (-4))) :: ((44, (4, (-4))) :: ((49, (3, (-4))) :: ((44, (3, (-4))) :: ((49, (2, (-4))) :: ((44, (2, (-4))) :: ((49, (1, (-4))) :: ((44, (1, (-4))) :: ((49, (0, (-4))) :: ((44, (0, (-4))) :: ((34, (5, (-4))) :: ((16, (5, 63)) :: ((16, (5, 63)) :: ((16, (4, 16)) :: ((16, (5, 63)) :: ((16, (3, 8)) :: ((16, (5, 63)) :: ((16, (2, 4)) :: ((16, (5, 63)) :: ((16, (1, 3)) :: ((16, (5, 63)) :: ((16, (1, 3)) :: ((16, (0, 1)) :: ((16, (5, 63)) :: ((16, (4, 16)) :: ((16, (3, 8)) :: ((16, (2, 4)) :: ((16, (1, 3)) :: ((16, (0, 1)) :: ((15, (1, 1)) :: ((15, (5, 63)) :: ((10, (0, 1)) :: ((12, (0, (-4))) :: ((11, (0, (-4))) :: [])))))))))))))))))))))))))))))))))))))))))))))))))))))))))))))))))))))))))))))))))))))))))))))))))))))) ((59, (10, 70)) :: ((59, (9, 69)) :: ((59, (8, 68)) :: ((59, (7, 67)) :: ((59, (6, 66)) :: ((59, (5, 65)) :: ((59, (4, 64)) :: ((59, (3, 63)) :: ((59, (2, 62)) :: ((59, (0, 61)) :: ((0, (14, 53)) :: ((52, (8, 59)) :: ((52, (7, 58)) :: ((52, (6, 57)) :: ((52, (4, 56)) :: ((52, (3, 55)) :: ((52, (2, 54)) :: ((52, (0, 11)) :: ((0, (13, 42)) :: ((41, (11, 52)) :: ((41, (10, 51)) :: ((41, (9, 50)) :: ((41, (8, 49)) :: ((41, (7, 48)) :: ((41, (6, 47)) :: ((41, (5, 46)) :: ((41, (4, 45)) :: ((41, (3, 44)) :: ((41, (2, 43)) :: ((41, (0, 6)) :: ((0, (12, 35)) :: ((34, (9, 41)) :: ((34, (8, 40)) :: ((34, (7, 39)) :: ((34, (4, 38)) :: ((34, (3, 37)) :: ((34, (2, 36)) :: ((34, (0, 6)) :: ((0, (11, 28)) :: ((27, (17, 34)) :: ((27, (15, 33)) :: ((27, (14, 32)) :: ((27, (11, 31)) :: ((27, (9, 30)) :: ((27, (8, 29)) :: ((27, (2, 18)) :: ((27, (1, 11)) :: ((27, (0, 6)) :: ((0, (10, 18)) :: ((17, (12, 27)) :: ((17, (11, 26)) :: ((17, (10, 25)) :: ((17, (8, 24)) :: ((17, (5, 23)) :: ((17, (4, 22)) :: ((17, (3, 21)) :: ((17, (2, 20)) :: ((17, (1, 19)) :: ((17, (7, 11)) :: ((17, (6, 6)) :: ((0, (9, 11)) :: ((10, (6, 17)) :: ((10, (5, 16)) :: ((10, (4, 15)) :: ((10, (3, 14)) :: ((10, (2, 13)) :: ((10, (1, 12)) :: ((0, (8, 6)) :: ((5, (6, 10)) :: ((5, (5, 9)) :: ((5, (4, 8)) :: ((5, (3, 7)) :: ((0, (6, 5)) :: ((0, (4, 4)) :: ((0, (3, 3)) :: ((0, (0, 2)) :: B))))))))))))))))))))))))))))))))))))))))))))))))))))))))))))))))))))))))))))) _
  have hA := ((((((((((((((hA.le (show 60 ≤ 70 from by decide)).cons (k := 60) (v := (0, 255)) (by decide)).cons (k := 60) (v := (1, 255)) (by decide)).cons (k := 60) (v := (2, 255)) (by decide)).cons (k := 60) (v := (3, 255)) (by decide)).cons (k := 60) (v := (4, 255)) (by decide)).cons (k := 60) (v := (5, 255)) (by decide)).cons (k := 60) (v := (6, 255)) (by decide)).cons (k := 60) (v := (7, 255)) (by decide)).cons (k := 60) (v := (8, 255)) (by decide)).cons (k := 60) (v := (9, 255)) (by decide)).cons (k := 60) (v := (10, 255)) (by decide)).cons (k := 60) (v := (11, 255)) (by decide)).cons (k := 60) (v := (12, 255)) (by decide)).cons (k := 60) (v := (13, 255)) (by decide)
  have hB := ((((((((((hB.le (show 60 ≤ 70 from by decide)).cons (k := 59) (v := (0, 61)) (by decide)).cons (k := 59) (v := (2, 62)) (by decide)).cons (k := 59) (v := (3, 63)) (by decide)).cons (k := 59) (v := (4, 64)) (by decide)).cons (k := 59) (v := (5, 65)) (by decide)).cons (k := 59) (v := (6, 66)) (by decide)).cons (k := 59) (v := (7, 67)) (by decide)).cons (k := 59) (v := (8, 68)) (by decide)).cons (k := 59) (v := (9, 69)) (by decide)).cons (k := 59) (v := (10, 70)) (by decide)
  refine n_putrF (j := 15) (v := 60) fl_H_82 rfl rfl (by decide) (by decide) rfl (by decide) rfl (fun _ => rfl) (fun _ => rfl) rfl d_H_init_155 ?_
  have hB := hB.cons (k := 0) (v := (15, 60)) (by decide)
  refine y_aload_n (q := 0) d_H_init_158 rfl rfl ?_
  refine n_new (n' := 71) (cs' := 70) (ss' := 45925) ty_2 hA hB d_H_init_159 rfl cu_2 ct_2 k_2_205 k_2_206 k_1_10 (by decide) rfl (by decide) cd_2 (Nat.le_of_ble_eq_true rfl) (Nat.le_of_ble_eq_true rfl) rfl rfl ⟨rfl, rfl, rfl⟩ ?_
  have hA := hA.le (show 70 ≤ 71 from by decide)
  have hB := hB.le (show 70 ≤ 71 from by decide)
  refine y_dupr d_H_init_162 ?_
  refine y_invI (Z := Y_Gu_init) (kb := 70) (As := []) (rest := [.ref 70, .ref 0]) (show xM "RightsHouse" 88 Y_Gu_init 0 from ⟨k_2_207, k_1_10, k_2_209, by decide, by decide, by decide +kernel⟩) k_2_208 rfl rfl d_H_init_163 rfl rfl ⟨⟨Nat.le_of_ble_eq_true rfl, Nat.le_of_ble_eq_true rfl⟩, Nat.le_of_ble_eq_true rfl, Nat.le_of_ble_eq_true rfl⟩ (Nat.le_of_ble_eq_true rfl) rfl rfl (n_Gu_init hA hB ?_)
  show Wx E Y_H_init 166 [(0, .ref 0)] [.ref 70, .ref 0] 98 97 46573 (s0 ((74, (3, 8)) :: ((74, (2, 4)) :: ((74, (1, 2)) :: ((74, (0, 1)) :: ((60, (13, 255)) :: ((60, (12, 255)) :: ((60, (11, 255)) :: ((60, (10, 255)) :: ((60, (9, 255)) :: ((60, (8, 255)) :: ((60, (7, 255)) :: ((60, (6, 255)) :: ((60, (5, 255)) :: ((60, (4, 255)) :: ((60, (3, 255)) :: ((60, (2, 255)) :: ((60, (1, 255)) :: ((60, (0, 255)) :: ((49, (31, (-4))) :: ((44, (31, (-4))) :: ((49, (30, (-4))) :: ((44, (30, (-4))) :: ((49, (29, (-4))) :: ((44, (29, (-4))) :: ((49, (28, (-4))) :: ((44, (28, (-4))) :: ((49, (27, (-4))) :: ((44, (27, (-4))) :: ((49, (26, (-4))) :: ((44, (26, (-4))) :: ((49, (25, (-4))) :: ((44, (25, (-4))) :: ((49, (24, (-4))) :: ((44, (24, (-4))) :: ((49, (23, (-4))) :: ((44, (23, (-4))) :: ((49, (22, (-4))) :: ((44, (22, (-4))) :: ((49, (21, (-4))) :: ((44, (21, (-4))) :: ((49, (20, (-4))) :: ((44, (20, (-4))) :: ((49, (19, (-4))) :: ((44, (19, (-4))) :: ((49, (18, (-4))) :: ((44, (18, (-4))) :: ((49, (17, (-4))) :: ((44, (17, (-4))) :: ((49, (16, (-4))) :: ((44, (16, (-4))) :: ((49, (15, (-4))) :: ((44, (15, (-4))) :: ((49, (14, (-4))) :: ((44, (14, (-4))) :: ((49, (13, (-4))) :: ((44, (13, (-4))) :: ((49, (12, (-4))) :: ((44, (12, (-4))) :: ((49, (11, (-4))) :: ((44, (11, (-4))) :: ((49, (10, (-4))) :: ((44, (10, (-4))) :: ((49, (9, (-4))) :: ((44, (9, (-4))) :: ((49, (8, (-4))) :: ((44, (8, (-4))) :: ((49, (7, (-4))) :: ((44, (7, (-4))) :: ((49, (6, (-4))) :: ((44, (6, (-4))) :: ((49, (5, (-4))) :: ((44, (5, (-4))) :: ((49, (4, (-4))) :: ((44, (4, (-4))) :: ((49, (3, (-4))) :: ((44, (3, (-4))) :: ((49, (2, (-4))) :: ((44, (2, (-4))) :: ((49, (1, (-4))) :: ((44, (1, (-4))) :: ((49, (0, (-4))) :: ((44, (0, (-4))) :: ((34, (5, (-4))) :: ((16, (5, 63)) :: ((16, (5, 63)) :: ((16, (4, 16)) :: ((16, (5, 63)) :: ((16, (3, 8)) :: ((16, (5, 63)) :: ((16, (2, 4)) :: ((16, (5, 63)) :: ((16, (1, 3)) :: ((16, (5, 63)) :: ((16, (1, 3)) :: ((16, (0, 1)) :: ((16, (5, 63)) :: ((16, (4, 16)) :: ((16, (3, 8)) :: ((16, (2, 4)) :: ((16, (1, 3)) :: ((16, (0, 1)) :: ((15, (1, 1)) :: ((15, (5, 63)) :: ((10, (0, 1)) :: ((12, (0, (-4))) :: ((11, (0, (-4))) :: [])))))))))))))))))))))))))))))))))))))))))))))))))))))))))))))))))))))))))))))))))))))))))))))))))))))))))) ((70, (8, 98)) :: ((70, (5, 97)) :: ((70, (4, 76)) :: (mnaL 75 20 ++ ((70, (3, 75)) :: ((70, (2, 74)) :: ((70, (1, 73)) :: ((70, (0, 72)) :: ((0, (15, 60)) :: ((59, (10, 70)) :: ((59, (9, 69)) :: ((59, (8, 68)) :: ((59, (7, 67)) :: ((59, (6, 66)) :: ((59, (5, 65)) :: ((59, (4, 64)) :: ((59, (3, 63)) :: ((59, (2, 62)) :: ((59, (0, 61)) :: ((0, (14, 53)) :: ((52, (8, 59)) :: ((52, (7, 58)) :: ((52, (6, 57)) :: ((52, (4, 56)) :: ((52, (3, 55)) :: ((52, (2, 54)) :: ((52, (0, 11)) :: ((0, (13, 42)) :: ((41, (11, 52)) :: ((41, (10, 51)) :: ((41, (9, 50)) :: ((41, (8, 49)) :: ((41, (7, 48)) :: ((41, (6, 47)) :: ((41, (5, 46)) :: ((41, (4, 45)) :: ((41, (3, 44)) :: ((41, (2, 43)) :: ((41, (0, 6)) :: ((0, (12, 35)) :: ((34, (9, 41)) :: ((34, (8, 40)) :: ((34, (7, 39)) :: ((34, (4, 38)) :: ((34, (3, 37)) :: ((34, (2, 36)) :: ((34, (0, 6)) :: ((0, (11, 28)) :: ((27, (17, 34)) :: ((27, (15, 33)) :: ((27, (14, 32)) :: ((27, (11, 31)) :: ((27, (9, 30)) :: ((27, (8, 29)) :: ((27, (2, 18)) :: ((27, (1, 11)) :: ((27, (0, 6)) :: ((0, (10, 18)) :: ((17, (12, 27)) :: ((17, (11, 26)) :: ((17, (10, 25)) :: ((17, (8, 24)) :: ((17, (5, 23)) :: ((17, (4, 22)) :: ((17, (3, 21)) :: ((17, (2, 20)) :: ((17, (1, 19)) :: ((17, (7, 11)) :: ((17, (6, 6)) :: ((0, (9, 11)) :: ((10, (6, 17)) :: ((10, (5, 16)) :: ((10, (4, 15)) :: ((10, (3, 14)) :: ((10, (2, 13)) :: ((10, (1, 12)) :: ((0, (8, 6)) :: ((5, (6, 10)) :: ((5, (5, 9)) :: ((5, (4, 8)) :: ((5, (3, 7)) :: ((0, (6, 5)) :: ((0, (4, 4)) :: ((0, (3, 3)) :: ((0, (0, 2)) :: B)))))))))))))))))))))))))))))))))))))))))))))))))))))))))))))))))))))))))))))))))))))) _
  have hA := ((((hA.le (show 71 ≤ 98 from by decide)).cons (k := 74) (v := (0, 1)) (by decide)).cons (k := 74) (v := (1, 2)) (by decide)).cons (k := 74) (v := (2, 4)) (by decide)).cons (k := 74) (v := (3, 8)) (by decide)
  have hB := ((((xlt_mna (N := 20) (((((hB.le (show 71 ≤ 98 from by decide)).cons (k := 70) (v := (0, 72)) (by decide)).cons (k := 70) (v := (1, 73)) (by decide)).cons (k := 70) (v := (2, 74)) (by decide)).cons (k := 70) (v := (3, 75)) (by decide)) (show 75 < 98 from by decide) (Nat.le_refl _))).cons (k := 70) (v := (4, 76)) (by decide)).cons (k := 70) (v := (5, 97)) (by decide)).cons (k := 70) (v := (8, 98)) (by decide)
  refine n_putrF (j := 16) (v := 71) fl_H_89 rfl rfl (by decide) (by decide) rfl (by decide) rfl (fun _ => rfl) (fun _ => rfl) rfl d_H_init_166 ?_
  have hB := hB.cons (k := 0) (v := (16, 71)) (by decide)
  refine y_aload_n (q := 0) d_H_init_169 rfl rfl ?_
  refine n_new (n' := 99) (cs' := 98) (ss' := 46587) ty_1 hA hB d_H_init_170 rfl cu_1 ct_1 k_3_4 k_3_5 k_1_11 (by decide) rfl (by decide) cd_1 (Nat.le_of_ble_eq_true rfl) (Nat.le_of_ble_eq_true rfl) rfl rfl ⟨rfl, rfl, rfl⟩ ?_
  have hA := hA.le (show 98 ≤ 99 from by decide)
  have hB := hB.le (show 98 ≤ 99 from by decide)
  refine y_dupr d_H_init_173 ?_
  refine y_invI (Z := Y_Ga_init) (kb := 98) (As := []) (rest := [.ref 98, .ref 0]) (show xM "RightsHouse" 95 Y_Ga_init 0 from ⟨k_3_6, k_1_11, k_3_8, by decide, by decide, by decide +kernel⟩) k_3_7 rfl rfl d_H_init_174 rfl rfl ⟨⟨Nat.le_of_ble_eq_true rfl, Nat.le_of_ble_eq_true rfl⟩, Nat.le_of_ble_eq_true rfl, Nat.le_of_ble_eq_true rfl⟩ (Nat.le_of_ble_eq_true rfl) rfl rfl (n_Ga_init hA hB ?_)
  show Wx E Y_H_init 177 [(0, .ref 0)] [.ref 98, .ref 0] 110 109 47137 (s0 ((109, (5, (-4))) :: ((109, (4, (-4))) :: ((74, (3, 8)) :: ((74, (2, 4)) :: ((74, (1, 2)) :: ((74, (0, 1)) :: ((60, (13, 255)) :: ((60, (12, 255)) :: ((60, (11, 255)) :: ((60, (10, 255)) :: ((60, (9, 255)) :: ((60, (8, 255)) :: ((60, (7, 255)) :: ((60, (6, 255)) :: ((60, (5, 255)) :: ((60, (4, 255)) :: ((60, (3, 255)) :: ((60, (2, 255)) :: ((60, (1, 255)) :: ((60, (0, 255)) :: ((49, (31, (-4))) :: ((44, (31, (-4))) :: ((49, (30, (-4))) :: ((44, (30, (-4))) :: ((49, (29, (-4))) :: ((44, (29, (-4))) :: ((49, (28, (-4))) :: ((44, (28, (-4))) :: ((49, (27, (-4))) :: ((44, (27, (-4))) :: ((49, (26, (-4))) :: ((44, (26, (-4))) :: ((49, (25, (-4))) :: ((44, (25, (-4))) :: ((49, (24, (-4))) :: ((44, (24, (-4))) :: ((49, (23, (-4))) :: ((44, (23, (-4))) :: ((49, (22, (-4))) :: ((44, (22, (-4))) :: ((49, (21, (-4))) :: ((44, (21, (-4))) :: ((49, (20, (-4))) :: ((44, (20, (-4))) :: ((49, (19, (-4))) :: ((44, (19, (-4))) :: ((49, (18, (-4))) :: ((44, (18, (-4))) :: ((49, (17, (-4))) :: ((44, (17, (-4))) :: ((49, (16, (-4))) :: ((44, (16, (-4))) :: ((49, (15, (-4))) :: ((44, (15, (-4))) :: ((49, (14, (-4))) :: ((44, (14, (-4))) :: ((49, (13, (-4))) :: ((44, (13, (-4))) :: ((49, (12, (-4))) :: ((44, (12, (-4))) :: ((49, (11, (-4))) :: ((44, (11, (-4))) :: ((49, (10, (-4))) :: ((44, (10, (-4))) :: ((49, (9, (-4))) :: ((44, (9, (-4))) :: ((49, (8, (-4))) :: ((44, (8, (-4))) :: ((49, (7, (-4))) :: ((44, (7, (-4))) :: ((49, (6, (-4))) :: ((44, (6, (-4))) :: ((49, (5, (-4))) :: ((44, (5, (-4))) :: ((49, (4, (-4))) :: ((44, (4, (-4))) :: ((49, (3, (-4))) :: ((44, (3, (-4))) :: ((49, (2, (-4))) :: ((44, (2, (-4))) :: ((49, (1, (-4))) :: ((44, (1, (-4))) :: ((49, (0, (-4))) :: ((44, (0, (-4))) :: ((34, (5, (-4))) :: ((16, (5, 63)) :: ((16, (5, 63)) :: ((16, (4, 16)) :: ((16, (5, 63)) :: ((16, (3, 8)) :: ((16, (5, 63)) :: ((16, (2, 4)) :: ((16, (5, 63)) :: ((16, (1, 3)) :: ((16, (5, 63)) :: ((16, (1, 3)) :: ((16, (0, 1)) :: ((16, (5, 63)) :: ((16, (4, 16)) :: ((16, (3, 8)) :: ((16, (2, 4)) :: ((16, (1, 3)) :: ((16, (0, 1)) :: ((15, (1, 1)) :: ((15, (5, 63)) :: ((10, (0, 1)) :: ((12, (0, (-4))) :: ((11, (0, (-4))) :: [])))))))))))))))))))))))))))))))))))))))))))))))))))))))))))))))))))))))))))))))))))))))))))))))))))))))))))) ((98, (13, 110)) :: ((98, (11, 109)) :: ((98, (10, 108)) :: ((98, (9, 107)) :: ((98, (8, 106)) :: ((98, (7, 105)) :: ((98, (6, 104)) :: ((98, (5, 103)) :: ((98, (4, 102)) :: ((98, (3, 101)) :: ((98, (1, 100)) :: ((0, (16, 71)) :: ((70, (8, 98)) :: ((70, (5, 97)) :: ((70, (4, 76)) :: (mnaL 75 20 ++ ((70, (3, 75)) :: ((70, (2, 74)) :: ((70, (1, 73)) :: ((70, (0, 72)) :: ((0, (15, 60)) :: ((59, (10, 70)) :: ((59, (9, 69)) :: ((59, (8, 68)) :: ((59, (7, 67)) :: ((59, (6, 66)) :: ((59, (5, 65)) :: ((59, (4, 64)) :: ((59, (3, 63)) :: ((59, (2, 62)) :: ((59, (0, 61)) :: ((0, (14, 53)) :: ((52, (8, 59)) :: ((52, (7, 58)) :: ((52, (6, 57)) :: ((52, (4, 56)) :: ((52, (3, 55)) :: ((52, (2, 54)) :: ((52, (0, 11)) :: ((0, (13, 42)) :: ((41, (11, 52)) :: ((41, (10, 51)) :: ((41, (9, 50)) :: ((41, (8, 49)) :: ((41, (7, 48)) :: ((41, (6, 47)) :: ((41, (5, 46)) :: ((41, (4, 45)) :: ((41, (3, 44)) :: ((41, (2, 43)) :: ((41, (0, 6)) :: ((0, (12, 35)) :: ((34, (9, 41)) :: ((34, (8, 40)) :: ((34, (7, 39)) :: ((34, (4, 38)) :: ((34, (3, 37)) :: ((34, (2, 36)) :: ((34, (0, 6)) :: ((0, (11, 28)) :: ((27, (17, 34)) :: ((27, (15, 33)) :: ((27, (14, 32)) :: ((27, (11, 31)) :: ((27, (9, 30)) :: ((27, (8, 29)) :: ((27, (2, 18)) :: ((27, (1, 11)) :: ((27, (0, 6)) :: ((0, (10, 18)) :: ((17, (12, 27)) :: ((17, (11, 26)) :: ((17, (10, 25)) :: ((17, (8, 24)) :: ((17, (5, 23)) :: ((17, (4, 22)) :: ((17, (3, 21)) :: ((17, (2, 20)) :: ((17, (1, 19)) :: ((17, (7, 11)) :: ((17, (6, 6)) :: ((0, (9, 11)) :: ((10, (6, 17)) :: ((10, (5, 16)) :: ((10, (4, 15)) :: ((10, (3, 14)) :: ((10, (2, 13)) :: ((10, (1, 12)) :: ((0, (8, 6)) :: ((5, (6, 10)) :: ((5, (5, 9)) :: ((5, (4, 8)) :: ((5, (3, 7)) :: ((0, (6, 5)) :: ((0, (4, 4)) :: ((0, (3, 3)) :: ((0, (0, 2)) :: B)))))))))))))))))))))))))))))))))))))))))))))))))))))))))))))))))))))))))))))))))))))))))))))))))) _
  have hA := ((hA.le (show 99 ≤ 110 from by decide)).cons (k := 109) (v := (4, (-4))) (by decide)).cons (k := 109) (v := (5, (-4))) (by decide)
  have hB := (((((((((((hB.le (show 99 ≤ 110 from by decide)).cons (k := 98) (v := (1, 100)) (by decide)).cons (k := 98) (v := (3, 101)) (by decide)).cons (k := 98) (v := (4, 102)) (by decide)).cons (k := 98) (v := (5, 103)) (by decide)).cons (k := 98) (v := (6, 104)) (by decide)).cons (k := 98) (v := (7, 105)) (by decide)).cons (k := 98) (v := (8, 106)) (by decide)).cons (k := 98) (v := (9, 107)) (by decide)).cons (k := 98) (v := (10, 108)) (by decide)).cons (k := 98) (v := (11, 109)) (by decide)).cons (k := 98) (v := (13, 110)) (by decide)
  refine n_putrF (j := 17) (v := 99) fl_H_96 rfl rfl (by decide) (by decide) rfl (by decide) rfl (fun _ => rfl) (fun _ => rfl) rfl d_H_init_177 ?_
  have hB := hB.cons (k := 0) (v := (17, 99)) (by decide)
  exact x_vret rfl d_H_init_180 (Nat.le_of_ble_eq_true rfl) (Nat.le_of_ble_eq_true rfl) h
theorem n_M_init {E : xV} {A : List (Nat × (Nat × Int32))} {B : List (Nat × (Nat × Nat))} (hA : xlt 111 A) (hB : xlt 111 B) {K : xK} (h : K none 215 (s0 ((110, (81, (-4))) :: ((110, (20, 1)) :: A)) ((110, (149, 215)) :: ((110, (147, 214)) :: ((110, (146, 213)) :: ((110, (145, 212)) :: ((110, (144, 211)) :: ((110, (143, 210)) :: ((110, (142, 209)) :: ((110, (141, 208)) :: ((110, (140, 207)) :: ((110, (139, 206)) :: ((110, (137, 205)) :: ((110, (135, 204)) :: ((110, (133, 203)) :: ((110, (132, 202)) :: ((110, (131, 201)) :: ((110, (130, 200)) :: ((110, (129, 199)) :: ((110, (128, 198)) :: ((110, (127, 197)) :: ((110, (126, 196)) :: ((110, (125, 195)) :: ((110, (124, 194)) :: ((110, (123, 193)) :: ((110, (122, 192)) :: ((110, (121, 191)) :: ((110, (120, 190)) :: ((110, (119, 189)) :: ((110, (116, 188)) :: ((110, (115, 187)) :: ((110, (114, 186)) :: ((110, (113, 185)) :: ((110, (111, 184)) :: ((110, (110, 183)) :: ((110, (108, 182)) :: ((110, (106, 181)) :: ((110, (105, 180)) :: ((110, (104, 179)) :: ((110, (103, 178)) :: ((110, (102, 177)) :: ((110, (101, 176)) :: ((110, (100, 175)) :: ((110, (99, 174)) :: ((110, (98, 173)) :: ((110, (97, 172)) :: ((110, (94, 171)) :: ((110, (93, 170)) :: ((110, (92, 169)) :: ((110, (91, 168)) :: ((110, (90, 167)) :: ((110, (89, 166)) :: ((110, (88, 165)) :: ((110, (87, 164)) :: ((110, (86, 163)) :: ((110, (84, 162)) :: ((110, (83, 161)) :: ((110, (80, 160)) :: ((110, (79, 159)) :: ((110, (78, 158)) :: ((110, (76, 157)) :: ((110, (73, 156)) :: ((110, (72, 155)) :: ((110, (70, 154)) :: ((110, (63, 153)) :: ((110, (62, 152)) :: ((110, (55, 151)) :: ((110, (54, 150)) :: ((110, (53, 149)) :: ((110, (51, 148)) :: ((110, (50, 147)) :: ((110, (49, 146)) :: ((110, (48, 145)) :: ((110, (47, 144)) :: ((110, (45, 143)) :: ((110, (44, 142)) :: ((110, (43, 141)) :: ((110, (42, 140)) :: ((110, (41, 139)) :: ((110, (40, 138)) :: ((110, (39, 137)) :: ((110, (38, 136)) :: ((110, (37, 135)) :: ((110, (36, 134)) :: ((110, (35, 133)) :: ((110, (34, 132)) :: ((110, (33, 131)) :: ((110, (25, 130)) :: ((110, (24, 129)) :: ((110, (23, 128)) :: ((110, (22, 127)) :: ((110, (21, 126)) :: ((110, (19, 125)) :: ((110, (18, 124)) :: ((110, (17, 123)) :: ((110, (16, 122)) :: ((110, (15, 121)) :: ((110, (14, 120)) :: ((110, (13, 119)) :: ((110, (12, 118)) :: ((110, (11, 117)) :: ((110, (10, 116)) :: ((110, (9, 115)) :: ((110, (5, 114)) :: ((110, (4, 113)) :: ((110, (2, 112)) :: B)))))))))))))))))))))))))))))))))))))))))))))))))))))))))))))))))))))))))))))))))))))))))))))))))))))))))) : Cx E Y_M_init [.ref 110] 111 (s0 A B) K := by
  refine x_entry (by decide) (fun a => Nat.le_of_ble_eq_true rfl) rfl ?_
  refine y_aload_n (q := 0) d_M_init_0 rfl rfl ?_
  refine y_objInit d_M_init_1 k_8_172 k_1_28 k_1_29 (Nat.le_of_ble_eq_true rfl) (Nat.le_of_ble_eq_true rfl) (Nat.le_of_ble_eq_true rfl) ?_
  refine y_aload_n (q := 0) d_M_init_4 rfl rfl ?_
  refine y_sipush (v := 1200) d_M_init_5 (by decide) ?_
  refine n_newi (z := 1200) (n' := 112) (cs' := 1) (ss' := 1200) hA hB (by decide) d_M_init_8 k_1_72 (by decide) (by decide) (by decide) rfl (Nat.le_of_ble_eq_true rfl) (Nat.le_of_ble_eq_true rfl) rfl rfl ⟨rfl, rfl, rfl⟩ ?_
  have hA := hA.le (show 111 ≤ 112 from by decide)
  have hB := hB.le (show 111 ≤ 112 from by decide)
  refine n_putrF (j := 2) (v := 112) fl_M_7 rfl rfl (by decide) (by decide) rfl (by decide) rfl (fun _ => rfl) (fun _ => rfl) rfl d_M_init_10 ?_
  have hB := hB.cons (k := 110) (v := (2, 112)) (by decide)
  refine y_aload_n (q := 0) d_M_init_13 rfl rfl ?_
  refine y_sipush (v := 1800) d_M_init_14 (by decide) ?_
  refine n_newi (z := 1800) (n' := 113) (cs' := 2) (ss' := 3000) hA hB (by decide) d_M_init_17 k_1_72 (by decide) (by decide) (by decide) rfl (Nat.le_of_ble_eq_true rfl) (Nat.le_of_ble_eq_true rfl) rfl rfl ⟨rfl, rfl, rfl⟩ ?_
  have hA := hA.le (show 112 ≤ 113 from by decide)
  have hB := hB.le (show 112 ≤ 113 from by decide)
  refine n_putrF (j := 4) (v := 113) fl_M_13 rfl rfl (by decide) (by decide) rfl (by decide) rfl (fun _ => rfl) (fun _ => rfl) rfl d_M_init_19 ?_
  have hB := hB.cons (k := 110) (v := (4, 113)) (by decide)
  refine y_aload_n (q := 0) d_M_init_22 rfl rfl ?_
  refine y_sipush (v := 300) d_M_init_23 (by decide) ?_
  refine n_newi (z := 300) (n' := 114) (cs' := 3) (ss' := 3300) hA hB (by decide) d_M_init_26 k_1_72 (by decide) (by decide) (by decide) rfl (Nat.le_of_ble_eq_true rfl) (Nat.le_of_ble_eq_true rfl) rfl rfl ⟨rfl, rfl, rfl⟩ ?_
  have hA := hA.le (show 113 ≤ 114 from by decide)
  have hB := hB.le (show 113 ≤ 114 from by decide)
  refine n_putrF (j := 5) (v := 114) fl_M_16 rfl rfl (by decide) (by decide) rfl (by decide) rfl (fun _ => rfl) (fun _ => rfl) rfl d_M_init_28 ?_
  have hB := hB.cons (k := 110) (v := (5, 114)) (by decide)
  refine y_aload_n (q := 0) d_M_init_31 rfl rfl ?_
  refine y_sipush (v := 201) d_M_init_32 (by decide) ?_
  refine n_newi (z := 201) (n' := 115) (cs' := 4) (ss' := 3501) hA hB (by decide) d_M_init_35 k_1_72 (by decide) (by decide) (by decide) rfl (Nat.le_of_ble_eq_true rfl) (Nat.le_of_ble_eq_true rfl) rfl rfl ⟨rfl, rfl, rfl⟩ ?_
  have hA := hA.le (show 114 ≤ 115 from by decide)
  have hB := hB.le (show 114 ≤ 115 from by decide)
  refine n_putrF (j := 9) (v := 115) fl_M_19 rfl rfl (by decide) (by decide) rfl (by decide) rfl (fun _ => rfl) (fun _ => rfl) rfl d_M_init_37 ?_
  have hB := hB.cons (k := 110) (v := (9, 115)) (by decide)
  refine y_aload_n (q := 0) d_M_init_40 rfl rfl ?_
  refine y_sipush (v := 201) d_M_init_41 (by decide) ?_
  refine n_newi (z := 201) (n' := 116) (cs' := 5) (ss' := 3702) hA hB (by decide) d_M_init_44 k_1_72 (by decide) (by decide) (by decide) rfl (Nat.le_of_ble_eq_true rfl) (Nat.le_of_ble_eq_true rfl) rfl rfl ⟨rfl, rfl, rfl⟩ ?_
  have hA := hA.le (show 115 ≤ 116 from by decide)
  have hB := hB.le (show 115 ≤ 116 from by decide)
  refine n_putrF (j := 10) (v := 116) fl_M_22 rfl rfl (by decide) (by decide) rfl (by decide) rfl (fun _ => rfl) (fun _ => rfl) rfl d_M_init_46 ?_
  have hB := hB.cons (k := 110) (v := (10, 116)) (by decide)
  refine y_aload_n (q := 0) d_M_init_49 rfl rfl ?_
  refine y_sipush (v := 201) d_M_init_50 (by decide) ?_
  refine n_newi (z := 201) (n' := 117) (cs' := 6) (ss' := 3903) hA hB (by decide) d_M_init_53 k_1_72 (by decide) (by decide) (by decide) rfl (Nat.le_of_ble_eq_true rfl) (Nat.le_of_ble_eq_true rfl) rfl rfl ⟨rfl, rfl, rfl⟩ ?_
  have hA := hA.le (show 116 ≤ 117 from by decide)
  have hB := hB.le (show 116 ≤ 117 from by decide)
  refine n_putrF (j := 11) (v := 117) fl_M_25 rfl rfl (by decide) (by decide) rfl (by decide) rfl (fun _ => rfl) (fun _ => rfl) rfl d_M_init_55 ?_
  have hB := hB.cons (k := 110) (v := (11, 117)) (by decide)
  refine y_aload_n (q := 0) d_M_init_58 rfl rfl ?_
  refine y_sipush (v := 201) d_M_init_59 (by decide) ?_
  refine n_newi (z := 201) (n' := 118) (cs' := 7) (ss' := 4104) hA hB (by decide) d_M_init_62 k_1_72 (by decide) (by decide) (by decide) rfl (Nat.le_of_ble_eq_true rfl) (Nat.le_of_ble_eq_true rfl) rfl rfl ⟨rfl, rfl, rfl⟩ ?_
  have hA := hA.le (show 117 ≤ 118 from by decide)
  have hB := hB.le (show 117 ≤ 118 from by decide)
  refine n_putrF (j := 12) (v := 118) fl_M_28 rfl rfl (by decide) (by decide) rfl (by decide) rfl (fun _ => rfl) (fun _ => rfl) rfl d_M_init_64 ?_
  have hB := hB.cons (k := 110) (v := (12, 118)) (by decide)
  refine y_aload_n (q := 0) d_M_init_67 rfl rfl ?_
  refine y_sipush (v := 201) d_M_init_68 (by decide) ?_
  refine n_newi (z := 201) (n' := 119) (cs' := 8) (ss' := 4305) hA hB (by decide) d_M_init_71 k_1_72 (by decide) (by decide) (by decide) rfl (Nat.le_of_ble_eq_true rfl) (Nat.le_of_ble_eq_true rfl) rfl rfl ⟨rfl, rfl, rfl⟩ ?_
  have hA := hA.le (show 118 ≤ 119 from by decide)
  have hB := hB.le (show 118 ≤ 119 from by decide)
  refine n_putrF (j := 13) (v := 119) fl_M_31 rfl rfl (by decide) (by decide) rfl (by decide) rfl (fun _ => rfl) (fun _ => rfl) rfl d_M_init_73 ?_
  have hB := hB.cons (k := 110) (v := (13, 119)) (by decide)
  refine y_aload_n (q := 0) d_M_init_76 rfl rfl ?_
  refine y_sipush (v := 201) d_M_init_77 (by decide) ?_
  refine n_newi (z := 201) (n' := 120) (cs' := 9) (ss' := 4506) hA hB (by decide) d_M_init_80 k_1_72 (by decide) (by decide) (by decide) rfl (Nat.le_of_ble_eq_true rfl) (Nat.le_of_ble_eq_true rfl) rfl rfl ⟨rfl, rfl, rfl⟩ ?_
  have hA := hA.le (show 119 ≤ 120 from by decide)
  have hB := hB.le (show 119 ≤ 120 from by decide)
  refine n_putrF (j := 14) (v := 120) fl_M_34 rfl rfl (by decide) (by decide) rfl (by decide) rfl (fun _ => rfl) (fun _ => rfl) rfl d_M_init_82 ?_
  have hB := hB.cons (k := 110) (v := (14, 120)) (by decide)
  refine y_aload_n (q := 0) d_M_init_85 rfl rfl ?_
  refine y_bipush (v := 16) d_M_init_86 (by decide) ?_
  refine n_newz (z := 16) (n' := 121) (cs' := 10) (ss' := 4522) hA hB (by decide) d_M_init_88 k_1_114 (by decide) (by decide) (by decide) rfl (Nat.le_of_ble_eq_true rfl) (Nat.le_of_ble_eq_true rfl) rfl rfl ⟨rfl, rfl, rfl⟩ ?_
  have hA := hA.le (show 120 ≤ 121 from by decide)
  have hB := hB.le (show 120 ≤ 121 from by decide)
  refine n_putrF (j := 15) (v := 121) fl_M_37 rfl rfl (by decide) (by decide) rfl (by decide) rfl (fun _ => rfl) (fun _ => rfl) rfl d_M_init_90 ?_
  have hB := hB.cons (k := 110) (v := (15, 121)) (by decide)
  refine y_aload_n (q := 0) d_M_init_93 rfl rfl ?_
  refine y_sipush (v := 480) d_M_init_94 (by decide) ?_
  refine n_newi (z := 480) (n' := 122) (cs' := 11) (ss' := 5002) hA hB (by decide) d_M_init_97 k_1_72 (by decide) (by decide) (by decide) rfl (Nat.le_of_ble_eq_true rfl) (Nat.le_of_ble_eq_true rfl) rfl rfl ⟨rfl, rfl, rfl⟩ ?_
  have hA := hA.le (show 121 ≤ 122 from by decide)
  have hB := hB.le (show 121 ≤ 122 from by decide)
  refine n_putrF (j := 16) (v := 122) fl_M_41 rfl rfl (by decide) (by decide) rfl (by decide) rfl (fun _ => rfl) (fun _ => rfl) rfl d_M_init_99 ?_
  have hB := hB.cons (k := 110) (v := (16, 122)) (by decide)
  refine y_aload_n (q := 0) d_M_init_102 rfl rfl ?_
  refine y_sipush (v := 480) d_M_init_103 (by decide) ?_
  refine n_newi (z := 480) (n' := 123) (cs' := 12) (ss' := 5482) hA hB (by decide) d_M_init_106 k_1_72 (by decide) (by decide) (by decide) rfl (Nat.le_of_ble_eq_true rfl) (Nat.le_of_ble_eq_true rfl) rfl rfl ⟨rfl, rfl, rfl⟩ ?_
  have hA := hA.le (show 122 ≤ 123 from by decide)
  have hB := hB.le (show 122 ≤ 123 from by decide)
  refine n_putrF (j := 17) (v := 123) fl_M_44 rfl rfl (by decide) (by decide) rfl (by decide) rfl (fun _ => rfl) (fun _ => rfl) rfl d_M_init_108 ?_
  have hB := hB.cons (k := 110) (v := (17, 123)) (by decide)
  refine y_aload_n (q := 0) d_M_init_111 rfl rfl ?_
  refine y_sipush (v := 9600) d_M_init_112 (by decide) ?_
  refine n_newj (z := 9600) (n' := 124) (cs' := 13) (ss' := 15082) hA hB (by decide) d_M_init_115 k_1_73 (by decide) (by decide) (by decide) rfl (Nat.le_of_ble_eq_true rfl) (Nat.le_of_ble_eq_true rfl) rfl rfl ⟨rfl, rfl, rfl⟩ ?_
  have hA := hA.le (show 123 ≤ 124 from by decide)
  have hB := hB.le (show 123 ≤ 124 from by decide)
  refine n_putrF (j := 18) (v := 124) fl_M_47 rfl rfl (by decide) (by decide) rfl (by decide) rfl (fun _ => rfl) (fun _ => rfl) rfl d_M_init_117 ?_
  have hB := hB.cons (k := 110) (v := (18, 124)) (by decide)
  refine y_aload_n (q := 0) d_M_init_120 rfl rfl ?_
  refine y_bipush (v := 20) d_M_init_121 (by decide) ?_
  refine n_newj (z := 20) (n' := 125) (cs' := 14) (ss' := 15102) hA hB (by decide) d_M_init_123 k_1_73 (by decide) (by decide) (by decide) rfl (Nat.le_of_ble_eq_true rfl) (Nat.le_of_ble_eq_true rfl) rfl rfl ⟨rfl, rfl, rfl⟩ ?_
  have hA := hA.le (show 124 ≤ 125 from by decide)
  have hB := hB.le (show 124 ≤ 125 from by decide)
  refine n_putrF (j := 19) (v := 125) fl_M_51 rfl rfl (by decide) (by decide) rfl (by decide) rfl (fun _ => rfl) (fun _ => rfl) rfl d_M_init_125 ?_
  have hB := hB.cons (k := 110) (v := (19, 125)) (by decide)
  refine y_aload_n (q := 0) d_M_init_128 rfl rfl ?_
  refine y_iconst (v := 1) d_M_init_129 (by decide) ?_
  refine n_puti (j := 20) fl_M_54 (by decide) rfl (by decide) rfl rfl rfl d_M_init_130 ?_
  have hA := hA.cons (k := 110) (v := (20, 1)) (by decide)
  refine y_aload_n (q := 0) d_M_init_133 rfl rfl ?_
  refine y_bipush (v := 40) d_M_init_134 (by decide) ?_
  refine n_newi (z := 40) (n' := 126) (cs' := 15) (ss' := 15142) hA hB (by decide) d_M_init_136 k_1_72 (by decide) (by decide) (by decide) rfl (Nat.le_of_ble_eq_true rfl) (Nat.le_of_ble_eq_true rfl) rfl rfl ⟨rfl, rfl, rfl⟩ ?_
  have hA := hA.le (show 125 ≤ 126 from by decide)
  have hB := hB.le (show 125 ≤ 126 from by decide)
  refine n_putrF (j := 21) (v := 126) fl_M_58 rfl rfl (by decide) (by decide) rfl (by decide) rfl (fun _ => rfl) (fun _ => rfl) rfl d_M_init_138 ?_
  have hB := hB.cons (k := 110) (v := (21, 126)) (by decide)
  refine y_aload_n (q := 0) d_M_init_141 rfl rfl ?_
  refine y_bipush (v := 40) d_M_init_142 (by decide) ?_
  refine n_newi (z := 40) (n' := 127) (cs' := 16) (ss' := 15182) hA hB (by decide) d_M_init_144 k_1_72 (by decide) (by decide) (by decide) rfl (Nat.le_of_ble_eq_true rfl) (Nat.le_of_ble_eq_true rfl) rfl rfl ⟨rfl, rfl, rfl⟩ ?_
  have hA := hA.le (show 126 ≤ 127 from by decide)
  have hB := hB.le (show 126 ≤ 127 from by decide)
  refine n_putrF (j := 22) (v := 127) fl_M_61 rfl rfl (by decide) (by decide) rfl (by decide) rfl (fun _ => rfl) (fun _ => rfl) rfl d_M_init_146 ?_
  have hB := hB.cons (k := 110) (v := (22, 127)) (by decide)
  refine y_aload_n (q := 0) d_M_init_149 rfl rfl ?_
  refine y_bipush (v := 40) d_M_init_150 (by decide) ?_
  refine n_newz (z := 40) (n' := 128) (cs' := 17) (ss' := 15222) hA hB (by decide) d_M_init_152 k_1_114 (by decide) (by decide) (by decide) rfl (Nat.le_of_ble_eq_true rfl) (Nat.le_of_ble_eq_true rfl) rfl rfl ⟨rfl, rfl, rfl⟩ ?_
  have hA := hA.le (show 127 ≤ 128 from by decide)
  have hB := hB.le (show 127 ≤ 128 from by decide)
  refine n_putrF (j := 23) (v := 128) fl_M_64 rfl rfl (by decide) (by decide) rfl (by decide) rfl (fun _ => rfl) (fun _ => rfl) rfl d_M_init_154 ?_
  have hB := hB.cons (k := 110) (v := (23, 128)) (by decide)
  refine y_aload_n (q := 0) d_M_init_157 rfl rfl ?_
  refine y_bipush (v := 40) d_M_init_158 (by decide) ?_
  refine n_newz (z := 40) (n' := 129) (cs' := 18) (ss' := 15262) hA hB (by decide) d_M_init_160 k_1_114 (by decide) (by decide) (by decide) rfl (Nat.le_of_ble_eq_true rfl) (Nat.le_of_ble_eq_true rfl) rfl rfl ⟨rfl, rfl, rfl⟩ ?_
  have hA := hA.le (show 128 ≤ 129 from by decide)
  have hB := hB.le (show 128 ≤ 129 from by decide)
  refine n_putrF (j := 24) (v := 129) fl_M_67 rfl rfl (by decide) (by decide) rfl (by decide) rfl (fun _ => rfl) (fun _ => rfl) rfl d_M_init_162 ?_
  have hB := hB.cons (k := 110) (v := (24, 129)) (by decide)
  refine y_aload_n (q := 0) d_M_init_165 rfl rfl ?_
  refine y_bipush (v := 36) d_M_init_166 (by decide) ?_
  refine n_newz (z := 36) (n' := 130) (cs' := 19) (ss' := 15298) hA hB (by decide) d_M_init_168 k_1_114 (by decide) (by decide) (by decide) rfl (Nat.le_of_ble_eq_true rfl) (Nat.le_of_ble_eq_true rfl) rfl rfl ⟨rfl, rfl, rfl⟩ ?_
  have hA := hA.le (show 129 ≤ 130 from by decide)
  have hB := hB.le (show 129 ≤ 130 from by decide)
  refine n_putrF (j := 25) (v := 130) fl_M_70 rfl rfl (by decide) (by decide) rfl (by decide) rfl (fun _ => rfl) (fun _ => rfl) rfl d_M_init_170 ?_
  have hB := hB.cons (k := 110) (v := (25, 130)) (by decide)
  refine y_aload_n (q := 0) d_M_init_173 rfl rfl ?_
  refine y_bipush (v := 8) d_M_init_174 (by decide) ?_
  refine n_newi (z := 8) (n' := 131) (cs' := 20) (ss' := 15306) hA hB (by decide) d_M_init_176 k_1_72 (by decide) (by decide) (by decide) rfl (Nat.le_of_ble_eq_true rfl) (Nat.le_of_ble_eq_true rfl) rfl rfl ⟨rfl, rfl, rfl⟩ ?_
  have hA := hA.le (show 130 ≤ 131 from by decide)
  have hB := hB.le (show 130 ≤ 131 from by decide)
  refine n_putrF (j := 33) (v := 131) fl_M_73 rfl rfl (by decide) (by decide) rfl (by decide) rfl (fun _ => rfl) (fun _ => rfl) rfl d_M_init_178 ?_
  have hB := hB.cons (k := 110) (v := (33, 131)) (by decide)
  refine y_aload_n (q := 0) d_M_init_181 rfl rfl ?_
  refine y_bipush (v := 8) d_M_init_182 (by decide) ?_
  refine n_newi (z := 8) (n' := 132) (cs' := 21) (ss' := 15314) hA hB (by decide) d_M_init_184 k_1_72 (by decide) (by decide) (by decide) rfl (Nat.le_of_ble_eq_true rfl) (Nat.le_of_ble_eq_true rfl) rfl rfl ⟨rfl, rfl, rfl⟩ ?_
  have hA := hA.le (show 131 ≤ 132 from by decide)
  have hB := hB.le (show 131 ≤ 132 from by decide)
  refine n_putrF (j := 34) (v := 132) fl_M_76 rfl rfl (by decide) (by decide) rfl (by decide) rfl (fun _ => rfl) (fun _ => rfl) rfl d_M_init_186 ?_
  have hB := hB.cons (k := 110) (v := (34, 132)) (by decide)
  refine y_aload_n (q := 0) d_M_init_189 rfl rfl ?_
  refine y_sipush (v := 240) d_M_init_190 (by decide) ?_
  refine n_newi (z := 240) (n' := 133) (cs' := 22) (ss' := 15554) hA hB (by decide) d_M_init_193 k_1_72 (by decide) (by decide) (by decide) rfl (Nat.le_of_ble_eq_true rfl) (Nat.le_of_ble_eq_true rfl) rfl rfl ⟨rfl, rfl, rfl⟩ ?_
  have hA := hA.le (show 132 ≤ 133 from by decide)
  have hB := hB.le (show 132 ≤ 133 from by decide)
  refine n_putrF (j := 35) (v := 133) fl_M_79 rfl rfl (by decide) (by decide) rfl (by decide) rfl (fun _ => rfl) (fun _ => rfl) rfl d_M_init_195 ?_
  have hB := hB.cons (k := 110) (v := (35, 133)) (by decide)
  refine y_aload_n (q := 0) d_M_init_198 rfl rfl ?_
  refine y_sipush (v := 240) d_M_init_199 (by decide) ?_
  refine n_newi (z := 240) (n' := 134) (cs' := 23) (ss' := 15794) hA hB (by decide) d_M_init_202 k_1_72 (by decide) (by decide) (by decide) rfl (Nat.le_of_ble_eq_true rfl) (Nat.le_of_ble_eq_true rfl) rfl rfl ⟨rfl, rfl, rfl⟩ ?_
  have hA := hA.le (show 133 ≤ 134 from by decide)
  have hB := hB.le (show 133 ≤ 134 from by decide)
  refine n_putrF (j := 36) (v := 134) fl_M_82 rfl rfl (by decide) (by decide) rfl (by decide) rfl (fun _ => rfl) (fun _ => rfl) rfl d_M_init_204 ?_
  have hB := hB.cons (k := 110) (v := (36, 134)) (by decide)
  refine y_aload_n (q := 0) d_M_init_207 rfl rfl ?_
  refine y_sipush (v := 240) d_M_init_208 (by decide) ?_
  refine n_newi (z := 240) (n' := 135) (cs' := 24) (ss' := 16034) hA hB (by decide) d_M_init_211 k_1_72 (by decide) (by decide) (by decide) rfl (Nat.le_of_ble_eq_true rfl) (Nat.le_of_ble_eq_true rfl) rfl rfl ⟨rfl, rfl, rfl⟩ ?_
  have hA := hA.le (show 134 ≤ 135 from by decide)
  have hB := hB.le (show 134 ≤ 135 from by decide)
  refine n_putrF (j := 37) (v := 135) fl_M_85 rfl rfl (by decide) (by decide) rfl (by decide) rfl (fun _ => rfl) (fun _ => rfl) rfl d_M_init_213 ?_
  have hB := hB.cons (k := 110) (v := (37, 135)) (by decide)
  refine y_aload_n (q := 0) d_M_init_216 rfl rfl ?_
  refine y_sipush (v := 240) d_M_init_217 (by decide) ?_
  refine n_newi (z := 240) (n' := 136) (cs' := 25) (ss' := 16274) hA hB (by decide) d_M_init_220 k_1_72 (by decide) (by decide) (by decide) rfl (Nat.le_of_ble_eq_true rfl) (Nat.le_of_ble_eq_true rfl) rfl rfl ⟨rfl, rfl, rfl⟩ ?_
  have hA := hA.le (show 135 ≤ 136 from by decide)
  have hB := hB.le (show 135 ≤ 136 from by decide)
  refine n_putrF (j := 38) (v := 136) fl_M_88 rfl rfl (by decide) (by decide) rfl (by decide) rfl (fun _ => rfl) (fun _ => rfl) rfl d_M_init_222 ?_
  have hB := hB.cons (k := 110) (v := (38, 136)) (by decide)
  refine y_aload_n (q := 0) d_M_init_225 rfl rfl ?_
  refine y_sipush (v := 240) d_M_init_226 (by decide) ?_
  refine n_newi (z := 240) (n' := 137) (cs' := 26) (ss' := 16514) hA hB (by decide) d_M_init_229 k_1_72 (by decide) (by decide) (by decide) rfl (Nat.le_of_ble_eq_true rfl) (Nat.le_of_ble_eq_true rfl) rfl rfl ⟨rfl, rfl, rfl⟩ ?_
  have hA := hA.le (show 136 ≤ 137 from by decide)
  have hB := hB.le (show 136 ≤ 137 from by decide)
  refine n_putrF (j := 39) (v := 137) fl_M_91 rfl rfl (by decide) (by decide) rfl (by decide) rfl (fun _ => rfl) (fun _ => rfl) rfl d_M_init_231 ?_
  have hB := hB.cons (k := 110) (v := (39, 137)) (by decide)
  refine y_aload_n (q := 0) d_M_init_234 rfl rfl ?_
  refine y_sipush (v := 240) d_M_init_235 (by decide) ?_
  refine n_newi (z := 240) (n' := 138) (cs' := 27) (ss' := 16754) hA hB (by decide) d_M_init_238 k_1_72 (by decide) (by decide) (by decide) rfl (Nat.le_of_ble_eq_true rfl) (Nat.le_of_ble_eq_true rfl) rfl rfl ⟨rfl, rfl, rfl⟩ ?_
  have hA := hA.le (show 137 ≤ 138 from by decide)
  have hB := hB.le (show 137 ≤ 138 from by decide)
  refine n_putrF (j := 40) (v := 138) fl_M_94 rfl rfl (by decide) (by decide) rfl (by decide) rfl (fun _ => rfl) (fun _ => rfl) rfl d_M_init_240 ?_
  have hB := hB.cons (k := 110) (v := (40, 138)) (by decide)
  refine y_aload_n (q := 0) d_M_init_243 rfl rfl ?_
  refine y_sipush (v := 240) d_M_init_244 (by decide) ?_
  refine n_newi (z := 240) (n' := 139) (cs' := 28) (ss' := 16994) hA hB (by decide) d_M_init_247 k_1_72 (by decide) (by decide) (by decide) rfl (Nat.le_of_ble_eq_true rfl) (Nat.le_of_ble_eq_true rfl) rfl rfl ⟨rfl, rfl, rfl⟩ ?_
  have hA := hA.le (show 138 ≤ 139 from by decide)
  have hB := hB.le (show 138 ≤ 139 from by decide)
  refine n_putrF (j := 41) (v := 139) fl_M_97 rfl rfl (by decide) (by decide) rfl (by decide) rfl (fun _ => rfl) (fun _ => rfl) rfl d_M_init_249 ?_
  have hB := hB.cons (k := 110) (v := (41, 139)) (by decide)
  refine y_aload_n (q := 0) d_M_init_252 rfl rfl ?_
  refine y_sipush (v := 240) d_M_init_253 (by decide) ?_
  refine n_newi (z := 240) (n' := 140) (cs' := 29) (ss' := 17234) hA hB (by decide) d_M_init_256 k_1_72 (by decide) (by decide) (by decide) rfl (Nat.le_of_ble_eq_true rfl) (Nat.le_of_ble_eq_true rfl) rfl rfl ⟨rfl, rfl, rfl⟩ ?_
  have hA := hA.le (show 139 ≤ 140 from by decide)
  have hB := hB.le (show 139 ≤ 140 from by decide)
  refine n_putrF (j := 42) (v := 140) fl_M_100 rfl rfl (by decide) (by decide) rfl (by decide) rfl (fun _ => rfl) (fun _ => rfl) rfl d_M_init_258 ?_
  have hB := hB.cons (k := 110) (v := (42, 140)) (by decide)
  refine y_aload_n (q := 0) d_M_init_261 rfl rfl ?_
  refine y_sipush (v := 240) d_M_init_262 (by decide) ?_
  refine n_newi (z := 240) (n' := 141) (cs' := 30) (ss' := 17474) hA hB (by decide) d_M_init_265 k_1_72 (by decide) (by decide) (by decide) rfl (Nat.le_of_ble_eq_true rfl) (Nat.le_of_ble_eq_true rfl) rfl rfl ⟨rfl, rfl, rfl⟩ ?_
  have hA := hA.le (show 140 ≤ 141 from by decide)
  have hB := hB.le (show 140 ≤ 141 from by decide)
  refine n_putrF (j := 43) (v := 141) fl_M_103 rfl rfl (by decide) (by decide) rfl (by decide) rfl (fun _ => rfl) (fun _ => rfl) rfl d_M_init_267 ?_
  have hB := hB.cons (k := 110) (v := (43, 141)) (by decide)
  refine y_aload_n (q := 0) d_M_init_270 rfl rfl ?_
  refine y_sipush (v := 10400) d_M_init_271 (by decide) ?_
  refine n_newi (z := 10400) (n' := 142) (cs' := 31) (ss' := 27874) hA hB (by decide) d_M_init_274 k_1_72 (by decide) (by decide) (by decide) rfl (Nat.le_of_ble_eq_true rfl) (Nat.le_of_ble_eq_true rfl) rfl rfl ⟨rfl, rfl, rfl⟩ ?_
  have hA := hA.le (show 141 ≤ 142 from by decide)
  have hB := hB.le (show 141 ≤ 142 from by decide)
  refine n_putrF (j := 44) (v := 142) fl_M_106 rfl rfl (by decide) (by decide) rfl (by decide) rfl (fun _ => rfl) (fun _ => rfl) rfl d_M_init_276 ?_
  have hB := hB.cons (k := 110) (v := (44, 142)) (by decide)
  refine y_aload_n (q := 0) d_M_init_279 rfl rfl ?_
  refine y_sipush (v := 10400) d_M_init_280 (by decide) ?_
  refine n_newj (z := 10400) (n' := 143) (cs' := 32) (ss' := 38274) hA hB (by decide) d_M_init_283 k_1_73 (by decide) (by decide) (by decide) rfl (Nat.le_of_ble_eq_true rfl) (Nat.le_of_ble_eq_true rfl) rfl rfl ⟨rfl, rfl, rfl⟩ ?_
  have hA := hA.le (show 142 ≤ 143 from by decide)
  have hB := hB.le (show 142 ≤ 143 from by decide)
  refine n_putrF (j := 45) (v := 143) fl_M_109 rfl rfl (by decide) (by decide) rfl (by decide) rfl (fun _ => rfl) (fun _ => rfl) rfl d_M_init_285 ?_
  have hB := hB.cons (k := 110) (v := (45, 143)) (by decide)
  refine y_aload_n (q := 0) d_M_init_288 rfl rfl ?_
  refine y_bipush (v := 24) d_M_init_289 (by decide) ?_
  refine n_newi (z := 24) (n' := 144) (cs' := 33) (ss' := 38298) hA hB (by decide) d_M_init_291 k_1_72 (by decide) (by decide) (by decide) rfl (Nat.le_of_ble_eq_true rfl) (Nat.le_of_ble_eq_true rfl) rfl rfl ⟨rfl, rfl, rfl⟩ ?_
  have hA := hA.le (show 143 ≤ 144 from by decide)
  have hB := hB.le (show 143 ≤ 144 from by decide)
  refine n_putrF (j := 47) (v := 144) fl_M_112 rfl rfl (by decide) (by decide) rfl (by decide) rfl (fun _ => rfl) (fun _ => rfl) rfl d_M_init_293 ?_
  have hB := hB.cons (k := 110) (v := (47, 144)) (by decide)
  refine y_aload_n (q := 0) d_M_init_296 rfl rfl ?_
  refine y_bipush (v := 24) d_M_init_297 (by decide) ?_
  refine n_newz (z := 24) (n' := 145) (cs' := 34) (ss' := 38322) hA hB (by decide) d_M_init_299 k_1_114 (by decide) (by decide) (by decide) rfl (Nat.le_of_ble_eq_true rfl) (Nat.le_of_ble_eq_true rfl) rfl rfl ⟨rfl, rfl, rfl⟩ ?_
  have hA := hA.le (show 144 ≤ 145 from by decide)
  have hB := hB.le (show 144 ≤ 145 from by decide)
  refine n_putrF (j := 48) (v := 145) fl_M_115 rfl rfl (by decide) (by decide) rfl (by decide) rfl (fun _ => rfl) (fun _ => rfl) rfl d_M_init_301 ?_
  have hB := hB.cons (k := 110) (v := (48, 145)) (by decide)
  refine y_aload_n (q := 0) d_M_init_304 rfl rfl ?_
  refine y_bipush (v := 24) d_M_init_305 (by decide) ?_
  refine n_newi (z := 24) (n' := 146) (cs' := 35) (ss' := 38346) hA hB (by decide) d_M_init_307 k_1_72 (by decide) (by decide) (by decide) rfl (Nat.le_of_ble_eq_true rfl) (Nat.le_of_ble_eq_true rfl) rfl rfl ⟨rfl, rfl, rfl⟩ ?_
  have hA := hA.le (show 145 ≤ 146 from by decide)
  have hB := hB.le (show 145 ≤ 146 from by decide)
  refine n_putrF (j := 49) (v := 146) fl_M_118 rfl rfl (by decide) (by decide) rfl (by decide) rfl (fun _ => rfl) (fun _ => rfl) rfl d_M_init_309 ?_
  have hB := hB.cons (k := 110) (v := (49, 146)) (by decide)
  refine y_aload_n (q := 0) d_M_init_312 rfl rfl ?_
  refine y_bipush (v := 24) d_M_init_313 (by decide) ?_
  refine n_newi (z := 24) (n' := 147) (cs' := 36) (ss' := 38370) hA hB (by decide) d_M_init_315 k_1_72 (by decide) (by decide) (by decide) rfl (Nat.le_of_ble_eq_true rfl) (Nat.le_of_ble_eq_true rfl) rfl rfl ⟨rfl, rfl, rfl⟩ ?_
  have hA := hA.le (show 146 ≤ 147 from by decide)
  have hB := hB.le (show 146 ≤ 147 from by decide)
  refine n_putrF (j := 50) (v := 147) fl_M_121 rfl rfl (by decide) (by decide) rfl (by decide) rfl (fun _ => rfl) (fun _ => rfl) rfl d_M_init_317 ?_
  have hB := hB.cons (k := 110) (v := (50, 147)) (by decide)
  refine y_aload_n (q := 0) d_M_init_320 rfl rfl ?_
  refine y_bipush (v := 24) d_M_init_321 (by decide) ?_
  refine n_newi (z := 24) (n' := 148) (cs' := 37) (ss' := 38394) hA hB (by decide) d_M_init_323 k_1_72 (by decide) (by decide) (by decide) rfl (Nat.le_of_ble_eq_true rfl) (Nat.le_of_ble_eq_true rfl) rfl rfl ⟨rfl, rfl, rfl⟩ ?_
  have hA := hA.le (show 147 ≤ 148 from by decide)
  have hB := hB.le (show 147 ≤ 148 from by decide)
  refine n_putrF (j := 51) (v := 148) fl_M_124 rfl rfl (by decide) (by decide) rfl (by decide) rfl (fun _ => rfl) (fun _ => rfl) rfl d_M_init_325 ?_
  have hB := hB.cons (k := 110) (v := (51, 148)) (by decide)
  refine y_aload_n (q := 0) d_M_init_328 rfl rfl ?_
  refine y_sipush (v := 1300) d_M_init_329 (by decide) ?_
  refine n_newi (z := 1300) (n' := 149) (cs' := 38) (ss' := 39694) hA hB (by decide) d_M_init_332 k_1_72 (by decide) (by decide) (by decide) rfl (Nat.le_of_ble_eq_true rfl) (Nat.le_of_ble_eq_true rfl) rfl rfl ⟨rfl, rfl, rfl⟩ ?_
  have hA := hA.le (show 148 ≤ 149 from by decide)
  have hB := hB.le (show 148 ≤ 149 from by decide)
  refine n_putrF (j := 53) (v := 149) fl_M_127 rfl rfl (by decide) (by decide) rfl (by decide) rfl (fun _ => rfl) (fun _ => rfl) rfl d_M_init_334 ?_
  have hB := hB.cons (k := 110) (v := (53, 149)) (by decide)
  refine y_aload_n (q := 0) d_M_init_337 rfl rfl ?_
  refine y_sipush (v := 1300) d_M_init_338 (by decide) ?_
  refine n_newi (z := 1300) (n' := 150) (cs' := 39) (ss' := 40994) hA hB (by decide) d_M_init_341 k_1_72 (by decide) (by decide) (by decide) rfl (Nat.le_of_ble_eq_true rfl) (Nat.le_of_ble_eq_true rfl) rfl rfl ⟨rfl, rfl, rfl⟩ ?_
  have hA := hA.le (show 149 ≤ 150 from by decide)
  have hB := hB.le (show 149 ≤ 150 from by decide)
  refine n_putrF (j := 54) (v := 150) fl_M_130 rfl rfl (by decide) (by decide) rfl (by decide) rfl (fun _ => rfl) (fun _ => rfl) rfl d_M_init_343 ?_
  have hB := hB.cons (k := 110) (v := (54, 150)) (by decide)
  refine y_aload_n (q := 0) d_M_init_346 rfl rfl ?_
  refine y_sipush (v := 1300) d_M_init_347 (by decide) ?_
  refine n_newi (z := 1300) (n' := 151) (cs' := 40) (ss' := 42294) hA hB (by decide) d_M_init_350 k_1_72 (by decide) (by decide) (by decide) rfl (Nat.le_of_ble_eq_true rfl) (Nat.le_of_ble_eq_true rfl) rfl rfl ⟨rfl, rfl, rfl⟩ ?_
  have hA := hA.le (show 150 ≤ 151 from by decide)
  have hB := hB.le (show 150 ≤ 151 from by decide)
  refine n_putrF (j := 55) (v := 151) fl_M_133 rfl rfl (by decide) (by decide) rfl (by decide) rfl (fun _ => rfl) (fun _ => rfl) rfl d_M_init_352 ?_
  have hB := hB.cons (k := 110) (v := (55, 151)) (by decide)
  refine y_aload_n (q := 0) d_M_init_355 rfl rfl ?_
  refine y_sipush (v := 1300) d_M_init_356 (by decide) ?_
  refine n_newi (z := 1300) (n' := 152) (cs' := 41) (ss' := 43594) hA hB (by decide) d_M_init_359 k_1_72 (by decide) (by decide) (by decide) rfl (Nat.le_of_ble_eq_true rfl) (Nat.le_of_ble_eq_true rfl) rfl rfl ⟨rfl, rfl, rfl⟩ ?_
  have hA := hA.le (show 151 ≤ 152 from by decide)
  have hB := hB.le (show 151 ≤ 152 from by decide)
  refine n_putrF (j := 62) (v := 152) fl_M_136 rfl rfl (by decide) (by decide) rfl (by decide) rfl (fun _ => rfl) (fun _ => rfl) rfl d_M_init_361 ?_
  have hB := hB.cons (k := 110) (v := (62, 152)) (by decide)
  refine y_aload_n (q := 0) d_M_init_364 rfl rfl ?_
  refine y_sipush (v := 1300) d_M_init_365 (by decide) ?_
  refine n_newj (z := 1300) (n' := 153) (cs' := 42) (ss' := 44894) hA hB (by decide) d_M_init_368 k_1_73 (by decide) (by decide) (by decide) rfl (Nat.le_of_ble_eq_true rfl) (Nat.le_of_ble_eq_true rfl) rfl rfl ⟨rfl, rfl, rfl⟩ ?_
  have hA := hA.le (show 152 ≤ 153 from by decide)
  have hB := hB.le (show 152 ≤ 153 from by decide)
  refine n_putrF (j := 63) (v := 153) fl_M_139 rfl rfl (by decide) (by decide) rfl (by decide) rfl (fun _ => rfl) (fun _ => rfl) rfl d_M_init_370 ?_
  have hB := hB.cons (k := 110) (v := (63, 153)) (by decide)
  refine y_aload_n (q := 0) d_M_init_373 rfl rfl ?_
  refine y_iconst (v := 4) d_M_init_374 (by decide) ?_
  refine n_newi (z := 4) (n' := 154) (cs' := 43) (ss' := 44898) hA hB (by decide) d_M_init_375 k_1_72 (by decide) (by decide) (by decide) rfl (Nat.le_of_ble_eq_true rfl) (Nat.le_of_ble_eq_true rfl) rfl rfl ⟨rfl, rfl, rfl⟩ ?_
  have hA := hA.le (show 153 ≤ 154 from by decide)
  have hB := hB.le (show 153 ≤ 154 from by decide)
  refine n_putrF (j := 70) (v := 154) fl_M_142 rfl rfl (by decide) (by decide) rfl (by decide) rfl (fun _ => rfl) (fun _ => rfl) rfl d_M_init_377 ?_
  have hB := hB.cons (k := 110) (v := (70, 154)) (by decide)
  refine y_aload_n (q := 0) d_M_init_380 rfl rfl ?_
  refine y_bipush (v := 40) d_M_init_381 (by decide) ?_
  refine n_newi (z := 40) (n' := 155) (cs' := 44) (ss' := 44938) hA hB (by decide) d_M_init_383 k_1_72 (by decide) (by decide) (by decide) rfl (Nat.le_of_ble_eq_true rfl) (Nat.le_of_ble_eq_true rfl) rfl rfl ⟨rfl, rfl, rfl⟩ ?_
  have hA := hA.le (show 154 ≤ 155 from by decide)
  have hB := hB.le (show 154 ≤ 155 from by decide)
  refine n_putrF (j := 72) (v := 155) fl_M_145 rfl rfl (by decide) (by decide) rfl (by decide) rfl (fun _ => rfl) (fun _ => rfl) rfl d_M_init_385 ?_
  have hB := hB.cons (k := 110) (v := (72, 155)) (by decide)
  refine y_aload_n (q := 0) d_M_init_388 rfl rfl ?_
  refine y_bipush (v := 40) d_M_init_389 (by decide) ?_
  refine n_newi (z := 40) (n' := 156) (cs' := 45) (ss' := 44978) hA hB (by decide) d_M_init_391 k_1_72 (by decide) (by decide) (by decide) rfl (Nat.le_of_ble_eq_true rfl) (Nat.le_of_ble_eq_true rfl) rfl rfl ⟨rfl, rfl, rfl⟩ ?_
  have hA := hA.le (show 155 ≤ 156 from by decide)
  have hB := hB.le (show 155 ≤ 156 from by decide)
  refine n_putrF (j := 73) (v := 156) fl_M_148 rfl rfl (by decide) (by decide) rfl (by decide) rfl (fun _ => rfl) (fun _ => rfl) rfl d_M_init_393 ?_
  have hB := hB.cons (k := 110) (v := (73, 156)) (by decide)
  refine y_aload_n (q := 0) d_M_init_396 rfl rfl ?_
  refine y_bipush (v := 6) d_M_init_397 (by decide) ?_
  refine n_newi (z := 6) (n' := 157) (cs' := 46) (ss' := 44984) hA hB (by decide) d_M_init_399 k_1_72 (by decide) (by decide) (by decide) rfl (Nat.le_of_ble_eq_true rfl) (Nat.le_of_ble_eq_true rfl) rfl rfl ⟨rfl, rfl, rfl⟩ ?_
  have hA := hA.le (show 156 ≤ 157 from by decide)
  have hB := hB.le (show 156 ≤ 157 from by decide)
  refine n_putrF (j := 76) (v := 157) fl_M_151 rfl rfl (by decide) (by decide) rfl (by decide) rfl (fun _ => rfl) (fun _ => rfl) rfl d_M_init_401 ?_
  have hB := hB.cons (k := 110) (v := (76, 157)) (by decide)
  refine y_aload_n (q := 0) d_M_init_404 rfl rfl ?_
  refine y_bipush (v := 20) d_M_init_405 (by decide) ?_
  refine n_newi (z := 20) (n' := 158) (cs' := 47) (ss' := 45004) hA hB (by decide) d_M_init_407 k_1_72 (by decide) (by decide) (by decide) rfl (Nat.le_of_ble_eq_true rfl) (Nat.le_of_ble_eq_true rfl) rfl rfl ⟨rfl, rfl, rfl⟩ ?_
  have hA := hA.le (show 157 ≤ 158 from by decide)
  have hB := hB.le (show 157 ≤ 158 from by decide)
  refine n_putrF (j := 78) (v := 158) fl_M_154 rfl rfl (by decide) (by decide) rfl (by decide) rfl (fun _ => rfl) (fun _ => rfl) rfl d_M_init_409 ?_
  have hB := hB.cons (k := 110) (v := (78, 158)) (by decide)
  refine y_aload_n (q := 0) d_M_init_412 rfl rfl ?_
  refine y_bipush (v := 20) d_M_init_413 (by decide) ?_
  refine n_newi (z := 20) (n' := 159) (cs' := 48) (ss' := 45024) hA hB (by decide) d_M_init_415 k_1_72 (by decide) (by decide) (by decide) rfl (Nat.le_of_ble_eq_true rfl) (Nat.le_of_ble_eq_true rfl) rfl rfl ⟨rfl, rfl, rfl⟩ ?_
  have hA := hA.le (show 158 ≤ 159 from by decide)
  have hB := hB.le (show 158 ≤ 159 from by decide)
  refine n_putrF (j := 79) (v := 159) fl_M_157 rfl rfl (by decide) (by decide) rfl (by decide) rfl (fun _ => rfl) (fun _ => rfl) rfl d_M_init_417 ?_
  have hB := hB.cons (k := 110) (v := (79, 159)) (by decide)
  refine y_aload_n (q := 0) d_M_init_420 rfl rfl ?_
  refine y_bipush (v := 20) d_M_init_421 (by decide) ?_
  refine n_newi (z := 20) (n' := 160) (cs' := 49) (ss' := 45044) hA hB (by decide) d_M_init_423 k_1_72 (by decide) (by decide) (by decide) rfl (Nat.le_of_ble_eq_true rfl) (Nat.le_of_ble_eq_true rfl) rfl rfl ⟨rfl, rfl, rfl⟩ ?_
  have hA := hA.le (show 159 ≤ 160 from by decide)
  have hB := hB.le (show 159 ≤ 160 from by decide)
  refine n_putrF (j := 80) (v := 160) fl_M_160 rfl rfl (by decide) (by decide) rfl (by decide) rfl (fun _ => rfl) (fun _ => rfl) rfl d_M_init_425 ?_
  have hB := hB.cons (k := 110) (v := (80, 160)) (by decide)
  refine y_aload_n (q := 0) d_M_init_428 rfl rfl ?_
  refine y_bipush (v := (-4)) d_M_init_429 (by decide) ?_
  refine n_puti (j := 81) fl_M_163 (by decide) rfl (by decide) rfl rfl rfl d_M_init_431 ?_
  have hA := hA.cons (k := 110) (v := (81, (-4))) (by decide)
  refine y_aload_n (q := 0) d_M_init_434 rfl rfl ?_
  refine y_bipush (v := 8) d_M_init_435 (by decide) ?_
  refine n_newi (z := 8) (n' := 161) (cs' := 50) (ss' := 45052) hA hB (by decide) d_M_init_437 k_1_72 (by decide) (by decide) (by decide) rfl (Nat.le_of_ble_eq_true rfl) (Nat.le_of_ble_eq_true rfl) rfl rfl ⟨rfl, rfl, rfl⟩ ?_
  have hA := hA.le (show 160 ≤ 161 from by decide)
  have hB := hB.le (show 160 ≤ 161 from by decide)
  refine n_putrF (j := 83) (v := 161) fl_M_166 rfl rfl (by decide) (by decide) rfl (by decide) rfl (fun _ => rfl) (fun _ => rfl) rfl d_M_init_439 ?_
  have hB := hB.cons (k := 110) (v := (83, 161)) (by decide)
  refine y_aload_n (q := 0) d_M_init_442 rfl rfl ?_
  refine y_sipush (v := 128) d_M_init_443 (by decide) ?_
  refine n_newz (z := 128) (n' := 162) (cs' := 51) (ss' := 45180) hA hB (by decide) d_M_init_446 k_1_114 (by decide) (by decide) (by decide) rfl (Nat.le_of_ble_eq_true rfl) (Nat.le_of_ble_eq_true rfl) rfl rfl ⟨rfl, rfl, rfl⟩ ?_
  have hA := hA.le (show 161 ≤ 162 from by decide)
  have hB := hB.le (show 161 ≤ 162 from by decide)
  refine n_putrF (j := 84) (v := 162) fl_M_169 rfl rfl (by decide) (by decide) rfl (by decide) rfl (fun _ => rfl) (fun _ => rfl) rfl d_M_init_448 ?_
  have hB := hB.cons (k := 110) (v := (84, 162)) (by decide)
  refine y_aload_n (q := 0) d_M_init_451 rfl rfl ?_
  refine y_iconst (v := 4) d_M_init_452 (by decide) ?_
  refine n_newi (z := 4) (n' := 163) (cs' := 52) (ss' := 45184) hA hB (by decide) d_M_init_453 k_1_72 (by decide) (by decide) (by decide) rfl (Nat.le_of_ble_eq_true rfl) (Nat.le_of_ble_eq_true rfl) rfl rfl ⟨rfl, rfl, rfl⟩ ?_
  have hA := hA.le (show 162 ≤ 163 from by decide)
  have hB := hB.le (show 162 ≤ 163 from by decide)
  refine n_putrF (j := 86) (v := 163) fl_M_172 rfl rfl (by decide) (by decide) rfl (by decide) rfl (fun _ => rfl) (fun _ => rfl) rfl d_M_init_455 ?_
  have hB := hB.cons (k := 110) (v := (86, 163)) (by decide)
  refine y_aload_n (q := 0) d_M_init_458 rfl rfl ?_
  refine y_bipush (v := 32) d_M_init_459 (by decide) ?_
  refine n_newi (z := 32) (n' := 164) (cs' := 53) (ss' := 45216) hA hB (by decide) d_M_init_461 k_1_72 (by decide) (by decide) (by decide) rfl (Nat.le_of_ble_eq_true rfl) (Nat.le_of_ble_eq_true rfl) rfl rfl ⟨rfl, rfl, rfl⟩ ?_
  have hA := hA.le (show 163 ≤ 164 from by decide)
  have hB := hB.le (show 163 ≤ 164 from by decide)
  refine n_putrF (j := 87) (v := 164) fl_M_175 rfl rfl (by decide) (by decide) rfl (by decide) rfl (fun _ => rfl) (fun _ => rfl) rfl d_M_init_463 ?_
  have hB := hB.cons (k := 110) (v := (87, 164)) (by decide)
  refine y_aload_n (q := 0) d_M_init_466 rfl rfl ?_
  refine y_bipush (v := 32) d_M_init_467 (by decide) ?_
  refine n_newi (z := 32) (n' := 165) (cs' := 54) (ss' := 45248) hA hB (by decide) d_M_init_469 k_1_72 (by decide) (by decide) (by decide) rfl (Nat.le_of_ble_eq_true rfl) (Nat.le_of_ble_eq_true rfl) rfl rfl ⟨rfl, rfl, rfl⟩ ?_
  have hA := hA.le (show 164 ≤ 165 from by decide)
  have hB := hB.le (show 164 ≤ 165 from by decide)
  refine n_putrF (j := 88) (v := 165) fl_M_178 rfl rfl (by decide) (by decide) rfl (by decide) rfl (fun _ => rfl) (fun _ => rfl) rfl d_M_init_471 ?_
  have hB := hB.cons (k := 110) (v := (88, 165)) (by decide)
  refine y_aload_n (q := 0) d_M_init_474 rfl rfl ?_
  refine y_bipush (v := 32) d_M_init_475 (by decide) ?_
  refine n_newi (z := 32) (n' := 166) (cs' := 55) (ss' := 45280) hA hB (by decide) d_M_init_477 k_1_72 (by decide) (by decide) (by decide) rfl (Nat.le_of_ble_eq_true rfl) (Nat.le_of_ble_eq_true rfl) rfl rfl ⟨rfl, rfl, rfl⟩ ?_
  have hA := hA.le (show 165 ≤ 166 from by decide)
  have hB := hB.le (show 165 ≤ 166 from by decide)
  refine n_putrF (j := 89) (v := 166) fl_M_181 rfl rfl (by decide) (by decide) rfl (by decide) rfl (fun _ => rfl) (fun _ => rfl) rfl d_M_init_479 ?_
  have hB := hB.cons (k := 110) (v := (89, 166)) (by decide)
  refine y_aload_n (q := 0) d_M_init_482 rfl rfl ?_
  refine y_iconst (v := 4) d_M_init_483 (by decide) ?_
  refine n_newi (z := 4) (n' := 167) (cs' := 56) (ss' := 45284) hA hB (by decide) d_M_init_484 k_1_72 (by decide) (by decide) (by decide) rfl (Nat.le_of_ble_eq_true rfl) (Nat.le_of_ble_eq_true rfl) rfl rfl ⟨rfl, rfl, rfl⟩ ?_
  have hA := hA.le (show 166 ≤ 167 from by decide)
  have hB := hB.le (show 166 ≤ 167 from by decide)
  refine n_putrF (j := 90) (v := 167) fl_M_184 rfl rfl (by decide) (by decide) rfl (by decide) rfl (fun _ => rfl) (fun _ => rfl) rfl d_M_init_486 ?_
  have hB := hB.cons (k := 110) (v := (90, 167)) (by decide)
  refine y_aload_n (q := 0) d_M_init_489 rfl rfl ?_
  refine y_bipush (v := 48) d_M_init_490 (by decide) ?_
  refine n_newi (z := 48) (n' := 168) (cs' := 57) (ss' := 45332) hA hB (by decide) d_M_init_492 k_1_72 (by decide) (by decide) (by decide) rfl (Nat.le_of_ble_eq_true rfl) (Nat.le_of_ble_eq_true rfl) rfl rfl ⟨rfl, rfl, rfl⟩ ?_
  have hA := hA.le (show 167 ≤ 168 from by decide)
  have hB := hB.le (show 167 ≤ 168 from by decide)
  refine n_putrF (j := 91) (v := 168) fl_M_187 rfl rfl (by decide) (by decide) rfl (by decide) rfl (fun _ => rfl) (fun _ => rfl) rfl d_M_init_494 ?_
  have hB := hB.cons (k := 110) (v := (91, 168)) (by decide)
  refine y_aload_n (q := 0) d_M_init_497 rfl rfl ?_
  refine y_bipush (v := 48) d_M_init_498 (by decide) ?_
  refine n_newi (z := 48) (n' := 169) (cs' := 58) (ss' := 45380) hA hB (by decide) d_M_init_500 k_1_72 (by decide) (by decide) (by decide) rfl (Nat.le_of_ble_eq_true rfl) (Nat.le_of_ble_eq_true rfl) rfl rfl ⟨rfl, rfl, rfl⟩ ?_
  have hA := hA.le (show 168 ≤ 169 from by decide)
  have hB := hB.le (show 168 ≤ 169 from by decide)
  refine n_putrF (j := 92) (v := 169) fl_M_190 rfl rfl (by decide) (by decide) rfl (by decide) rfl (fun _ => rfl) (fun _ => rfl) rfl d_M_init_502 ?_
  have hB := hB.cons (k := 110) (v := (92, 169)) (by decide)
  refine y_aload_n (q := 0) d_M_init_505 rfl rfl ?_
  refine y_bipush (v := 48) d_M_init_506 (by decide) ?_
  refine n_newi (z := 48) (n' := 170) (cs' := 59) (ss' := 45428) hA hB (by decide) d_M_init_508 k_1_72 (by decide) (by decide) (by decide) rfl (Nat.le_of_ble_eq_true rfl) (Nat.le_of_ble_eq_true rfl) rfl rfl ⟨rfl, rfl, rfl⟩ ?_
  have hA := hA.le (show 169 ≤ 170 from by decide)
  have hB := hB.le (show 169 ≤ 170 from by decide)
  refine n_putrF (j := 93) (v := 170) fl_M_193 rfl rfl (by decide) (by decide) rfl (by decide) rfl (fun _ => rfl) (fun _ => rfl) rfl d_M_init_510 ?_
  have hB := hB.cons (k := 110) (v := (93, 170)) (by decide)
  refine y_aload_n (q := 0) d_M_init_513 rfl rfl ?_
  refine y_bipush (v := 8) d_M_init_514 (by decide) ?_
  refine n_newi (z := 8) (n' := 171) (cs' := 60) (ss' := 45436) hA hB (by decide) d_M_init_516 k_1_72 (by decide) (by decide) (by decide) rfl (Nat.le_of_ble_eq_true rfl) (Nat.le_of_ble_eq_true rfl) rfl rfl ⟨rfl, rfl, rfl⟩ ?_
  have hA := hA.le (show 170 ≤ 171 from by decide)
  have hB := hB.le (show 170 ≤ 171 from by decide)
  refine n_putrF (j := 94) (v := 171) fl_M_196 rfl rfl (by decide) (by decide) rfl (by decide) rfl (fun _ => rfl) (fun _ => rfl) rfl d_M_init_518 ?_
  have hB := hB.cons (k := 110) (v := (94, 171)) (by decide)
  refine y_aload_n (q := 0) d_M_init_521 rfl rfl ?_
  refine y_bipush (v := 60) d_M_init_522 (by decide) ?_
  refine n_newi (z := 60) (n' := 172) (cs' := 61) (ss' := 45496) hA hB (by decide) d_M_init_524 k_1_72 (by decide) (by decide) (by decide) rfl (Nat.le_of_ble_eq_true rfl) (Nat.le_of_ble_eq_true rfl) rfl rfl ⟨rfl, rfl, rfl⟩ ?_
  have hA := hA.le (show 171 ≤ 172 from by decide)
  have hB := hB.le (show 171 ≤ 172 from by decide)
  refine n_putrF (j := 97) (v := 172) fl_M_199 rfl rfl (by decide) (by decide) rfl (by decide) rfl (fun _ => rfl) (fun _ => rfl) rfl d_M_init_526 ?_
  have hB := hB.cons (k := 110) (v := (97, 172)) (by decide)
  refine y_aload_n (q := 0) d_M_init_529 rfl rfl ?_
  refine y_bipush (v := 60) d_M_init_530 (by decide) ?_
  refine n_newi (z := 60) (n' := 173) (cs' := 62) (ss' := 45556) hA hB (by decide) d_M_init_532 k_1_72 (by decide) (by decide) (by decide) rfl (Nat.le_of_ble_eq_true rfl) (Nat.le_of_ble_eq_true rfl) rfl rfl ⟨rfl, rfl, rfl⟩ ?_
  have hA := hA.le (show 172 ≤ 173 from by decide)
  have hB := hB.le (show 172 ≤ 173 from by decide)
  refine n_putrF (j := 98) (v := 173) fl_M_202 rfl rfl (by decide) (by decide) rfl (by decide) rfl (fun _ => rfl) (fun _ => rfl) rfl d_M_init_534 ?_
  have hB := hB.cons (k := 110) (v := (98, 173)) (by decide)
  refine y_aload_n (q := 0) d_M_init_537 rfl rfl ?_
  refine y_bipush (v := 60) d_M_init_538 (by decide) ?_
  refine n_newi (z := 60) (n' := 174) (cs' := 63) (ss' := 45616) hA hB (by decide) d_M_init_540 k_1_72 (by decide) (by decide) (by decide) rfl (Nat.le_of_ble_eq_true rfl) (Nat.le_of_ble_eq_true rfl) rfl rfl ⟨rfl, rfl, rfl⟩ ?_
  have hA := hA.le (show 173 ≤ 174 from by decide)
  have hB := hB.le (show 173 ≤ 174 from by decide)
  refine n_putrF (j := 99) (v := 174) fl_M_205 rfl rfl (by decide) (by decide) rfl (by decide) rfl (fun _ => rfl) (fun _ => rfl) rfl d_M_init_542 ?_
  have hB := hB.cons (k := 110) (v := (99, 174)) (by decide)
  refine y_aload_n (q := 0) d_M_init_545 rfl rfl ?_
  refine y_bipush (v := 60) d_M_init_546 (by decide) ?_
  refine n_newi (z := 60) (n' := 175) (cs' := 64) (ss' := 45676) hA hB (by decide) d_M_init_548 k_1_72 (by decide) (by decide) (by decide) rfl (Nat.le_of_ble_eq_true rfl) (Nat.le_of_ble_eq_true rfl) rfl rfl ⟨rfl, rfl, rfl⟩ ?_
  have hA := hA.le (show 174 ≤ 175 from by decide)
  have hB := hB.le (show 174 ≤ 175 from by decide)
  refine n_putrF (j := 100) (v := 175) fl_M_208 rfl rfl (by decide) (by decide) rfl (by decide) rfl (fun _ => rfl) (fun _ => rfl) rfl d_M_init_550 ?_
  have hB := hB.cons (k := 110) (v := (100, 175)) (by decide)
  refine y_aload_n (q := 0) d_M_init_553 rfl rfl ?_
  refine y_bipush (v := 60) d_M_init_554 (by decide) ?_
  refine n_newi (z := 60) (n' := 176) (cs' := 65) (ss' := 45736) hA hB (by decide) d_M_init_556 k_1_72 (by decide) (by decide) (by decide) rfl (Nat.le_of_ble_eq_true rfl) (Nat.le_of_ble_eq_true rfl) rfl rfl ⟨rfl, rfl, rfl⟩ ?_
  have hA := hA.le (show 175 ≤ 176 from by decide)
  have hB := hB.le (show 175 ≤ 176 from by decide)
  refine n_putrF (j := 101) (v := 176) fl_M_211 rfl rfl (by decide) (by decide) rfl (by decide) rfl (fun _ => rfl) (fun _ => rfl) rfl d_M_init_558 ?_
  have hB := hB.cons (k := 110) (v := (101, 176)) (by decide)
  refine y_aload_n (q := 0) d_M_init_561 rfl rfl ?_
  refine y_bipush (v := 60) d_M_init_562 (by decide) ?_
  refine n_newi (z := 60) (n' := 177) (cs' := 66) (ss' := 45796) hA hB (by decide) d_M_init_564 k_1_72 (by decide) (by decide) (by decide) rfl (Nat.le_of_ble_eq_true rfl) (Nat.le_of_ble_eq_true rfl) rfl rfl ⟨rfl, rfl, rfl⟩ ?_
  have hA := hA.le (show 176 ≤ 177 from by decide)
  have hB := hB.le (show 176 ≤ 177 from by decide)
  refine n_putrF (j := 102) (v := 177) fl_M_214 rfl rfl (by decide) (by decide) rfl (by decide) rfl (fun _ => rfl) (fun _ => rfl) rfl d_M_init_566 ?_
  have hB := hB.cons (k := 110) (v := (102, 177)) (by decide)
  refine y_aload_n (q := 0) d_M_init_569 rfl rfl ?_
  refine y_bipush (v := 60) d_M_init_570 (by decide) ?_
  refine n_newi (z := 60) (n' := 178) (cs' := 67) (ss' := 45856) hA hB (by decide) d_M_init_572 k_1_72 (by decide) (by decide) (by decide) rfl (Nat.le_of_ble_eq_true rfl) (Nat.le_of_ble_eq_true rfl) rfl rfl ⟨rfl, rfl, rfl⟩ ?_
  have hA := hA.le (show 177 ≤ 178 from by decide)
  have hB := hB.le (show 177 ≤ 178 from by decide)
  refine n_putrF (j := 103) (v := 178) fl_M_217 rfl rfl (by decide) (by decide) rfl (by decide) rfl (fun _ => rfl) (fun _ => rfl) rfl d_M_init_574 ?_
  have hB := hB.cons (k := 110) (v := (103, 178)) (by decide)
  refine y_aload_n (q := 0) d_M_init_577 rfl rfl ?_
  refine y_bipush (v := 60) d_M_init_578 (by decide) ?_
  refine n_newz (z := 60) (n' := 179) (cs' := 68) (ss' := 45916) hA hB (by decide) d_M_init_580 k_1_114 (by decide) (by decide) (by decide) rfl (Nat.le_of_ble_eq_true rfl) (Nat.le_of_ble_eq_true rfl) rfl rfl ⟨rfl, rfl, rfl⟩ ?_
  have hA := hA.le (show 178 ≤ 179 from by decide)
  have hB := hB.le (show 178 ≤ 179 from by decide)
  refine n_putrF (j := 104) (v := 179) fl_M_220 rfl rfl (by decide) (by decide) rfl (by decide) rfl (fun _ => rfl) (fun _ => rfl) rfl d_M_init_582 ?_
  have hB := hB.cons (k := 110) (v := (104, 179)) (by decide)
  refine y_aload_n (q := 0) d_M_init_585 rfl rfl ?_
  refine y_bipush (v := 60) d_M_init_586 (by decide) ?_
  refine n_newz (z := 60) (n' := 180) (cs' := 69) (ss' := 45976) hA hB (by decide) d_M_init_588 k_1_114 (by decide) (by decide) (by decide) rfl (Nat.le_of_ble_eq_true rfl) (Nat.le_of_ble_eq_true rfl) rfl rfl ⟨rfl, rfl, rfl⟩ ?_
  have hA := hA.le (show 179 ≤ 180 from by decide)
  have hB := hB.le (show 179 ≤ 180 from by decide)
  refine n_putrF (j := 105) (v := 180) fl_M_223 rfl rfl (by decide) (by decide) rfl (by decide) rfl (fun _ => rfl) (fun _ => rfl) rfl d_M_init_590 ?_
  have hB := hB.cons (k := 110) (v := (105, 180)) (by decide)
  refine y_aload_n (q := 0) d_M_init_593 rfl rfl ?_
  refine y_bipush (v := 60) d_M_init_594 (by decide) ?_
  refine n_newi (z := 60) (n' := 181) (cs' := 70) (ss' := 46036) hA hB (by decide) d_M_init_596 k_1_72 (by decide) (by decide) (by decide) rfl (Nat.le_of_ble_eq_true rfl) (Nat.le_of_ble_eq_true rfl) rfl rfl ⟨rfl, rfl, rfl⟩ ?_
  have hA := hA.le (show 180 ≤ 181 from by decide)
  have hB := hB.le (show 180 ≤ 181 from by decide)
  refine n_putrF (j := 106) (v := 181) fl_M_226 rfl rfl (by decide) (by decide) rfl (by decide) rfl (fun _ => rfl) (fun _ => rfl) rfl d_M_init_598 ?_
  have hB := hB.cons (k := 110) (v := (106, 181)) (by decide)
  refine y_aload_n (q := 0) d_M_init_601 rfl rfl ?_
  refine y_bipush (v := 60) d_M_init_602 (by decide) ?_
  refine n_newi (z := 60) (n' := 182) (cs' := 71) (ss' := 46096) hA hB (by decide) d_M_init_604 k_1_72 (by decide) (by decide) (by decide) rfl (Nat.le_of_ble_eq_true rfl) (Nat.le_of_ble_eq_true rfl) rfl rfl ⟨rfl, rfl, rfl⟩ ?_
  have hA := hA.le (show 181 ≤ 182 from by decide)
  have hB := hB.le (show 181 ≤ 182 from by decide)
  refine n_putrF (j := 108) (v := 182) fl_M_229 rfl rfl (by decide) (by decide) rfl (by decide) rfl (fun _ => rfl) (fun _ => rfl) rfl d_M_init_606 ?_
  have hB := hB.cons (k := 110) (v := (108, 182)) (by decide)
  refine y_aload_n (q := 0) d_M_init_609 rfl rfl ?_
  refine y_sipush (v := 144) d_M_init_610 (by decide) ?_
  refine n_newi (z := 144) (n' := 183) (cs' := 72) (ss' := 46240) hA hB (by decide) d_M_init_613 k_1_72 (by decide) (by decide) (by decide) rfl (Nat.le_of_ble_eq_true rfl) (Nat.le_of_ble_eq_true rfl) rfl rfl ⟨rfl, rfl, rfl⟩ ?_
  have hA := hA.le (show 182 ≤ 183 from by decide)
  have hB := hB.le (show 182 ≤ 183 from by decide)
  refine n_putrF (j := 110) (v := 183) fl_M_232 rfl rfl (by decide) (by decide) rfl (by decide) rfl (fun _ => rfl) (fun _ => rfl) rfl d_M_init_615 ?_
  have hB := hB.cons (k := 110) (v := (110, 183)) (by decide)
  refine y_aload_n (q := 0) d_M_init_618 rfl rfl ?_
  refine y_sipush (v := 144) d_M_init_619 (by decide) ?_
  refine n_newi (z := 144) (n' := 184) (cs' := 73) (ss' := 46384) hA hB (by decide) d_M_init_622 k_1_72 (by decide) (by decide) (by decide) rfl (Nat.le_of_ble_eq_true rfl) (Nat.le_of_ble_eq_true rfl) rfl rfl ⟨rfl, rfl, rfl⟩ ?_
  have hA := hA.le (show 183 ≤ 184 from by decide)
  have hB := hB.le (show 183 ≤ 184 from by decide)
  refine n_putrF (j := 111) (v := 184) fl_M_235 rfl rfl (by decide) (by decide) rfl (by decide) rfl (fun _ => rfl) (fun _ => rfl) rfl d_M_init_624 ?_
  have hB := hB.cons (k := 110) (v := (111, 184)) (by decide)
  refine y_aload_n (q := 0) d_M_init_627 rfl rfl ?_
  refine y_sipush (v := 600) d_M_init_628 (by decide) ?_
  refine n_newi (z := 600) (n' := 185) (cs' := 74) (ss' := 46984) hA hB (by decide) d_M_init_631 k_1_72 (by decide) (by decide) (by decide) rfl (Nat.le_of_ble_eq_true rfl) (Nat.le_of_ble_eq_true rfl) rfl rfl ⟨rfl, rfl, rfl⟩ ?_
  have hA := hA.le (show 184 ≤ 185 from by decide)
  have hB := hB.le (show 184 ≤ 185 from by decide)
  refine n_putrF (j := 113) (v := 185) fl_M_238 rfl rfl (by decide) (by decide) rfl (by decide) rfl (fun _ => rfl) (fun _ => rfl) rfl d_M_init_633 ?_
  have hB := hB.cons (k := 110) (v := (113, 185)) (by decide)
  refine y_aload_n (q := 0) d_M_init_636 rfl rfl ?_
  refine y_sipush (v := 600) d_M_init_637 (by decide) ?_
  refine n_newi (z := 600) (n' := 186) (cs' := 75) (ss' := 47584) hA hB (by decide) d_M_init_640 k_1_72 (by decide) (by decide) (by decide) rfl (Nat.le_of_ble_eq_true rfl) (Nat.le_of_ble_eq_true rfl) rfl rfl ⟨rfl, rfl, rfl⟩ ?_
  have hA := hA.le (show 185 ≤ 186 from by decide)
  have hB := hB.le (show 185 ≤ 186 from by decide)
  refine n_putrF (j := 114) (v := 186) fl_M_241 rfl rfl (by decide) (by decide) rfl (by decide) rfl (fun _ => rfl) (fun _ => rfl) rfl d_M_init_642 ?_
  have hB := hB.cons (k := 110) (v := (114, 186)) (by decide)
  refine y_aload_n (q := 0) d_M_init_645 rfl rfl ?_
  refine y_sipush (v := 600) d_M_init_646 (by decide) ?_
  refine n_newi (z := 600) (n' := 187) (cs' := 76) (ss' := 48184) hA hB (by decide) d_M_init_649 k_1_72 (by decide) (by decide) (by decide) rfl (Nat.le_of_ble_eq_true rfl) (Nat.le_of_ble_eq_true rfl) rfl rfl ⟨rfl, rfl, rfl⟩ ?_
  have hA := hA.le (show 186 ≤ 187 from by decide)
  have hB := hB.le (show 186 ≤ 187 from by decide)
  refine n_putrF (j := 115) (v := 187) fl_M_244 rfl rfl (by decide) (by decide) rfl (by decide) rfl (fun _ => rfl) (fun _ => rfl) rfl d_M_init_651 ?_
  have hB := hB.cons (k := 110) (v := (115, 187)) (by decide)
  refine y_aload_n (q := 0) d_M_init_654 rfl rfl ?_
  refine y_bipush (v := 14) d_M_init_655 (by decide) ?_
  refine n_newi (z := 14) (n' := 188) (cs' := 77) (ss' := 48198) hA hB (by decide) d_M_init_657 k_1_72 (by decide) (by decide) (by decide) rfl (Nat.le_of_ble_eq_true rfl) (Nat.le_of_ble_eq_true rfl) rfl rfl ⟨rfl, rfl, rfl⟩ ?_
  have hA := hA.le (show 187 ≤ 188 from by decide)
  have hB := hB.le (show 187 ≤ 188 from by decide)
  refine n_putrF (j := 116) (v := 188) fl_M_247 rfl rfl (by decide) (by decide) rfl (by decide) rfl (fun _ => rfl) (fun _ => rfl) rfl d_M_init_659 ?_
  have hB := hB.cons (k := 110) (v := (116, 188)) (by decide)
  refine y_aload_n (q := 0) d_M_init_662 rfl rfl ?_
  refine y_bipush (v := 60) d_M_init_663 (by decide) ?_
  refine n_newi (z := 60) (n' := 189) (cs' := 78) (ss' := 48258) hA hB (by decide) d_M_init_665 k_1_72 (by decide) (by decide) (by decide) rfl (Nat.le_of_ble_eq_true rfl) (Nat.le_of_ble_eq_true rfl) rfl rfl ⟨rfl, rfl, rfl⟩ ?_
  have hA := hA.le (show 188 ≤ 189 from by decide)
  have hB := hB.le (show 188 ≤ 189 from by decide)
  refine n_putrF (j := 119) (v := 189) fl_M_250 rfl rfl (by decide) (by decide) rfl (by decide) rfl (fun _ => rfl) (fun _ => rfl) rfl d_M_init_667 ?_
  have hB := hB.cons (k := 110) (v := (119, 189)) (by decide)
  refine y_aload_n (q := 0) d_M_init_670 rfl rfl ?_
  refine y_bipush (v := 60) d_M_init_671 (by decide) ?_
  refine n_newi (z := 60) (n' := 190) (cs' := 79) (ss' := 48318) hA hB (by decide) d_M_init_673 k_1_72 (by decide) (by decide) (by decide) rfl (Nat.le_of_ble_eq_true rfl) (Nat.le_of_ble_eq_true rfl) rfl rfl ⟨rfl, rfl, rfl⟩ ?_
  have hA := hA.le (show 189 ≤ 190 from by decide)
  have hB := hB.le (show 189 ≤ 190 from by decide)
  refine n_putrF (j := 120) (v := 190) fl_M_253 rfl rfl (by decide) (by decide) rfl (by decide) rfl (fun _ => rfl) (fun _ => rfl) rfl d_M_init_675 ?_
  have hB := hB.cons (k := 110) (v := (120, 190)) (by decide)
  refine y_aload_n (q := 0) d_M_init_678 rfl rfl ?_
  refine y_bipush (v := 60) d_M_init_679 (by decide) ?_
  refine n_newi (z := 60) (n' := 191) (cs' := 80) (ss' := 48378) hA hB (by decide) d_M_init_681 k_1_72 (by decide) (by decide) (by decide) rfl (Nat.le_of_ble_eq_true rfl) (Nat.le_of_ble_eq_true rfl) rfl rfl ⟨rfl, rfl, rfl⟩ ?_
  have hA := hA.le (show 190 ≤ 191 from by decide)
  have hB := hB.le (show 190 ≤ 191 from by decide)
  refine n_putrF (j := 121) (v := 191) fl_M_256 rfl rfl (by decide) (by decide) rfl (by decide) rfl (fun _ => rfl) (fun _ => rfl) rfl d_M_init_683 ?_
  have hB := hB.cons (k := 110) (v := (121, 191)) (by decide)
  refine y_aload_n (q := 0) d_M_init_686 rfl rfl ?_
  refine y_bipush (v := 60) d_M_init_687 (by decide) ?_
  refine n_newi (z := 60) (n' := 192) (cs' := 81) (ss' := 48438) hA hB (by decide) d_M_init_689 k_1_72 (by decide) (by decide) (by decide) rfl (Nat.le_of_ble_eq_true rfl) (Nat.le_of_ble_eq_true rfl) rfl rfl ⟨rfl, rfl, rfl⟩ ?_
  have hA := hA.le (show 191 ≤ 192 from by decide)
  have hB := hB.le (show 191 ≤ 192 from by decide)
  refine n_putrF (j := 122) (v := 192) fl_M_259 rfl rfl (by decide) (by decide) rfl (by decide) rfl (fun _ => rfl) (fun _ => rfl) rfl d_M_init_691 ?_
  have hB := hB.cons (k := 110) (v := (122, 192)) (by decide)
  refine y_aload_n (q := 0) d_M_init_694 rfl rfl ?_
  refine y_bipush (v := 10) d_M_init_695 (by decide) ?_
  refine n_newi (z := 10) (n' := 193) (cs' := 82) (ss' := 48448) hA hB (by decide) d_M_init_697 k_1_72 (by decide) (by decide) (by decide) rfl (Nat.le_of_ble_eq_true rfl) (Nat.le_of_ble_eq_true rfl) rfl rfl ⟨rfl, rfl, rfl⟩ ?_
  have hA := hA.le (show 192 ≤ 193 from by decide)
  have hB := hB.le (show 192 ≤ 193 from by decide)
  refine n_putrF (j := 123) (v := 193) fl_M_262 rfl rfl (by decide) (by decide) rfl (by decide) rfl (fun _ => rfl) (fun _ => rfl) rfl d_M_init_699 ?_
  have hB := hB.cons (k := 110) (v := (123, 193)) (by decide)
  refine y_aload_n (q := 0) d_M_init_702 rfl rfl ?_
  refine y_bipush (v := 10) d_M_init_703 (by decide) ?_
  refine n_newi (z := 10) (n' := 194) (cs' := 83) (ss' := 48458) hA hB (by decide) d_M_init_705 k_1_72 (by decide) (by decide) (by decide) rfl (Nat.le_of_ble_eq_true rfl) (Nat.le_of_ble_eq_true rfl) rfl rfl ⟨rfl, rfl, rfl⟩ ?_
  have hA := hA.le (show 193 ≤ 194 from by decide)
  have hB := hB.le (show 193 ≤ 194 from by decide)
  refine n_putrF (j := 124) (v := 194) fl_M_265 rfl rfl (by decide) (by decide) rfl (by decide) rfl (fun _ => rfl) (fun _ => rfl) rfl d_M_init_707 ?_
  have hB := hB.cons (k := 110) (v := (124, 194)) (by decide)
  refine y_aload_n (q := 0) d_M_init_710 rfl rfl ?_
  refine y_sipush (v := 800) d_M_init_711 (by decide) ?_
  refine n_newi (z := 800) (n' := 195) (cs' := 84) (ss' := 49258) hA hB (by decide) d_M_init_714 k_1_72 (by decide) (by decide) (by decide) rfl (Nat.le_of_ble_eq_true rfl) (Nat.le_of_ble_eq_true rfl) rfl rfl ⟨rfl, rfl, rfl⟩ ?_
  have hA := hA.le (show 194 ≤ 195 from by decide)
  have hB := hB.le (show 194 ≤ 195 from by decide)
  refine n_putrF (j := 125) (v := 195) fl_M_268 rfl rfl (by decide) (by decide) rfl (by decide) rfl (fun _ => rfl) (fun _ => rfl) rfl d_M_init_716 ?_
  have hB := hB.cons (k := 110) (v := (125, 195)) (by decide)
  refine y_aload_n (q := 0) d_M_init_719 rfl rfl ?_
  refine y_iconst (v := 4) d_M_init_720 (by decide) ?_
  refine n_newi (z := 4) (n' := 196) (cs' := 85) (ss' := 49262) hA hB (by decide) d_M_init_721 k_1_72 (by decide) (by decide) (by decide) rfl (Nat.le_of_ble_eq_true rfl) (Nat.le_of_ble_eq_true rfl) rfl rfl ⟨rfl, rfl, rfl⟩ ?_
  have hA := hA.le (show 195 ≤ 196 from by decide)
  have hB := hB.le (show 195 ≤ 196 from by decide)
  refine n_putrF (j := 126) (v := 196) fl_M_271 rfl rfl (by decide) (by decide) rfl (by decide) rfl (fun _ => rfl) (fun _ => rfl) rfl d_M_init_723 ?_
  have hB := hB.cons (k := 110) (v := (126, 196)) (by decide)
  refine y_aload_n (q := 0) d_M_init_726 rfl rfl ?_
  refine y_bipush (v := 61) d_M_init_727 (by decide) ?_
  refine n_newi (z := 61) (n' := 197) (cs' := 86) (ss' := 49323) hA hB (by decide) d_M_init_729 k_1_72 (by decide) (by decide) (by decide) rfl (Nat.le_of_ble_eq_true rfl) (Nat.le_of_ble_eq_true rfl) rfl rfl ⟨rfl, rfl, rfl⟩ ?_
  have hA := hA.le (show 196 ≤ 197 from by decide)
  have hB := hB.le (show 196 ≤ 197 from by decide)
  refine n_putrF (j := 127) (v := 197) fl_M_274 rfl rfl (by decide) (by decide) rfl (by decide) rfl (fun _ => rfl) (fun _ => rfl) rfl d_M_init_731 ?_
  have hB := hB.cons (k := 110) (v := (127, 197)) (by decide)
  refine y_aload_n (q := 0) d_M_init_734 rfl rfl ?_
  refine y_bipush (v := 20) d_M_init_735 (by decide) ?_
  refine n_newj (z := 20) (n' := 198) (cs' := 87) (ss' := 49343) hA hB (by decide) d_M_init_737 k_1_73 (by decide) (by decide) (by decide) rfl (Nat.le_of_ble_eq_true rfl) (Nat.le_of_ble_eq_true rfl) rfl rfl ⟨rfl, rfl, rfl⟩ ?_
  have hA := hA.le (show 197 ≤ 198 from by decide)
  have hB := hB.le (show 197 ≤ 198 from by decide)
  refine n_putrF (j := 128) (v := 198) fl_M_277 rfl rfl (by decide) (by decide) rfl (by decide) rfl (fun _ => rfl) (fun _ => rfl) rfl d_M_init_739 ?_
  have hB := hB.cons (k := 110) (v := (128, 198)) (by decide)
  refine y_aload_n (q := 0) d_M_init_742 rfl rfl ?_
  refine y_sipush (v := 160) d_M_init_743 (by decide) ?_
  refine n_newi (z := 160) (n' := 199) (cs' := 88) (ss' := 49503) hA hB (by decide) d_M_init_746 k_1_72 (by decide) (by decide) (by decide) rfl (Nat.le_of_ble_eq_true rfl) (Nat.le_of_ble_eq_true rfl) rfl rfl ⟨rfl, rfl, rfl⟩ ?_
  have hA := hA.le (show 198 ≤ 199 from by decide)
  have hB := hB.le (show 198 ≤ 199 from by decide)
  refine n_putrF (j := 129) (v := 199) fl_M_280 rfl rfl (by decide) (by decide) rfl (by decide) rfl (fun _ => rfl) (fun _ => rfl) rfl d_M_init_748 ?_
  have hB := hB.cons (k := 110) (v := (129, 199)) (by decide)
  refine y_aload_n (q := 0) d_M_init_751 rfl rfl ?_
  refine y_iconst (v := 4) d_M_init_752 (by decide) ?_
  refine n_newi (z := 4) (n' := 200) (cs' := 89) (ss' := 49507) hA hB (by decide) d_M_init_753 k_1_72 (by decide) (by decide) (by decide) rfl (Nat.le_of_ble_eq_true rfl) (Nat.le_of_ble_eq_true rfl) rfl rfl ⟨rfl, rfl, rfl⟩ ?_
  have hA := hA.le (show 199 ≤ 200 from by decide)
  have hB := hB.le (show 199 ≤ 200 from by decide)
  refine n_putrF (j := 130) (v := 200) fl_M_283 rfl rfl (by decide) (by decide) rfl (by decide) rfl (fun _ => rfl) (fun _ => rfl) rfl d_M_init_755 ?_
  have hB := hB.cons (k := 110) (v := (130, 200)) (by decide)
  refine y_aload_n (q := 0) d_M_init_758 rfl rfl ?_
  refine y_bipush (v := 16) d_M_init_759 (by decide) ?_
  refine n_newz (z := 16) (n' := 201) (cs' := 90) (ss' := 49523) hA hB (by decide) d_M_init_761 k_1_114 (by decide) (by decide) (by decide) rfl (Nat.le_of_ble_eq_true rfl) (Nat.le_of_ble_eq_true rfl) rfl rfl ⟨rfl, rfl, rfl⟩ ?_
  have hA := hA.le (show 200 ≤ 201 from by decide)
  have hB := hB.le (show 200 ≤ 201 from by decide)
  refine n_putrF (j := 131) (v := 201) fl_M_286 rfl rfl (by decide) (by decide) rfl (by decide) rfl (fun _ => rfl) (fun _ => rfl) rfl d_M_init_763 ?_
  have hB := hB.cons (k := 110) (v := (131, 201)) (by decide)
  refine y_aload_n (q := 0) d_M_init_766 rfl rfl ?_
  refine y_iconst (v := 4) d_M_init_767 (by decide) ?_
  refine n_newz (z := 4) (n' := 202) (cs' := 91) (ss' := 49527) hA hB (by decide) d_M_init_768 k_1_114 (by decide) (by decide) (by decide) rfl (Nat.le_of_ble_eq_true rfl) (Nat.le_of_ble_eq_true rfl) rfl rfl ⟨rfl, rfl, rfl⟩ ?_
  have hA := hA.le (show 201 ≤ 202 from by decide)
  have hB := hB.le (show 201 ≤ 202 from by decide)
  refine n_putrF (j := 132) (v := 202) fl_M_289 rfl rfl (by decide) (by decide) rfl (by decide) rfl (fun _ => rfl) (fun _ => rfl) rfl d_M_init_770 ?_
  have hB := hB.cons (k := 110) (v := (132, 202)) (by decide)
  refine y_aload_n (q := 0) d_M_init_773 rfl rfl ?_
  refine y_sipush (v := 161) d_M_init_774 (by decide) ?_
  refine n_newi (z := 161) (n' := 203) (cs' := 92) (ss' := 49688) hA hB (by decide) d_M_init_777 k_1_72 (by decide) (by decide) (by decide) rfl (Nat.le_of_ble_eq_true rfl) (Nat.le_of_ble_eq_true rfl) rfl rfl ⟨rfl, rfl, rfl⟩ ?_
  have hA := hA.le (show 202 ≤ 203 from by decide)
  have hB := hB.le (show 202 ≤ 203 from by decide)
  refine n_putrF (j := 133) (v := 203) fl_M_292 rfl rfl (by decide) (by decide) rfl (by decide) rfl (fun _ => rfl) (fun _ => rfl) rfl d_M_init_779 ?_
  have hB := hB.cons (k := 110) (v := (133, 203)) (by decide)
  refine y_aload_n (q := 0) d_M_init_782 rfl rfl ?_
  refine y_sipush (v := 3240) d_M_init_783 (by decide) ?_
  refine n_newj (z := 3240) (n' := 204) (cs' := 93) (ss' := 52928) hA hB (by decide) d_M_init_786 k_1_73 (by decide) (by decide) (by decide) rfl (Nat.le_of_ble_eq_true rfl) (Nat.le_of_ble_eq_true rfl) rfl rfl ⟨rfl, rfl, rfl⟩ ?_
  have hA := hA.le (show 203 ≤ 204 from by decide)
  have hB := hB.le (show 203 ≤ 204 from by decide)
  refine n_putrF (j := 135) (v := 204) fl_M_295 rfl rfl (by decide) (by decide) rfl (by decide) rfl (fun _ => rfl) (fun _ => rfl) rfl d_M_init_788 ?_
  have hB := hB.cons (k := 110) (v := (135, 204)) (by decide)
  refine y_aload_n (q := 0) d_M_init_791 rfl rfl ?_
  refine y_bipush (v := 6) d_M_init_792 (by decide) ?_
  refine n_newi (z := 6) (n' := 205) (cs' := 94) (ss' := 52934) hA hB (by decide) d_M_init_794 k_1_72 (by decide) (by decide) (by decide) rfl (Nat.le_of_ble_eq_true rfl) (Nat.le_of_ble_eq_true rfl) rfl rfl ⟨rfl, rfl, rfl⟩ ?_
  have hA := hA.le (show 204 ≤ 205 from by decide)
  have hB := hB.le (show 204 ≤ 205 from by decide)
  refine n_putrF (j := 137) (v := 205) fl_M_298 rfl rfl (by decide) (by decide) rfl (by decide) rfl (fun _ => rfl) (fun _ => rfl) rfl d_M_init_796 ?_
  have hB := hB.cons (k := 110) (v := (137, 205)) (by decide)
  refine y_aload_n (q := 0) d_M_init_799 rfl rfl ?_
  refine y_bipush (v := 12) d_M_init_800 (by decide) ?_
  refine n_newi (z := 12) (n' := 206) (cs' := 95) (ss' := 52946) hA hB (by decide) d_M_init_802 k_1_72 (by decide) (by decide) (by decide) rfl (Nat.le_of_ble_eq_true rfl) (Nat.le_of_ble_eq_true rfl) rfl rfl ⟨rfl, rfl, rfl⟩ ?_
  have hA := hA.le (show 205 ≤ 206 from by decide)
  have hB := hB.le (show 205 ≤ 206 from by decide)
  refine n_putrF (j := 139) (v := 206) fl_M_301 rfl rfl (by decide) (by decide) rfl (by decide) rfl (fun _ => rfl) (fun _ => rfl) rfl d_M_init_804 ?_
  have hB := hB.cons (k := 110) (v := (139, 206)) (by decide)
  refine y_aload_n (q := 0) d_M_init_807 rfl rfl ?_
  refine y_bipush (v := 12) d_M_init_808 (by decide) ?_
  refine n_newi (z := 12) (n' := 207) (cs' := 96) (ss' := 52958) hA hB (by decide) d_M_init_810 k_1_72 (by decide) (by decide) (by decide) rfl (Nat.le_of_ble_eq_true rfl) (Nat.le_of_ble_eq_true rfl) rfl rfl ⟨rfl, rfl, rfl⟩ ?_
  have hA := hA.le (show 206 ≤ 207 from by decide)
  have hB := hB.le (show 206 ≤ 207 from by decide)
  refine n_putrF (j := 140) (v := 207) fl_M_304 rfl rfl (by decide) (by decide) rfl (by decide) rfl (fun _ => rfl) (fun _ => rfl) rfl d_M_init_812 ?_
  have hB := hB.cons (k := 110) (v := (140, 207)) (by decide)
  refine y_aload_n (q := 0) d_M_init_815 rfl rfl ?_
  refine y_sipush (v := 144) d_M_init_816 (by decide) ?_
  refine n_newi (z := 144) (n' := 208) (cs' := 97) (ss' := 53102) hA hB (by decide) d_M_init_819 k_1_72 (by decide) (by decide) (by decide) rfl (Nat.le_of_ble_eq_true rfl) (Nat.le_of_ble_eq_true rfl) rfl rfl ⟨rfl, rfl, rfl⟩ ?_
  have hA := hA.le (show 207 ≤ 208 from by decide)
  have hB := hB.le (show 207 ≤ 208 from by decide)
  refine n_putrF (j := 141) (v := 208) fl_M_307 rfl rfl (by decide) (by decide) rfl (by decide) rfl (fun _ => rfl) (fun _ => rfl) rfl d_M_init_821 ?_
  have hB := hB.cons (k := 110) (v := (141, 208)) (by decide)
  refine y_aload_n (q := 0) d_M_init_824 rfl rfl ?_
  refine y_sipush (v := 144) d_M_init_825 (by decide) ?_
  refine n_newi (z := 144) (n' := 209) (cs' := 98) (ss' := 53246) hA hB (by decide) d_M_init_828 k_1_72 (by decide) (by decide) (by decide) rfl (Nat.le_of_ble_eq_true rfl) (Nat.le_of_ble_eq_true rfl) rfl rfl ⟨rfl, rfl, rfl⟩ ?_
  have hA := hA.le (show 208 ≤ 209 from by decide)
  have hB := hB.le (show 208 ≤ 209 from by decide)
  refine n_putrF (j := 142) (v := 209) fl_M_310 rfl rfl (by decide) (by decide) rfl (by decide) rfl (fun _ => rfl) (fun _ => rfl) rfl d_M_init_830 ?_
  have hB := hB.cons (k := 110) (v := (142, 209)) (by decide)
  refine y_aload_n (q := 0) d_M_init_833 rfl rfl ?_
  refine y_sipush (v := 144) d_M_init_834 (by decide) ?_
  refine n_newi (z := 144) (n' := 210) (cs' := 99) (ss' := 53390) hA hB (by decide) d_M_init_837 k_1_72 (by decide) (by decide) (by decide) rfl (Nat.le_of_ble_eq_true rfl) (Nat.le_of_ble_eq_true rfl) rfl rfl ⟨rfl, rfl, rfl⟩ ?_
  have hA := hA.le (show 209 ≤ 210 from by decide)
  have hB := hB.le (show 209 ≤ 210 from by decide)
  refine n_putrF (j := 143) (v := 210) fl_M_313 rfl rfl (by decide) (by decide) rfl (by decide) rfl (fun _ => rfl) (fun _ => rfl) rfl d_M_init_839 ?_
  have hB := hB.cons (k := 110) (v := (143, 210)) (by decide)
  refine y_aload_n (q := 0) d_M_init_842 rfl rfl ?_
  refine y_bipush (v := 20) d_M_init_843 (by decide) ?_
  refine n_newi (z := 20) (n' := 211) (cs' := 100) (ss' := 53410) hA hB (by decide) d_M_init_845 k_1_72 (by decide) (by decide) (by decide) rfl (Nat.le_of_ble_eq_true rfl) (Nat.le_of_ble_eq_true rfl) rfl rfl ⟨rfl, rfl, rfl⟩ ?_
  have hA := hA.le (show 210 ≤ 211 from by decide)
  have hB := hB.le (show 210 ≤ 211 from by decide)
  refine n_putrF (j := 144) (v := 211) fl_M_316 rfl rfl (by decide) (by decide) rfl (by decide) rfl (fun _ => rfl) (fun _ => rfl) rfl d_M_init_847 ?_
  have hB := hB.cons (k := 110) (v := (144, 211)) (by decide)
  refine y_aload_n (q := 0) d_M_init_850 rfl rfl ?_
  refine y_bipush (v := 20) d_M_init_851 (by decide) ?_
  refine n_newi (z := 20) (n' := 212) (cs' := 101) (ss' := 53430) hA hB (by decide) d_M_init_853 k_1_72 (by decide) (by decide) (by decide) rfl (Nat.le_of_ble_eq_true rfl) (Nat.le_of_ble_eq_true rfl) rfl rfl ⟨rfl, rfl, rfl⟩ ?_
  have hA := hA.le (show 211 ≤ 212 from by decide)
  have hB := hB.le (show 211 ≤ 212 from by decide)
  refine n_putrF (j := 145) (v := 212) fl_M_319 rfl rfl (by decide) (by decide) rfl (by decide) rfl (fun _ => rfl) (fun _ => rfl) rfl d_M_init_855 ?_
  have hB := hB.cons (k := 110) (v := (145, 212)) (by decide)
  refine y_aload_n (q := 0) d_M_init_858 rfl rfl ?_
  refine y_bipush (v := 20) d_M_init_859 (by decide) ?_
  refine n_newi (z := 20) (n' := 213) (cs' := 102) (ss' := 53450) hA hB (by decide) d_M_init_861 k_1_72 (by decide) (by decide) (by decide) rfl (Nat.le_of_ble_eq_true rfl) (Nat.le_of_ble_eq_true rfl) rfl rfl ⟨rfl, rfl, rfl⟩ ?_
  have hA := hA.le (show 212 ≤ 213 from by decide)
  have hB := hB.le (show 212 ≤ 213 from by decide)
  refine n_putrF (j := 146) (v := 213) fl_M_322 rfl rfl (by decide) (by decide) rfl (by decide) rfl (fun _ => rfl) (fun _ => rfl) rfl d_M_init_863 ?_
  have hB := hB.cons (k := 110) (v := (146, 213)) (by decide)
  refine y_aload_n (q := 0) d_M_init_866 rfl rfl ?_
  refine y_bipush (v := 20) d_M_init_867 (by decide) ?_
  refine n_newi (z := 20) (n' := 214) (cs' := 103) (ss' := 53470) hA hB (by decide) d_M_init_869 k_1_72 (by decide) (by decide) (by decide) rfl (Nat.le_of_ble_eq_true rfl) (Nat.le_of_ble_eq_true rfl) rfl rfl ⟨rfl, rfl, rfl⟩ ?_
  have hA := hA.le (show 213 ≤ 214 from by decide)
  have hB := hB.le (show 213 ≤ 214 from by decide)
  refine n_putrF (j := 147) (v := 214) fl_M_325 rfl rfl (by decide) (by decide) rfl (by decide) rfl (fun _ => rfl) (fun _ => rfl) rfl d_M_init_871 ?_
  have hB := hB.cons (k := 110) (v := (147, 214)) (by decide)
  refine y_aload_n (q := 0) d_M_init_874 rfl rfl ?_
  refine y_bipush (v := 8) d_M_init_875 (by decide) ?_
  refine n_newi (z := 8) (n' := 215) (cs' := 104) (ss' := 53478) hA hB (by decide) d_M_init_877 k_1_72 (by decide) (by decide) (by decide) rfl (Nat.le_of_ble_eq_true rfl) (Nat.le_of_ble_eq_true rfl) rfl rfl ⟨rfl, rfl, rfl⟩ ?_
  have hA := hA.le (show 214 ≤ 215 from by decide)
  have hB := hB.le (show 214 ≤ 215 from by decide)
  refine n_putrF (j := 149) (v := 215) fl_M_328 rfl rfl (by decide) (by decide) rfl (by decide) rfl (fun _ => rfl) (fun _ => rfl) rfl d_M_init_879 ?_
  have hB := hB.cons (k := 110) (v := (149, 215)) (by decide)
  exact x_vret rfl d_M_init_882 (Nat.le_of_ble_eq_true rfl) (Nat.le_of_ble_eq_true rfl) h
