theorem in_pick {big ws : List Cond} {ps : List Nat} (h : ws = ps.filterMap (fun i => big[i]?)) : ∀ w ∈ ws, w ∈ big := by
  intro w hw
  rw [h] at hw
  obtain ⟨i, -, hi⟩ := List.mem_filterMap.mp hw
  exact List.mem_of_getElem? hi
noncomputable def j_iushr (x y : Int32) : Int32 := (x.toUInt32 >>> (y.toUInt32 &&& Int32.toUInt32 31)).toInt32
noncomputable def j_lshl (x : Int64) (y : Int32) : Int64 := x <<< (y.toInt64 &&& 63)
noncomputable def j_lshr (x : Int64) (y : Int32) : Int64 := x >>> (y.toInt64 &&& 63)
noncomputable def j_lushr (x : Int64) (y : Int32) : Int64 := (x.toUInt64 >>> (y.toInt64.toUInt64 &&& Int64.toUInt64 63)).toInt64
noncomputable def j_i2c (x : Int32) : Int32 := (x.toUInt32 % 65536).toInt32
theorem j_inc {x w : Int32} {z : Int} (h : Int32.ofInt z = w) : x + Int32.ofInt z = x + w := by rw [h]
theorem j_out {x : Int32} {lo hi : Int} (h : ∀ k : Int, lo ≤ k → k ≤ hi → x.toInt = k → False) : x.toInt < lo ∨ hi < x.toInt := by
  rcases Int.lt_or_le x.toInt lo with h1 | h1
  · exact Or.inl h1
  · rcases Int.lt_or_le hi x.toInt with h2 | h2
    · exact Or.inr h2
    · exact absurd (h _ h1 h2 rfl) id
theorem j_eq {x y : Int32} (h : x.toInt = y.toInt) : x = y := Int32.toInt_inj.mp h
theorem j_osw {x k : Int32} {a o d : Int} {r : List (Int × Int)} (h : ¬ x = k) (hk : k.toInt = a) : Op.lookupswitch.offset ((a, o) :: r) d x.toInt = Op.lookupswitch.offset r d x.toInt := lv_osw h hk
section ZS
variable {E : xV} {Y : xY} {pc pc' : Nat} {lv : List (Nat × Value)} {st : List Value} {σ : zS} {K : zKt}
theorem x_ldcS {n cs ss : Nat} {σ : xS} {K : xQQ} {i : Nat} {q : String × (Nat × String)} (hq : STR[i]? = some q) (hY : Y.1.cls = q.1) (d : decode Y.2.1 pc = .ok (.ldc q.2.1, 2)) (k : Wx E Y (pc + 2) lv (.ref (1000 + i) :: st) n cs ss σ K) : Wx E Y pc lv st n cs ss σ K := by
  intro p e R s m args below meth c H locs ls a0 n0 a hC hn hg hH hS hl
  refine va_ldcS (q := E.2.2.2.1 i) hC.1 hC.2.1 (hY ▸ hC.2.2.2.2.1) (hC.2.2.2.2.2.2.2.2.1.2.1 i q hq) d ?_
  have h := k p e R s m args below meth c H locs ls a0 n0 a hC hn hg hH hS hl
  have e1 : (Value.ref (1000 + i) :: st).map (xrel a) = Value.ref (E.2.2.2.1 i) :: st.map (xrel a) := by
    simp only [List.map_cons, xrel]
    rw [hH.2.2.2.1.2 i]
  rw [e1] at h
  exact h
theorem z_ldcS {i : Nat} {q : String × (Nat × String)} (hq : STR[i]? = some q) (hY : Y.1.cls = q.1) (d : decode Y.2.1 pc = .ok (.ldc q.2.1, 2) ∧ pc + 2 = pc') (k : Wz E Y pc' lv (.ref (1000 + i) :: st) σ K) : Wz E Y pc lv st σ K := by
  obtain ⟨d, rfl⟩ := d
  exact x_ldcS hq hY d k
theorem j_bool {v : Int32} (h : v = 0 ∨ v = 1) : narrow .boolean (.int v) = .int v ∧ fits .boolean (.int v) = true := by
  rcases h with rfl | rfl <;> exact ⟨rfl, rfl⟩
end ZS
noncomputable def sdis : List String → Bool
  | [] => true
  | x :: r => (r.all fun y => decide (x ≠ y)) && sdis r
theorem sdis_ok : ∀ {L : List String}, sdis L = true → ∀ (a b : Nat) (x : String), a < b → L[a]? = some x → L[b]? = some x → False
  | [], _, a, _, x, _, h, _ => by
    rw [List.getElem?_nil] at h
    cases h
  | y :: r, h, 0, 0, x, hl, _, _ => absurd hl (Nat.lt_irrefl _)
  | y :: r, h, 0, b + 1, x, _, h1, h2 => by
    have h : ((r.all fun z => decide (y ≠ z)) && sdis r) = true := h
    rw [Bool.and_eq_true] at h
    have h1 : some y = some x := h1
    cases h1
    have h2 : r[b]? = some y := h2
    exact of_decide_eq_true (List.all_eq_true.mp h.1 y (List.mem_of_getElem? h2)) rfl
  | y :: r, h, a + 1, 0, x, hl, _, _ => absurd hl (Nat.not_lt_zero _)
  | y :: r, h, a + 1, b + 1, x, hl, h1, h2 => by
    have h : ((r.all fun z => decide (y ≠ z)) && sdis r) = true := h
    rw [Bool.and_eq_true] at h
    exact sdis_ok h.2 a b x (Nat.lt_of_succ_lt_succ hl) h1 h2
theorem cn_of {T : u_T} {n : Nat} {L : List String} (h : (List.range n).map (fun a => (T a).2.1) = L) (hd : sdis L = true) : ∀ a, a < n → ∀ b, b < n → a ≠ b → (T a).2.1 ≠ (T b).2.1 := by
  have g : ∀ a, a < n → L[a]? = some (T a).2.1 := fun a ha => by
    rw [← h, List.getElem?_map, List.getElem?_range ha]
    rfl
  intro a ha b hb hab e
  rcases Nat.lt_or_ge a b with q | q
  · exact sdis_ok hd a b _ q (g a ha) (by rw [g b hb, e])
  · exact sdis_ok hd b a _ (by omega) (g b hb) (by rw [g a ha, e])
theorem mt_1 {w : Cond} (h : w ∈ tables_1_1) : w ∈ tables_1 := List.mem_append_left _ h
theorem mt_2 {w : Cond} (h : w ∈ tables_1_2) : w ∈ tables_1 := List.mem_append_right _ (List.mem_append_left _ h)
theorem mt_3 {w : Cond} (h : w ∈ tables_1_3) : w ∈ tables_1 := List.mem_append_right _ (List.mem_append_right _ (List.mem_append_left _ h))
theorem mt_4 {w : Cond} (h : w ∈ tables_1_4) : w ∈ tables_1 := List.mem_append_right _ (List.mem_append_right _ (List.mem_append_right _ (List.mem_append_left _ h)))
theorem mt_5 {w : Cond} (h : w ∈ tables_1_5) : w ∈ tables_1 := List.mem_append_right _ (List.mem_append_right _ (List.mem_append_right _ (List.mem_append_right _ (List.mem_append_left _ h))))
theorem mt_6 {w : Cond} (h : w ∈ tables_1_6) : w ∈ tables_1 := List.mem_append_right _ (List.mem_append_right _ (List.mem_append_right _ (List.mem_append_right _ (List.mem_append_right _ (List.mem_append_left _ h)))))
theorem mt_7 {w : Cond} (h : w ∈ tables_1_7) : w ∈ tables_1 := List.mem_append_right _ (List.mem_append_right _ (List.mem_append_right _ (List.mem_append_right _ (List.mem_append_right _ (List.mem_append_right _ (List.mem_append_left _ h))))))
theorem mt_8 {w : Cond} (h : w ∈ tables_1_8) : w ∈ tables_1 := List.mem_append_right _ (List.mem_append_right _ (List.mem_append_right _ (List.mem_append_right _ (List.mem_append_right _ (List.mem_append_right _ (List.mem_append_right _ (List.mem_append_left _ h)))))))
theorem mt_9 {w : Cond} (h : w ∈ tables_1_9) : w ∈ tables_1 := List.mem_append_right _ (List.mem_append_right _ (List.mem_append_right _ (List.mem_append_right _ (List.mem_append_right _ (List.mem_append_right _ (List.mem_append_right _ (List.mem_append_right _ (List.mem_append_left _ h))))))))
theorem mt_10 {w : Cond} (h : w ∈ tables_1_10) : w ∈ tables_1 := List.mem_append_right _ (List.mem_append_right _ (List.mem_append_right _ (List.mem_append_right _ (List.mem_append_right _ (List.mem_append_right _ (List.mem_append_right _ (List.mem_append_right _ (List.mem_append_right _ (List.mem_append_left _ h)))))))))
theorem mt_11 {w : Cond} (h : w ∈ tables_1_11) : w ∈ tables_1 := List.mem_append_right _ (List.mem_append_right _ (List.mem_append_right _ (List.mem_append_right _ (List.mem_append_right _ (List.mem_append_right _ (List.mem_append_right _ (List.mem_append_right _ (List.mem_append_right _ (List.mem_append_right _ (List.mem_append_left _ h))))))))))
theorem mt_12 {w : Cond} (h : w ∈ tables_1_12) : w ∈ tables_1 := List.mem_append_right _ (List.mem_append_right _ (List.mem_append_right _ (List.mem_append_right _ (List.mem_append_right _ (List.mem_append_right _ (List.mem_append_right _ (List.mem_append_right _ (List.mem_append_right _ (List.mem_append_right _ (List.mem_append_right _ (List.mem_append_left _ h)))))))))))
theorem mt_13 {w : Cond} (h : w ∈ tables_1_13) : w ∈ tables_1 := List.mem_append_right _ (List.mem_append_right _ (List.mem_append_right _ (List.mem_append_right _ (List.mem_append_right _ (List.mem_append_right _ (List.mem_append_right _ (List.mem_append_right _ (List.mem_append_right _ (List.mem_append_right _ (List.mem_append_right _ (List.mem_append_right _ h)))))))))))
theorem cu0_0 : u_ws R_0 T_0 12 = [180, 182, 184, 186, 188, 190, 192, 194, 196, 198, 200, 202].filterMap (fun i => tables_1_2[i]?) := by decide +kernel
theorem cu1_0 : (u_ws R_0 T_0 12).all goodWord = true := by decide +kernel
theorem cu_0 : ∀ w ∈ u_ws R_0 T_0 12, w ∈ TBg := fun w h => tb_t (have h9 := in_pick cu0_0 w h; mt_2 h9) (List.all_eq_true.mp cu1_0 w h)
theorem cn_0 : ∀ a, a < 12 → ∀ b, b < 12 → a ≠ b → (T_0 a).2.1 ≠ (T_0 b).2.1 := cn_of (L := ["label", "statements", "kind", "a", "b", "c", "given", "value", "said", "saidCount", "loop", "loops"]) (by decide +kernel) (by decide +kernel)
theorem ct_0 : ∀ k, k < 12 → parseFieldDescriptor (T_0 k).2.2.1 = some (ty_0 k) := by decide +kernel
theorem cu0_1 : u_ws R_1 T_1 14 = [28, 30, 32, 34, 36, 38, 40, 42, 44, 46, 48, 50, 52, 54].filterMap (fun i => tables_1_3[i]?) := by decide +kernel
theorem cu1_1 : (u_ws R_1 T_1 14).all goodWord = true := by decide +kernel
theorem cu_1 : ∀ w ∈ u_ws R_1 T_1 14, w ∈ TBg := fun w h => tb_t (have h9 := in_pick cu0_1 w h; mt_3 h9) (List.all_eq_true.mp cu1_1 w h)
theorem cn_1 : ∀ a, a < 14 → ∀ b, b < 14 → a ≠ b → (T_1 a).2.1 ≠ (T_1 b).2.1 := cn_of (L := ["rooms", "rights", "methods", "methodRoom", "ops", "opKind", "opFirst", "opSecond", "frameMethod", "frameOp", "frameKind", "frameRights", "frames", "entered"]) (by decide +kernel) (by decide +kernel)
theorem ct_1 : ∀ k, k < 14 → parseFieldDescriptor (T_1 k).2.2.1 = some (ty_1 k) := by decide +kernel
theorem cu0_2 : u_ws R_2 T_2 9 = [225, 227, 229, 231, 233, 235, 237, 239, 241].filterMap (fun i => (tables_1_2 ++ tables_1_3)[i]?) := by decide +kernel
theorem cu1_2 : (u_ws R_2 T_2 9).all goodWord = true := by decide +kernel
theorem cu_2 : ∀ w ∈ u_ws R_2 T_2 9, w ∈ TBg := fun w h => tb_t (have h9 := in_pick cu0_2 w h; (List.mem_append.mp h9).elim mt_2 mt_3) (List.all_eq_true.mp cu1_2 w h)
theorem cn_2 : ∀ a, a < 9 → ∀ b, b < 9 → a ≠ b → (T_2 a).2.1 ≠ (T_2 b).2.1 := by decide +kernel
theorem ct_2 : ∀ k, k < 9 → parseFieldDescriptor (T_2 k).2.2.1 = some (ty_2 k) := by decide +kernel
theorem cu0_3 : u_ws R_3 T_3 20 = [211, 213, 215, 217, 219, 221, 223, 225, 227, 229, 231, 233, 235, 237, 239, 241, 243, 245, 247, 249].filterMap (fun i => tables_1[i]?) := by decide +kernel
theorem cu1_3 : (u_ws R_3 T_3 20).all goodWord = true := by decide +kernel
theorem cu_3 : ∀ w ∈ u_ws R_3 T_3 20, w ∈ TBg := fun w h => tb_t (in_pick cu0_3 w h) (List.all_eq_true.mp cu1_3 w h)
theorem cn_3 : ∀ a, a < 20 → ∀ b, b < 20 → a ≠ b → (T_3 a).2.1 ≠ (T_3 b).2.1 := cn_of (L := ["people", "things", "policies", "person", "groups", "thing", "moment", "now", "value", "isReal", "values", "truth", "truths", "failure", "decision", "made", "hasMade", "compared", "hasCompared", "sweeps"]) (by decide +kernel) (by decide +kernel)
theorem ct_3 : ∀ k, k < 20 → parseFieldDescriptor (T_3 k).2.2.1 = some (ty_3 k) := by decide +kernel
theorem cu0_4 : u_ws R_4 T_4 11 = [133, 135, 137, 139, 141, 143, 145, 147, 149, 151, 153].filterMap (fun i => tables_1_2[i]?) := by decide +kernel
theorem cu1_4 : (u_ws R_4 T_4 11).all goodWord = true := by decide +kernel
theorem cu_4 : ∀ w ∈ u_ws R_4 T_4 11, w ∈ TBg := fun w h => tb_t (have h9 := in_pick cu0_4 w h; mt_2 h9) (List.all_eq_true.mp cu1_4 w h)
theorem cn_4 : ∀ a, a < 11 → ∀ b, b < 11 → a ≠ b → (T_4 a).2.1 ≠ (T_4 b).2.1 := by decide +kernel
theorem ct_4 : ∀ k, k < 11 → parseFieldDescriptor (T_4 k).2.2.1 = some (ty_4 k) := by decide +kernel
theorem cu0_5 : u_ws R_5 T_5 17 = [145, 147, 149, 151, 153, 155, 157, 159, 161, 163, 165, 167, 169, 171, 173, 175, 177].filterMap (fun i => tables_1[i]?) := by decide +kernel
theorem cu1_5 : (u_ws R_5 T_5 17).all goodWord = true := by decide +kernel
theorem cu_5 : ∀ w ∈ u_ws R_5 T_5 17, w ∈ TBg := fun w h => tb_t (in_pick cu0_5 w h) (List.all_eq_true.mp cu1_5 w h)
theorem cn_5 : ∀ a, a < 17 → ∀ b, b < 17 → a ≠ b → (T_5 a).2.1 ≠ (T_5 b).2.1 := cn_of (L := ["policies", "way", "rules", "rule", "op", "number", "people", "things", "text", "length", "kind", "start", "value", "tokens", "at", "ops", "fault"]) (by decide +kernel) (by decide +kernel)
theorem ct_5 : ∀ k, k < 17 → parseFieldDescriptor (T_5 k).2.2.1 = some (ty_5 k) := by decide +kernel
theorem cu0_6 : u_ws R_6 T_6 10 = [33, 35, 37, 39, 41, 43, 45, 47, 49, 51].filterMap (fun i => tables_1_2[i]?) := by decide +kernel
theorem cu1_6 : (u_ws R_6 T_6 10).all goodWord = true := by decide +kernel
theorem cu_6 : ∀ w ∈ u_ws R_6 T_6 10, w ∈ TBg := fun w h => tb_t (have h9 := in_pick cu0_6 w h; mt_2 h9) (List.all_eq_true.mp cu1_6 w h)
theorem cn_6 : ∀ a, a < 10 → ∀ b, b < 10 → a ≠ b → (T_6 a).2.1 ≠ (T_6 b).2.1 := by decide +kernel
theorem ct_6 : ∀ k, k < 10 → parseFieldDescriptor (T_6 k).2.2.1 = some (ty_6 k) := by decide +kernel
theorem cu0_7 : u_ws R_7 T_7 7 = [99, 101, 103, 105, 107, 109, 111].filterMap (fun i => tables_1[i]?) := by decide +kernel
theorem cu1_7 : (u_ws R_7 T_7 7).all goodWord = true := by decide +kernel
theorem cu_7 : ∀ w ∈ u_ws R_7 T_7 7, w ∈ TBg := fun w h => tb_t (in_pick cu0_7 w h) (List.all_eq_true.mp cu1_7 w h)
theorem cn_7 : ∀ a, a < 7 → ∀ b, b < 7 → a ≠ b → (T_7 a).2.1 ≠ (T_7 b).2.1 := by decide +kernel
theorem ct_7 : ∀ k, k < 7 → parseFieldDescriptor (T_7 k).2.2.1 = some (ty_7 k) := by decide +kernel
theorem cu0_8 : u_ws R_8 T_8 7 = [57, 59, 61, 63, 65, 67, 69].filterMap (fun i => tables_1[i]?) := by decide +kernel
theorem cu1_8 : (u_ws R_8 T_8 7).all goodWord = true := by decide +kernel
theorem cu_8 : ∀ w ∈ u_ws R_8 T_8 7, w ∈ TBg := fun w h => tb_t (in_pick cu0_8 w h) (List.all_eq_true.mp cu1_8 w h)
theorem cn_8 : ∀ a, a < 7 → ∀ b, b < 7 → a ≠ b → (T_8 a).2.1 ≠ (T_8 b).2.1 := by decide +kernel
theorem ct_8 : ∀ k, k < 7 → parseFieldDescriptor (T_8 k).2.2.1 = some (ty_8 k) := by decide +kernel
theorem cu0_9 : u_ws R_9 T_9 15 = [80, 82, 84, 86, 88, 90, 92, 94, 96, 98, 100, 102, 104, 106, 108].filterMap (fun i => tables_1_2[i]?) := by decide +kernel
theorem cu1_9 : (u_ws R_9 T_9 15).all goodWord = true := by decide +kernel
theorem cu_9 : ∀ w ∈ u_ws R_9 T_9 15, w ∈ TBg := fun w h => tb_t (have h9 := in_pick cu0_9 w h; mt_2 h9) (List.all_eq_true.mp cu1_9 w h)
theorem cn_9 : ∀ a, a < 15 → ∀ b, b < 15 → a ≠ b → (T_9 a).2.1 ≠ (T_9 b).2.1 := cn_of (L := ["people", "works", "steps", "group", "done", "ties", "tieKind", "tieFirst", "tieSecond", "kept", "set", "candidates", "current", "mostTries", "tried"]) (by decide +kernel) (by decide +kernel)
theorem ct_9 : ∀ k, k < 15 → parseFieldDescriptor (T_9 k).2.2.1 = some (ty_9 k) := by decide +kernel
theorem cu0_10 : u_ws R_10 T_10 18 = [75, 77, 79, 81, 83, 85, 87, 89, 91, 93, 95, 97, 99, 101, 103, 105, 107, 109].filterMap (fun i => tables_1_3[i]?) := by decide +kernel
theorem cu1_10 : (u_ws R_10 T_10 18).all goodWord = true := by decide +kernel
theorem cu_10 : ∀ w ∈ u_ws R_10 T_10 18, w ∈ TBg := fun w h => tb_t (have h9 := in_pick cu0_10 w h; mt_3 h9) (List.all_eq_true.mp cu1_10 w h)
theorem cn_10 : ∀ a, a < 18 → ∀ b, b < 18 → a ≠ b → (T_10 a).2.1 ≠ (T_10 b).2.1 := cn_of (L := ["tape", "tapeLength", "now", "forceFrom", "forcePolicy", "forces", "log", "logRows", "people", "things", "policies", "judge", "roles", "works", "lends", "flows", "guard", "gates"]) (by decide +kernel) (by decide +kernel)
theorem ct_10 : ∀ k, k < 18 → parseFieldDescriptor (T_10 k).2.2.1 = some (ty_10 k) := by decide +kernel
theorem cu0_11 : u_ws R_11 T_11 151 = [84, 86, 88, 90, 92, 94, 96, 98, 100, 102, 104, 106, 108, 110, 112, 114, 116, 118, 120, 122, 124, 126, 128, 130, 132, 134, 136, 138, 140, 142, 144, 146, 148, 150, 152, 154, 156, 158, 160, 162, 164, 166, 168, 170, 172, 174, 176, 178, 180, 182, 184, 186, 188, 190, 192, 194, 196, 198, 200, 202, 204, 206, 208, 210, 212, 214, 216, 218, 220, 222, 224, 226, 228, 230, 232, 234, 236, 238, 240, 242, 244, 246, 248, 250, 252, 254, 256, 258, 260, 262, 264, 266, 268, 270, 272, 274, 276, 278, 280, 282, 284, 286, 288, 290, 292, 294, 296, 298, 300, 302, 304, 306, 308, 310, 312, 314, 316, 318, 320, 322, 324, 326, 328, 330, 332, 334, 336, 338, 340, 342, 344, 346, 348, 350, 352, 354, 356, 358, 360, 362, 364, 366, 368, 370, 372, 374, 376, 378, 380, 382, 384].filterMap (fun i => (tables_1_9 ++ tables_1_10)[i]?) := by decide +kernel
theorem cu1_11 : (u_ws R_11 T_11 151).all goodWord = true := by decide +kernel
theorem cu_11 : ∀ w ∈ u_ws R_11 T_11 151, w ∈ TBg := fun w h => tb_t (have h9 := in_pick cu0_11 w h; (List.mem_append.mp h9).elim mt_9 mt_10) (List.all_eq_true.mp cu1_11 w h)
theorem cn_11 : ∀ a, a < 151 → ∀ b, b < 151 → a ≠ b → (T_11 a).2.1 ≠ (T_11 b).2.1 := cn_of (L := ["now", "taped", "tape", "logs", "logRows", "logSums", "persons", "groups", "rows", "members", "rowGroups", "froms", "untils", "knownFroms", "knownUntils", "reach", "sorts", "counts", "items", "aside", "things", "places", "owners", "isCut", "gone", "hold", "isBegun", "pos", "tokKind", "tokAt", "tokSign", "tokValue", "policies", "ways", "ruleCounts", "effects", "whoKinds", "whoNumbers", "ruleActs", "thingKinds", "thingNumbers", "duties", "codeFroms", "codeTos", "codes", "codeValues", "coded", "groupKinds", "groupConds", "groupParts", "groupBases", "groupFeatures", "open", "waitCodes", "waitRanks", "waitValues", "waiting", "deep", "fault", "featureRead", "starts", "wants", "kinds", "values", "top", "judged", "judgedRule", "judgedFail", "judgedSpoke", "isAsked", "madeOf", "forces", "forceTimes", "forcePolicies", "isCompared", "looks", "comparedOf", "laws", "lawKinds", "lawFirsts", "lawSeconds", "brokenLaw", "sessions", "sessionPersons", "isOn", "works", "stepCounts", "stepGroups", "done", "filling", "tieCounts", "tieKinds", "tieFirsts", "tieSeconds", "current", "tried", "lends", "lendFroms", "lendTos", "lendActs", "lendThings", "lendUntils", "furthers", "uses", "isEnded", "good", "chain", "chained", "kept", "keptCount", "keys", "had", "gains", "gainWho", "gainOn", "gainBits", "labels", "isLabelled", "statements", "stKinds", "stAs", "stBs", "stCs", "given", "variables", "outs", "outCounts", "loops", "numbers", "sets", "setCounts", "shares", "linked", "known", "knownCount", "matrix", "rooms", "roomRights", "methods", "methodRooms", "opCounts", "opKinds", "opAs", "opBs", "frameMethods", "frameAts", "frameKinds", "frameRights", "frames", "entered", "wasEntered"]) (by decide +kernel) (by decide +kernel)
theorem ct_11 : ∀ k, k < 151 → parseFieldDescriptor (T_11 k).2.2.1 = some (ty_11 k) := by decide +kernel
