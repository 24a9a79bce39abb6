theorem in_pick {big ws : List Cond} {ps : List Nat} (h : ws = ps.filterMap (fun i => big[i]?)) : ∀ w ∈ ws, w ∈ big := by
  intro w hw
  rw [h] at hw
  obtain ⟨i, -, hi⟩ := List.mem_filterMap.mp hw
  exact List.mem_of_getElem? hi
def j_iushr (x y : Int32) : Int32 := (x.toUInt32 >>> (y.toUInt32 &&& Int32.toUInt32 31)).toInt32
def j_lshl (x : Int64) (y : Int32) : Int64 := x <<< (y.toInt64 &&& 63)
def j_lshr (x : Int64) (y : Int32) : Int64 := x >>> (y.toInt64 &&& 63)
def j_lushr (x : Int64) (y : Int32) : Int64 := (x.toUInt64 >>> (y.toInt64.toUInt64 &&& Int64.toUInt64 63)).toInt64
def j_i2c (x : Int32) : Int32 := (x.toUInt32 % 65536).toInt32
theorem j_inc {x w : Int32} {z : Int} (h : Int32.ofInt z = w) : x + Int32.ofInt z = x + w := by rw [h]
theorem j_out {x : Int32} {lo hi : Int} (h : ∀ k : Int, lo ≤ k → k ≤ hi → x.toInt = k → False) : x.toInt < lo ∨ hi < x.toInt := by
  rcases Int.lt_or_le x.toInt lo with h1 | h1
  · exact Or.inl h1
  · rcases Int.lt_or_le hi x.toInt with h2 | h2
    · exact Or.inr h2
    · exact absurd (h _ h1 h2 rfl) id
theorem j_eq {x y : Int32} (h : x.toInt = y.toInt) : x = y := Int32.toInt_inj.mp h
theorem j_osw {x k : Int32} {a o d : Int} {r : List (Int × Int)} (h : ¬ x = k) (hk : k.toInt = a) : Op.lookupswitch.offset ((a, o) :: r) d x.toInt = Op.lookupswitch.offset r d x.toInt := lv_osw h hk
section ZS
variable {E : xV} {Y : xY} {pc pc' : Nat} {lv : List (Nat × Value)} {st : List Value} {σ : zS} {K : zKt}
theorem x_ldcS {n cs ss : Nat} {σ : xS} {K : xQQ} {i : Nat} {q : String × (Nat × String)} (hq : STR[i]? = some q) (hY : Y.1.cls = q.1) (d : decode Y.2.1 pc = .ok (.ldc q.2.1, 2)) (k : Wx E Y (pc + 2) lv (.ref (1000 + i) :: st) n cs ss σ K) : Wx E Y pc lv st n cs ss σ K := by
  intro p e R s m args below meth c H locs ls a0 n0 a hC hn hg hH hS hl
  refine va_ldcS (q := E.2.2.2.1 i) hC.1 hC.2.1 (hY ▸ hC.2.2.2.2.1) (hC.2.2.2.2.2.2.2.2.1.2.1 i q hq) d ?_
  have h := k p e R s m args below meth c H locs ls a0 n0 a hC hn hg hH hS hl
  have e1 : (Value.ref (1000 + i) :: st).map (xrel a) = Value.ref (E.2.2.2.1 i) :: st.map (xrel a) := by
    simp only [List.map_cons, xrel]
    rw [hH.2.2.2.1.2 i]
  rw [e1] at h
  exact h
theorem z_ldcS {i : Nat} {q : String × (Nat × String)} (hq : STR[i]? = some q) (hY : Y.1.cls = q.1) (d : decode Y.2.1 pc = .ok (.ldc q.2.1, 2) ∧ pc + 2 = pc') (k : Wz E Y pc' lv (.ref (1000 + i) :: st) σ K) : Wz E Y pc lv st σ K := by
  obtain ⟨d, rfl⟩ := d
  exact x_ldcS hq hY d k
theorem j_bool {v : Int32} (h : v = 0 ∨ v = 1) : narrow .boolean (.int v) = .int v ∧ fits .boolean (.int v) = true := by
  rcases h with rfl | rfl <;> exact ⟨rfl, rfl⟩
end ZS
theorem mt_1 {w : Cond} (h : w ∈ tables_1_1) : w ∈ tables_1 := List.mem_append_left _ h
theorem mt_2 {w : Cond} (h : w ∈ tables_1_2) : w ∈ tables_1 := List.mem_append_right _ (List.mem_append_left _ h)
theorem mt_3 {w : Cond} (h : w ∈ tables_1_3) : w ∈ tables_1 := List.mem_append_right _ (List.mem_append_right _ (List.mem_append_left _ h))
theorem mt_4 {w : Cond} (h : w ∈ tables_1_4) : w ∈ tables_1 := List.mem_append_right _ (List.mem_append_right _ (List.mem_append_right _ (List.mem_append_left _ h)))
theorem mt_5 {w : Cond} (h : w ∈ tables_1_5) : w ∈ tables_1 := List.mem_append_right _ (List.mem_append_right _ (List.mem_append_right _ (List.mem_append_right _ (List.mem_append_left _ h))))
theorem mt_6 {w : Cond} (h : w ∈ tables_1_6) : w ∈ tables_1 := List.mem_append_right _ (List.mem_append_right _ (List.mem_append_right _ (List.mem_append_right _ (List.mem_append_right _ (List.mem_append_left _ h)))))
theorem mt_7 {w : Cond} (h : w ∈ tables_1_7) : w ∈ tables_1 := List.mem_append_right _ (List.mem_append_right _ (List.mem_append_right _ (List.mem_append_right _ (List.mem_append_right _ (List.mem_append_right _ (List.mem_append_left _ h))))))
theorem mt_8 {w : Cond} (h : w ∈ tables_1_8) : w ∈ tables_1 := List.mem_append_right _ (List.mem_append_right _ (List.mem_append_right _ (List.mem_append_right _ (List.mem_append_right _ (List.mem_append_right _ (List.mem_append_right _ (List.mem_append_left _ h)))))))
theorem mt_9 {w : Cond} (h : w ∈ tables_1_9) : w ∈ tables_1 := List.mem_append_right _ (List.mem_append_right _ (List.mem_append_right _ (List.mem_append_right _ (List.mem_append_right _ (List.mem_append_right _ (List.mem_append_right _ (List.mem_append_right _ (List.mem_append_left _ h))))))))
theorem mt_10 {w : Cond} (h : w ∈ tables_1_10) : w ∈ tables_1 := List.mem_append_right _ (List.mem_append_right _ (List.mem_append_right _ (List.mem_append_right _ (List.mem_append_right _ (List.mem_append_right _ (List.mem_append_right _ (List.mem_append_right _ (List.mem_append_right _ (List.mem_append_left _ h)))))))))
theorem mt_11 {w : Cond} (h : w ∈ tables_1_11) : w ∈ tables_1 := List.mem_append_right _ (List.mem_append_right _ (List.mem_append_right _ (List.mem_append_right _ (List.mem_append_right _ (List.mem_append_right _ (List.mem_append_right _ (List.mem_append_right _ (List.mem_append_right _ (List.mem_append_right _ (List.mem_append_left _ h))))))))))
theorem mt_12 {w : Cond} (h : w ∈ tables_1_12) : w ∈ tables_1 := List.mem_append_right _ (List.mem_append_right _ (List.mem_append_right _ (List.mem_append_right _ (List.mem_append_right _ (List.mem_append_right _ (List.mem_append_right _ (List.mem_append_right _ (List.mem_append_right _ (List.mem_append_right _ (List.mem_append_right _ (List.mem_append_left _ h)))))))))))
theorem mt_13 {w : Cond} (h : w ∈ tables_1_13) : w ∈ tables_1 := List.mem_append_right _ (List.mem_append_right _ (List.mem_append_right _ (List.mem_append_right _ (List.mem_append_right _ (List.mem_append_right _ (List.mem_append_right _ (List.mem_append_right _ (List.mem_append_right _ (List.mem_append_right _ (List.mem_append_right _ (List.mem_append_right _ h)))))))))))
theorem cu0_0 : u_ws R_0 T_0 12 = [420, 422, 424, 426, 428, 430, 432, 434, 436, 438, 440, 442].filterMap (fun i => tables_1[i]?) := by decide +kernel
theorem cu1_0 : (u_ws R_0 T_0 12).all goodWord = true := by decide +kernel
theorem cu_0 : ∀ w ∈ u_ws R_0 T_0 12, w ∈ TBg := fun w h => tb_t (in_pick cu0_0 w h) (List.all_eq_true.mp cu1_0 w h)
theorem cn_0 : ∀ a, a < 12 → ∀ b, b < 12 → a ≠ b → (T_0 a).2.1 ≠ (T_0 b).2.1 := by decide +kernel
theorem ct_0 : ∀ k, k < 12 → parseFieldDescriptor (T_0 k).2.2.1 = some (ty_0 k) := by decide +kernel
theorem cu0_1 : u_ws R_1 T_1 14 = [508, 510, 512, 514, 516, 518, 520, 522, 524, 526, 528, 530, 532, 534].filterMap (fun i => tables_1[i]?) := by decide +kernel
theorem cu1_1 : (u_ws R_1 T_1 14).all goodWord = true := by decide +kernel
theorem cu_1 : ∀ w ∈ u_ws R_1 T_1 14, w ∈ TBg := fun w h => tb_t (in_pick cu0_1 w h) (List.all_eq_true.mp cu1_1 w h)
theorem cn_1 : ∀ a, a < 14 → ∀ b, b < 14 → a ≠ b → (T_1 a).2.1 ≠ (T_1 b).2.1 := by decide +kernel
theorem ct_1 : ∀ k, k < 14 → parseFieldDescriptor (T_1 k).2.2.1 = some (ty_1 k) := by decide +kernel
theorem cu0_2 : u_ws R_2 T_2 9 = [465, 467, 469, 471, 473, 475, 477, 479, 481].filterMap (fun i => tables_1[i]?) := by decide +kernel
theorem cu1_2 : (u_ws R_2 T_2 9).all goodWord = true := by decide +kernel
theorem cu_2 : ∀ w ∈ u_ws R_2 T_2 9, w ∈ TBg := fun w h => tb_t (in_pick cu0_2 w h) (List.all_eq_true.mp cu1_2 w h)
theorem cn_2 : ∀ a, a < 9 → ∀ b, b < 9 → a ≠ b → (T_2 a).2.1 ≠ (T_2 b).2.1 := by decide +kernel
theorem ct_2 : ∀ k, k < 9 → parseFieldDescriptor (T_2 k).2.2.1 = some (ty_2 k) := by decide +kernel
theorem cu0_3 : u_ws R_3 T_3 20 = [211, 213, 215, 217, 219, 221, 223, 225, 227, 229, 231, 233, 235, 237, 239, 241, 243, 245, 247, 249].filterMap (fun i => tables_1[i]?) := by decide +kernel
theorem cu1_3 : (u_ws R_3 T_3 20).all goodWord = true := by decide +kernel
theorem cu_3 : ∀ w ∈ u_ws R_3 T_3 20, w ∈ TBg := fun w h => tb_t (in_pick cu0_3 w h) (List.all_eq_true.mp cu1_3 w h)
theorem cn_3 : ∀ a, a < 20 → ∀ b, b < 20 → a ≠ b → (T_3 a).2.1 ≠ (T_3 b).2.1 := by decide +kernel
theorem ct_3 : ∀ k, k < 20 → parseFieldDescriptor (T_3 k).2.2.1 = some (ty_3 k) := by decide +kernel
theorem cu0_4 : u_ws R_4 T_4 11 = [373, 375, 377, 379, 381, 383, 385, 387, 389, 391, 393].filterMap (fun i => tables_1[i]?) := by decide +kernel
theorem cu1_4 : (u_ws R_4 T_4 11).all goodWord = true := by decide +kernel
theorem cu_4 : ∀ w ∈ u_ws R_4 T_4 11, w ∈ TBg := fun w h => tb_t (in_pick cu0_4 w h) (List.all_eq_true.mp cu1_4 w h)
theorem cn_4 : ∀ a, a < 11 → ∀ b, b < 11 → a ≠ b → (T_4 a).2.1 ≠ (T_4 b).2.1 := by decide +kernel
theorem ct_4 : ∀ k, k < 11 → parseFieldDescriptor (T_4 k).2.2.1 = some (ty_4 k) := by decide +kernel
theorem cu0_5 : u_ws R_5 T_5 17 = [145, 147, 149, 151, 153, 155, 157, 159, 161, 163, 165, 167, 169, 171, 173, 175, 177].filterMap (fun i => tables_1[i]?) := by decide +kernel
theorem cu1_5 : (u_ws R_5 T_5 17).all goodWord = true := by decide +kernel
theorem cu_5 : ∀ w ∈ u_ws R_5 T_5 17, w ∈ TBg := fun w h => tb_t (in_pick cu0_5 w h) (List.all_eq_true.mp cu1_5 w h)
theorem cn_5 : ∀ a, a < 17 → ∀ b, b < 17 → a ≠ b → (T_5 a).2.1 ≠ (T_5 b).2.1 := by decide +kernel
theorem ct_5 : ∀ k, k < 17 → parseFieldDescriptor (T_5 k).2.2.1 = some (ty_5 k) := by decide +kernel
theorem cu0_6 : u_ws R_6 T_6 10 = [273, 275, 277, 279, 281, 283, 285, 287, 289, 291].filterMap (fun i => tables_1[i]?) := by decide +kernel
theorem cu1_6 : (u_ws R_6 T_6 10).all goodWord = true := by decide +kernel
theorem cu_6 : ∀ w ∈ u_ws R_6 T_6 10, w ∈ TBg := fun w h => tb_t (in_pick cu0_6 w h) (List.all_eq_true.mp cu1_6 w h)
theorem cn_6 : ∀ a, a < 10 → ∀ b, b < 10 → a ≠ b → (T_6 a).2.1 ≠ (T_6 b).2.1 := by decide +kernel
theorem ct_6 : ∀ k, k < 10 → parseFieldDescriptor (T_6 k).2.2.1 = some (ty_6 k) := by decide +kernel
theorem cu0_7 : u_ws R_7 T_7 7 = [99, 101, 103, 105, 107, 109, 111].filterMap (fun i => tables_1[i]?) := by decide +kernel
theorem cu1_7 : (u_ws R_7 T_7 7).all goodWord = true := by decide +kernel
theorem cu_7 : ∀ w ∈ u_ws R_7 T_7 7, w ∈ TBg := fun w h => tb_t (in_pick cu0_7 w h) (List.all_eq_true.mp cu1_7 w h)
theorem cn_7 : ∀ a, a < 7 → ∀ b, b < 7 → a ≠ b → (T_7 a).2.1 ≠ (T_7 b).2.1 := by decide +kernel
theorem ct_7 : ∀ k, k < 7 → parseFieldDescriptor (T_7 k).2.2.1 = some (ty_7 k) := by decide +kernel
theorem cu0_8 : u_ws R_8 T_8 7 = [57, 59, 61, 63, 65, 67, 69].filterMap (fun i => tables_1[i]?) := by decide +kernel
theorem cu1_8 : (u_ws R_8 T_8 7).all goodWord = true := by decide +kernel
theorem cu_8 : ∀ w ∈ u_ws R_8 T_8 7, w ∈ TBg := fun w h => tb_t (in_pick cu0_8 w h) (List.all_eq_true.mp cu1_8 w h)
theorem cn_8 : ∀ a, a < 7 → ∀ b, b < 7 → a ≠ b → (T_8 a).2.1 ≠ (T_8 b).2.1 := by decide +kernel
theorem ct_8 : ∀ k, k < 7 → parseFieldDescriptor (T_8 k).2.2.1 = some (ty_8 k) := by decide +kernel
theorem cu0_9 : u_ws R_9 T_9 15 = [320, 322, 324, 326, 328, 330, 332, 334, 336, 338, 340, 342, 344, 346, 348].filterMap (fun i => tables_1[i]?) := by decide +kernel
theorem cu1_9 : (u_ws R_9 T_9 15).all goodWord = true := by decide +kernel
theorem cu_9 : ∀ w ∈ u_ws R_9 T_9 15, w ∈ TBg := fun w h => tb_t (in_pick cu0_9 w h) (List.all_eq_true.mp cu1_9 w h)
theorem cn_9 : ∀ a, a < 15 → ∀ b, b < 15 → a ≠ b → (T_9 a).2.1 ≠ (T_9 b).2.1 := by decide +kernel
theorem ct_9 : ∀ k, k < 15 → parseFieldDescriptor (T_9 k).2.2.1 = some (ty_9 k) := by decide +kernel
theorem cu0_10 : u_ws R_10 T_10 18 = [555, 557, 559, 561, 563, 565, 567, 569, 571, 573, 575, 577, 579, 581, 583, 585, 587, 589].filterMap (fun i => tables_1[i]?) := by decide +kernel
theorem cu1_10 : (u_ws R_10 T_10 18).all goodWord = true := by decide +kernel
theorem cu_10 : ∀ w ∈ u_ws R_10 T_10 18, w ∈ TBg := fun w h => tb_t (in_pick cu0_10 w h) (List.all_eq_true.mp cu1_10 w h)
theorem cn_10 : ∀ a, a < 18 → ∀ b, b < 18 → a ≠ b → (T_10 a).2.1 ≠ (T_10 b).2.1 := by decide +kernel
theorem ct_10 : ∀ k, k < 18 → parseFieldDescriptor (T_10 k).2.2.1 = some (ty_10 k) := by decide +kernel
theorem cu0_11 : u_ws R_11 T_11 151 = [2003, 2005, 2007, 2009, 2011, 2013, 2015, 2017, 2019, 2021, 2023, 2025, 2027, 2029, 2031, 2033, 2035, 2037, 2039, 2041, 2043, 2045, 2047, 2049, 2051, 2053, 2055, 2057, 2059, 2061, 2063, 2065, 2067, 2069, 2071, 2073, 2075, 2077, 2079, 2081, 2083, 2085, 2087, 2089, 2091, 2093, 2095, 2097, 2099, 2101, 2103, 2105, 2107, 2109, 2111, 2113, 2115, 2117, 2119, 2121, 2123, 2125, 2127, 2129, 2131, 2133, 2135, 2137, 2139, 2141, 2143, 2145, 2147, 2149, 2151, 2153, 2155, 2157, 2159, 2161, 2163, 2165, 2167, 2169, 2171, 2173, 2175, 2177, 2179, 2181, 2183, 2185, 2187, 2189, 2191, 2193, 2195, 2197, 2199, 2201, 2203, 2205, 2207, 2209, 2211, 2213, 2215, 2217, 2219, 2221, 2223, 2225, 2227, 2229, 2231, 2233, 2235, 2237, 2239, 2241, 2243, 2245, 2247, 2249, 2251, 2253, 2255, 2257, 2259, 2261, 2263, 2265, 2267, 2269, 2271, 2273, 2275, 2277, 2279, 2281, 2283, 2285, 2287, 2289, 2291, 2293, 2295, 2297, 2299, 2301, 2303].filterMap (fun i => tables_1[i]?) := by decide +kernel
theorem cu1_11 : (u_ws R_11 T_11 151).all goodWord = true := by decide +kernel
theorem cu_11 : ∀ w ∈ u_ws R_11 T_11 151, w ∈ TBg := fun w h => tb_t (in_pick cu0_11 w h) (List.all_eq_true.mp cu1_11 w h)
theorem cn_11 : ∀ a, a < 151 → ∀ b, b < 151 → a ≠ b → (T_11 a).2.1 ≠ (T_11 b).2.1 := by decide +kernel
theorem ct_11 : ∀ k, k < 151 → parseFieldDescriptor (T_11 k).2.2.1 = some (ty_11 k) := by decide +kernel
