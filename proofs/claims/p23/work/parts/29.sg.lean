noncomputable section
/-! ===== THE READER, 78: tags kept aside ===== -/
noncomputable def twS (own : Nat → Bool) (τ : Tf) : Tf := fun t => bif own t then τ t else none
noncomputable def cbS (own : Nat → Bool) (τ' τ : Tf) : Tf := fun t => bif own t then τ' t else τ t
theorem tw_some {own : Nat → Bool} {τ : Tf} {t : Nat} {x : Int} (h : twS own τ t = some x) : τ t = some x ∧ own t = true := by
  unfold twS at h
  cases e : own t with
  | true => rw [e] at h; exact ⟨h, rfl⟩
  | false => rw [e] at h; cases h
theorem tw_own {own : Nat → Bool} {τ : Tf} {t : Nat} (h : own t = true) : twS own τ t = τ t := by
  unfold twS
  rw [h]
  rfl
theorem cb_own {own : Nat → Bool} {τ τ' : Tf} {t : Nat} (h : own t = true) : cbS own τ' τ t = τ' t := by
  unfold cbS
  rw [h]
  rfl
theorem cb_kep {own : Nat → Bool} {τ τ' : Tf} {t : Nat} (h : own t = false) : cbS own τ' τ t = τ t := by
  unfold cbS
  rw [h]
  rfl
noncomputable def AllS (τ : Tf) : List (Nat × Int) → Prop
  | [] => True
  | e :: r => τ e.1 = some e.2 ∧ AllS τ r
theorem AllS.at {τ : Tf} : ∀ {l : List (Nat × Int)} {e : Nat × Int}, AllS τ l → e ∈ l → τ e.1 = some e.2
  | [], _, _, h => by cases h
  | _ :: _, _, ⟨h1, h2⟩, h => by
    rcases List.mem_cons.mp h with rfl | h
    · exact h1
    · exact AllS.at h2 h
theorem AllS.of {τ : Tf} : ∀ {l : List (Nat × Int)}, (∀ e ∈ l, τ e.1 = some e.2) → AllS τ l
  | [], _ => trivial
  | _ :: _, h => ⟨h _ (List.mem_cons_self ..), AllS.of fun e q => h e (List.mem_cons_of_mem _ q)⟩
/-- a clause's tags: all one's own; one is not there; or all as before -/
noncomputable def Mx9 (own : Nat → Bool) (τ' τ : Tf) (T : List Nat) : Prop := (T.all own = true) ∨ (∃ t ∈ T, cbS own τ' τ t = none) ∨ (∀ t ∈ T, own t = true → τ' t = τ t)
theorem bkS {own : Nat → Bool} {τ τ' : Tf} {l : List (Nat × Int)} (h : AllS (cbS own τ' τ) l) (hm : Mx9 own τ' τ (l.map fun e => e.1)) : ((∀ e ∈ l, own e.1 = true) ∧ AllS τ' l) ∨ ((∃ e ∈ l, own e.1 = false) ∧ AllS τ l) := by
  by_cases hall : ∀ e ∈ l, own e.1 = true
  · exact Or.inl ⟨hall, AllS.of fun e he => by rw [← cb_own (τ := τ) (τ' := τ') (hall e he)]; exact h.at he⟩
  · refine Or.inr ?_
    have hex : ∃ e ∈ l, own e.1 = false := Classical.byContradiction fun hn => hall fun e he => by
      cases q : own e.1 with
      | true => rfl
      | false => exact absurd ⟨e, he, q⟩ hn
    refine ⟨hex, AllS.of fun e he => ?_⟩
    rcases hm with h1 | ⟨t, ht, h1⟩ | h1
    · exact absurd (fun e he => List.all_eq_true.mp h1 e.1 (List.mem_map.mpr ⟨e, he, rfl⟩)) hall
    · obtain ⟨e2, he2, q⟩ := List.mem_map.mp ht
      subst q
      rw [h.at he2] at h1
      cases h1
    · have q0 := h.at he
      cases q : own e.1 with
      | true => rw [← h1 e.1 (List.mem_map.mpr ⟨e, he, rfl⟩) q, ← cb_own (τ := τ) (τ' := τ') q]; exact q0
      | false => rw [cb_kep q] at q0; exact q0
noncomputable def CLT : List (List Nat) := [[1100], [1101], [1102], [1103, 1104], [1101, 1104], [1105], [1101, 1105], [1101, 1116], [1105, 1107, 1106], [1105, 1107, 1108], [1105, 1107, 1110], [1105, 1109], [1105, 1109, 1115], [1105, 1109, 1110], [1105, 1111, 1115, 1112], [1105, 1113, 1114, 1115], [1120], [1120, 1121], [1128, 1129], [1123], [1123, 1124], [1102, 1122, 1123], [1122, 1123, 1125], [1125, 1126], [1125, 1126, 1127], [1150, 1151], [1150, 1151, 1152], [1150, 1153], [1153, 1154], [1184, 1185, 1186], [1184, 1185, 1186, 1187, 1188], [1208, 1189], [1208, 1183], [1190, 1191, 1192], [1190, 1191, 1192, 1193], [1197], [1197, 1198], [1194, 1195, 1196, 1197, 1198], [1102, 1130, 1131, 1132, 1134], [1102, 1130, 1131, 1132, 1133, 1134], [1102, 1140, 1141, 1142, 1144], [1102, 1140, 1141, 1142, 1143, 1144], [1102, 1200, 1201, 1202, 1204], [1102, 1200, 1201, 1202, 1203, 1204], [1140], [1140, 1141, 1144], [1140, 1141, 1144, 1145], [1102, 1146, 1147], [1201], [1201, 1205], [1170, 1172], [1170, 1171, 1172], [1170, 1171, 1172, 1173, 1174, 1175, 1176, 1177], [1155, 1172, 1174], [1160, 1161], [1160, 1161, 1162], [1160, 1161, 1162, 1163, 1164], [1160, 1162, 1167], [1160, 1164, 1165], [1160, 1161, 1162, 1163, 1164, 1166], [1160, 1166, 1168], [1206, 1207]]
theorem SR_give {own : Nat → Bool} {τ : Tf} {m : Mt} (hX : ∀ t, 1170 ≤ t → t ≤ 1182 → own t = own 1170) (hS : SR τ m) : SR (twS own τ) m := by
  intro hM
  have hM2 : τ 1199 ≠ none := fun e => hM (by
    unfold twS
    rw [e]
    cases own 1199 <;> rfl)
  obtain ⟨h0, k_tok, k_sc1, k_sc2, k_T, k_I, k_F, k_N, k_Y, k_Z, k_A, k_B, k_C, k_X, k_R, k_f4⟩ := hS hM2
  have k_tok0 := k_tok
  obtain ⟨h_L, h_n, h_nF⟩ := k_tok0
  have k_sc10 := k_sc1
  obtain ⟨h_qz, h_nz, h_s, h_ns, h_nE⟩ := k_sc10
  have k_sc20 := k_sc2
  obtain ⟨h_ske, h_skv, h_sku, h_sw, h_swm, h_swu, h_sf, h_sg⟩ := k_sc20
  have k_T0 := k_T
  obtain ⟨h_T, h_TN, h_QZ⟩ := k_T0
  have k_I0 := k_I
  obtain ⟨h_p, h_pc, h_ip, h_iP, h_PC, h_PN⟩ := k_I0
  have k_F0 := k_F
  obtain ⟨h_F0, h_F, h_F1, h_F2⟩ := k_F0
  have k_N0 := k_N
  obtain ⟨h_N, h_Nk, h_V, h_Yq⟩ := k_N0
  have k_Y0 := k_Y
  obtain ⟨h_Y0, h_Y⟩ := k_Y0
  have k_Z0 := k_Z
  obtain ⟨h_Z0, h_Z1, h_Z⟩ := k_Z0
  have k_A0 := k_A
  obtain ⟨h_A0, h_A⟩ := k_A0
  have k_B0 := k_B
  obtain ⟨h_B0, h_B, h_Bd0, h_B26, h_B22, h_Bs⟩ := k_B0
  have k_C0 := k_C
  obtain ⟨h_C0, h_C, h_Ci0, h_Cp⟩ := k_C0
  have k_X0 := k_X
  obtain ⟨h_X0a, h_X0, h_X, h_Xe⟩ := k_X0
  have k_R0 := k_R
  obtain ⟨h_rb, h_rh, h_rw, h_rg, h_rd, h_rc, h_rq⟩ := k_R0
  have h_f4 := k_f4
  exact ⟨h0, ⟨fun _ e0 => h_L _ (tw_some e0).1, fun _ e0 => h_n _ (tw_some e0).1, fun _ e0 => h_nF _ (tw_some e0).1⟩, ⟨fun _ _ e0 e1 => h_qz _ _ (tw_some e0).1 (tw_some e1).1, fun _ _ e0 e1 => h_nz _ _ (tw_some e0).1 (tw_some e1).1, fun _ e0 => h_s _ (tw_some e0).1, fun _ _ e0 e1 => h_ns _ _ (tw_some e0).1 (tw_some e1).1, fun _ _ e0 e1 => h_nE _ _ (tw_some e0).1 (tw_some e1).1⟩, ⟨fun _ _ _ e0 e1 e2 => h_ske _ _ _ (tw_some e0).1 (tw_some e1).1 (tw_some e2).1, fun _ _ _ e0 e1 e2 => h_skv _ _ _ (tw_some e0).1 (tw_some e1).1 (tw_some e2).1, fun _ _ _ e0 e1 e2 => h_sku _ _ _ (tw_some e0).1 (tw_some e1).1 (tw_some e2).1, fun _ _ e0 e1 => h_sw _ _ (tw_some e0).1 (tw_some e1).1, fun _ _ _ e0 e1 e2 => h_swm _ _ _ (tw_some e0).1 (tw_some e1).1 (tw_some e2).1, fun _ _ _ e0 e1 e2 => h_swu _ _ _ (tw_some e0).1 (tw_some e1).1 (tw_some e2).1, fun _ _ _ _ e0 e1 e2 e3 => h_sf _ _ _ _ (tw_some e0).1 (tw_some e1).1 (tw_some e2).1 (tw_some e3).1, fun _ _ _ _ e0 e1 e2 e3 => h_sg _ _ _ _ (tw_some e0).1 (tw_some e1).1 (tw_some e2).1 (tw_some e3).1⟩, ⟨fun _ e0 => h_T _ (tw_some e0).1, fun _ _ e0 e1 => h_TN _ _ (tw_some e0).1 (tw_some e1).1, fun _ _ e0 e1 => h_QZ _ _ (tw_some e0).1 (tw_some e1).1⟩, ⟨fun _ e0 => h_p _ (tw_some e0).1, fun _ _ e0 e1 => h_pc _ _ (tw_some e0).1 (tw_some e1).1, fun _ _ _ e0 e1 e2 => h_ip _ _ _ (tw_some e0).1 (tw_some e1).1 (tw_some e2).1, fun _ _ _ e0 e1 e2 => h_iP _ _ _ (tw_some e0).1 (tw_some e1).1 (tw_some e2).1, fun _ _ e0 e1 => h_PC _ _ (tw_some e0).1 (tw_some e1).1, fun _ _ _ e0 e1 e2 => h_PN _ _ _ (tw_some e0).1 (tw_some e1).1 (tw_some e2).1⟩, ⟨fun _ _ e0 e1 => h_F0 _ _ (tw_some e0).1 (tw_some e1).1, fun _ _ _ e0 e1 e2 => h_F _ _ _ (tw_some e0).1 (tw_some e1).1 (tw_some e2).1, fun _ _ e0 e1 => h_F1 _ _ (tw_some e0).1 (tw_some e1).1, fun _ _ e0 e1 => h_F2 _ _ (tw_some e0).1 (tw_some e1).1⟩, ⟨fun _ _ _ e0 e1 e2 => h_N _ _ _ (tw_some e0).1 (tw_some e1).1 (tw_some e2).1, fun _ _ _ _ _ e0 e1 e2 e3 e4 => h_Nk _ _ _ _ _ (tw_some e0).1 (tw_some e1).1 (tw_some e2).1 (tw_some e3).1 (tw_some e4).1, fun _ _ e0 e1 => h_V _ _ (tw_some e0).1 (tw_some e1).1, fun _ _ e0 e1 => h_Yq _ _ (tw_some e0).1 (tw_some e1).1⟩, ⟨fun _ _ _ e0 e1 e2 => h_Y0 _ _ _ (tw_some e0).1 (tw_some e1).1 (tw_some e2).1, fun _ _ _ _ e0 e1 e2 e3 => h_Y _ _ _ _ (tw_some e0).1 (tw_some e1).1 (tw_some e2).1 (tw_some e3).1⟩, ⟨fun _ e0 => h_Z0 _ (tw_some e0).1, fun _ _ e0 e1 => h_Z1 _ _ (tw_some e0).1 (tw_some e1).1, fun _ _ _ _ _ e0 e1 e2 e3 e4 => h_Z _ _ _ _ _ (tw_some e0).1 (tw_some e1).1 (tw_some e2).1 (tw_some e3).1 (tw_some e4).1⟩, ⟨fun _ _ _ _ _ e0 e1 e2 e3 e4 => h_A0 _ _ _ _ _ (tw_some e0).1 (tw_some e1).1 (tw_some e2).1 (tw_some e3).1 (tw_some e4).1, fun _ _ _ _ _ _ e0 e1 e2 e3 e4 e5 => h_A _ _ _ _ _ _ (tw_some e0).1 (tw_some e1).1 (tw_some e2).1 (tw_some e3).1 (tw_some e4).1 (tw_some e5).1⟩, ⟨fun _ _ _ _ _ e0 e1 e2 e3 e4 => h_B0 _ _ _ _ _ (tw_some e0).1 (tw_some e1).1 (tw_some e2).1 (tw_some e3).1 (tw_some e4).1, fun _ _ _ _ _ _ e0 e1 e2 e3 e4 e5 => h_B _ _ _ _ _ _ (tw_some e0).1 (tw_some e1).1 (tw_some e2).1 (tw_some e3).1 (tw_some e4).1 (tw_some e5).1, fun _ e0 => h_Bd0 _ (tw_some e0).1, fun _ _ _ e0 e1 e2 => h_B26 _ _ _ (tw_some e0).1 (tw_some e1).1 (tw_some e2).1, fun _ _ _ _ e0 e1 e2 e3 => h_B22 _ _ _ _ (tw_some e0).1 (tw_some e1).1 (tw_some e2).1 (tw_some e3).1, fun _ _ _ e0 e1 e2 => h_Bs _ _ _ (tw_some e0).1 (tw_some e1).1 (tw_some e2).1⟩, ⟨fun _ _ _ _ _ e0 e1 e2 e3 e4 => h_C0 _ _ _ _ _ (tw_some e0).1 (tw_some e1).1 (tw_some e2).1 (tw_some e3).1 (tw_some e4).1, fun _ _ _ _ _ _ e0 e1 e2 e3 e4 e5 => h_C _ _ _ _ _ _ (tw_some e0).1 (tw_some e1).1 (tw_some e2).1 (tw_some e3).1 (tw_some e4).1 (tw_some e5).1, fun _ e0 => h_Ci0 _ (tw_some e0).1, fun _ _ e0 e1 => h_Cp _ _ (tw_some e0).1 (tw_some e1).1⟩, ⟨fun _ _ e0 e1 hw => h_X0a _ _ (tw_some e0).1 (tw_some e1).1 (by rw [← tw_own (own := own) (τ := τ) ((hX 1173 (by decide) (by decide)).trans (tw_some e0).2)]; exact hw), fun _ _ _ e0 e1 e2 hw => h_X0 _ _ _ (tw_some e0).1 (tw_some e1).1 (tw_some e2).1 (by rw [← tw_own (own := own) (τ := τ) ((hX 1173 (by decide) (by decide)).trans (tw_some e0).2)]; exact hw), fun X1 X2 Xp Xw Xs Xo Xv Xd e0 e1 e2 e3 e4 e5 e6 e7 => by
      have ho := (tw_some e0).2
      show XSt m (twS own τ 1178) (twS own τ 1179) (twS own τ 1180) (twS own τ 1181) (twS own τ 1182) X1 X2 Xp Xw Xs Xo Xv Xd
      rw [tw_own ((hX 1178 (by decide) (by decide)).trans ho), tw_own ((hX 1179 (by decide) (by decide)).trans ho), tw_own ((hX 1180 (by decide) (by decide)).trans ho), tw_own ((hX 1181 (by decide) (by decide)).trans ho), tw_own ((hX 1182 (by decide) (by decide)).trans ho)]
      exact h_X _ _ _ _ _ _ _ _ (tw_some e0).1 (tw_some e1).1 (tw_some e2).1 (tw_some e3).1 (tw_some e4).1 (tw_some e5).1 (tw_some e6).1 (tw_some e7).1, fun _ _ _ e0 e1 e2 => h_Xe _ _ _ (tw_some e0).1 (tw_some e1).1 (tw_some e2).1⟩, ⟨fun _ _ e0 e1 => h_rb _ _ (tw_some e0).1 (tw_some e1).1, fun _ _ _ e0 e1 e2 => h_rh _ _ _ (tw_some e0).1 (tw_some e1).1 (tw_some e2).1, fun _ _ _ _ _ e0 e1 e2 e3 e4 => h_rw _ _ _ _ _ (tw_some e0).1 (tw_some e1).1 (tw_some e2).1 (tw_some e3).1 (tw_some e4).1, fun _ _ _ e0 e1 e2 => h_rg _ _ _ (tw_some e0).1 (tw_some e1).1 (tw_some e2).1, fun _ _ _ e0 e1 e2 => h_rd _ _ _ (tw_some e0).1 (tw_some e1).1 (tw_some e2).1, fun _ _ _ _ _ _ e0 e1 e2 e3 e4 e5 => h_rc _ _ _ _ _ _ (tw_some e0).1 (tw_some e1).1 (tw_some e2).1 (tw_some e3).1 (tw_some e4).1 (tw_some e5).1, fun _ _ _ e0 e1 e2 => h_rq _ _ _ (tw_some e0).1 (tw_some e1).1 (tw_some e2).1⟩, fun _ _ e0 e1 => h_f4 _ _ (tw_some e0).1 (tw_some e1).1⟩
theorem bk_L {own : Nat → Bool} {τ τ' : Tf} {m m' : Mt} (hX : ∀ t, 1170 ≤ t → t ≤ 1182 → own t = own 1170) (ht : tx9 m' = tx9 m) (hw : wl9 m' = wl9 m) (hj : m' 110 1 = m 110 1) (htp : ∀ j, m' 111 j = m 111 j) (hL : own 1100 = false → ∀ x, τ 1100 = some x → ∀ j, m' 23 j = m 23 j) (hK : ∀ t x, t = 1101 ∨ t = 1102 → own t = false → τ t = some x → ∀ i, m' 25 i = m 25 i ∧ m' 24 i = m 24 i ∧ m' 26 i = m 26 i) (hT : own 1120 = false → ∀ x, τ 1120 = some x → m' 110 29 = m 110 29 ∧ m' 110 28 = m 110 28 ∧ m' 110 27 = m 110 27 ∧ m' 110 30 = m 110 30 ∧ m' 1000 31 = m 1000 31) (hXS : ∀ t x, 1170 ≤ t → t ≤ 1177 → own t = false → τ t = some x → ∀ i : Nat, m' 143 i = m 143 i ∧ m' 144 i = m 144 i ∧ m' 145 i = m 145 i ∧ m' 146 i = m 146 i ∧ m' 149 i = m 149 i ∧ m' 148 i = m 148 i) (hRS : ∀ t x, 1160 ≤ t → t ≤ 1168 → own t = false → τ t = some x → ∀ i : Nat, m' 146 i = m 146 i ∧ m' 149 i = m 149 i ∧ m' 148 i = m 148 i) (HM : ∀ (i : Nat) (T : List Nat), CLT[i]? = some T → Mx9 own τ' τ T) (h : ∀ L9 : Int, τ 1100 = some L9 → L9 = m 110 1 ∧ ∀ j : Nat, (j : Int) < L9 → m 23 j = m 111 j) (h' : ∀ L9 : Int, τ' 1100 = some L9 → L9 = m' 110 1 ∧ ∀ j : Nat, (j : Int) < L9 → m' 23 j = m' 111 j) : ∀ L9 : Int, (cbS own τ' τ) 1100 = some L9 → L9 = m' 110 1 ∧ ∀ j : Nat, (j : Int) < L9 → m' 23 j = m' 111 j := by
  intro L9 e0
  rcases bkS (l := [(1100, L9)]) ⟨e0, trivial⟩ (HM 0 _ rfl) with ⟨hall, q0, _⟩ | ⟨⟨e, he, hf⟩, q0, _⟩
  · exact h' _ q0
  · have pp := h _ q0
    refine ⟨by rw [hj]; exact pp.1, fun j hjj => ?_⟩
    rw [hL (by simp only [List.mem_cons, List.not_mem_nil, or_false] at he; rw [he] at hf; exact hf) _ q0 j, htp j]
    exact pp.2 j hjj
theorem bk_n {own : Nat → Bool} {τ τ' : Tf} {m m' : Mt} (hX : ∀ t, 1170 ≤ t → t ≤ 1182 → own t = own 1170) (ht : tx9 m' = tx9 m) (hw : wl9 m' = wl9 m) (hj : m' 110 1 = m 110 1) (htp : ∀ j, m' 111 j = m 111 j) (hL : own 1100 = false → ∀ x, τ 1100 = some x → ∀ j, m' 23 j = m 23 j) (hK : ∀ t x, t = 1101 ∨ t = 1102 → own t = false → τ t = some x → ∀ i, m' 25 i = m 25 i ∧ m' 24 i = m 24 i ∧ m' 26 i = m 26 i) (hT : own 1120 = false → ∀ x, τ 1120 = some x → m' 110 29 = m 110 29 ∧ m' 110 28 = m 110 28 ∧ m' 110 27 = m 110 27 ∧ m' 110 30 = m 110 30 ∧ m' 1000 31 = m 1000 31) (hXS : ∀ t x, 1170 ≤ t → t ≤ 1177 → own t = false → τ t = some x → ∀ i : Nat, m' 143 i = m 143 i ∧ m' 144 i = m 144 i ∧ m' 145 i = m 145 i ∧ m' 146 i = m 146 i ∧ m' 149 i = m 149 i ∧ m' 148 i = m 148 i) (hRS : ∀ t x, 1160 ≤ t → t ≤ 1168 → own t = false → τ t = some x → ∀ i : Nat, m' 146 i = m 146 i ∧ m' 149 i = m 149 i ∧ m' 148 i = m 148 i) (HM : ∀ (i : Nat) (T : List Nat), CLT[i]? = some T → Mx9 own τ' τ T) (h : ∀ n9 : Int, τ 1101 = some n9 → 0 ≤ n9 ∧ TKs m n9.toNat) (h' : ∀ n9 : Int, τ' 1101 = some n9 → 0 ≤ n9 ∧ TKs m' n9.toNat) : ∀ n9 : Int, (cbS own τ' τ) 1101 = some n9 → 0 ≤ n9 ∧ TKs m' n9.toNat := by
  intro n9 e0
  rcases bkS (l := [(1101, n9)]) ⟨e0, trivial⟩ (HM 1 _ rfl) with ⟨hall, q0, _⟩ | ⟨⟨e, he, hf⟩, q0, _⟩
  · exact h' _ q0
  · have pp := h _ q0
    have kk := hK 1101 _ (by decide) (by simp only [List.mem_cons, List.not_mem_nil, or_false] at he; rw [he] at hf; exact hf) q0
    exact ⟨pp.1, TKs_w ht (fun i _ => kk i) pp.2⟩
theorem bk_nF {own : Nat → Bool} {τ τ' : Tf} {m m' : Mt} (hX : ∀ t, 1170 ≤ t → t ≤ 1182 → own t = own 1170) (ht : tx9 m' = tx9 m) (hw : wl9 m' = wl9 m) (hj : m' 110 1 = m 110 1) (htp : ∀ j, m' 111 j = m 111 j) (hL : own 1100 = false → ∀ x, τ 1100 = some x → ∀ j, m' 23 j = m 23 j) (hK : ∀ t x, t = 1101 ∨ t = 1102 → own t = false → τ t = some x → ∀ i, m' 25 i = m 25 i ∧ m' 24 i = m 24 i ∧ m' 26 i = m 26 i) (hT : own 1120 = false → ∀ x, τ 1120 = some x → m' 110 29 = m 110 29 ∧ m' 110 28 = m 110 28 ∧ m' 110 27 = m 110 27 ∧ m' 110 30 = m 110 30 ∧ m' 1000 31 = m 1000 31) (hXS : ∀ t x, 1170 ≤ t → t ≤ 1177 → own t = false → τ t = some x → ∀ i : Nat, m' 143 i = m 143 i ∧ m' 144 i = m 144 i ∧ m' 145 i = m 145 i ∧ m' 146 i = m 146 i ∧ m' 149 i = m 149 i ∧ m' 148 i = m 148 i) (hRS : ∀ t x, 1160 ≤ t → t ≤ 1168 → own t = false → τ t = some x → ∀ i : Nat, m' 146 i = m 146 i ∧ m' 149 i = m 149 i ∧ m' 148 i = m 148 i) (HM : ∀ (i : Nat) (T : List Nat), CLT[i]? = some T → Mx9 own τ' τ T) (h : ∀ nF : Int, τ 1102 = some nF → 0 ≤ nF ∧ TKs m nF.toNat ∧ NT9 (tx9 m) nF.toNat) (h' : ∀ nF : Int, τ' 1102 = some nF → 0 ≤ nF ∧ TKs m' nF.toNat ∧ NT9 (tx9 m') nF.toNat) : ∀ nF : Int, (cbS own τ' τ) 1102 = some nF → 0 ≤ nF ∧ TKs m' nF.toNat ∧ NT9 (tx9 m') nF.toNat := by
  intro nF e0
  rcases bkS (l := [(1102, nF)]) ⟨e0, trivial⟩ (HM 2 _ rfl) with ⟨hall, q0, _⟩ | ⟨⟨e, he, hf⟩, q0, _⟩
  · exact h' _ q0
  · have pp := h _ q0
    have kk := hK 1102 _ (by decide) (by simp only [List.mem_cons, List.not_mem_nil, or_false] at he; rw [he] at hf; exact hf) q0
    exact ⟨pp.1, TKs_w ht (fun i _ => kk i) pp.2.1, by rw [ht]; exact pp.2.2⟩
theorem bk_qz {own : Nat → Bool} {τ τ' : Tf} {m m' : Mt} (hX : ∀ t, 1170 ≤ t → t ≤ 1182 → own t = own 1170) (ht : tx9 m' = tx9 m) (hw : wl9 m' = wl9 m) (hj : m' 110 1 = m 110 1) (htp : ∀ j, m' 111 j = m 111 j) (hL : own 1100 = false → ∀ x, τ 1100 = some x → ∀ j, m' 23 j = m 23 j) (hK : ∀ t x, t = 1101 ∨ t = 1102 → own t = false → τ t = some x → ∀ i, m' 25 i = m 25 i ∧ m' 24 i = m 24 i ∧ m' 26 i = m 26 i) (hT : own 1120 = false → ∀ x, τ 1120 = some x → m' 110 29 = m 110 29 ∧ m' 110 28 = m 110 28 ∧ m' 110 27 = m 110 27 ∧ m' 110 30 = m 110 30 ∧ m' 1000 31 = m 1000 31) (hXS : ∀ t x, 1170 ≤ t → t ≤ 1177 → own t = false → τ t = some x → ∀ i : Nat, m' 143 i = m 143 i ∧ m' 144 i = m 144 i ∧ m' 145 i = m 145 i ∧ m' 146 i = m 146 i ∧ m' 149 i = m 149 i ∧ m' 148 i = m 148 i) (hRS : ∀ t x, 1160 ≤ t → t ≤ 1168 → own t = false → τ t = some x → ∀ i : Nat, m' 146 i = m 146 i ∧ m' 149 i = m 149 i ∧ m' 148 i = m 148 i) (HM : ∀ (i : Nat) (T : List Nat), CLT[i]? = some T → Mx9 own τ' τ T) (h : ∀ q9 z9 : Int, τ 1103 = some q9 → τ 1104 = some z9 → Pl9 m q9 ∧ z9 = (sk9 (tx9 m) q9.toNat : Int)) (h' : ∀ q9 z9 : Int, τ' 1103 = some q9 → τ' 1104 = some z9 → Pl9 m' q9 ∧ z9 = (sk9 (tx9 m') q9.toNat : Int)) : ∀ q9 z9 : Int, (cbS own τ' τ) 1103 = some q9 → (cbS own τ' τ) 1104 = some z9 → Pl9 m' q9 ∧ z9 = (sk9 (tx9 m') q9.toNat : Int) := by
  intro q9 z9 e0 e1
  rcases bkS (l := [(1103, q9), (1104, z9)]) ⟨e0, e1, trivial⟩ (HM 3 _ rfl) with ⟨hall, q0, q1, _⟩ | ⟨⟨e, he, hf⟩, q0, q1, _⟩
  · exact h' _ _ q0 q1
  · have pp := h _ _ q0 q1
    show (0 ≤ q9 ∧ q9 ≤ m' 110 1) ∧ z9 = (sk9 (tx9 m') q9.toNat : Int)
    rw [ht, hj]
    exact pp
theorem bk_nz {own : Nat → Bool} {τ τ' : Tf} {m m' : Mt} (hX : ∀ t, 1170 ≤ t → t ≤ 1182 → own t = own 1170) (ht : tx9 m' = tx9 m) (hw : wl9 m' = wl9 m) (hj : m' 110 1 = m 110 1) (htp : ∀ j, m' 111 j = m 111 j) (hL : own 1100 = false → ∀ x, τ 1100 = some x → ∀ j, m' 23 j = m 23 j) (hK : ∀ t x, t = 1101 ∨ t = 1102 → own t = false → τ t = some x → ∀ i, m' 25 i = m 25 i ∧ m' 24 i = m 24 i ∧ m' 26 i = m 26 i) (hT : own 1120 = false → ∀ x, τ 1120 = some x → m' 110 29 = m 110 29 ∧ m' 110 28 = m 110 28 ∧ m' 110 27 = m 110 27 ∧ m' 110 30 = m 110 30 ∧ m' 1000 31 = m 1000 31) (hXS : ∀ t x, 1170 ≤ t → t ≤ 1177 → own t = false → τ t = some x → ∀ i : Nat, m' 143 i = m 143 i ∧ m' 144 i = m 144 i ∧ m' 145 i = m 145 i ∧ m' 146 i = m 146 i ∧ m' 149 i = m 149 i ∧ m' 148 i = m 148 i) (hRS : ∀ t x, 1160 ≤ t → t ≤ 1168 → own t = false → τ t = some x → ∀ i : Nat, m' 146 i = m 146 i ∧ m' 149 i = m 149 i ∧ m' 148 i = m 148 i) (HM : ∀ (i : Nat) (T : List Nat), CLT[i]? = some T → Mx9 own τ' τ T) (h : ∀ n9 z9 : Int, τ 1101 = some n9 → τ 1104 = some z9 → z9 = (Tp9 (tx9 m) n9.toNat : Int) ∧ (1 ≤ n9 → 2 ≤ rc9 (tx9 m) (Tp9 (tx9 m) (n9.toNat - 1)))) (h' : ∀ n9 z9 : Int, τ' 1101 = some n9 → τ' 1104 = some z9 → z9 = (Tp9 (tx9 m') n9.toNat : Int) ∧ (1 ≤ n9 → 2 ≤ rc9 (tx9 m') (Tp9 (tx9 m') (n9.toNat - 1)))) : ∀ n9 z9 : Int, (cbS own τ' τ) 1101 = some n9 → (cbS own τ' τ) 1104 = some z9 → z9 = (Tp9 (tx9 m') n9.toNat : Int) ∧ (1 ≤ n9 → 2 ≤ rc9 (tx9 m') (Tp9 (tx9 m') (n9.toNat - 1))) := by
  intro n9 z9 e0 e1
  rcases bkS (l := [(1101, n9), (1104, z9)]) ⟨e0, e1, trivial⟩ (HM 4 _ rfl) with ⟨hall, q0, q1, _⟩ | ⟨⟨e, he, hf⟩, q0, q1, _⟩
  · exact h' _ _ q0 q1
  · have pp := h _ _ q0 q1
    show z9 = (Tp9 (tx9 m') n9.toNat : Int) ∧ (1 ≤ n9 → 2 ≤ rc9 (tx9 m') (Tp9 (tx9 m') (n9.toNat - 1)))
    rw [ht]
    exact pp
theorem bk_s {own : Nat → Bool} {τ τ' : Tf} {m m' : Mt} (hX : ∀ t, 1170 ≤ t → t ≤ 1182 → own t = own 1170) (ht : tx9 m' = tx9 m) (hw : wl9 m' = wl9 m) (hj : m' 110 1 = m 110 1) (htp : ∀ j, m' 111 j = m 111 j) (hL : own 1100 = false → ∀ x, τ 1100 = some x → ∀ j, m' 23 j = m 23 j) (hK : ∀ t x, t = 1101 ∨ t = 1102 → own t = false → τ t = some x → ∀ i, m' 25 i = m 25 i ∧ m' 24 i = m 24 i ∧ m' 26 i = m 26 i) (hT : own 1120 = false → ∀ x, τ 1120 = some x → m' 110 29 = m 110 29 ∧ m' 110 28 = m 110 28 ∧ m' 110 27 = m 110 27 ∧ m' 110 30 = m 110 30 ∧ m' 1000 31 = m 1000 31) (hXS : ∀ t x, 1170 ≤ t → t ≤ 1177 → own t = false → τ t = some x → ∀ i : Nat, m' 143 i = m 143 i ∧ m' 144 i = m 144 i ∧ m' 145 i = m 145 i ∧ m' 146 i = m 146 i ∧ m' 149 i = m 149 i ∧ m' 148 i = m 148 i) (hRS : ∀ t x, 1160 ≤ t → t ≤ 1168 → own t = false → τ t = some x → ∀ i : Nat, m' 146 i = m 146 i ∧ m' 149 i = m 149 i ∧ m' 148 i = m 148 i) (HM : ∀ (i : Nat) (T : List Nat), CLT[i]? = some T → Mx9 own τ' τ T) (h : ∀ s9 : Int, τ 1105 = some s9 → Pl9 m s9) (h' : ∀ s9 : Int, τ' 1105 = some s9 → Pl9 m' s9) : ∀ s9 : Int, (cbS own τ' τ) 1105 = some s9 → Pl9 m' s9 := by
  intro s9 e0
  rcases bkS (l := [(1105, s9)]) ⟨e0, trivial⟩ (HM 5 _ rfl) with ⟨hall, q0, _⟩ | ⟨⟨e, he, hf⟩, q0, _⟩
  · exact h' _ q0
  · have pp := h _ q0
    show (0 ≤ s9 ∧ s9 ≤ m' 110 1)
    rw [hj]
    exact pp
theorem bk_ns {own : Nat → Bool} {τ τ' : Tf} {m m' : Mt} (hX : ∀ t, 1170 ≤ t → t ≤ 1182 → own t = own 1170) (ht : tx9 m' = tx9 m) (hw : wl9 m' = wl9 m) (hj : m' 110 1 = m 110 1) (htp : ∀ j, m' 111 j = m 111 j) (hL : own 1100 = false → ∀ x, τ 1100 = some x → ∀ j, m' 23 j = m 23 j) (hK : ∀ t x, t = 1101 ∨ t = 1102 → own t = false → τ t = some x → ∀ i, m' 25 i = m 25 i ∧ m' 24 i = m 24 i ∧ m' 26 i = m 26 i) (hT : own 1120 = false → ∀ x, τ 1120 = some x → m' 110 29 = m 110 29 ∧ m' 110 28 = m 110 28 ∧ m' 110 27 = m 110 27 ∧ m' 110 30 = m 110 30 ∧ m' 1000 31 = m 1000 31) (hXS : ∀ t x, 1170 ≤ t → t ≤ 1177 → own t = false → τ t = some x → ∀ i : Nat, m' 143 i = m 143 i ∧ m' 144 i = m 144 i ∧ m' 145 i = m 145 i ∧ m' 146 i = m 146 i ∧ m' 149 i = m 149 i ∧ m' 148 i = m 148 i) (hRS : ∀ t x, 1160 ≤ t → t ≤ 1168 → own t = false → τ t = some x → ∀ i : Nat, m' 146 i = m 146 i ∧ m' 149 i = m 149 i ∧ m' 148 i = m 148 i) (HM : ∀ (i : Nat) (T : List Nat), CLT[i]? = some T → Mx9 own τ' τ T) (h : ∀ n9 s9 : Int, τ 1101 = some n9 → τ 1105 = some s9 → s9 = (Tp9 (tx9 m) n9.toNat : Int) ∧ (1 ≤ n9 → 2 ≤ rc9 (tx9 m) (Tp9 (tx9 m) (n9.toNat - 1)))) (h' : ∀ n9 s9 : Int, τ' 1101 = some n9 → τ' 1105 = some s9 → s9 = (Tp9 (tx9 m') n9.toNat : Int) ∧ (1 ≤ n9 → 2 ≤ rc9 (tx9 m') (Tp9 (tx9 m') (n9.toNat - 1)))) : ∀ n9 s9 : Int, (cbS own τ' τ) 1101 = some n9 → (cbS own τ' τ) 1105 = some s9 → s9 = (Tp9 (tx9 m') n9.toNat : Int) ∧ (1 ≤ n9 → 2 ≤ rc9 (tx9 m') (Tp9 (tx9 m') (n9.toNat - 1))) := by
  intro n9 s9 e0 e1
  rcases bkS (l := [(1101, n9), (1105, s9)]) ⟨e0, e1, trivial⟩ (HM 6 _ rfl) with ⟨hall, q0, q1, _⟩ | ⟨⟨e, he, hf⟩, q0, q1, _⟩
  · exact h' _ _ q0 q1
  · have pp := h _ _ q0 q1
    show s9 = (Tp9 (tx9 m') n9.toNat : Int) ∧ (1 ≤ n9 → 2 ≤ rc9 (tx9 m') (Tp9 (tx9 m') (n9.toNat - 1)))
    rw [ht]
    exact pp
theorem bk_nE {own : Nat → Bool} {τ τ' : Tf} {m m' : Mt} (hX : ∀ t, 1170 ≤ t → t ≤ 1182 → own t = own 1170) (ht : tx9 m' = tx9 m) (hw : wl9 m' = wl9 m) (hj : m' 110 1 = m 110 1) (htp : ∀ j, m' 111 j = m 111 j) (hL : own 1100 = false → ∀ x, τ 1100 = some x → ∀ j, m' 23 j = m 23 j) (hK : ∀ t x, t = 1101 ∨ t = 1102 → own t = false → τ t = some x → ∀ i, m' 25 i = m 25 i ∧ m' 24 i = m 24 i ∧ m' 26 i = m 26 i) (hT : own 1120 = false → ∀ x, τ 1120 = some x → m' 110 29 = m 110 29 ∧ m' 110 28 = m 110 28 ∧ m' 110 27 = m 110 27 ∧ m' 110 30 = m 110 30 ∧ m' 1000 31 = m 1000 31) (hXS : ∀ t x, 1170 ≤ t → t ≤ 1177 → own t = false → τ t = some x → ∀ i : Nat, m' 143 i = m 143 i ∧ m' 144 i = m 144 i ∧ m' 145 i = m 145 i ∧ m' 146 i = m 146 i ∧ m' 149 i = m 149 i ∧ m' 148 i = m 148 i) (hRS : ∀ t x, 1160 ≤ t → t ≤ 1168 → own t = false → τ t = some x → ∀ i : Nat, m' 146 i = m 146 i ∧ m' 149 i = m 149 i ∧ m' 148 i = m 148 i) (HM : ∀ (i : Nat) (T : List Nat), CLT[i]? = some T → Mx9 own τ' τ T) (h : ∀ n9 E9 : Int, τ 1101 = some n9 → τ 1116 = some E9 → 1 ≤ n9 ∧ E9 = (te9 (tx9 m) (Tp9 (tx9 m) (n9.toNat - 1)) : Int)) (h' : ∀ n9 E9 : Int, τ' 1101 = some n9 → τ' 1116 = some E9 → 1 ≤ n9 ∧ E9 = (te9 (tx9 m') (Tp9 (tx9 m') (n9.toNat - 1)) : Int)) : ∀ n9 E9 : Int, (cbS own τ' τ) 1101 = some n9 → (cbS own τ' τ) 1116 = some E9 → 1 ≤ n9 ∧ E9 = (te9 (tx9 m') (Tp9 (tx9 m') (n9.toNat - 1)) : Int) := by
  intro n9 E9 e0 e1
  rcases bkS (l := [(1101, n9), (1116, E9)]) ⟨e0, e1, trivial⟩ (HM 7 _ rfl) with ⟨hall, q0, q1, _⟩ | ⟨⟨e, he, hf⟩, q0, q1, _⟩
  · exact h' _ _ q0 q1
  · have pp := h _ _ q0 q1
    show 1 ≤ n9 ∧ E9 = (te9 (tx9 m') (Tp9 (tx9 m') (n9.toNat - 1)) : Int)
    rw [ht]
    exact pp
theorem bk_ske {own : Nat → Bool} {τ τ' : Tf} {m m' : Mt} (hX : ∀ t, 1170 ≤ t → t ≤ 1182 → own t = own 1170) (ht : tx9 m' = tx9 m) (hw : wl9 m' = wl9 m) (hj : m' 110 1 = m 110 1) (htp : ∀ j, m' 111 j = m 111 j) (hL : own 1100 = false → ∀ x, τ 1100 = some x → ∀ j, m' 23 j = m 23 j) (hK : ∀ t x, t = 1101 ∨ t = 1102 → own t = false → τ t = some x → ∀ i, m' 25 i = m 25 i ∧ m' 24 i = m 24 i ∧ m' 26 i = m 26 i) (hT : own 1120 = false → ∀ x, τ 1120 = some x → m' 110 29 = m 110 29 ∧ m' 110 28 = m 110 28 ∧ m' 110 27 = m 110 27 ∧ m' 110 30 = m 110 30 ∧ m' 1000 31 = m 1000 31) (hXS : ∀ t x, 1170 ≤ t → t ≤ 1177 → own t = false → τ t = some x → ∀ i : Nat, m' 143 i = m 143 i ∧ m' 144 i = m 144 i ∧ m' 145 i = m 145 i ∧ m' 146 i = m 146 i ∧ m' 149 i = m 149 i ∧ m' 148 i = m 148 i) (hRS : ∀ t x, 1160 ≤ t → t ≤ 1168 → own t = false → τ t = some x → ∀ i : Nat, m' 146 i = m 146 i ∧ m' 149 i = m 149 i ∧ m' 148 i = m 148 i) (HM : ∀ (i : Nat) (T : List Nat), CLT[i]? = some T → Mx9 own τ' τ T) (h : ∀ s9 k9 e9 : Int, τ 1105 = some s9 → τ 1107 = some k9 → τ 1106 = some e9 → k9 = (kd9 (tx9 m) s9.toNat : Int) ∧ e9 = (te9 (tx9 m) s9.toNat : Int)) (h' : ∀ s9 k9 e9 : Int, τ' 1105 = some s9 → τ' 1107 = some k9 → τ' 1106 = some e9 → k9 = (kd9 (tx9 m') s9.toNat : Int) ∧ e9 = (te9 (tx9 m') s9.toNat : Int)) : ∀ s9 k9 e9 : Int, (cbS own τ' τ) 1105 = some s9 → (cbS own τ' τ) 1107 = some k9 → (cbS own τ' τ) 1106 = some e9 → k9 = (kd9 (tx9 m') s9.toNat : Int) ∧ e9 = (te9 (tx9 m') s9.toNat : Int) := by
  intro s9 k9 e9 e0 e1 e2
  rcases bkS (l := [(1105, s9), (1107, k9), (1106, e9)]) ⟨e0, e1, e2, trivial⟩ (HM 8 _ rfl) with ⟨hall, q0, q1, q2, _⟩ | ⟨⟨e, he, hf⟩, q0, q1, q2, _⟩
  · exact h' _ _ _ q0 q1 q2
  · have pp := h _ _ _ q0 q1 q2
    show k9 = (kd9 (tx9 m') s9.toNat : Int) ∧ e9 = (te9 (tx9 m') s9.toNat : Int)
    rw [ht]
    exact pp
theorem bk_skv {own : Nat → Bool} {τ τ' : Tf} {m m' : Mt} (hX : ∀ t, 1170 ≤ t → t ≤ 1182 → own t = own 1170) (ht : tx9 m' = tx9 m) (hw : wl9 m' = wl9 m) (hj : m' 110 1 = m 110 1) (htp : ∀ j, m' 111 j = m 111 j) (hL : own 1100 = false → ∀ x, τ 1100 = some x → ∀ j, m' 23 j = m 23 j) (hK : ∀ t x, t = 1101 ∨ t = 1102 → own t = false → τ t = some x → ∀ i, m' 25 i = m 25 i ∧ m' 24 i = m 24 i ∧ m' 26 i = m 26 i) (hT : own 1120 = false → ∀ x, τ 1120 = some x → m' 110 29 = m 110 29 ∧ m' 110 28 = m 110 28 ∧ m' 110 27 = m 110 27 ∧ m' 110 30 = m 110 30 ∧ m' 1000 31 = m 1000 31) (hXS : ∀ t x, 1170 ≤ t → t ≤ 1177 → own t = false → τ t = some x → ∀ i : Nat, m' 143 i = m 143 i ∧ m' 144 i = m 144 i ∧ m' 145 i = m 145 i ∧ m' 146 i = m 146 i ∧ m' 149 i = m 149 i ∧ m' 148 i = m 148 i) (hRS : ∀ t x, 1160 ≤ t → t ≤ 1168 → own t = false → τ t = some x → ∀ i : Nat, m' 146 i = m 146 i ∧ m' 149 i = m 149 i ∧ m' 148 i = m 148 i) (HM : ∀ (i : Nat) (T : List Nat), CLT[i]? = some T → Mx9 own τ' τ T) (h : ∀ s9 k9 v9 : Int, τ 1105 = some s9 → τ 1107 = some k9 → τ 1108 = some v9 → (k9 = 2 → v9 = nv9w (tx9 m) s9.toNat) ∧ (k9 = 4 → v9 = (rc9 (tx9 m) s9.toNat : Int))) (h' : ∀ s9 k9 v9 : Int, τ' 1105 = some s9 → τ' 1107 = some k9 → τ' 1108 = some v9 → (k9 = 2 → v9 = nv9w (tx9 m') s9.toNat) ∧ (k9 = 4 → v9 = (rc9 (tx9 m') s9.toNat : Int))) : ∀ s9 k9 v9 : Int, (cbS own τ' τ) 1105 = some s9 → (cbS own τ' τ) 1107 = some k9 → (cbS own τ' τ) 1108 = some v9 → (k9 = 2 → v9 = nv9w (tx9 m') s9.toNat) ∧ (k9 = 4 → v9 = (rc9 (tx9 m') s9.toNat : Int)) := by
  intro s9 k9 v9 e0 e1 e2
  rcases bkS (l := [(1105, s9), (1107, k9), (1108, v9)]) ⟨e0, e1, e2, trivial⟩ (HM 9 _ rfl) with ⟨hall, q0, q1, q2, _⟩ | ⟨⟨e, he, hf⟩, q0, q1, q2, _⟩
  · exact h' _ _ _ q0 q1 q2
  · have pp := h _ _ _ q0 q1 q2
    show (k9 = 2 → v9 = nv9w (tx9 m') s9.toNat) ∧ (k9 = 4 → v9 = (rc9 (tx9 m') s9.toNat : Int))
    rw [ht]
    exact pp
theorem bk_sku {own : Nat → Bool} {τ τ' : Tf} {m m' : Mt} (hX : ∀ t, 1170 ≤ t → t ≤ 1182 → own t = own 1170) (ht : tx9 m' = tx9 m) (hw : wl9 m' = wl9 m) (hj : m' 110 1 = m 110 1) (htp : ∀ j, m' 111 j = m 111 j) (hL : own 1100 = false → ∀ x, τ 1100 = some x → ∀ j, m' 23 j = m 23 j) (hK : ∀ t x, t = 1101 ∨ t = 1102 → own t = false → τ t = some x → ∀ i, m' 25 i = m 25 i ∧ m' 24 i = m 24 i ∧ m' 26 i = m 26 i) (hT : own 1120 = false → ∀ x, τ 1120 = some x → m' 110 29 = m 110 29 ∧ m' 110 28 = m 110 28 ∧ m' 110 27 = m 110 27 ∧ m' 110 30 = m 110 30 ∧ m' 1000 31 = m 1000 31) (hXS : ∀ t x, 1170 ≤ t → t ≤ 1177 → own t = false → τ t = some x → ∀ i : Nat, m' 143 i = m 143 i ∧ m' 144 i = m 144 i ∧ m' 145 i = m 145 i ∧ m' 146 i = m 146 i ∧ m' 149 i = m 149 i ∧ m' 148 i = m 148 i) (hRS : ∀ t x, 1160 ≤ t → t ≤ 1168 → own t = false → τ t = some x → ∀ i : Nat, m' 146 i = m 146 i ∧ m' 149 i = m 149 i ∧ m' 148 i = m 148 i) (HM : ∀ (i : Nat) (T : List Nat), CLT[i]? = some T → Mx9 own τ' τ T) (h : ∀ s9 k9 u9 : Int, τ 1105 = some s9 → τ 1107 = some k9 → τ 1110 = some u9 → k9 = 1 → u9 = wv9 (tx9 m) s9.toNat) (h' : ∀ s9 k9 u9 : Int, τ' 1105 = some s9 → τ' 1107 = some k9 → τ' 1110 = some u9 → k9 = 1 → u9 = wv9 (tx9 m') s9.toNat) : ∀ s9 k9 u9 : Int, (cbS own τ' τ) 1105 = some s9 → (cbS own τ' τ) 1107 = some k9 → (cbS own τ' τ) 1110 = some u9 → k9 = 1 → u9 = wv9 (tx9 m') s9.toNat := by
  intro s9 k9 u9 e0 e1 e2
  rcases bkS (l := [(1105, s9), (1107, k9), (1110, u9)]) ⟨e0, e1, e2, trivial⟩ (HM 10 _ rfl) with ⟨hall, q0, q1, q2, _⟩ | ⟨⟨e, he, hf⟩, q0, q1, q2, _⟩
  · exact h' _ _ _ q0 q1 q2
  · have pp := h _ _ _ q0 q1 q2
    show k9 = 1 → u9 = wv9 (tx9 m') s9.toNat
    rw [ht]
    exact pp
theorem bk_sw {own : Nat → Bool} {τ τ' : Tf} {m m' : Mt} (hX : ∀ t, 1170 ≤ t → t ≤ 1182 → own t = own 1170) (ht : tx9 m' = tx9 m) (hw : wl9 m' = wl9 m) (hj : m' 110 1 = m 110 1) (htp : ∀ j, m' 111 j = m 111 j) (hL : own 1100 = false → ∀ x, τ 1100 = some x → ∀ j, m' 23 j = m 23 j) (hK : ∀ t x, t = 1101 ∨ t = 1102 → own t = false → τ t = some x → ∀ i, m' 25 i = m 25 i ∧ m' 24 i = m 24 i ∧ m' 26 i = m 26 i) (hT : own 1120 = false → ∀ x, τ 1120 = some x → m' 110 29 = m 110 29 ∧ m' 110 28 = m 110 28 ∧ m' 110 27 = m 110 27 ∧ m' 110 30 = m 110 30 ∧ m' 1000 31 = m 1000 31) (hXS : ∀ t x, 1170 ≤ t → t ≤ 1177 → own t = false → τ t = some x → ∀ i : Nat, m' 143 i = m 143 i ∧ m' 144 i = m 144 i ∧ m' 145 i = m 145 i ∧ m' 146 i = m 146 i ∧ m' 149 i = m 149 i ∧ m' 148 i = m 148 i) (hRS : ∀ t x, 1160 ≤ t → t ≤ 1168 → own t = false → τ t = some x → ∀ i : Nat, m' 146 i = m 146 i ∧ m' 149 i = m 149 i ∧ m' 148 i = m 148 i) (HM : ∀ (i : Nat) (T : List Nat), CLT[i]? = some T → Mx9 own τ' τ T) (h : ∀ s9 w9 : Int, τ 1105 = some s9 → τ 1109 = some w9 → (s9 ≤ w9 ∧ w9 ≤ m 110 1) ∧ le9 (tx9 m) s9.toNat = true ∧ we9 (tx9 m) w9.toNat = we9 (tx9 m) s9.toNat) (h' : ∀ s9 w9 : Int, τ' 1105 = some s9 → τ' 1109 = some w9 → (s9 ≤ w9 ∧ w9 ≤ m' 110 1) ∧ le9 (tx9 m') s9.toNat = true ∧ we9 (tx9 m') w9.toNat = we9 (tx9 m') s9.toNat) : ∀ s9 w9 : Int, (cbS own τ' τ) 1105 = some s9 → (cbS own τ' τ) 1109 = some w9 → (s9 ≤ w9 ∧ w9 ≤ m' 110 1) ∧ le9 (tx9 m') s9.toNat = true ∧ we9 (tx9 m') w9.toNat = we9 (tx9 m') s9.toNat := by
  intro s9 w9 e0 e1
  rcases bkS (l := [(1105, s9), (1109, w9)]) ⟨e0, e1, trivial⟩ (HM 11 _ rfl) with ⟨hall, q0, q1, _⟩ | ⟨⟨e, he, hf⟩, q0, q1, _⟩
  · exact h' _ _ q0 q1
  · have pp := h _ _ q0 q1
    show (s9 ≤ w9 ∧ w9 ≤ m' 110 1) ∧ le9 (tx9 m') s9.toNat = true ∧ we9 (tx9 m') w9.toNat = we9 (tx9 m') s9.toNat
    rw [ht, hj]
    exact pp
theorem bk_swm {own : Nat → Bool} {τ τ' : Tf} {m m' : Mt} (hX : ∀ t, 1170 ≤ t → t ≤ 1182 → own t = own 1170) (ht : tx9 m' = tx9 m) (hw : wl9 m' = wl9 m) (hj : m' 110 1 = m 110 1) (htp : ∀ j, m' 111 j = m 111 j) (hL : own 1100 = false → ∀ x, τ 1100 = some x → ∀ j, m' 23 j = m 23 j) (hK : ∀ t x, t = 1101 ∨ t = 1102 → own t = false → τ t = some x → ∀ i, m' 25 i = m 25 i ∧ m' 24 i = m 24 i ∧ m' 26 i = m 26 i) (hT : own 1120 = false → ∀ x, τ 1120 = some x → m' 110 29 = m 110 29 ∧ m' 110 28 = m 110 28 ∧ m' 110 27 = m 110 27 ∧ m' 110 30 = m 110 30 ∧ m' 1000 31 = m 1000 31) (hXS : ∀ t x, 1170 ≤ t → t ≤ 1177 → own t = false → τ t = some x → ∀ i : Nat, m' 143 i = m 143 i ∧ m' 144 i = m 144 i ∧ m' 145 i = m 145 i ∧ m' 146 i = m 146 i ∧ m' 149 i = m 149 i ∧ m' 148 i = m 148 i) (hRS : ∀ t x, 1160 ≤ t → t ≤ 1168 → own t = false → τ t = some x → ∀ i : Nat, m' 146 i = m 146 i ∧ m' 149 i = m 149 i ∧ m' 148 i = m 148 i) (HM : ∀ (i : Nat) (T : List Nat), CLT[i]? = some T → Mx9 own τ' τ T) (h : ∀ s9 w9 m9 : Int, τ 1105 = some s9 → τ 1109 = some w9 → τ 1115 = some m9 → m9 = w9 - s9) (h' : ∀ s9 w9 m9 : Int, τ' 1105 = some s9 → τ' 1109 = some w9 → τ' 1115 = some m9 → m9 = w9 - s9) : ∀ s9 w9 m9 : Int, (cbS own τ' τ) 1105 = some s9 → (cbS own τ' τ) 1109 = some w9 → (cbS own τ' τ) 1115 = some m9 → m9 = w9 - s9 := by
  intro s9 w9 m9 e0 e1 e2
  rcases bkS (l := [(1105, s9), (1109, w9), (1115, m9)]) ⟨e0, e1, e2, trivial⟩ (HM 12 _ rfl) with ⟨hall, q0, q1, q2, _⟩ | ⟨⟨e, he, hf⟩, q0, q1, q2, _⟩
  · exact h' _ _ _ q0 q1 q2
  · have pp := h _ _ _ q0 q1 q2
    exact pp
theorem bk_swu {own : Nat → Bool} {τ τ' : Tf} {m m' : Mt} (hX : ∀ t, 1170 ≤ t → t ≤ 1182 → own t = own 1170) (ht : tx9 m' = tx9 m) (hw : wl9 m' = wl9 m) (hj : m' 110 1 = m 110 1) (htp : ∀ j, m' 111 j = m 111 j) (hL : own 1100 = false → ∀ x, τ 1100 = some x → ∀ j, m' 23 j = m 23 j) (hK : ∀ t x, t = 1101 ∨ t = 1102 → own t = false → τ t = some x → ∀ i, m' 25 i = m 25 i ∧ m' 24 i = m 24 i ∧ m' 26 i = m 26 i) (hT : own 1120 = false → ∀ x, τ 1120 = some x → m' 110 29 = m 110 29 ∧ m' 110 28 = m 110 28 ∧ m' 110 27 = m 110 27 ∧ m' 110 30 = m 110 30 ∧ m' 1000 31 = m 1000 31) (hXS : ∀ t x, 1170 ≤ t → t ≤ 1177 → own t = false → τ t = some x → ∀ i : Nat, m' 143 i = m 143 i ∧ m' 144 i = m 144 i ∧ m' 145 i = m 145 i ∧ m' 146 i = m 146 i ∧ m' 149 i = m 149 i ∧ m' 148 i = m 148 i) (hRS : ∀ t x, 1160 ≤ t → t ≤ 1168 → own t = false → τ t = some x → ∀ i : Nat, m' 146 i = m 146 i ∧ m' 149 i = m 149 i ∧ m' 148 i = m 148 i) (HM : ∀ (i : Nat) (T : List Nat), CLT[i]? = some T → Mx9 own τ' τ T) (h : ∀ s9 w9 u9 : Int, τ 1105 = some s9 → τ 1109 = some w9 → τ 1110 = some u9 → vb9 (al9 (tx9 m)) (wg9 (tx9 m) s9.toNat) (tx9 m).2 w9.toNat u9 = wv9 (tx9 m) s9.toNat) (h' : ∀ s9 w9 u9 : Int, τ' 1105 = some s9 → τ' 1109 = some w9 → τ' 1110 = some u9 → vb9 (al9 (tx9 m')) (wg9 (tx9 m') s9.toNat) (tx9 m').2 w9.toNat u9 = wv9 (tx9 m') s9.toNat) : ∀ s9 w9 u9 : Int, (cbS own τ' τ) 1105 = some s9 → (cbS own τ' τ) 1109 = some w9 → (cbS own τ' τ) 1110 = some u9 → vb9 (al9 (tx9 m')) (wg9 (tx9 m') s9.toNat) (tx9 m').2 w9.toNat u9 = wv9 (tx9 m') s9.toNat := by
  intro s9 w9 u9 e0 e1 e2
  rcases bkS (l := [(1105, s9), (1109, w9), (1110, u9)]) ⟨e0, e1, e2, trivial⟩ (HM 13 _ rfl) with ⟨hall, q0, q1, q2, _⟩ | ⟨⟨e, he, hf⟩, q0, q1, q2, _⟩
  · exact h' _ _ _ q0 q1 q2
  · have pp := h _ _ _ q0 q1 q2
    show vb9 (al9 (tx9 m')) (wg9 (tx9 m') s9.toNat) (tx9 m').2 w9.toNat u9 = wv9 (tx9 m') s9.toNat
    rw [ht]
    exact pp
theorem bk_sf {own : Nat → Bool} {τ τ' : Tf} {m m' : Mt} (hX : ∀ t, 1170 ≤ t → t ≤ 1182 → own t = own 1170) (ht : tx9 m' = tx9 m) (hw : wl9 m' = wl9 m) (hj : m' 110 1 = m 110 1) (htp : ∀ j, m' 111 j = m 111 j) (hL : own 1100 = false → ∀ x, τ 1100 = some x → ∀ j, m' 23 j = m 23 j) (hK : ∀ t x, t = 1101 ∨ t = 1102 → own t = false → τ t = some x → ∀ i, m' 25 i = m 25 i ∧ m' 24 i = m 24 i ∧ m' 26 i = m 26 i) (hT : own 1120 = false → ∀ x, τ 1120 = some x → m' 110 29 = m 110 29 ∧ m' 110 28 = m 110 28 ∧ m' 110 27 = m 110 27 ∧ m' 110 30 = m 110 30 ∧ m' 1000 31 = m 1000 31) (hXS : ∀ t x, 1170 ≤ t → t ≤ 1177 → own t = false → τ t = some x → ∀ i : Nat, m' 143 i = m 143 i ∧ m' 144 i = m 144 i ∧ m' 145 i = m 145 i ∧ m' 146 i = m 146 i ∧ m' 149 i = m 149 i ∧ m' 148 i = m 148 i) (hRS : ∀ t x, 1160 ≤ t → t ≤ 1168 → own t = false → τ t = some x → ∀ i : Nat, m' 146 i = m 146 i ∧ m' 149 i = m 149 i ∧ m' 148 i = m 148 i) (HM : ∀ (i : Nat) (T : List Nat), CLT[i]? = some T → Mx9 own τ' τ T) (h : ∀ s9 f9 m9 y9 : Int, τ 1105 = some s9 → τ 1111 = some f9 → τ 1115 = some m9 → τ 1112 = some y9 → ((s9 ≤ f9 ∧ f9 ≤ m 110 1) ∧ m9 = f9 - s9) ∧ fi9 (tx9 m) s9.toNat = true ∧ fe9 (tx9 m) f9.toNat = fe9 (tx9 m) s9.toNat ∧ vb9 (fi9 (tx9 m)) (ng9 (tx9 m) s9.toNat) (tx9 m).2 f9.toNat y9 = nv9w (tx9 m) s9.toNat) (h' : ∀ s9 f9 m9 y9 : Int, τ' 1105 = some s9 → τ' 1111 = some f9 → τ' 1115 = some m9 → τ' 1112 = some y9 → ((s9 ≤ f9 ∧ f9 ≤ m' 110 1) ∧ m9 = f9 - s9) ∧ fi9 (tx9 m') s9.toNat = true ∧ fe9 (tx9 m') f9.toNat = fe9 (tx9 m') s9.toNat ∧ vb9 (fi9 (tx9 m')) (ng9 (tx9 m') s9.toNat) (tx9 m').2 f9.toNat y9 = nv9w (tx9 m') s9.toNat) : ∀ s9 f9 m9 y9 : Int, (cbS own τ' τ) 1105 = some s9 → (cbS own τ' τ) 1111 = some f9 → (cbS own τ' τ) 1115 = some m9 → (cbS own τ' τ) 1112 = some y9 → ((s9 ≤ f9 ∧ f9 ≤ m' 110 1) ∧ m9 = f9 - s9) ∧ fi9 (tx9 m') s9.toNat = true ∧ fe9 (tx9 m') f9.toNat = fe9 (tx9 m') s9.toNat ∧ vb9 (fi9 (tx9 m')) (ng9 (tx9 m') s9.toNat) (tx9 m').2 f9.toNat y9 = nv9w (tx9 m') s9.toNat := by
  intro s9 f9 m9 y9 e0 e1 e2 e3
  rcases bkS (l := [(1105, s9), (1111, f9), (1115, m9), (1112, y9)]) ⟨e0, e1, e2, e3, trivial⟩ (HM 14 _ rfl) with ⟨hall, q0, q1, q2, q3, _⟩ | ⟨⟨e, he, hf⟩, q0, q1, q2, q3, _⟩
  · exact h' _ _ _ _ q0 q1 q2 q3
  · have pp := h _ _ _ _ q0 q1 q2 q3
    show ((s9 ≤ f9 ∧ f9 ≤ m' 110 1) ∧ m9 = f9 - s9) ∧ fi9 (tx9 m') s9.toNat = true ∧ fe9 (tx9 m') f9.toNat = fe9 (tx9 m') s9.toNat ∧ vb9 (fi9 (tx9 m')) (ng9 (tx9 m') s9.toNat) (tx9 m').2 f9.toNat y9 = nv9w (tx9 m') s9.toNat
    rw [ht, hj]
    exact pp
theorem bk_sg {own : Nat → Bool} {τ τ' : Tf} {m m' : Mt} (hX : ∀ t, 1170 ≤ t → t ≤ 1182 → own t = own 1170) (ht : tx9 m' = tx9 m) (hw : wl9 m' = wl9 m) (hj : m' 110 1 = m 110 1) (htp : ∀ j, m' 111 j = m 111 j) (hL : own 1100 = false → ∀ x, τ 1100 = some x → ∀ j, m' 23 j = m 23 j) (hK : ∀ t x, t = 1101 ∨ t = 1102 → own t = false → τ t = some x → ∀ i, m' 25 i = m 25 i ∧ m' 24 i = m 24 i ∧ m' 26 i = m 26 i) (hT : own 1120 = false → ∀ x, τ 1120 = some x → m' 110 29 = m 110 29 ∧ m' 110 28 = m 110 28 ∧ m' 110 27 = m 110 27 ∧ m' 110 30 = m 110 30 ∧ m' 1000 31 = m 1000 31) (hXS : ∀ t x, 1170 ≤ t → t ≤ 1177 → own t = false → τ t = some x → ∀ i : Nat, m' 143 i = m 143 i ∧ m' 144 i = m 144 i ∧ m' 145 i = m 145 i ∧ m' 146 i = m 146 i ∧ m' 149 i = m 149 i ∧ m' 148 i = m 148 i) (hRS : ∀ t x, 1160 ≤ t → t ≤ 1168 → own t = false → τ t = some x → ∀ i : Nat, m' 146 i = m 146 i ∧ m' 149 i = m 149 i ∧ m' 148 i = m 148 i) (HM : ∀ (i : Nat) (T : List Nat), CLT[i]? = some T → Mx9 own τ' τ T) (h : ∀ s9 h9 g9 m9 : Int, τ 1105 = some s9 → τ 1113 = some h9 → τ 1114 = some g9 → τ 1115 = some m9 → ((h9 = (fe9 (tx9 m) s9.toNat : Int) ∧ m9 = h9 - s9) ∧ h9 + 1 ≤ g9 ∧ g9 ≤ m 110 1) ∧ fi9 (tx9 m) s9.toNat = true ∧ pt9 (tx9 m) h9.toNat = true ∧ fe9 (tx9 m) g9.toNat = fe9 (tx9 m) (h9.toNat + 1)) (h' : ∀ s9 h9 g9 m9 : Int, τ' 1105 = some s9 → τ' 1113 = some h9 → τ' 1114 = some g9 → τ' 1115 = some m9 → ((h9 = (fe9 (tx9 m') s9.toNat : Int) ∧ m9 = h9 - s9) ∧ h9 + 1 ≤ g9 ∧ g9 ≤ m' 110 1) ∧ fi9 (tx9 m') s9.toNat = true ∧ pt9 (tx9 m') h9.toNat = true ∧ fe9 (tx9 m') g9.toNat = fe9 (tx9 m') (h9.toNat + 1)) : ∀ s9 h9 g9 m9 : Int, (cbS own τ' τ) 1105 = some s9 → (cbS own τ' τ) 1113 = some h9 → (cbS own τ' τ) 1114 = some g9 → (cbS own τ' τ) 1115 = some m9 → ((h9 = (fe9 (tx9 m') s9.toNat : Int) ∧ m9 = h9 - s9) ∧ h9 + 1 ≤ g9 ∧ g9 ≤ m' 110 1) ∧ fi9 (tx9 m') s9.toNat = true ∧ pt9 (tx9 m') h9.toNat = true ∧ fe9 (tx9 m') g9.toNat = fe9 (tx9 m') (h9.toNat + 1) := by
  intro s9 h9 g9 m9 e0 e1 e2 e3
  rcases bkS (l := [(1105, s9), (1113, h9), (1114, g9), (1115, m9)]) ⟨e0, e1, e2, e3, trivial⟩ (HM 15 _ rfl) with ⟨hall, q0, q1, q2, q3, _⟩ | ⟨⟨e, he, hf⟩, q0, q1, q2, q3, _⟩
  · exact h' _ _ _ _ q0 q1 q2 q3
  · have pp := h _ _ _ _ q0 q1 q2 q3
    show ((h9 = (fe9 (tx9 m') s9.toNat : Int) ∧ m9 = h9 - s9) ∧ h9 + 1 ≤ g9 ∧ g9 ≤ m' 110 1) ∧ fi9 (tx9 m') s9.toNat = true ∧ pt9 (tx9 m') h9.toNat = true ∧ fe9 (tx9 m') g9.toNat = fe9 (tx9 m') (h9.toNat + 1)
    rw [ht, hj]
    exact pp
theorem bk_T {own : Nat → Bool} {τ τ' : Tf} {m m' : Mt} (hX : ∀ t, 1170 ≤ t → t ≤ 1182 → own t = own 1170) (ht : tx9 m' = tx9 m) (hw : wl9 m' = wl9 m) (hj : m' 110 1 = m 110 1) (htp : ∀ j, m' 111 j = m 111 j) (hL : own 1100 = false → ∀ x, τ 1100 = some x → ∀ j, m' 23 j = m 23 j) (hK : ∀ t x, t = 1101 ∨ t = 1102 → own t = false → τ t = some x → ∀ i, m' 25 i = m 25 i ∧ m' 24 i = m 24 i ∧ m' 26 i = m 26 i) (hT : own 1120 = false → ∀ x, τ 1120 = some x → m' 110 29 = m 110 29 ∧ m' 110 28 = m 110 28 ∧ m' 110 27 = m 110 27 ∧ m' 110 30 = m 110 30 ∧ m' 1000 31 = m 1000 31) (hXS : ∀ t x, 1170 ≤ t → t ≤ 1177 → own t = false → τ t = some x → ∀ i : Nat, m' 143 i = m 143 i ∧ m' 144 i = m 144 i ∧ m' 145 i = m 145 i ∧ m' 146 i = m 146 i ∧ m' 149 i = m 149 i ∧ m' 148 i = m 148 i) (hRS : ∀ t x, 1160 ≤ t → t ≤ 1168 → own t = false → τ t = some x → ∀ i : Nat, m' 146 i = m 146 i ∧ m' 149 i = m 149 i ∧ m' 148 i = m 148 i) (HM : ∀ (i : Nat) (T : List Nat), CLT[i]? = some T → Mx9 own τ' τ T) (h : ∀ T9 : Int, τ 1120 = some T9 → Pl9 m T9 ∧ (m 110 29 = T9 ∧ m 110 28 = (kd9 (tx9 m) T9.toNat : Int) ∧ m 110 27 = (te9 (tx9 m) T9.toNat : Int)) ∧ (kd9 (tx9 m) T9.toNat = 1 → m 1000 31 = wv9 (tx9 m) T9.toNat) ∧ (kd9 (tx9 m) T9.toNat = 2 → m 1000 31 = nv9w (tx9 m) T9.toNat) ∧ (kd9 (tx9 m) T9.toNat = 4 → m 110 30 = sV9 (rc9 (tx9 m) T9.toNat))) (h' : ∀ T9 : Int, τ' 1120 = some T9 → Pl9 m' T9 ∧ (m' 110 29 = T9 ∧ m' 110 28 = (kd9 (tx9 m') T9.toNat : Int) ∧ m' 110 27 = (te9 (tx9 m') T9.toNat : Int)) ∧ (kd9 (tx9 m') T9.toNat = 1 → m' 1000 31 = wv9 (tx9 m') T9.toNat) ∧ (kd9 (tx9 m') T9.toNat = 2 → m' 1000 31 = nv9w (tx9 m') T9.toNat) ∧ (kd9 (tx9 m') T9.toNat = 4 → m' 110 30 = sV9 (rc9 (tx9 m') T9.toNat))) : ∀ T9 : Int, (cbS own τ' τ) 1120 = some T9 → Pl9 m' T9 ∧ (m' 110 29 = T9 ∧ m' 110 28 = (kd9 (tx9 m') T9.toNat : Int) ∧ m' 110 27 = (te9 (tx9 m') T9.toNat : Int)) ∧ (kd9 (tx9 m') T9.toNat = 1 → m' 1000 31 = wv9 (tx9 m') T9.toNat) ∧ (kd9 (tx9 m') T9.toNat = 2 → m' 1000 31 = nv9w (tx9 m') T9.toNat) ∧ (kd9 (tx9 m') T9.toNat = 4 → m' 110 30 = sV9 (rc9 (tx9 m') T9.toNat)) := by
  intro T9 e0
  rcases bkS (l := [(1120, T9)]) ⟨e0, trivial⟩ (HM 16 _ rfl) with ⟨hall, q0, _⟩ | ⟨⟨e, he, hf⟩, q0, _⟩
  · exact h' _ q0
  · have pp := h _ q0
    obtain ⟨a1, a2, a3, a4, a5⟩ := hT (by simp only [List.mem_cons, List.not_mem_nil, or_false] at he; rw [he] at hf; exact hf) _ q0
    show (0 ≤ T9 ∧ T9 ≤ m' 110 1) ∧ (m' 110 29 = T9 ∧ m' 110 28 = (kd9 (tx9 m') T9.toNat : Int) ∧ m' 110 27 = (te9 (tx9 m') T9.toNat : Int)) ∧ (kd9 (tx9 m') T9.toNat = 1 → m' 1000 31 = wv9 (tx9 m') T9.toNat) ∧ (kd9 (tx9 m') T9.toNat = 2 → m' 1000 31 = nv9w (tx9 m') T9.toNat) ∧ (kd9 (tx9 m') T9.toNat = 4 → m' 110 30 = sV9 (rc9 (tx9 m') T9.toNat))
    rw [ht, hj, a1, a2, a3, a4, a5]
    exact pp
theorem bk_TN {own : Nat → Bool} {τ τ' : Tf} {m m' : Mt} (hX : ∀ t, 1170 ≤ t → t ≤ 1182 → own t = own 1170) (ht : tx9 m' = tx9 m) (hw : wl9 m' = wl9 m) (hj : m' 110 1 = m 110 1) (htp : ∀ j, m' 111 j = m 111 j) (hL : own 1100 = false → ∀ x, τ 1100 = some x → ∀ j, m' 23 j = m 23 j) (hK : ∀ t x, t = 1101 ∨ t = 1102 → own t = false → τ t = some x → ∀ i, m' 25 i = m 25 i ∧ m' 24 i = m 24 i ∧ m' 26 i = m 26 i) (hT : own 1120 = false → ∀ x, τ 1120 = some x → m' 110 29 = m 110 29 ∧ m' 110 28 = m 110 28 ∧ m' 110 27 = m 110 27 ∧ m' 110 30 = m 110 30 ∧ m' 1000 31 = m 1000 31) (hXS : ∀ t x, 1170 ≤ t → t ≤ 1177 → own t = false → τ t = some x → ∀ i : Nat, m' 143 i = m 143 i ∧ m' 144 i = m 144 i ∧ m' 145 i = m 145 i ∧ m' 146 i = m 146 i ∧ m' 149 i = m 149 i ∧ m' 148 i = m 148 i) (hRS : ∀ t x, 1160 ≤ t → t ≤ 1168 → own t = false → τ t = some x → ∀ i : Nat, m' 146 i = m 146 i ∧ m' 149 i = m 149 i ∧ m' 148 i = m 148 i) (HM : ∀ (i : Nat) (T : List Nat), CLT[i]? = some T → Mx9 own τ' τ T) (h : ∀ T9 N9 : Int, τ 1120 = some T9 → τ 1121 = some N9 → N9 = (nx9t (tx9 m) T9.toNat : Int)) (h' : ∀ T9 N9 : Int, τ' 1120 = some T9 → τ' 1121 = some N9 → N9 = (nx9t (tx9 m') T9.toNat : Int)) : ∀ T9 N9 : Int, (cbS own τ' τ) 1120 = some T9 → (cbS own τ' τ) 1121 = some N9 → N9 = (nx9t (tx9 m') T9.toNat : Int) := by
  intro T9 N9 e0 e1
  rcases bkS (l := [(1120, T9), (1121, N9)]) ⟨e0, e1, trivial⟩ (HM 17 _ rfl) with ⟨hall, q0, q1, _⟩ | ⟨⟨e, he, hf⟩, q0, q1, _⟩
  · exact h' _ _ q0 q1
  · have pp := h _ _ q0 q1
    show N9 = (nx9t (tx9 m') T9.toNat : Int)
    rw [ht]
    exact pp
theorem bk_QZ {own : Nat → Bool} {τ τ' : Tf} {m m' : Mt} (hX : ∀ t, 1170 ≤ t → t ≤ 1182 → own t = own 1170) (ht : tx9 m' = tx9 m) (hw : wl9 m' = wl9 m) (hj : m' 110 1 = m 110 1) (htp : ∀ j, m' 111 j = m 111 j) (hL : own 1100 = false → ∀ x, τ 1100 = some x → ∀ j, m' 23 j = m 23 j) (hK : ∀ t x, t = 1101 ∨ t = 1102 → own t = false → τ t = some x → ∀ i, m' 25 i = m 25 i ∧ m' 24 i = m 24 i ∧ m' 26 i = m 26 i) (hT : own 1120 = false → ∀ x, τ 1120 = some x → m' 110 29 = m 110 29 ∧ m' 110 28 = m 110 28 ∧ m' 110 27 = m 110 27 ∧ m' 110 30 = m 110 30 ∧ m' 1000 31 = m 1000 31) (hXS : ∀ t x, 1170 ≤ t → t ≤ 1177 → own t = false → τ t = some x → ∀ i : Nat, m' 143 i = m 143 i ∧ m' 144 i = m 144 i ∧ m' 145 i = m 145 i ∧ m' 146 i = m 146 i ∧ m' 149 i = m 149 i ∧ m' 148 i = m 148 i) (hRS : ∀ t x, 1160 ≤ t → t ≤ 1168 → own t = false → τ t = some x → ∀ i : Nat, m' 146 i = m 146 i ∧ m' 149 i = m 149 i ∧ m' 148 i = m 148 i) (HM : ∀ (i : Nat) (T : List Nat), CLT[i]? = some T → Mx9 own τ' τ T) (h : ∀ Q2 Z2 : Int, τ 1128 = some Q2 → τ 1129 = some Z2 → Pl9 m Q2 ∧ Z2 = (sk9 (tx9 m) Q2.toNat : Int)) (h' : ∀ Q2 Z2 : Int, τ' 1128 = some Q2 → τ' 1129 = some Z2 → Pl9 m' Q2 ∧ Z2 = (sk9 (tx9 m') Q2.toNat : Int)) : ∀ Q2 Z2 : Int, (cbS own τ' τ) 1128 = some Q2 → (cbS own τ' τ) 1129 = some Z2 → Pl9 m' Q2 ∧ Z2 = (sk9 (tx9 m') Q2.toNat : Int) := by
  intro Q2 Z2 e0 e1
  rcases bkS (l := [(1128, Q2), (1129, Z2)]) ⟨e0, e1, trivial⟩ (HM 18 _ rfl) with ⟨hall, q0, q1, _⟩ | ⟨⟨e, he, hf⟩, q0, q1, _⟩
  · exact h' _ _ q0 q1
  · have pp := h _ _ q0 q1
    show (0 ≤ Q2 ∧ Q2 ≤ m' 110 1) ∧ Z2 = (sk9 (tx9 m') Q2.toNat : Int)
    rw [ht, hj]
    exact pp
theorem bk_p {own : Nat → Bool} {τ τ' : Tf} {m m' : Mt} (hX : ∀ t, 1170 ≤ t → t ≤ 1182 → own t = own 1170) (ht : tx9 m' = tx9 m) (hw : wl9 m' = wl9 m) (hj : m' 110 1 = m 110 1) (htp : ∀ j, m' 111 j = m 111 j) (hL : own 1100 = false → ∀ x, τ 1100 = some x → ∀ j, m' 23 j = m 23 j) (hK : ∀ t x, t = 1101 ∨ t = 1102 → own t = false → τ t = some x → ∀ i, m' 25 i = m 25 i ∧ m' 24 i = m 24 i ∧ m' 26 i = m 26 i) (hT : own 1120 = false → ∀ x, τ 1120 = some x → m' 110 29 = m 110 29 ∧ m' 110 28 = m 110 28 ∧ m' 110 27 = m 110 27 ∧ m' 110 30 = m 110 30 ∧ m' 1000 31 = m 1000 31) (hXS : ∀ t x, 1170 ≤ t → t ≤ 1177 → own t = false → τ t = some x → ∀ i : Nat, m' 143 i = m 143 i ∧ m' 144 i = m 144 i ∧ m' 145 i = m 145 i ∧ m' 146 i = m 146 i ∧ m' 149 i = m 149 i ∧ m' 148 i = m 148 i) (hRS : ∀ t x, 1160 ≤ t → t ≤ 1168 → own t = false → τ t = some x → ∀ i : Nat, m' 146 i = m 146 i ∧ m' 149 i = m 149 i ∧ m' 148 i = m 148 i) (HM : ∀ (i : Nat) (T : List Nat), CLT[i]? = some T → Mx9 own τ' τ T) (h : ∀ p9 : Int, τ 1123 = some p9 → Pl9 m p9) (h' : ∀ p9 : Int, τ' 1123 = some p9 → Pl9 m' p9) : ∀ p9 : Int, (cbS own τ' τ) 1123 = some p9 → Pl9 m' p9 := by
  intro p9 e0
  rcases bkS (l := [(1123, p9)]) ⟨e0, trivial⟩ (HM 19 _ rfl) with ⟨hall, q0, _⟩ | ⟨⟨e, he, hf⟩, q0, _⟩
  · exact h' _ q0
  · have pp := h _ q0
    show (0 ≤ p9 ∧ p9 ≤ m' 110 1)
    rw [hj]
    exact pp
theorem bk_pc {own : Nat → Bool} {τ τ' : Tf} {m m' : Mt} (hX : ∀ t, 1170 ≤ t → t ≤ 1182 → own t = own 1170) (ht : tx9 m' = tx9 m) (hw : wl9 m' = wl9 m) (hj : m' 110 1 = m 110 1) (htp : ∀ j, m' 111 j = m 111 j) (hL : own 1100 = false → ∀ x, τ 1100 = some x → ∀ j, m' 23 j = m 23 j) (hK : ∀ t x, t = 1101 ∨ t = 1102 → own t = false → τ t = some x → ∀ i, m' 25 i = m 25 i ∧ m' 24 i = m 24 i ∧ m' 26 i = m 26 i) (hT : own 1120 = false → ∀ x, τ 1120 = some x → m' 110 29 = m 110 29 ∧ m' 110 28 = m 110 28 ∧ m' 110 27 = m 110 27 ∧ m' 110 30 = m 110 30 ∧ m' 1000 31 = m 1000 31) (hXS : ∀ t x, 1170 ≤ t → t ≤ 1177 → own t = false → τ t = some x → ∀ i : Nat, m' 143 i = m 143 i ∧ m' 144 i = m 144 i ∧ m' 145 i = m 145 i ∧ m' 146 i = m 146 i ∧ m' 149 i = m 149 i ∧ m' 148 i = m 148 i) (hRS : ∀ t x, 1160 ≤ t → t ≤ 1168 → own t = false → τ t = some x → ∀ i : Nat, m' 146 i = m 146 i ∧ m' 149 i = m 149 i ∧ m' 148 i = m 148 i) (HM : ∀ (i : Nat) (T : List Nat), CLT[i]? = some T → Mx9 own τ' τ T) (h : ∀ p9 c9 : Int, τ 1123 = some p9 → τ 1124 = some c9 → c9 = (rc9 (tx9 m) p9.toNat : Int)) (h' : ∀ p9 c9 : Int, τ' 1123 = some p9 → τ' 1124 = some c9 → c9 = (rc9 (tx9 m') p9.toNat : Int)) : ∀ p9 c9 : Int, (cbS own τ' τ) 1123 = some p9 → (cbS own τ' τ) 1124 = some c9 → c9 = (rc9 (tx9 m') p9.toNat : Int) := by
  intro p9 c9 e0 e1
  rcases bkS (l := [(1123, p9), (1124, c9)]) ⟨e0, e1, trivial⟩ (HM 20 _ rfl) with ⟨hall, q0, q1, _⟩ | ⟨⟨e, he, hf⟩, q0, q1, _⟩
  · exact h' _ _ q0 q1
  · have pp := h _ _ q0 q1
    show c9 = (rc9 (tx9 m') p9.toNat : Int)
    rw [ht]
    exact pp
theorem bk_ip {own : Nat → Bool} {τ τ' : Tf} {m m' : Mt} (hX : ∀ t, 1170 ≤ t → t ≤ 1182 → own t = own 1170) (ht : tx9 m' = tx9 m) (hw : wl9 m' = wl9 m) (hj : m' 110 1 = m 110 1) (htp : ∀ j, m' 111 j = m 111 j) (hL : own 1100 = false → ∀ x, τ 1100 = some x → ∀ j, m' 23 j = m 23 j) (hK : ∀ t x, t = 1101 ∨ t = 1102 → own t = false → τ t = some x → ∀ i, m' 25 i = m 25 i ∧ m' 24 i = m 24 i ∧ m' 26 i = m 26 i) (hT : own 1120 = false → ∀ x, τ 1120 = some x → m' 110 29 = m 110 29 ∧ m' 110 28 = m 110 28 ∧ m' 110 27 = m 110 27 ∧ m' 110 30 = m 110 30 ∧ m' 1000 31 = m 1000 31) (hXS : ∀ t x, 1170 ≤ t → t ≤ 1177 → own t = false → τ t = some x → ∀ i : Nat, m' 143 i = m 143 i ∧ m' 144 i = m 144 i ∧ m' 145 i = m 145 i ∧ m' 146 i = m 146 i ∧ m' 149 i = m 149 i ∧ m' 148 i = m 148 i) (hRS : ∀ t x, 1160 ≤ t → t ≤ 1168 → own t = false → τ t = some x → ∀ i : Nat, m' 146 i = m 146 i ∧ m' 149 i = m 149 i ∧ m' 148 i = m 148 i) (HM : ∀ (i : Nat) (T : List Nat), CLT[i]? = some T → Mx9 own τ' τ T) (h : ∀ nF i9 p9 : Int, τ 1102 = some nF → τ 1122 = some i9 → τ 1123 = some p9 → (0 ≤ i9 ∧ i9 < nF) ∧ p9 = (Tp9 (tx9 m) i9.toNat : Int)) (h' : ∀ nF i9 p9 : Int, τ' 1102 = some nF → τ' 1122 = some i9 → τ' 1123 = some p9 → (0 ≤ i9 ∧ i9 < nF) ∧ p9 = (Tp9 (tx9 m') i9.toNat : Int)) : ∀ nF i9 p9 : Int, (cbS own τ' τ) 1102 = some nF → (cbS own τ' τ) 1122 = some i9 → (cbS own τ' τ) 1123 = some p9 → (0 ≤ i9 ∧ i9 < nF) ∧ p9 = (Tp9 (tx9 m') i9.toNat : Int) := by
  intro nF i9 p9 e0 e1 e2
  rcases bkS (l := [(1102, nF), (1122, i9), (1123, p9)]) ⟨e0, e1, e2, trivial⟩ (HM 21 _ rfl) with ⟨hall, q0, q1, q2, _⟩ | ⟨⟨e, he, hf⟩, q0, q1, q2, _⟩
  · exact h' _ _ _ q0 q1 q2
  · have pp := h _ _ _ q0 q1 q2
    show (0 ≤ i9 ∧ i9 < nF) ∧ p9 = (Tp9 (tx9 m') i9.toNat : Int)
    rw [ht]
    exact pp
theorem bk_iP {own : Nat → Bool} {τ τ' : Tf} {m m' : Mt} (hX : ∀ t, 1170 ≤ t → t ≤ 1182 → own t = own 1170) (ht : tx9 m' = tx9 m) (hw : wl9 m' = wl9 m) (hj : m' 110 1 = m 110 1) (htp : ∀ j, m' 111 j = m 111 j) (hL : own 1100 = false → ∀ x, τ 1100 = some x → ∀ j, m' 23 j = m 23 j) (hK : ∀ t x, t = 1101 ∨ t = 1102 → own t = false → τ t = some x → ∀ i, m' 25 i = m 25 i ∧ m' 24 i = m 24 i ∧ m' 26 i = m 26 i) (hT : own 1120 = false → ∀ x, τ 1120 = some x → m' 110 29 = m 110 29 ∧ m' 110 28 = m 110 28 ∧ m' 110 27 = m 110 27 ∧ m' 110 30 = m 110 30 ∧ m' 1000 31 = m 1000 31) (hXS : ∀ t x, 1170 ≤ t → t ≤ 1177 → own t = false → τ t = some x → ∀ i : Nat, m' 143 i = m 143 i ∧ m' 144 i = m 144 i ∧ m' 145 i = m 145 i ∧ m' 146 i = m 146 i ∧ m' 149 i = m 149 i ∧ m' 148 i = m 148 i) (hRS : ∀ t x, 1160 ≤ t → t ≤ 1168 → own t = false → τ t = some x → ∀ i : Nat, m' 146 i = m 146 i ∧ m' 149 i = m 149 i ∧ m' 148 i = m 148 i) (HM : ∀ (i : Nat) (T : List Nat), CLT[i]? = some T → Mx9 own τ' τ T) (h : ∀ i9 p9 P2 : Int, τ 1122 = some i9 → τ 1123 = some p9 → τ 1125 = some P2 → P2 = (nx9t (tx9 m) p9.toNat : Int)) (h' : ∀ i9 p9 P2 : Int, τ' 1122 = some i9 → τ' 1123 = some p9 → τ' 1125 = some P2 → P2 = (nx9t (tx9 m') p9.toNat : Int)) : ∀ i9 p9 P2 : Int, (cbS own τ' τ) 1122 = some i9 → (cbS own τ' τ) 1123 = some p9 → (cbS own τ' τ) 1125 = some P2 → P2 = (nx9t (tx9 m') p9.toNat : Int) := by
  intro i9 p9 P2 e0 e1 e2
  rcases bkS (l := [(1122, i9), (1123, p9), (1125, P2)]) ⟨e0, e1, e2, trivial⟩ (HM 22 _ rfl) with ⟨hall, q0, q1, q2, _⟩ | ⟨⟨e, he, hf⟩, q0, q1, q2, _⟩
  · exact h' _ _ _ q0 q1 q2
  · have pp := h _ _ _ q0 q1 q2
    show P2 = (nx9t (tx9 m') p9.toNat : Int)
    rw [ht]
    exact pp
theorem bk_PC {own : Nat → Bool} {τ τ' : Tf} {m m' : Mt} (hX : ∀ t, 1170 ≤ t → t ≤ 1182 → own t = own 1170) (ht : tx9 m' = tx9 m) (hw : wl9 m' = wl9 m) (hj : m' 110 1 = m 110 1) (htp : ∀ j, m' 111 j = m 111 j) (hL : own 1100 = false → ∀ x, τ 1100 = some x → ∀ j, m' 23 j = m 23 j) (hK : ∀ t x, t = 1101 ∨ t = 1102 → own t = false → τ t = some x → ∀ i, m' 25 i = m 25 i ∧ m' 24 i = m 24 i ∧ m' 26 i = m 26 i) (hT : own 1120 = false → ∀ x, τ 1120 = some x → m' 110 29 = m 110 29 ∧ m' 110 28 = m 110 28 ∧ m' 110 27 = m 110 27 ∧ m' 110 30 = m 110 30 ∧ m' 1000 31 = m 1000 31) (hXS : ∀ t x, 1170 ≤ t → t ≤ 1177 → own t = false → τ t = some x → ∀ i : Nat, m' 143 i = m 143 i ∧ m' 144 i = m 144 i ∧ m' 145 i = m 145 i ∧ m' 146 i = m 146 i ∧ m' 149 i = m 149 i ∧ m' 148 i = m 148 i) (hRS : ∀ t x, 1160 ≤ t → t ≤ 1168 → own t = false → τ t = some x → ∀ i : Nat, m' 146 i = m 146 i ∧ m' 149 i = m 149 i ∧ m' 148 i = m 148 i) (HM : ∀ (i : Nat) (T : List Nat), CLT[i]? = some T → Mx9 own τ' τ T) (h : ∀ P2 C2 : Int, τ 1125 = some P2 → τ 1126 = some C2 → Pl9 m P2 ∧ C2 = (rc9 (tx9 m) P2.toNat : Int)) (h' : ∀ P2 C2 : Int, τ' 1125 = some P2 → τ' 1126 = some C2 → Pl9 m' P2 ∧ C2 = (rc9 (tx9 m') P2.toNat : Int)) : ∀ P2 C2 : Int, (cbS own τ' τ) 1125 = some P2 → (cbS own τ' τ) 1126 = some C2 → Pl9 m' P2 ∧ C2 = (rc9 (tx9 m') P2.toNat : Int) := by
  intro P2 C2 e0 e1
  rcases bkS (l := [(1125, P2), (1126, C2)]) ⟨e0, e1, trivial⟩ (HM 23 _ rfl) with ⟨hall, q0, q1, _⟩ | ⟨⟨e, he, hf⟩, q0, q1, _⟩
  · exact h' _ _ q0 q1
  · have pp := h _ _ q0 q1
    show (0 ≤ P2 ∧ P2 ≤ m' 110 1) ∧ C2 = (rc9 (tx9 m') P2.toNat : Int)
    rw [ht, hj]
    exact pp
theorem bk_PN {own : Nat → Bool} {τ τ' : Tf} {m m' : Mt} (hX : ∀ t, 1170 ≤ t → t ≤ 1182 → own t = own 1170) (ht : tx9 m' = tx9 m) (hw : wl9 m' = wl9 m) (hj : m' 110 1 = m 110 1) (htp : ∀ j, m' 111 j = m 111 j) (hL : own 1100 = false → ∀ x, τ 1100 = some x → ∀ j, m' 23 j = m 23 j) (hK : ∀ t x, t = 1101 ∨ t = 1102 → own t = false → τ t = some x → ∀ i, m' 25 i = m 25 i ∧ m' 24 i = m 24 i ∧ m' 26 i = m 26 i) (hT : own 1120 = false → ∀ x, τ 1120 = some x → m' 110 29 = m 110 29 ∧ m' 110 28 = m 110 28 ∧ m' 110 27 = m 110 27 ∧ m' 110 30 = m 110 30 ∧ m' 1000 31 = m 1000 31) (hXS : ∀ t x, 1170 ≤ t → t ≤ 1177 → own t = false → τ t = some x → ∀ i : Nat, m' 143 i = m 143 i ∧ m' 144 i = m 144 i ∧ m' 145 i = m 145 i ∧ m' 146 i = m 146 i ∧ m' 149 i = m 149 i ∧ m' 148 i = m 148 i) (hRS : ∀ t x, 1160 ≤ t → t ≤ 1168 → own t = false → τ t = some x → ∀ i : Nat, m' 146 i = m 146 i ∧ m' 149 i = m 149 i ∧ m' 148 i = m 148 i) (HM : ∀ (i : Nat) (T : List Nat), CLT[i]? = some T → Mx9 own τ' τ T) (h : ∀ P2 C2 N2 : Int, τ 1125 = some P2 → τ 1126 = some C2 → τ 1127 = some N2 → N2 = (nx9t (tx9 m) P2.toNat : Int)) (h' : ∀ P2 C2 N2 : Int, τ' 1125 = some P2 → τ' 1126 = some C2 → τ' 1127 = some N2 → N2 = (nx9t (tx9 m') P2.toNat : Int)) : ∀ P2 C2 N2 : Int, (cbS own τ' τ) 1125 = some P2 → (cbS own τ' τ) 1126 = some C2 → (cbS own τ' τ) 1127 = some N2 → N2 = (nx9t (tx9 m') P2.toNat : Int) := by
  intro P2 C2 N2 e0 e1 e2
  rcases bkS (l := [(1125, P2), (1126, C2), (1127, N2)]) ⟨e0, e1, e2, trivial⟩ (HM 24 _ rfl) with ⟨hall, q0, q1, q2, _⟩ | ⟨⟨e, he, hf⟩, q0, q1, q2, _⟩
  · exact h' _ _ _ q0 q1 q2
  · have pp := h _ _ _ q0 q1 q2
    show N2 = (nx9t (tx9 m') P2.toNat : Int)
    rw [ht]
    exact pp
theorem bk_F0 {own : Nat → Bool} {τ τ' : Tf} {m m' : Mt} (hX : ∀ t, 1170 ≤ t → t ≤ 1182 → own t = own 1170) (ht : tx9 m' = tx9 m) (hw : wl9 m' = wl9 m) (hj : m' 110 1 = m 110 1) (htp : ∀ j, m' 111 j = m 111 j) (hL : own 1100 = false → ∀ x, τ 1100 = some x → ∀ j, m' 23 j = m 23 j) (hK : ∀ t x, t = 1101 ∨ t = 1102 → own t = false → τ t = some x → ∀ i, m' 25 i = m 25 i ∧ m' 24 i = m 24 i ∧ m' 26 i = m 26 i) (hT : own 1120 = false → ∀ x, τ 1120 = some x → m' 110 29 = m 110 29 ∧ m' 110 28 = m 110 28 ∧ m' 110 27 = m 110 27 ∧ m' 110 30 = m 110 30 ∧ m' 1000 31 = m 1000 31) (hXS : ∀ t x, 1170 ≤ t → t ≤ 1177 → own t = false → τ t = some x → ∀ i : Nat, m' 143 i = m 143 i ∧ m' 144 i = m 144 i ∧ m' 145 i = m 145 i ∧ m' 146 i = m 146 i ∧ m' 149 i = m 149 i ∧ m' 148 i = m 148 i) (hRS : ∀ t x, 1160 ≤ t → t ≤ 1168 → own t = false → τ t = some x → ∀ i : Nat, m' 146 i = m 146 i ∧ m' 149 i = m 149 i ∧ m' 148 i = m 148 i) (HM : ∀ (i : Nat) (T : List Nat), CLT[i]? = some T → Mx9 own τ' τ T) (h : ∀ Fp Fr : Int, τ 1150 = some Fp → τ 1151 = some Fr → Pl9 m Fp ∧ ∃ x, YE9 (ff9 (KT9 (tx9 m)) Fp.toNat) Fr x) (h' : ∀ Fp Fr : Int, τ' 1150 = some Fp → τ' 1151 = some Fr → Pl9 m' Fp ∧ ∃ x, YE9 (ff9 (KT9 (tx9 m')) Fp.toNat) Fr x) : ∀ Fp Fr : Int, (cbS own τ' τ) 1150 = some Fp → (cbS own τ' τ) 1151 = some Fr → Pl9 m' Fp ∧ ∃ x, YE9 (ff9 (KT9 (tx9 m')) Fp.toNat) Fr x := by
  intro Fp Fr e0 e1
  rcases bkS (l := [(1150, Fp), (1151, Fr)]) ⟨e0, e1, trivial⟩ (HM 25 _ rfl) with ⟨hall, q0, q1, _⟩ | ⟨⟨e, he, hf⟩, q0, q1, _⟩
  · exact h' _ _ q0 q1
  · have pp := h _ _ q0 q1
    show (0 ≤ Fp ∧ Fp ≤ m' 110 1) ∧ ∃ x, YE9 (ff9 (KT9 (tx9 m')) Fp.toNat) Fr x
    rw [ht, hj]
    exact pp
theorem bk_F {own : Nat → Bool} {τ τ' : Tf} {m m' : Mt} (hX : ∀ t, 1170 ≤ t → t ≤ 1182 → own t = own 1170) (ht : tx9 m' = tx9 m) (hw : wl9 m' = wl9 m) (hj : m' 110 1 = m 110 1) (htp : ∀ j, m' 111 j = m 111 j) (hL : own 1100 = false → ∀ x, τ 1100 = some x → ∀ j, m' 23 j = m 23 j) (hK : ∀ t x, t = 1101 ∨ t = 1102 → own t = false → τ t = some x → ∀ i, m' 25 i = m 25 i ∧ m' 24 i = m 24 i ∧ m' 26 i = m 26 i) (hT : own 1120 = false → ∀ x, τ 1120 = some x → m' 110 29 = m 110 29 ∧ m' 110 28 = m 110 28 ∧ m' 110 27 = m 110 27 ∧ m' 110 30 = m 110 30 ∧ m' 1000 31 = m 1000 31) (hXS : ∀ t x, 1170 ≤ t → t ≤ 1177 → own t = false → τ t = some x → ∀ i : Nat, m' 143 i = m 143 i ∧ m' 144 i = m 144 i ∧ m' 145 i = m 145 i ∧ m' 146 i = m 146 i ∧ m' 149 i = m 149 i ∧ m' 148 i = m 148 i) (hRS : ∀ t x, 1160 ≤ t → t ≤ 1168 → own t = false → τ t = some x → ∀ i : Nat, m' 146 i = m 146 i ∧ m' 149 i = m 149 i ∧ m' 148 i = m 148 i) (HM : ∀ (i : Nat) (T : List Nat), CLT[i]? = some T → Mx9 own τ' τ T) (h : ∀ Fp Fr Fx : Int, τ 1150 = some Fp → τ 1151 = some Fr → τ 1152 = some Fx → YE9 (ff9 (KT9 (tx9 m)) Fp.toNat) Fr Fx) (h' : ∀ Fp Fr Fx : Int, τ' 1150 = some Fp → τ' 1151 = some Fr → τ' 1152 = some Fx → YE9 (ff9 (KT9 (tx9 m')) Fp.toNat) Fr Fx) : ∀ Fp Fr Fx : Int, (cbS own τ' τ) 1150 = some Fp → (cbS own τ' τ) 1151 = some Fr → (cbS own τ' τ) 1152 = some Fx → YE9 (ff9 (KT9 (tx9 m')) Fp.toNat) Fr Fx := by
  intro Fp Fr Fx e0 e1 e2
  rcases bkS (l := [(1150, Fp), (1151, Fr), (1152, Fx)]) ⟨e0, e1, e2, trivial⟩ (HM 26 _ rfl) with ⟨hall, q0, q1, q2, _⟩ | ⟨⟨e, he, hf⟩, q0, q1, q2, _⟩
  · exact h' _ _ _ q0 q1 q2
  · have pp := h _ _ _ q0 q1 q2
    show YE9 (ff9 (KT9 (tx9 m')) Fp.toNat) Fr Fx
    rw [ht]
    exact pp
theorem bk_F1 {own : Nat → Bool} {τ τ' : Tf} {m m' : Mt} (hX : ∀ t, 1170 ≤ t → t ≤ 1182 → own t = own 1170) (ht : tx9 m' = tx9 m) (hw : wl9 m' = wl9 m) (hj : m' 110 1 = m 110 1) (htp : ∀ j, m' 111 j = m 111 j) (hL : own 1100 = false → ∀ x, τ 1100 = some x → ∀ j, m' 23 j = m 23 j) (hK : ∀ t x, t = 1101 ∨ t = 1102 → own t = false → τ t = some x → ∀ i, m' 25 i = m 25 i ∧ m' 24 i = m 24 i ∧ m' 26 i = m 26 i) (hT : own 1120 = false → ∀ x, τ 1120 = some x → m' 110 29 = m 110 29 ∧ m' 110 28 = m 110 28 ∧ m' 110 27 = m 110 27 ∧ m' 110 30 = m 110 30 ∧ m' 1000 31 = m 1000 31) (hXS : ∀ t x, 1170 ≤ t → t ≤ 1177 → own t = false → τ t = some x → ∀ i : Nat, m' 143 i = m 143 i ∧ m' 144 i = m 144 i ∧ m' 145 i = m 145 i ∧ m' 146 i = m 146 i ∧ m' 149 i = m 149 i ∧ m' 148 i = m 148 i) (hRS : ∀ t x, 1160 ≤ t → t ≤ 1168 → own t = false → τ t = some x → ∀ i : Nat, m' 146 i = m 146 i ∧ m' 149 i = m 149 i ∧ m' 148 i = m 148 i) (HM : ∀ (i : Nat) (T : List Nat), CLT[i]? = some T → Mx9 own τ' τ T) (h : ∀ Fp F1 : Int, τ 1150 = some Fp → τ 1153 = some F1 → (27 ≤ rc9 (tx9 m) Fp.toNat ∧ rc9 (tx9 m) Fp.toNat ≤ 28) ∧ F1 = (nx9t (tx9 m) Fp.toNat : Int)) (h' : ∀ Fp F1 : Int, τ' 1150 = some Fp → τ' 1153 = some F1 → (27 ≤ rc9 (tx9 m') Fp.toNat ∧ rc9 (tx9 m') Fp.toNat ≤ 28) ∧ F1 = (nx9t (tx9 m') Fp.toNat : Int)) : ∀ Fp F1 : Int, (cbS own τ' τ) 1150 = some Fp → (cbS own τ' τ) 1153 = some F1 → (27 ≤ rc9 (tx9 m') Fp.toNat ∧ rc9 (tx9 m') Fp.toNat ≤ 28) ∧ F1 = (nx9t (tx9 m') Fp.toNat : Int) := by
  intro Fp F1 e0 e1
  rcases bkS (l := [(1150, Fp), (1153, F1)]) ⟨e0, e1, trivial⟩ (HM 27 _ rfl) with ⟨hall, q0, q1, _⟩ | ⟨⟨e, he, hf⟩, q0, q1, _⟩
  · exact h' _ _ q0 q1
  · have pp := h _ _ q0 q1
    show (27 ≤ rc9 (tx9 m') Fp.toNat ∧ rc9 (tx9 m') Fp.toNat ≤ 28) ∧ F1 = (nx9t (tx9 m') Fp.toNat : Int)
    rw [ht]
    exact pp
theorem bk_F2 {own : Nat → Bool} {τ τ' : Tf} {m m' : Mt} (hX : ∀ t, 1170 ≤ t → t ≤ 1182 → own t = own 1170) (ht : tx9 m' = tx9 m) (hw : wl9 m' = wl9 m) (hj : m' 110 1 = m 110 1) (htp : ∀ j, m' 111 j = m 111 j) (hL : own 1100 = false → ∀ x, τ 1100 = some x → ∀ j, m' 23 j = m 23 j) (hK : ∀ t x, t = 1101 ∨ t = 1102 → own t = false → τ t = some x → ∀ i, m' 25 i = m 25 i ∧ m' 24 i = m 24 i ∧ m' 26 i = m 26 i) (hT : own 1120 = false → ∀ x, τ 1120 = some x → m' 110 29 = m 110 29 ∧ m' 110 28 = m 110 28 ∧ m' 110 27 = m 110 27 ∧ m' 110 30 = m 110 30 ∧ m' 1000 31 = m 1000 31) (hXS : ∀ t x, 1170 ≤ t → t ≤ 1177 → own t = false → τ t = some x → ∀ i : Nat, m' 143 i = m 143 i ∧ m' 144 i = m 144 i ∧ m' 145 i = m 145 i ∧ m' 146 i = m 146 i ∧ m' 149 i = m 149 i ∧ m' 148 i = m 148 i) (hRS : ∀ t x, 1160 ≤ t → t ≤ 1168 → own t = false → τ t = some x → ∀ i : Nat, m' 146 i = m 146 i ∧ m' 149 i = m 149 i ∧ m' 148 i = m 148 i) (HM : ∀ (i : Nat) (T : List Nat), CLT[i]? = some T → Mx9 own τ' τ T) (h : ∀ F1 F2 : Int, τ 1153 = some F1 → τ 1154 = some F2 → rc9 (tx9 m) F1.toNat = 20 ∧ F2 = (nx9t (tx9 m) F1.toNat : Int)) (h' : ∀ F1 F2 : Int, τ' 1153 = some F1 → τ' 1154 = some F2 → rc9 (tx9 m') F1.toNat = 20 ∧ F2 = (nx9t (tx9 m') F1.toNat : Int)) : ∀ F1 F2 : Int, (cbS own τ' τ) 1153 = some F1 → (cbS own τ' τ) 1154 = some F2 → rc9 (tx9 m') F1.toNat = 20 ∧ F2 = (nx9t (tx9 m') F1.toNat : Int) := by
  intro F1 F2 e0 e1
  rcases bkS (l := [(1153, F1), (1154, F2)]) ⟨e0, e1, trivial⟩ (HM 28 _ rfl) with ⟨hall, q0, q1, _⟩ | ⟨⟨e, he, hf⟩, q0, q1, _⟩
  · exact h' _ _ q0 q1
  · have pp := h _ _ q0 q1
    show rc9 (tx9 m') F1.toNat = 20 ∧ F2 = (nx9t (tx9 m') F1.toNat : Int)
    rw [ht]
    exact pp
theorem bk_N {own : Nat → Bool} {τ τ' : Tf} {m m' : Mt} (hX : ∀ t, 1170 ≤ t → t ≤ 1182 → own t = own 1170) (ht : tx9 m' = tx9 m) (hw : wl9 m' = wl9 m) (hj : m' 110 1 = m 110 1) (htp : ∀ j, m' 111 j = m 111 j) (hL : own 1100 = false → ∀ x, τ 1100 = some x → ∀ j, m' 23 j = m 23 j) (hK : ∀ t x, t = 1101 ∨ t = 1102 → own t = false → τ t = some x → ∀ i, m' 25 i = m 25 i ∧ m' 24 i = m 24 i ∧ m' 26 i = m 26 i) (hT : own 1120 = false → ∀ x, τ 1120 = some x → m' 110 29 = m 110 29 ∧ m' 110 28 = m 110 28 ∧ m' 110 27 = m 110 27 ∧ m' 110 30 = m 110 30 ∧ m' 1000 31 = m 1000 31) (hXS : ∀ t x, 1170 ≤ t → t ≤ 1177 → own t = false → τ t = some x → ∀ i : Nat, m' 143 i = m 143 i ∧ m' 144 i = m 144 i ∧ m' 145 i = m 145 i ∧ m' 146 i = m 146 i ∧ m' 149 i = m 149 i ∧ m' 148 i = m 148 i) (hRS : ∀ t x, 1160 ≤ t → t ≤ 1168 → own t = false → τ t = some x → ∀ i : Nat, m' 146 i = m 146 i ∧ m' 149 i = m 149 i ∧ m' 148 i = m 148 i) (HM : ∀ (i : Nat) (T : List Nat), CLT[i]? = some T → Mx9 own τ' τ T) (h : ∀ Np Ng Nv : Int, τ 1184 = some Np → τ 1185 = some Ng → τ 1186 = some Nv → Pl9 m Np ∧ Nv = nb9 (tx9 m) Np.toNat Ng) (h' : ∀ Np Ng Nv : Int, τ' 1184 = some Np → τ' 1185 = some Ng → τ' 1186 = some Nv → Pl9 m' Np ∧ Nv = nb9 (tx9 m') Np.toNat Ng) : ∀ Np Ng Nv : Int, (cbS own τ' τ) 1184 = some Np → (cbS own τ' τ) 1185 = some Ng → (cbS own τ' τ) 1186 = some Nv → Pl9 m' Np ∧ Nv = nb9 (tx9 m') Np.toNat Ng := by
  intro Np Ng Nv e0 e1 e2
  rcases bkS (l := [(1184, Np), (1185, Ng), (1186, Nv)]) ⟨e0, e1, e2, trivial⟩ (HM 29 _ rfl) with ⟨hall, q0, q1, q2, _⟩ | ⟨⟨e, he, hf⟩, q0, q1, q2, _⟩
  · exact h' _ _ _ q0 q1 q2
  · have pp := h _ _ _ q0 q1 q2
    show (0 ≤ Np ∧ Np ≤ m' 110 1) ∧ Nv = nb9 (tx9 m') Np.toNat Ng
    rw [ht, hj]
    exact pp
theorem bk_Nk {own : Nat → Bool} {τ τ' : Tf} {m m' : Mt} (hX : ∀ t, 1170 ≤ t → t ≤ 1182 → own t = own 1170) (ht : tx9 m' = tx9 m) (hw : wl9 m' = wl9 m) (hj : m' 110 1 = m 110 1) (htp : ∀ j, m' 111 j = m 111 j) (hL : own 1100 = false → ∀ x, τ 1100 = some x → ∀ j, m' 23 j = m 23 j) (hK : ∀ t x, t = 1101 ∨ t = 1102 → own t = false → τ t = some x → ∀ i, m' 25 i = m 25 i ∧ m' 24 i = m 24 i ∧ m' 26 i = m 26 i) (hT : own 1120 = false → ∀ x, τ 1120 = some x → m' 110 29 = m 110 29 ∧ m' 110 28 = m 110 28 ∧ m' 110 27 = m 110 27 ∧ m' 110 30 = m 110 30 ∧ m' 1000 31 = m 1000 31) (hXS : ∀ t x, 1170 ≤ t → t ≤ 1177 → own t = false → τ t = some x → ∀ i : Nat, m' 143 i = m 143 i ∧ m' 144 i = m 144 i ∧ m' 145 i = m 145 i ∧ m' 146 i = m 146 i ∧ m' 149 i = m 149 i ∧ m' 148 i = m 148 i) (hRS : ∀ t x, 1160 ≤ t → t ≤ 1168 → own t = false → τ t = some x → ∀ i : Nat, m' 146 i = m 146 i ∧ m' 149 i = m 149 i ∧ m' 148 i = m 148 i) (HM : ∀ (i : Nat) (T : List Nat), CLT[i]? = some T → Mx9 own τ' τ T) (h : ∀ Np Ng Nv Nk Nu : Int, τ 1184 = some Np → τ 1185 = some Ng → τ 1186 = some Nv → τ 1187 = some Nk → τ 1188 = some Nu → (kd9 (tx9 m) Np.toNat = 1 ∧ by9 (tx9 m) Np.toNat = Ng) ∧ (Np + 2 ≤ (te9 (tx9 m) Np.toNat : Int) ∧ (te9 (tx9 m) Np.toNat : Int) ≤ Np + 10) ∧ (Np + 1 ≤ Nk ∧ Nk ≤ (te9 (tx9 m) Np.toNat : Int)) ∧ af9 (tx9 m) (Np.toNat + 1) Nk.toNat = true ∧ Nu = nm9 (tx9 m) (Nk.toNat - Np.toNat - 1) (Np.toNat + 1) 0) (h' : ∀ Np Ng Nv Nk Nu : Int, τ' 1184 = some Np → τ' 1185 = some Ng → τ' 1186 = some Nv → τ' 1187 = some Nk → τ' 1188 = some Nu → (kd9 (tx9 m') Np.toNat = 1 ∧ by9 (tx9 m') Np.toNat = Ng) ∧ (Np + 2 ≤ (te9 (tx9 m') Np.toNat : Int) ∧ (te9 (tx9 m') Np.toNat : Int) ≤ Np + 10) ∧ (Np + 1 ≤ Nk ∧ Nk ≤ (te9 (tx9 m') Np.toNat : Int)) ∧ af9 (tx9 m') (Np.toNat + 1) Nk.toNat = true ∧ Nu = nm9 (tx9 m') (Nk.toNat - Np.toNat - 1) (Np.toNat + 1) 0) : ∀ Np Ng Nv Nk Nu : Int, (cbS own τ' τ) 1184 = some Np → (cbS own τ' τ) 1185 = some Ng → (cbS own τ' τ) 1186 = some Nv → (cbS own τ' τ) 1187 = some Nk → (cbS own τ' τ) 1188 = some Nu → (kd9 (tx9 m') Np.toNat = 1 ∧ by9 (tx9 m') Np.toNat = Ng) ∧ (Np + 2 ≤ (te9 (tx9 m') Np.toNat : Int) ∧ (te9 (tx9 m') Np.toNat : Int) ≤ Np + 10) ∧ (Np + 1 ≤ Nk ∧ Nk ≤ (te9 (tx9 m') Np.toNat : Int)) ∧ af9 (tx9 m') (Np.toNat + 1) Nk.toNat = true ∧ Nu = nm9 (tx9 m') (Nk.toNat - Np.toNat - 1) (Np.toNat + 1) 0 := by
  intro Np Ng Nv Nk Nu e0 e1 e2 e3 e4
  rcases bkS (l := [(1184, Np), (1185, Ng), (1186, Nv), (1187, Nk), (1188, Nu)]) ⟨e0, e1, e2, e3, e4, trivial⟩ (HM 30 _ rfl) with ⟨hall, q0, q1, q2, q3, q4, _⟩ | ⟨⟨e, he, hf⟩, q0, q1, q2, q3, q4, _⟩
  · exact h' _ _ _ _ _ q0 q1 q2 q3 q4
  · have pp := h _ _ _ _ _ q0 q1 q2 q3 q4
    show (kd9 (tx9 m') Np.toNat = 1 ∧ by9 (tx9 m') Np.toNat = Ng) ∧ (Np + 2 ≤ (te9 (tx9 m') Np.toNat : Int) ∧ (te9 (tx9 m') Np.toNat : Int) ≤ Np + 10) ∧ (Np + 1 ≤ Nk ∧ Nk ≤ (te9 (tx9 m') Np.toNat : Int)) ∧ af9 (tx9 m') (Np.toNat + 1) Nk.toNat = true ∧ Nu = nm9 (tx9 m') (Nk.toNat - Np.toNat - 1) (Np.toNat + 1) 0
    rw [ht]
    exact pp
theorem bk_V {own : Nat → Bool} {τ τ' : Tf} {m m' : Mt} (hX : ∀ t, 1170 ≤ t → t ≤ 1182 → own t = own 1170) (ht : tx9 m' = tx9 m) (hw : wl9 m' = wl9 m) (hj : m' 110 1 = m 110 1) (htp : ∀ j, m' 111 j = m 111 j) (hL : own 1100 = false → ∀ x, τ 1100 = some x → ∀ j, m' 23 j = m 23 j) (hK : ∀ t x, t = 1101 ∨ t = 1102 → own t = false → τ t = some x → ∀ i, m' 25 i = m 25 i ∧ m' 24 i = m 24 i ∧ m' 26 i = m 26 i) (hT : own 1120 = false → ∀ x, τ 1120 = some x → m' 110 29 = m 110 29 ∧ m' 110 28 = m 110 28 ∧ m' 110 27 = m 110 27 ∧ m' 110 30 = m 110 30 ∧ m' 1000 31 = m 1000 31) (hXS : ∀ t x, 1170 ≤ t → t ≤ 1177 → own t = false → τ t = some x → ∀ i : Nat, m' 143 i = m 143 i ∧ m' 144 i = m 144 i ∧ m' 145 i = m 145 i ∧ m' 146 i = m 146 i ∧ m' 149 i = m 149 i ∧ m' 148 i = m 148 i) (hRS : ∀ t x, 1160 ≤ t → t ≤ 1168 → own t = false → τ t = some x → ∀ i : Nat, m' 146 i = m 146 i ∧ m' 149 i = m 149 i ∧ m' 148 i = m 148 i) (HM : ∀ (i : Nat) (T : List Nat), CLT[i]? = some T → Mx9 own τ' τ T) (h : ∀ Vp V9 : Int, τ 1208 = some Vp → τ 1189 = some V9 → V9 = nb9 (tx9 m) Vp.toNat 112) (h' : ∀ Vp V9 : Int, τ' 1208 = some Vp → τ' 1189 = some V9 → V9 = nb9 (tx9 m') Vp.toNat 112) : ∀ Vp V9 : Int, (cbS own τ' τ) 1208 = some Vp → (cbS own τ' τ) 1189 = some V9 → V9 = nb9 (tx9 m') Vp.toNat 112 := by
  intro Vp V9 e0 e1
  rcases bkS (l := [(1208, Vp), (1189, V9)]) ⟨e0, e1, trivial⟩ (HM 31 _ rfl) with ⟨hall, q0, q1, _⟩ | ⟨⟨e, he, hf⟩, q0, q1, _⟩
  · exact h' _ _ q0 q1
  · have pp := h _ _ q0 q1
    show V9 = nb9 (tx9 m') Vp.toNat 112
    rw [ht]
    exact pp
theorem bk_Yq {own : Nat → Bool} {τ τ' : Tf} {m m' : Mt} (hX : ∀ t, 1170 ≤ t → t ≤ 1182 → own t = own 1170) (ht : tx9 m' = tx9 m) (hw : wl9 m' = wl9 m) (hj : m' 110 1 = m 110 1) (htp : ∀ j, m' 111 j = m 111 j) (hL : own 1100 = false → ∀ x, τ 1100 = some x → ∀ j, m' 23 j = m 23 j) (hK : ∀ t x, t = 1101 ∨ t = 1102 → own t = false → τ t = some x → ∀ i, m' 25 i = m 25 i ∧ m' 24 i = m 24 i ∧ m' 26 i = m 26 i) (hT : own 1120 = false → ∀ x, τ 1120 = some x → m' 110 29 = m 110 29 ∧ m' 110 28 = m 110 28 ∧ m' 110 27 = m 110 27 ∧ m' 110 30 = m 110 30 ∧ m' 1000 31 = m 1000 31) (hXS : ∀ t x, 1170 ≤ t → t ≤ 1177 → own t = false → τ t = some x → ∀ i : Nat, m' 143 i = m 143 i ∧ m' 144 i = m 144 i ∧ m' 145 i = m 145 i ∧ m' 146 i = m 146 i ∧ m' 149 i = m 149 i ∧ m' 148 i = m 148 i) (hRS : ∀ t x, 1160 ≤ t → t ≤ 1168 → own t = false → τ t = some x → ∀ i : Nat, m' 146 i = m 146 i ∧ m' 149 i = m 149 i ∧ m' 148 i = m 148 i) (HM : ∀ (i : Nat) (T : List Nat), CLT[i]? = some T → Mx9 own τ' τ T) (h : ∀ Vp Yq : Int, τ 1208 = some Vp → τ 1183 = some Yq → Yq9 (tx9 m) (wl9 m) Vp.toNat) (h' : ∀ Vp Yq : Int, τ' 1208 = some Vp → τ' 1183 = some Yq → Yq9 (tx9 m') (wl9 m') Vp.toNat) : ∀ Vp Yq : Int, (cbS own τ' τ) 1208 = some Vp → (cbS own τ' τ) 1183 = some Yq → Yq9 (tx9 m') (wl9 m') Vp.toNat := by
  intro Vp Yq e0 e1
  rcases bkS (l := [(1208, Vp), (1183, Yq)]) ⟨e0, e1, trivial⟩ (HM 32 _ rfl) with ⟨hall, q0, q1, _⟩ | ⟨⟨e, he, hf⟩, q0, q1, _⟩
  · exact h' _ _ q0 q1
  · have pp := h _ _ q0 q1
    show Yq9 (tx9 m') (wl9 m') Vp.toNat
    rw [ht, hw]
    exact pp
theorem bk_Y0 {own : Nat → Bool} {τ τ' : Tf} {m m' : Mt} (hX : ∀ t, 1170 ≤ t → t ≤ 1182 → own t = own 1170) (ht : tx9 m' = tx9 m) (hw : wl9 m' = wl9 m) (hj : m' 110 1 = m 110 1) (htp : ∀ j, m' 111 j = m 111 j) (hL : own 1100 = false → ∀ x, τ 1100 = some x → ∀ j, m' 23 j = m 23 j) (hK : ∀ t x, t = 1101 ∨ t = 1102 → own t = false → τ t = some x → ∀ i, m' 25 i = m 25 i ∧ m' 24 i = m 24 i ∧ m' 26 i = m 26 i) (hT : own 1120 = false → ∀ x, τ 1120 = some x → m' 110 29 = m 110 29 ∧ m' 110 28 = m 110 28 ∧ m' 110 27 = m 110 27 ∧ m' 110 30 = m 110 30 ∧ m' 1000 31 = m 1000 31) (hXS : ∀ t x, 1170 ≤ t → t ≤ 1177 → own t = false → τ t = some x → ∀ i : Nat, m' 143 i = m 143 i ∧ m' 144 i = m 144 i ∧ m' 145 i = m 145 i ∧ m' 146 i = m 146 i ∧ m' 149 i = m 149 i ∧ m' 148 i = m 148 i) (hRS : ∀ t x, 1160 ≤ t → t ≤ 1168 → own t = false → τ t = some x → ∀ i : Nat, m' 146 i = m 146 i ∧ m' 149 i = m 149 i ∧ m' 148 i = m 148 i) (HM : ∀ (i : Nat) (T : List Nat), CLT[i]? = some T → Mx9 own τ' τ T) (h : ∀ Ym Yp Y1 : Int, τ 1190 = some Ym → τ 1191 = some Yp → τ 1192 = some Y1 → ((10 ≤ Ym ∧ Ym ≤ 19) ∧ Pl9 m Yp) ∧ ∃ r b, RS9 (CM9 (tx9 m)) (tx9 m) (wl9 m) Ym.toNat Yp.toNat r ∧ YE9 r Y1 b) (h' : ∀ Ym Yp Y1 : Int, τ' 1190 = some Ym → τ' 1191 = some Yp → τ' 1192 = some Y1 → ((10 ≤ Ym ∧ Ym ≤ 19) ∧ Pl9 m' Yp) ∧ ∃ r b, RS9 (CM9 (tx9 m')) (tx9 m') (wl9 m') Ym.toNat Yp.toNat r ∧ YE9 r Y1 b) : ∀ Ym Yp Y1 : Int, (cbS own τ' τ) 1190 = some Ym → (cbS own τ' τ) 1191 = some Yp → (cbS own τ' τ) 1192 = some Y1 → ((10 ≤ Ym ∧ Ym ≤ 19) ∧ Pl9 m' Yp) ∧ ∃ r b, RS9 (CM9 (tx9 m')) (tx9 m') (wl9 m') Ym.toNat Yp.toNat r ∧ YE9 r Y1 b := by
  intro Ym Yp Y1 e0 e1 e2
  rcases bkS (l := [(1190, Ym), (1191, Yp), (1192, Y1)]) ⟨e0, e1, e2, trivial⟩ (HM 33 _ rfl) with ⟨hall, q0, q1, q2, _⟩ | ⟨⟨e, he, hf⟩, q0, q1, q2, _⟩
  · exact h' _ _ _ q0 q1 q2
  · have pp := h _ _ _ q0 q1 q2
    show ((10 ≤ Ym ∧ Ym ≤ 19) ∧ (0 ≤ Yp ∧ Yp ≤ m' 110 1)) ∧ ∃ r b, RS9 (CM9 (tx9 m')) (tx9 m') (wl9 m') Ym.toNat Yp.toNat r ∧ YE9 r Y1 b
    rw [ht, hw, hj]
    exact pp
theorem bk_Y {own : Nat → Bool} {τ τ' : Tf} {m m' : Mt} (hX : ∀ t, 1170 ≤ t → t ≤ 1182 → own t = own 1170) (ht : tx9 m' = tx9 m) (hw : wl9 m' = wl9 m) (hj : m' 110 1 = m 110 1) (htp : ∀ j, m' 111 j = m 111 j) (hL : own 1100 = false → ∀ x, τ 1100 = some x → ∀ j, m' 23 j = m 23 j) (hK : ∀ t x, t = 1101 ∨ t = 1102 → own t = false → τ t = some x → ∀ i, m' 25 i = m 25 i ∧ m' 24 i = m 24 i ∧ m' 26 i = m 26 i) (hT : own 1120 = false → ∀ x, τ 1120 = some x → m' 110 29 = m 110 29 ∧ m' 110 28 = m 110 28 ∧ m' 110 27 = m 110 27 ∧ m' 110 30 = m 110 30 ∧ m' 1000 31 = m 1000 31) (hXS : ∀ t x, 1170 ≤ t → t ≤ 1177 → own t = false → τ t = some x → ∀ i : Nat, m' 143 i = m 143 i ∧ m' 144 i = m 144 i ∧ m' 145 i = m 145 i ∧ m' 146 i = m 146 i ∧ m' 149 i = m 149 i ∧ m' 148 i = m 148 i) (hRS : ∀ t x, 1160 ≤ t → t ≤ 1168 → own t = false → τ t = some x → ∀ i : Nat, m' 146 i = m 146 i ∧ m' 149 i = m 149 i ∧ m' 148 i = m 148 i) (HM : ∀ (i : Nat) (T : List Nat), CLT[i]? = some T → Mx9 own τ' τ T) (h : ∀ Ym Yp Y1 Y2 : Int, τ 1190 = some Ym → τ 1191 = some Yp → τ 1192 = some Y1 → τ 1193 = some Y2 → ∃ r, RS9 (CM9 (tx9 m)) (tx9 m) (wl9 m) Ym.toNat Yp.toNat r ∧ YE9 r Y1 Y2) (h' : ∀ Ym Yp Y1 Y2 : Int, τ' 1190 = some Ym → τ' 1191 = some Yp → τ' 1192 = some Y1 → τ' 1193 = some Y2 → ∃ r, RS9 (CM9 (tx9 m')) (tx9 m') (wl9 m') Ym.toNat Yp.toNat r ∧ YE9 r Y1 Y2) : ∀ Ym Yp Y1 Y2 : Int, (cbS own τ' τ) 1190 = some Ym → (cbS own τ' τ) 1191 = some Yp → (cbS own τ' τ) 1192 = some Y1 → (cbS own τ' τ) 1193 = some Y2 → ∃ r, RS9 (CM9 (tx9 m')) (tx9 m') (wl9 m') Ym.toNat Yp.toNat r ∧ YE9 r Y1 Y2 := by
  intro Ym Yp Y1 Y2 e0 e1 e2 e3
  rcases bkS (l := [(1190, Ym), (1191, Yp), (1192, Y1), (1193, Y2)]) ⟨e0, e1, e2, e3, trivial⟩ (HM 34 _ rfl) with ⟨hall, q0, q1, q2, q3, _⟩ | ⟨⟨e, he, hf⟩, q0, q1, q2, q3, _⟩
  · exact h' _ _ _ _ q0 q1 q2 q3
  · have pp := h _ _ _ _ q0 q1 q2 q3
    show ∃ r, RS9 (CM9 (tx9 m')) (tx9 m') (wl9 m') Ym.toNat Yp.toNat r ∧ YE9 r Y1 Y2
    rw [ht, hw]
    exact pp
theorem bk_Z0 {own : Nat → Bool} {τ τ' : Tf} {m m' : Mt} (hX : ∀ t, 1170 ≤ t → t ≤ 1182 → own t = own 1170) (ht : tx9 m' = tx9 m) (hw : wl9 m' = wl9 m) (hj : m' 110 1 = m 110 1) (htp : ∀ j, m' 111 j = m 111 j) (hL : own 1100 = false → ∀ x, τ 1100 = some x → ∀ j, m' 23 j = m 23 j) (hK : ∀ t x, t = 1101 ∨ t = 1102 → own t = false → τ t = some x → ∀ i, m' 25 i = m 25 i ∧ m' 24 i = m 24 i ∧ m' 26 i = m 26 i) (hT : own 1120 = false → ∀ x, τ 1120 = some x → m' 110 29 = m 110 29 ∧ m' 110 28 = m 110 28 ∧ m' 110 27 = m 110 27 ∧ m' 110 30 = m 110 30 ∧ m' 1000 31 = m 1000 31) (hXS : ∀ t x, 1170 ≤ t → t ≤ 1177 → own t = false → τ t = some x → ∀ i : Nat, m' 143 i = m 143 i ∧ m' 144 i = m 144 i ∧ m' 145 i = m 145 i ∧ m' 146 i = m 146 i ∧ m' 149 i = m 149 i ∧ m' 148 i = m 148 i) (hRS : ∀ t x, 1160 ≤ t → t ≤ 1168 → own t = false → τ t = some x → ∀ i : Nat, m' 146 i = m 146 i ∧ m' 149 i = m 149 i ∧ m' 148 i = m 148 i) (HM : ∀ (i : Nat) (T : List Nat), CLT[i]? = some T → Mx9 own τ' τ T) (h : ∀ Z1 : Int, τ 1197 = some Z1 → ∃ r b, PoR (tx9 m) (wl9 m) 30 0 (Tp9 (tx9 m) 0) r ∧ YE9 r Z1 b) (h' : ∀ Z1 : Int, τ' 1197 = some Z1 → ∃ r b, PoR (tx9 m') (wl9 m') 30 0 (Tp9 (tx9 m') 0) r ∧ YE9 r Z1 b) : ∀ Z1 : Int, (cbS own τ' τ) 1197 = some Z1 → ∃ r b, PoR (tx9 m') (wl9 m') 30 0 (Tp9 (tx9 m') 0) r ∧ YE9 r Z1 b := by
  intro Z1 e0
  rcases bkS (l := [(1197, Z1)]) ⟨e0, trivial⟩ (HM 35 _ rfl) with ⟨hall, q0, _⟩ | ⟨⟨e, he, hf⟩, q0, _⟩
  · exact h' _ q0
  · have pp := h _ q0
    show ∃ r b, PoR (tx9 m') (wl9 m') 30 0 (Tp9 (tx9 m') 0) r ∧ YE9 r Z1 b
    rw [ht, hw]
    exact pp
theorem bk_Z1 {own : Nat → Bool} {τ τ' : Tf} {m m' : Mt} (hX : ∀ t, 1170 ≤ t → t ≤ 1182 → own t = own 1170) (ht : tx9 m' = tx9 m) (hw : wl9 m' = wl9 m) (hj : m' 110 1 = m 110 1) (htp : ∀ j, m' 111 j = m 111 j) (hL : own 1100 = false → ∀ x, τ 1100 = some x → ∀ j, m' 23 j = m 23 j) (hK : ∀ t x, t = 1101 ∨ t = 1102 → own t = false → τ t = some x → ∀ i, m' 25 i = m 25 i ∧ m' 24 i = m 24 i ∧ m' 26 i = m 26 i) (hT : own 1120 = false → ∀ x, τ 1120 = some x → m' 110 29 = m 110 29 ∧ m' 110 28 = m 110 28 ∧ m' 110 27 = m 110 27 ∧ m' 110 30 = m 110 30 ∧ m' 1000 31 = m 1000 31) (hXS : ∀ t x, 1170 ≤ t → t ≤ 1177 → own t = false → τ t = some x → ∀ i : Nat, m' 143 i = m 143 i ∧ m' 144 i = m 144 i ∧ m' 145 i = m 145 i ∧ m' 146 i = m 146 i ∧ m' 149 i = m 149 i ∧ m' 148 i = m 148 i) (hRS : ∀ t x, 1160 ≤ t → t ≤ 1168 → own t = false → τ t = some x → ∀ i : Nat, m' 146 i = m 146 i ∧ m' 149 i = m 149 i ∧ m' 148 i = m 148 i) (HM : ∀ (i : Nat) (T : List Nat), CLT[i]? = some T → Mx9 own τ' τ T) (h : ∀ Z1 Zx : Int, τ 1197 = some Z1 → τ 1198 = some Zx → ∃ r, PoR (tx9 m) (wl9 m) 30 0 (Tp9 (tx9 m) 0) r ∧ YE9 r Z1 Zx) (h' : ∀ Z1 Zx : Int, τ' 1197 = some Z1 → τ' 1198 = some Zx → ∃ r, PoR (tx9 m') (wl9 m') 30 0 (Tp9 (tx9 m') 0) r ∧ YE9 r Z1 Zx) : ∀ Z1 Zx : Int, (cbS own τ' τ) 1197 = some Z1 → (cbS own τ' τ) 1198 = some Zx → ∃ r, PoR (tx9 m') (wl9 m') 30 0 (Tp9 (tx9 m') 0) r ∧ YE9 r Z1 Zx := by
  intro Z1 Zx e0 e1
  rcases bkS (l := [(1197, Z1), (1198, Zx)]) ⟨e0, e1, trivial⟩ (HM 36 _ rfl) with ⟨hall, q0, q1, _⟩ | ⟨⟨e, he, hf⟩, q0, q1, _⟩
  · exact h' _ _ q0 q1
  · have pp := h _ _ q0 q1
    show ∃ r, PoR (tx9 m') (wl9 m') 30 0 (Tp9 (tx9 m') 0) r ∧ YE9 r Z1 Zx
    rw [ht, hw]
    exact pp
theorem bk_Z {own : Nat → Bool} {τ τ' : Tf} {m m' : Mt} (hX : ∀ t, 1170 ≤ t → t ≤ 1182 → own t = own 1170) (ht : tx9 m' = tx9 m) (hw : wl9 m' = wl9 m) (hj : m' 110 1 = m 110 1) (htp : ∀ j, m' 111 j = m 111 j) (hL : own 1100 = false → ∀ x, τ 1100 = some x → ∀ j, m' 23 j = m 23 j) (hK : ∀ t x, t = 1101 ∨ t = 1102 → own t = false → τ t = some x → ∀ i, m' 25 i = m 25 i ∧ m' 24 i = m 24 i ∧ m' 26 i = m 26 i) (hT : own 1120 = false → ∀ x, τ 1120 = some x → m' 110 29 = m 110 29 ∧ m' 110 28 = m 110 28 ∧ m' 110 27 = m 110 27 ∧ m' 110 30 = m 110 30 ∧ m' 1000 31 = m 1000 31) (hXS : ∀ t x, 1170 ≤ t → t ≤ 1177 → own t = false → τ t = some x → ∀ i : Nat, m' 143 i = m 143 i ∧ m' 144 i = m 144 i ∧ m' 145 i = m 145 i ∧ m' 146 i = m 146 i ∧ m' 149 i = m 149 i ∧ m' 148 i = m 148 i) (hRS : ∀ t x, 1160 ≤ t → t ≤ 1168 → own t = false → τ t = some x → ∀ i : Nat, m' 146 i = m 146 i ∧ m' 149 i = m 149 i ∧ m' 148 i = m 148 i) (HM : ∀ (i : Nat) (T : List Nat), CLT[i]? = some T → Mx9 own τ' τ T) (h : ∀ Zm Zk Zp Z1 Zx : Int, τ 1194 = some Zm → τ 1195 = some Zk → τ 1196 = some Zp → τ 1197 = some Z1 → τ 1198 = some Zx → ((0 ≤ Zk ∧ Zk ≤ 30) ∧ Pl9 m Zp) ∧ ∃ r, YE9 r Z1 Zx ∧ ((Zm = 0 ∧ PoR (tx9 m) (wl9 m) (30 - Zk.toNat) Zk.toNat Zp.toNat r) ∨ (Zm = 1 ∧ 1 ≤ Zk ∧ Pb9 (tx9 m) (wl9 m) (30 - Zk.toNat) Zk.toNat Zp.toNat r))) (h' : ∀ Zm Zk Zp Z1 Zx : Int, τ' 1194 = some Zm → τ' 1195 = some Zk → τ' 1196 = some Zp → τ' 1197 = some Z1 → τ' 1198 = some Zx → ((0 ≤ Zk ∧ Zk ≤ 30) ∧ Pl9 m' Zp) ∧ ∃ r, YE9 r Z1 Zx ∧ ((Zm = 0 ∧ PoR (tx9 m') (wl9 m') (30 - Zk.toNat) Zk.toNat Zp.toNat r) ∨ (Zm = 1 ∧ 1 ≤ Zk ∧ Pb9 (tx9 m') (wl9 m') (30 - Zk.toNat) Zk.toNat Zp.toNat r))) : ∀ Zm Zk Zp Z1 Zx : Int, (cbS own τ' τ) 1194 = some Zm → (cbS own τ' τ) 1195 = some Zk → (cbS own τ' τ) 1196 = some Zp → (cbS own τ' τ) 1197 = some Z1 → (cbS own τ' τ) 1198 = some Zx → ((0 ≤ Zk ∧ Zk ≤ 30) ∧ Pl9 m' Zp) ∧ ∃ r, YE9 r Z1 Zx ∧ ((Zm = 0 ∧ PoR (tx9 m') (wl9 m') (30 - Zk.toNat) Zk.toNat Zp.toNat r) ∨ (Zm = 1 ∧ 1 ≤ Zk ∧ Pb9 (tx9 m') (wl9 m') (30 - Zk.toNat) Zk.toNat Zp.toNat r)) := by
  intro Zm Zk Zp Z1 Zx e0 e1 e2 e3 e4
  rcases bkS (l := [(1194, Zm), (1195, Zk), (1196, Zp), (1197, Z1), (1198, Zx)]) ⟨e0, e1, e2, e3, e4, trivial⟩ (HM 37 _ rfl) with ⟨hall, q0, q1, q2, q3, q4, _⟩ | ⟨⟨e, he, hf⟩, q0, q1, q2, q3, q4, _⟩
  · exact h' _ _ _ _ _ q0 q1 q2 q3 q4
  · have pp := h _ _ _ _ _ q0 q1 q2 q3 q4
    show ((0 ≤ Zk ∧ Zk ≤ 30) ∧ (0 ≤ Zp ∧ Zp ≤ m' 110 1)) ∧ ∃ r, YE9 r Z1 Zx ∧ ((Zm = 0 ∧ PoR (tx9 m') (wl9 m') (30 - Zk.toNat) Zk.toNat Zp.toNat r) ∨ (Zm = 1 ∧ 1 ≤ Zk ∧ Pb9 (tx9 m') (wl9 m') (30 - Zk.toNat) Zk.toNat Zp.toNat r))
    rw [ht, hw, hj]
    exact pp
theorem bk_A0 {own : Nat → Bool} {τ τ' : Tf} {m m' : Mt} (hX : ∀ t, 1170 ≤ t → t ≤ 1182 → own t = own 1170) (ht : tx9 m' = tx9 m) (hw : wl9 m' = wl9 m) (hj : m' 110 1 = m 110 1) (htp : ∀ j, m' 111 j = m 111 j) (hL : own 1100 = false → ∀ x, τ 1100 = some x → ∀ j, m' 23 j = m 23 j) (hK : ∀ t x, t = 1101 ∨ t = 1102 → own t = false → τ t = some x → ∀ i, m' 25 i = m 25 i ∧ m' 24 i = m 24 i ∧ m' 26 i = m 26 i) (hT : own 1120 = false → ∀ x, τ 1120 = some x → m' 110 29 = m 110 29 ∧ m' 110 28 = m 110 28 ∧ m' 110 27 = m 110 27 ∧ m' 110 30 = m 110 30 ∧ m' 1000 31 = m 1000 31) (hXS : ∀ t x, 1170 ≤ t → t ≤ 1177 → own t = false → τ t = some x → ∀ i : Nat, m' 143 i = m 143 i ∧ m' 144 i = m 144 i ∧ m' 145 i = m 145 i ∧ m' 146 i = m 146 i ∧ m' 149 i = m 149 i ∧ m' 148 i = m 148 i) (hRS : ∀ t x, 1160 ≤ t → t ≤ 1168 → own t = false → τ t = some x → ∀ i : Nat, m' 146 i = m 146 i ∧ m' 149 i = m 149 i ∧ m' 148 i = m 148 i) (HM : ∀ (i : Nat) (T : List Nat), CLT[i]? = some T → Mx9 own τ' τ T) (h : ∀ nF Ad Ai Ar Am : Int, τ 1102 = some nF → τ 1130 = some Ad → τ 1131 = some Ai → τ 1132 = some Ar → τ 1134 = some Am → (Am ≤ 21) ∧ ∃ x, RI9 (tx9 m) (wl9 m) nF.toNat Am Ad Ai Ar x) (h' : ∀ nF Ad Ai Ar Am : Int, τ' 1102 = some nF → τ' 1130 = some Ad → τ' 1131 = some Ai → τ' 1132 = some Ar → τ' 1134 = some Am → (Am ≤ 21) ∧ ∃ x, RI9 (tx9 m') (wl9 m') nF.toNat Am Ad Ai Ar x) : ∀ nF Ad Ai Ar Am : Int, (cbS own τ' τ) 1102 = some nF → (cbS own τ' τ) 1130 = some Ad → (cbS own τ' τ) 1131 = some Ai → (cbS own τ' τ) 1132 = some Ar → (cbS own τ' τ) 1134 = some Am → (Am ≤ 21) ∧ ∃ x, RI9 (tx9 m') (wl9 m') nF.toNat Am Ad Ai Ar x := by
  intro nF Ad Ai Ar Am e0 e1 e2 e3 e4
  rcases bkS (l := [(1102, nF), (1130, Ad), (1131, Ai), (1132, Ar), (1134, Am)]) ⟨e0, e1, e2, e3, e4, trivial⟩ (HM 38 _ rfl) with ⟨hall, q0, q1, q2, q3, q4, _⟩ | ⟨⟨e, he, hf⟩, q0, q1, q2, q3, q4, _⟩
  · exact h' _ _ _ _ _ q0 q1 q2 q3 q4
  · have pp := h _ _ _ _ _ q0 q1 q2 q3 q4
    show (Am ≤ 21) ∧ ∃ x, RI9 (tx9 m') (wl9 m') nF.toNat Am Ad Ai Ar x
    rw [ht, hw]
    exact pp
theorem bk_A {own : Nat → Bool} {τ τ' : Tf} {m m' : Mt} (hX : ∀ t, 1170 ≤ t → t ≤ 1182 → own t = own 1170) (ht : tx9 m' = tx9 m) (hw : wl9 m' = wl9 m) (hj : m' 110 1 = m 110 1) (htp : ∀ j, m' 111 j = m 111 j) (hL : own 1100 = false → ∀ x, τ 1100 = some x → ∀ j, m' 23 j = m 23 j) (hK : ∀ t x, t = 1101 ∨ t = 1102 → own t = false → τ t = some x → ∀ i, m' 25 i = m 25 i ∧ m' 24 i = m 24 i ∧ m' 26 i = m 26 i) (hT : own 1120 = false → ∀ x, τ 1120 = some x → m' 110 29 = m 110 29 ∧ m' 110 28 = m 110 28 ∧ m' 110 27 = m 110 27 ∧ m' 110 30 = m 110 30 ∧ m' 1000 31 = m 1000 31) (hXS : ∀ t x, 1170 ≤ t → t ≤ 1177 → own t = false → τ t = some x → ∀ i : Nat, m' 143 i = m 143 i ∧ m' 144 i = m 144 i ∧ m' 145 i = m 145 i ∧ m' 146 i = m 146 i ∧ m' 149 i = m 149 i ∧ m' 148 i = m 148 i) (hRS : ∀ t x, 1160 ≤ t → t ≤ 1168 → own t = false → τ t = some x → ∀ i : Nat, m' 146 i = m 146 i ∧ m' 149 i = m 149 i ∧ m' 148 i = m 148 i) (HM : ∀ (i : Nat) (T : List Nat), CLT[i]? = some T → Mx9 own τ' τ T) (h : ∀ nF Ad Ai Ar Ax Am : Int, τ 1102 = some nF → τ 1130 = some Ad → τ 1131 = some Ai → τ 1132 = some Ar → τ 1133 = some Ax → τ 1134 = some Am → RI9 (tx9 m) (wl9 m) nF.toNat Am Ad Ai Ar Ax) (h' : ∀ nF Ad Ai Ar Ax Am : Int, τ' 1102 = some nF → τ' 1130 = some Ad → τ' 1131 = some Ai → τ' 1132 = some Ar → τ' 1133 = some Ax → τ' 1134 = some Am → RI9 (tx9 m') (wl9 m') nF.toNat Am Ad Ai Ar Ax) : ∀ nF Ad Ai Ar Ax Am : Int, (cbS own τ' τ) 1102 = some nF → (cbS own τ' τ) 1130 = some Ad → (cbS own τ' τ) 1131 = some Ai → (cbS own τ' τ) 1132 = some Ar → (cbS own τ' τ) 1133 = some Ax → (cbS own τ' τ) 1134 = some Am → RI9 (tx9 m') (wl9 m') nF.toNat Am Ad Ai Ar Ax := by
  intro nF Ad Ai Ar Ax Am e0 e1 e2 e3 e4 e5
  rcases bkS (l := [(1102, nF), (1130, Ad), (1131, Ai), (1132, Ar), (1133, Ax), (1134, Am)]) ⟨e0, e1, e2, e3, e4, e5, trivial⟩ (HM 39 _ rfl) with ⟨hall, q0, q1, q2, q3, q4, q5, _⟩ | ⟨⟨e, he, hf⟩, q0, q1, q2, q3, q4, q5, _⟩
  · exact h' _ _ _ _ _ _ q0 q1 q2 q3 q4 q5
  · have pp := h _ _ _ _ _ _ q0 q1 q2 q3 q4 q5
    show RI9 (tx9 m') (wl9 m') nF.toNat Am Ad Ai Ar Ax
    rw [ht, hw]
    exact pp
theorem bk_B0 {own : Nat → Bool} {τ τ' : Tf} {m m' : Mt} (hX : ∀ t, 1170 ≤ t → t ≤ 1182 → own t = own 1170) (ht : tx9 m' = tx9 m) (hw : wl9 m' = wl9 m) (hj : m' 110 1 = m 110 1) (htp : ∀ j, m' 111 j = m 111 j) (hL : own 1100 = false → ∀ x, τ 1100 = some x → ∀ j, m' 23 j = m 23 j) (hK : ∀ t x, t = 1101 ∨ t = 1102 → own t = false → τ t = some x → ∀ i, m' 25 i = m 25 i ∧ m' 24 i = m 24 i ∧ m' 26 i = m 26 i) (hT : own 1120 = false → ∀ x, τ 1120 = some x → m' 110 29 = m 110 29 ∧ m' 110 28 = m 110 28 ∧ m' 110 27 = m 110 27 ∧ m' 110 30 = m 110 30 ∧ m' 1000 31 = m 1000 31) (hXS : ∀ t x, 1170 ≤ t → t ≤ 1177 → own t = false → τ t = some x → ∀ i : Nat, m' 143 i = m 143 i ∧ m' 144 i = m 144 i ∧ m' 145 i = m 145 i ∧ m' 146 i = m 146 i ∧ m' 149 i = m 149 i ∧ m' 148 i = m 148 i) (hRS : ∀ t x, 1160 ≤ t → t ≤ 1168 → own t = false → τ t = some x → ∀ i : Nat, m' 146 i = m 146 i ∧ m' 149 i = m 149 i ∧ m' 148 i = m 148 i) (HM : ∀ (i : Nat) (T : List Nat), CLT[i]? = some T → Mx9 own τ' τ T) (h : ∀ nF Bd Bi Br Bm : Int, τ 1102 = some nF → τ 1140 = some Bd → τ 1141 = some Bi → τ 1142 = some Br → τ 1144 = some Bm → ∃ x, RI9 (tx9 m) (wl9 m) nF.toNat Bm Bd Bi Br x) (h' : ∀ nF Bd Bi Br Bm : Int, τ' 1102 = some nF → τ' 1140 = some Bd → τ' 1141 = some Bi → τ' 1142 = some Br → τ' 1144 = some Bm → ∃ x, RI9 (tx9 m') (wl9 m') nF.toNat Bm Bd Bi Br x) : ∀ nF Bd Bi Br Bm : Int, (cbS own τ' τ) 1102 = some nF → (cbS own τ' τ) 1140 = some Bd → (cbS own τ' τ) 1141 = some Bi → (cbS own τ' τ) 1142 = some Br → (cbS own τ' τ) 1144 = some Bm → ∃ x, RI9 (tx9 m') (wl9 m') nF.toNat Bm Bd Bi Br x := by
  intro nF Bd Bi Br Bm e0 e1 e2 e3 e4
  rcases bkS (l := [(1102, nF), (1140, Bd), (1141, Bi), (1142, Br), (1144, Bm)]) ⟨e0, e1, e2, e3, e4, trivial⟩ (HM 40 _ rfl) with ⟨hall, q0, q1, q2, q3, q4, _⟩ | ⟨⟨e, he, hf⟩, q0, q1, q2, q3, q4, _⟩
  · exact h' _ _ _ _ _ q0 q1 q2 q3 q4
  · have pp := h _ _ _ _ _ q0 q1 q2 q3 q4
    show ∃ x, RI9 (tx9 m') (wl9 m') nF.toNat Bm Bd Bi Br x
    rw [ht, hw]
    exact pp
theorem bk_B {own : Nat → Bool} {τ τ' : Tf} {m m' : Mt} (hX : ∀ t, 1170 ≤ t → t ≤ 1182 → own t = own 1170) (ht : tx9 m' = tx9 m) (hw : wl9 m' = wl9 m) (hj : m' 110 1 = m 110 1) (htp : ∀ j, m' 111 j = m 111 j) (hL : own 1100 = false → ∀ x, τ 1100 = some x → ∀ j, m' 23 j = m 23 j) (hK : ∀ t x, t = 1101 ∨ t = 1102 → own t = false → τ t = some x → ∀ i, m' 25 i = m 25 i ∧ m' 24 i = m 24 i ∧ m' 26 i = m 26 i) (hT : own 1120 = false → ∀ x, τ 1120 = some x → m' 110 29 = m 110 29 ∧ m' 110 28 = m 110 28 ∧ m' 110 27 = m 110 27 ∧ m' 110 30 = m 110 30 ∧ m' 1000 31 = m 1000 31) (hXS : ∀ t x, 1170 ≤ t → t ≤ 1177 → own t = false → τ t = some x → ∀ i : Nat, m' 143 i = m 143 i ∧ m' 144 i = m 144 i ∧ m' 145 i = m 145 i ∧ m' 146 i = m 146 i ∧ m' 149 i = m 149 i ∧ m' 148 i = m 148 i) (hRS : ∀ t x, 1160 ≤ t → t ≤ 1168 → own t = false → τ t = some x → ∀ i : Nat, m' 146 i = m 146 i ∧ m' 149 i = m 149 i ∧ m' 148 i = m 148 i) (HM : ∀ (i : Nat) (T : List Nat), CLT[i]? = some T → Mx9 own τ' τ T) (h : ∀ nF Bd Bi Br Bx Bm : Int, τ 1102 = some nF → τ 1140 = some Bd → τ 1141 = some Bi → τ 1142 = some Br → τ 1143 = some Bx → τ 1144 = some Bm → RI9 (tx9 m) (wl9 m) nF.toNat Bm Bd Bi Br Bx) (h' : ∀ nF Bd Bi Br Bx Bm : Int, τ' 1102 = some nF → τ' 1140 = some Bd → τ' 1141 = some Bi → τ' 1142 = some Br → τ' 1143 = some Bx → τ' 1144 = some Bm → RI9 (tx9 m') (wl9 m') nF.toNat Bm Bd Bi Br Bx) : ∀ nF Bd Bi Br Bx Bm : Int, (cbS own τ' τ) 1102 = some nF → (cbS own τ' τ) 1140 = some Bd → (cbS own τ' τ) 1141 = some Bi → (cbS own τ' τ) 1142 = some Br → (cbS own τ' τ) 1143 = some Bx → (cbS own τ' τ) 1144 = some Bm → RI9 (tx9 m') (wl9 m') nF.toNat Bm Bd Bi Br Bx := by
  intro nF Bd Bi Br Bx Bm e0 e1 e2 e3 e4 e5
  rcases bkS (l := [(1102, nF), (1140, Bd), (1141, Bi), (1142, Br), (1143, Bx), (1144, Bm)]) ⟨e0, e1, e2, e3, e4, e5, trivial⟩ (HM 41 _ rfl) with ⟨hall, q0, q1, q2, q3, q4, q5, _⟩ | ⟨⟨e, he, hf⟩, q0, q1, q2, q3, q4, q5, _⟩
  · exact h' _ _ _ _ _ _ q0 q1 q2 q3 q4 q5
  · have pp := h _ _ _ _ _ _ q0 q1 q2 q3 q4 q5
    show RI9 (tx9 m') (wl9 m') nF.toNat Bm Bd Bi Br Bx
    rw [ht, hw]
    exact pp
theorem bk_C0 {own : Nat → Bool} {τ τ' : Tf} {m m' : Mt} (hX : ∀ t, 1170 ≤ t → t ≤ 1182 → own t = own 1170) (ht : tx9 m' = tx9 m) (hw : wl9 m' = wl9 m) (hj : m' 110 1 = m 110 1) (htp : ∀ j, m' 111 j = m 111 j) (hL : own 1100 = false → ∀ x, τ 1100 = some x → ∀ j, m' 23 j = m 23 j) (hK : ∀ t x, t = 1101 ∨ t = 1102 → own t = false → τ t = some x → ∀ i, m' 25 i = m 25 i ∧ m' 24 i = m 24 i ∧ m' 26 i = m 26 i) (hT : own 1120 = false → ∀ x, τ 1120 = some x → m' 110 29 = m 110 29 ∧ m' 110 28 = m 110 28 ∧ m' 110 27 = m 110 27 ∧ m' 110 30 = m 110 30 ∧ m' 1000 31 = m 1000 31) (hXS : ∀ t x, 1170 ≤ t → t ≤ 1177 → own t = false → τ t = some x → ∀ i : Nat, m' 143 i = m 143 i ∧ m' 144 i = m 144 i ∧ m' 145 i = m 145 i ∧ m' 146 i = m 146 i ∧ m' 149 i = m 149 i ∧ m' 148 i = m 148 i) (hRS : ∀ t x, 1160 ≤ t → t ≤ 1168 → own t = false → τ t = some x → ∀ i : Nat, m' 146 i = m 146 i ∧ m' 149 i = m 149 i ∧ m' 148 i = m 148 i) (HM : ∀ (i : Nat) (T : List Nat), CLT[i]? = some T → Mx9 own τ' τ T) (h : ∀ nF Cd Ci Cr Cm : Int, τ 1102 = some nF → τ 1200 = some Cd → τ 1201 = some Ci → τ 1202 = some Cr → τ 1204 = some Cm → (Cm ≤ 21) ∧ ∃ x, RI9 (tx9 m) (wl9 m) nF.toNat Cm Cd Ci Cr x) (h' : ∀ nF Cd Ci Cr Cm : Int, τ' 1102 = some nF → τ' 1200 = some Cd → τ' 1201 = some Ci → τ' 1202 = some Cr → τ' 1204 = some Cm → (Cm ≤ 21) ∧ ∃ x, RI9 (tx9 m') (wl9 m') nF.toNat Cm Cd Ci Cr x) : ∀ nF Cd Ci Cr Cm : Int, (cbS own τ' τ) 1102 = some nF → (cbS own τ' τ) 1200 = some Cd → (cbS own τ' τ) 1201 = some Ci → (cbS own τ' τ) 1202 = some Cr → (cbS own τ' τ) 1204 = some Cm → (Cm ≤ 21) ∧ ∃ x, RI9 (tx9 m') (wl9 m') nF.toNat Cm Cd Ci Cr x := by
  intro nF Cd Ci Cr Cm e0 e1 e2 e3 e4
  rcases bkS (l := [(1102, nF), (1200, Cd), (1201, Ci), (1202, Cr), (1204, Cm)]) ⟨e0, e1, e2, e3, e4, trivial⟩ (HM 42 _ rfl) with ⟨hall, q0, q1, q2, q3, q4, _⟩ | ⟨⟨e, he, hf⟩, q0, q1, q2, q3, q4, _⟩
  · exact h' _ _ _ _ _ q0 q1 q2 q3 q4
  · have pp := h _ _ _ _ _ q0 q1 q2 q3 q4
    show (Cm ≤ 21) ∧ ∃ x, RI9 (tx9 m') (wl9 m') nF.toNat Cm Cd Ci Cr x
    rw [ht, hw]
    exact pp
theorem bk_C {own : Nat → Bool} {τ τ' : Tf} {m m' : Mt} (hX : ∀ t, 1170 ≤ t → t ≤ 1182 → own t = own 1170) (ht : tx9 m' = tx9 m) (hw : wl9 m' = wl9 m) (hj : m' 110 1 = m 110 1) (htp : ∀ j, m' 111 j = m 111 j) (hL : own 1100 = false → ∀ x, τ 1100 = some x → ∀ j, m' 23 j = m 23 j) (hK : ∀ t x, t = 1101 ∨ t = 1102 → own t = false → τ t = some x → ∀ i, m' 25 i = m 25 i ∧ m' 24 i = m 24 i ∧ m' 26 i = m 26 i) (hT : own 1120 = false → ∀ x, τ 1120 = some x → m' 110 29 = m 110 29 ∧ m' 110 28 = m 110 28 ∧ m' 110 27 = m 110 27 ∧ m' 110 30 = m 110 30 ∧ m' 1000 31 = m 1000 31) (hXS : ∀ t x, 1170 ≤ t → t ≤ 1177 → own t = false → τ t = some x → ∀ i : Nat, m' 143 i = m 143 i ∧ m' 144 i = m 144 i ∧ m' 145 i = m 145 i ∧ m' 146 i = m 146 i ∧ m' 149 i = m 149 i ∧ m' 148 i = m 148 i) (hRS : ∀ t x, 1160 ≤ t → t ≤ 1168 → own t = false → τ t = some x → ∀ i : Nat, m' 146 i = m 146 i ∧ m' 149 i = m 149 i ∧ m' 148 i = m 148 i) (HM : ∀ (i : Nat) (T : List Nat), CLT[i]? = some T → Mx9 own τ' τ T) (h : ∀ nF Cd Ci Cr Cx Cm : Int, τ 1102 = some nF → τ 1200 = some Cd → τ 1201 = some Ci → τ 1202 = some Cr → τ 1203 = some Cx → τ 1204 = some Cm → RI9 (tx9 m) (wl9 m) nF.toNat Cm Cd Ci Cr Cx) (h' : ∀ nF Cd Ci Cr Cx Cm : Int, τ' 1102 = some nF → τ' 1200 = some Cd → τ' 1201 = some Ci → τ' 1202 = some Cr → τ' 1203 = some Cx → τ' 1204 = some Cm → RI9 (tx9 m') (wl9 m') nF.toNat Cm Cd Ci Cr Cx) : ∀ nF Cd Ci Cr Cx Cm : Int, (cbS own τ' τ) 1102 = some nF → (cbS own τ' τ) 1200 = some Cd → (cbS own τ' τ) 1201 = some Ci → (cbS own τ' τ) 1202 = some Cr → (cbS own τ' τ) 1203 = some Cx → (cbS own τ' τ) 1204 = some Cm → RI9 (tx9 m') (wl9 m') nF.toNat Cm Cd Ci Cr Cx := by
  intro nF Cd Ci Cr Cx Cm e0 e1 e2 e3 e4 e5
  rcases bkS (l := [(1102, nF), (1200, Cd), (1201, Ci), (1202, Cr), (1203, Cx), (1204, Cm)]) ⟨e0, e1, e2, e3, e4, e5, trivial⟩ (HM 43 _ rfl) with ⟨hall, q0, q1, q2, q3, q4, q5, _⟩ | ⟨⟨e, he, hf⟩, q0, q1, q2, q3, q4, q5, _⟩
  · exact h' _ _ _ _ _ _ q0 q1 q2 q3 q4 q5
  · have pp := h _ _ _ _ _ _ q0 q1 q2 q3 q4 q5
    show RI9 (tx9 m') (wl9 m') nF.toNat Cm Cd Ci Cr Cx
    rw [ht, hw]
    exact pp
theorem bk_Bd0 {own : Nat → Bool} {τ τ' : Tf} {m m' : Mt} (hX : ∀ t, 1170 ≤ t → t ≤ 1182 → own t = own 1170) (ht : tx9 m' = tx9 m) (hw : wl9 m' = wl9 m) (hj : m' 110 1 = m 110 1) (htp : ∀ j, m' 111 j = m 111 j) (hL : own 1100 = false → ∀ x, τ 1100 = some x → ∀ j, m' 23 j = m 23 j) (hK : ∀ t x, t = 1101 ∨ t = 1102 → own t = false → τ t = some x → ∀ i, m' 25 i = m 25 i ∧ m' 24 i = m 24 i ∧ m' 26 i = m 26 i) (hT : own 1120 = false → ∀ x, τ 1120 = some x → m' 110 29 = m 110 29 ∧ m' 110 28 = m 110 28 ∧ m' 110 27 = m 110 27 ∧ m' 110 30 = m 110 30 ∧ m' 1000 31 = m 1000 31) (hXS : ∀ t x, 1170 ≤ t → t ≤ 1177 → own t = false → τ t = some x → ∀ i : Nat, m' 143 i = m 143 i ∧ m' 144 i = m 144 i ∧ m' 145 i = m 145 i ∧ m' 146 i = m 146 i ∧ m' 149 i = m 149 i ∧ m' 148 i = m 148 i) (hRS : ∀ t x, 1160 ≤ t → t ≤ 1168 → own t = false → τ t = some x → ∀ i : Nat, m' 146 i = m 146 i ∧ m' 149 i = m 149 i ∧ m' 148 i = m 148 i) (HM : ∀ (i : Nat) (T : List Nat), CLT[i]? = some T → Mx9 own τ' τ T) (h : ∀ Bd : Int, τ 1140 = some Bd → 0 ≤ Bd) (h' : ∀ Bd : Int, τ' 1140 = some Bd → 0 ≤ Bd) : ∀ Bd : Int, (cbS own τ' τ) 1140 = some Bd → 0 ≤ Bd := by
  intro Bd e0
  rcases bkS (l := [(1140, Bd)]) ⟨e0, trivial⟩ (HM 44 _ rfl) with ⟨hall, q0, _⟩ | ⟨⟨e, he, hf⟩, q0, _⟩
  · exact h' _ q0
  · have pp := h _ q0
    exact pp
theorem bk_B26 {own : Nat → Bool} {τ τ' : Tf} {m m' : Mt} (hX : ∀ t, 1170 ≤ t → t ≤ 1182 → own t = own 1170) (ht : tx9 m' = tx9 m) (hw : wl9 m' = wl9 m) (hj : m' 110 1 = m 110 1) (htp : ∀ j, m' 111 j = m 111 j) (hL : own 1100 = false → ∀ x, τ 1100 = some x → ∀ j, m' 23 j = m 23 j) (hK : ∀ t x, t = 1101 ∨ t = 1102 → own t = false → τ t = some x → ∀ i, m' 25 i = m 25 i ∧ m' 24 i = m 24 i ∧ m' 26 i = m 26 i) (hT : own 1120 = false → ∀ x, τ 1120 = some x → m' 110 29 = m 110 29 ∧ m' 110 28 = m 110 28 ∧ m' 110 27 = m 110 27 ∧ m' 110 30 = m 110 30 ∧ m' 1000 31 = m 1000 31) (hXS : ∀ t x, 1170 ≤ t → t ≤ 1177 → own t = false → τ t = some x → ∀ i : Nat, m' 143 i = m 143 i ∧ m' 144 i = m 144 i ∧ m' 145 i = m 145 i ∧ m' 146 i = m 146 i ∧ m' 149 i = m 149 i ∧ m' 148 i = m 148 i) (hRS : ∀ t x, 1160 ≤ t → t ≤ 1168 → own t = false → τ t = some x → ∀ i : Nat, m' 146 i = m 146 i ∧ m' 149 i = m 149 i ∧ m' 148 i = m 148 i) (HM : ∀ (i : Nat) (T : List Nat), CLT[i]? = some T → Mx9 own τ' τ T) (h : ∀ Bd Bi Bm : Int, τ 1140 = some Bd → τ 1141 = some Bi → τ 1144 = some Bm → Bm = 26 → (4 ≤ rc9 (tx9 m) (Tp9 (tx9 m) Bi.toNat) ∧ rc9 (tx9 m) (Tp9 (tx9 m) Bi.toNat) ≤ 4) ∧ Bd < 20) (h' : ∀ Bd Bi Bm : Int, τ' 1140 = some Bd → τ' 1141 = some Bi → τ' 1144 = some Bm → Bm = 26 → (4 ≤ rc9 (tx9 m') (Tp9 (tx9 m') Bi.toNat) ∧ rc9 (tx9 m') (Tp9 (tx9 m') Bi.toNat) ≤ 4) ∧ Bd < 20) : ∀ Bd Bi Bm : Int, (cbS own τ' τ) 1140 = some Bd → (cbS own τ' τ) 1141 = some Bi → (cbS own τ' τ) 1144 = some Bm → Bm = 26 → (4 ≤ rc9 (tx9 m') (Tp9 (tx9 m') Bi.toNat) ∧ rc9 (tx9 m') (Tp9 (tx9 m') Bi.toNat) ≤ 4) ∧ Bd < 20 := by
  intro Bd Bi Bm e0 e1 e2
  rcases bkS (l := [(1140, Bd), (1141, Bi), (1144, Bm)]) ⟨e0, e1, e2, trivial⟩ (HM 45 _ rfl) with ⟨hall, q0, q1, q2, _⟩ | ⟨⟨e, he, hf⟩, q0, q1, q2, _⟩
  · exact h' _ _ _ q0 q1 q2
  · have pp := h _ _ _ q0 q1 q2
    show Bm = 26 → (4 ≤ rc9 (tx9 m') (Tp9 (tx9 m') Bi.toNat) ∧ rc9 (tx9 m') (Tp9 (tx9 m') Bi.toNat) ≤ 4) ∧ Bd < 20
    rw [ht]
    exact pp
theorem bk_B22 {own : Nat → Bool} {τ τ' : Tf} {m m' : Mt} (hX : ∀ t, 1170 ≤ t → t ≤ 1182 → own t = own 1170) (ht : tx9 m' = tx9 m) (hw : wl9 m' = wl9 m) (hj : m' 110 1 = m 110 1) (htp : ∀ j, m' 111 j = m 111 j) (hL : own 1100 = false → ∀ x, τ 1100 = some x → ∀ j, m' 23 j = m 23 j) (hK : ∀ t x, t = 1101 ∨ t = 1102 → own t = false → τ t = some x → ∀ i, m' 25 i = m 25 i ∧ m' 24 i = m 24 i ∧ m' 26 i = m 26 i) (hT : own 1120 = false → ∀ x, τ 1120 = some x → m' 110 29 = m 110 29 ∧ m' 110 28 = m 110 28 ∧ m' 110 27 = m 110 27 ∧ m' 110 30 = m 110 30 ∧ m' 1000 31 = m 1000 31) (hXS : ∀ t x, 1170 ≤ t → t ≤ 1177 → own t = false → τ t = some x → ∀ i : Nat, m' 143 i = m 143 i ∧ m' 144 i = m 144 i ∧ m' 145 i = m 145 i ∧ m' 146 i = m 146 i ∧ m' 149 i = m 149 i ∧ m' 148 i = m 148 i) (hRS : ∀ t x, 1160 ≤ t → t ≤ 1168 → own t = false → τ t = some x → ∀ i : Nat, m' 146 i = m 146 i ∧ m' 149 i = m 149 i ∧ m' 148 i = m 148 i) (HM : ∀ (i : Nat) (T : List Nat), CLT[i]? = some T → Mx9 own τ' τ T) (h : ∀ Bd Bi Bm Bf : Int, τ 1140 = some Bd → τ 1141 = some Bi → τ 1144 = some Bm → τ 1145 = some Bf → Bm = 22 → 0 ≤ Bf ∧ Bf9 (tx9 m) Bd.toNat (Tp9 (tx9 m) Bi.toNat) Bf.toNat) (h' : ∀ Bd Bi Bm Bf : Int, τ' 1140 = some Bd → τ' 1141 = some Bi → τ' 1144 = some Bm → τ' 1145 = some Bf → Bm = 22 → 0 ≤ Bf ∧ Bf9 (tx9 m') Bd.toNat (Tp9 (tx9 m') Bi.toNat) Bf.toNat) : ∀ Bd Bi Bm Bf : Int, (cbS own τ' τ) 1140 = some Bd → (cbS own τ' τ) 1141 = some Bi → (cbS own τ' τ) 1144 = some Bm → (cbS own τ' τ) 1145 = some Bf → Bm = 22 → 0 ≤ Bf ∧ Bf9 (tx9 m') Bd.toNat (Tp9 (tx9 m') Bi.toNat) Bf.toNat := by
  intro Bd Bi Bm Bf e0 e1 e2 e3
  rcases bkS (l := [(1140, Bd), (1141, Bi), (1144, Bm), (1145, Bf)]) ⟨e0, e1, e2, e3, trivial⟩ (HM 46 _ rfl) with ⟨hall, q0, q1, q2, q3, _⟩ | ⟨⟨e, he, hf⟩, q0, q1, q2, q3, _⟩
  · exact h' _ _ _ _ q0 q1 q2 q3
  · have pp := h _ _ _ _ q0 q1 q2 q3
    show Bm = 22 → 0 ≤ Bf ∧ Bf9 (tx9 m') Bd.toNat (Tp9 (tx9 m') Bi.toNat) Bf.toNat
    rw [ht]
    exact pp
theorem bk_Bs {own : Nat → Bool} {τ τ' : Tf} {m m' : Mt} (hX : ∀ t, 1170 ≤ t → t ≤ 1182 → own t = own 1170) (ht : tx9 m' = tx9 m) (hw : wl9 m' = wl9 m) (hj : m' 110 1 = m 110 1) (htp : ∀ j, m' 111 j = m 111 j) (hL : own 1100 = false → ∀ x, τ 1100 = some x → ∀ j, m' 23 j = m 23 j) (hK : ∀ t x, t = 1101 ∨ t = 1102 → own t = false → τ t = some x → ∀ i, m' 25 i = m 25 i ∧ m' 24 i = m 24 i ∧ m' 26 i = m 26 i) (hT : own 1120 = false → ∀ x, τ 1120 = some x → m' 110 29 = m 110 29 ∧ m' 110 28 = m 110 28 ∧ m' 110 27 = m 110 27 ∧ m' 110 30 = m 110 30 ∧ m' 1000 31 = m 1000 31) (hXS : ∀ t x, 1170 ≤ t → t ≤ 1177 → own t = false → τ t = some x → ∀ i : Nat, m' 143 i = m 143 i ∧ m' 144 i = m 144 i ∧ m' 145 i = m 145 i ∧ m' 146 i = m 146 i ∧ m' 149 i = m 149 i ∧ m' 148 i = m 148 i) (hRS : ∀ t x, 1160 ≤ t → t ≤ 1168 → own t = false → τ t = some x → ∀ i : Nat, m' 146 i = m 146 i ∧ m' 149 i = m 149 i ∧ m' 148 i = m 148 i) (HM : ∀ (i : Nat) (T : List Nat), CLT[i]? = some T → Mx9 own τ' τ T) (h : ∀ nF Bs Bp : Int, τ 1102 = some nF → τ 1146 = some Bs → τ 1147 = some Bp → (0 ≤ Bs ∧ Bs < nF) ∧ Bp = (Tp9 (tx9 m) Bs.toNat : Int)) (h' : ∀ nF Bs Bp : Int, τ' 1102 = some nF → τ' 1146 = some Bs → τ' 1147 = some Bp → (0 ≤ Bs ∧ Bs < nF) ∧ Bp = (Tp9 (tx9 m') Bs.toNat : Int)) : ∀ nF Bs Bp : Int, (cbS own τ' τ) 1102 = some nF → (cbS own τ' τ) 1146 = some Bs → (cbS own τ' τ) 1147 = some Bp → (0 ≤ Bs ∧ Bs < nF) ∧ Bp = (Tp9 (tx9 m') Bs.toNat : Int) := by
  intro nF Bs Bp e0 e1 e2
  rcases bkS (l := [(1102, nF), (1146, Bs), (1147, Bp)]) ⟨e0, e1, e2, trivial⟩ (HM 47 _ rfl) with ⟨hall, q0, q1, q2, _⟩ | ⟨⟨e, he, hf⟩, q0, q1, q2, _⟩
  · exact h' _ _ _ q0 q1 q2
  · have pp := h _ _ _ q0 q1 q2
    show (0 ≤ Bs ∧ Bs < nF) ∧ Bp = (Tp9 (tx9 m') Bs.toNat : Int)
    rw [ht]
    exact pp
theorem bk_Ci0 {own : Nat → Bool} {τ τ' : Tf} {m m' : Mt} (hX : ∀ t, 1170 ≤ t → t ≤ 1182 → own t = own 1170) (ht : tx9 m' = tx9 m) (hw : wl9 m' = wl9 m) (hj : m' 110 1 = m 110 1) (htp : ∀ j, m' 111 j = m 111 j) (hL : own 1100 = false → ∀ x, τ 1100 = some x → ∀ j, m' 23 j = m 23 j) (hK : ∀ t x, t = 1101 ∨ t = 1102 → own t = false → τ t = some x → ∀ i, m' 25 i = m 25 i ∧ m' 24 i = m 24 i ∧ m' 26 i = m 26 i) (hT : own 1120 = false → ∀ x, τ 1120 = some x → m' 110 29 = m 110 29 ∧ m' 110 28 = m 110 28 ∧ m' 110 27 = m 110 27 ∧ m' 110 30 = m 110 30 ∧ m' 1000 31 = m 1000 31) (hXS : ∀ t x, 1170 ≤ t → t ≤ 1177 → own t = false → τ t = some x → ∀ i : Nat, m' 143 i = m 143 i ∧ m' 144 i = m 144 i ∧ m' 145 i = m 145 i ∧ m' 146 i = m 146 i ∧ m' 149 i = m 149 i ∧ m' 148 i = m 148 i) (hRS : ∀ t x, 1160 ≤ t → t ≤ 1168 → own t = false → τ t = some x → ∀ i : Nat, m' 146 i = m 146 i ∧ m' 149 i = m 149 i ∧ m' 148 i = m 148 i) (HM : ∀ (i : Nat) (T : List Nat), CLT[i]? = some T → Mx9 own τ' τ T) (h : ∀ Ci : Int, τ 1201 = some Ci → 0 ≤ Ci) (h' : ∀ Ci : Int, τ' 1201 = some Ci → 0 ≤ Ci) : ∀ Ci : Int, (cbS own τ' τ) 1201 = some Ci → 0 ≤ Ci := by
  intro Ci e0
  rcases bkS (l := [(1201, Ci)]) ⟨e0, trivial⟩ (HM 48 _ rfl) with ⟨hall, q0, _⟩ | ⟨⟨e, he, hf⟩, q0, _⟩
  · exact h' _ q0
  · have pp := h _ q0
    exact pp
theorem bk_Cp {own : Nat → Bool} {τ τ' : Tf} {m m' : Mt} (hX : ∀ t, 1170 ≤ t → t ≤ 1182 → own t = own 1170) (ht : tx9 m' = tx9 m) (hw : wl9 m' = wl9 m) (hj : m' 110 1 = m 110 1) (htp : ∀ j, m' 111 j = m 111 j) (hL : own 1100 = false → ∀ x, τ 1100 = some x → ∀ j, m' 23 j = m 23 j) (hK : ∀ t x, t = 1101 ∨ t = 1102 → own t = false → τ t = some x → ∀ i, m' 25 i = m 25 i ∧ m' 24 i = m 24 i ∧ m' 26 i = m 26 i) (hT : own 1120 = false → ∀ x, τ 1120 = some x → m' 110 29 = m 110 29 ∧ m' 110 28 = m 110 28 ∧ m' 110 27 = m 110 27 ∧ m' 110 30 = m 110 30 ∧ m' 1000 31 = m 1000 31) (hXS : ∀ t x, 1170 ≤ t → t ≤ 1177 → own t = false → τ t = some x → ∀ i : Nat, m' 143 i = m 143 i ∧ m' 144 i = m 144 i ∧ m' 145 i = m 145 i ∧ m' 146 i = m 146 i ∧ m' 149 i = m 149 i ∧ m' 148 i = m 148 i) (hRS : ∀ t x, 1160 ≤ t → t ≤ 1168 → own t = false → τ t = some x → ∀ i : Nat, m' 146 i = m 146 i ∧ m' 149 i = m 149 i ∧ m' 148 i = m 148 i) (HM : ∀ (i : Nat) (T : List Nat), CLT[i]? = some T → Mx9 own τ' τ T) (h : ∀ Ci Cp : Int, τ 1201 = some Ci → τ 1205 = some Cp → Cp = (Tp9 (tx9 m) Ci.toNat : Int)) (h' : ∀ Ci Cp : Int, τ' 1201 = some Ci → τ' 1205 = some Cp → Cp = (Tp9 (tx9 m') Ci.toNat : Int)) : ∀ Ci Cp : Int, (cbS own τ' τ) 1201 = some Ci → (cbS own τ' τ) 1205 = some Cp → Cp = (Tp9 (tx9 m') Ci.toNat : Int) := by
  intro Ci Cp e0 e1
  rcases bkS (l := [(1201, Ci), (1205, Cp)]) ⟨e0, e1, trivial⟩ (HM 49 _ rfl) with ⟨hall, q0, q1, _⟩ | ⟨⟨e, he, hf⟩, q0, q1, _⟩
  · exact h' _ _ q0 q1
  · have pp := h _ _ q0 q1
    show Cp = (Tp9 (tx9 m') Ci.toNat : Int)
    rw [ht]
    exact pp
theorem bk_X0a {own : Nat → Bool} {τ τ' : Tf} {m m' : Mt} (hX : ∀ t, 1170 ≤ t → t ≤ 1182 → own t = own 1170) (ht : tx9 m' = tx9 m) (hw : wl9 m' = wl9 m) (hj : m' 110 1 = m 110 1) (htp : ∀ j, m' 111 j = m 111 j) (hL : own 1100 = false → ∀ x, τ 1100 = some x → ∀ j, m' 23 j = m 23 j) (hK : ∀ t x, t = 1101 ∨ t = 1102 → own t = false → τ t = some x → ∀ i, m' 25 i = m 25 i ∧ m' 24 i = m 24 i ∧ m' 26 i = m 26 i) (hT : own 1120 = false → ∀ x, τ 1120 = some x → m' 110 29 = m 110 29 ∧ m' 110 28 = m 110 28 ∧ m' 110 27 = m 110 27 ∧ m' 110 30 = m 110 30 ∧ m' 1000 31 = m 1000 31) (hXS : ∀ t x, 1170 ≤ t → t ≤ 1177 → own t = false → τ t = some x → ∀ i : Nat, m' 143 i = m 143 i ∧ m' 144 i = m 144 i ∧ m' 145 i = m 145 i ∧ m' 146 i = m 146 i ∧ m' 149 i = m 149 i ∧ m' 148 i = m 148 i) (hRS : ∀ t x, 1160 ≤ t → t ≤ 1168 → own t = false → τ t = some x → ∀ i : Nat, m' 146 i = m 146 i ∧ m' 149 i = m 149 i ∧ m' 148 i = m 148 i) (HM : ∀ (i : Nat) (T : List Nat), CLT[i]? = some T → Mx9 own τ' τ T) (h : ∀ X1 Xp : Int, τ 1170 = some X1 → τ 1172 = some Xp → τ 1173 = none → Pl9 m Xp ∧ ∃ r b, CM9 (tx9 m) Xp.toNat r ∧ YE9 r X1 b) (h' : ∀ X1 Xp : Int, τ' 1170 = some X1 → τ' 1172 = some Xp → τ' 1173 = none → Pl9 m' Xp ∧ ∃ r b, CM9 (tx9 m') Xp.toNat r ∧ YE9 r X1 b) : ∀ X1 Xp : Int, (cbS own τ' τ) 1170 = some X1 → (cbS own τ' τ) 1172 = some Xp → (cbS own τ' τ) 1173 = none → Pl9 m' Xp ∧ ∃ r b, CM9 (tx9 m') Xp.toNat r ∧ YE9 r X1 b := by
  intro X1 Xp e0 e1
  rcases bkS (l := [(1170, X1), (1172, Xp)]) ⟨e0, e1, trivial⟩ (HM 50 _ rfl) with ⟨hall, q0, q1, _⟩ | ⟨⟨e, he, hf⟩, q0, q1, _⟩
  · have ho : own 1170 = true := hall (1170, X1) (List.mem_cons_self ..)
    intro hn
    exact h' _ _ q0 q1 (by rw [← cb_own (τ := τ) (τ' := τ') ((hX 1173 (by decide) (by decide)).trans ho)]; exact hn)
  · have he : e.1 = 1170 ∨ e.1 = 1172 := by
      simp only [List.mem_cons, List.not_mem_nil, or_false] at he
      rcases he with rfl | rfl <;> simp
    have ho : own 1170 = false := by
      rw [← hX e.1 (by omega) (by omega)]
      exact hf
    intro hn
    have pp := h _ _ q0 q1 (by rw [← cb_kep (τ := τ) (τ' := τ') ((hX 1173 (by decide) (by decide)).trans ho)]; exact hn)
    show (0 ≤ Xp ∧ Xp ≤ m' 110 1) ∧ ∃ r b, CM9 (tx9 m') Xp.toNat r ∧ YE9 r X1 b
    rw [ht, hj]
    exact pp
theorem bk_X0 {own : Nat → Bool} {τ τ' : Tf} {m m' : Mt} (hX : ∀ t, 1170 ≤ t → t ≤ 1182 → own t = own 1170) (ht : tx9 m' = tx9 m) (hw : wl9 m' = wl9 m) (hj : m' 110 1 = m 110 1) (htp : ∀ j, m' 111 j = m 111 j) (hL : own 1100 = false → ∀ x, τ 1100 = some x → ∀ j, m' 23 j = m 23 j) (hK : ∀ t x, t = 1101 ∨ t = 1102 → own t = false → τ t = some x → ∀ i, m' 25 i = m 25 i ∧ m' 24 i = m 24 i ∧ m' 26 i = m 26 i) (hT : own 1120 = false → ∀ x, τ 1120 = some x → m' 110 29 = m 110 29 ∧ m' 110 28 = m 110 28 ∧ m' 110 27 = m 110 27 ∧ m' 110 30 = m 110 30 ∧ m' 1000 31 = m 1000 31) (hXS : ∀ t x, 1170 ≤ t → t ≤ 1177 → own t = false → τ t = some x → ∀ i : Nat, m' 143 i = m 143 i ∧ m' 144 i = m 144 i ∧ m' 145 i = m 145 i ∧ m' 146 i = m 146 i ∧ m' 149 i = m 149 i ∧ m' 148 i = m 148 i) (hRS : ∀ t x, 1160 ≤ t → t ≤ 1168 → own t = false → τ t = some x → ∀ i : Nat, m' 146 i = m 146 i ∧ m' 149 i = m 149 i ∧ m' 148 i = m 148 i) (HM : ∀ (i : Nat) (T : List Nat), CLT[i]? = some T → Mx9 own τ' τ T) (h : ∀ X1 X2 Xp : Int, τ 1170 = some X1 → τ 1171 = some X2 → τ 1172 = some Xp → τ 1173 = none → ∃ r, CM9 (tx9 m) Xp.toNat r ∧ YE9 r X1 X2) (h' : ∀ X1 X2 Xp : Int, τ' 1170 = some X1 → τ' 1171 = some X2 → τ' 1172 = some Xp → τ' 1173 = none → ∃ r, CM9 (tx9 m') Xp.toNat r ∧ YE9 r X1 X2) : ∀ X1 X2 Xp : Int, (cbS own τ' τ) 1170 = some X1 → (cbS own τ' τ) 1171 = some X2 → (cbS own τ' τ) 1172 = some Xp → (cbS own τ' τ) 1173 = none → ∃ r, CM9 (tx9 m') Xp.toNat r ∧ YE9 r X1 X2 := by
  intro X1 X2 Xp e0 e1 e2
  rcases bkS (l := [(1170, X1), (1171, X2), (1172, Xp)]) ⟨e0, e1, e2, trivial⟩ (HM 51 _ rfl) with ⟨hall, q0, q1, q2, _⟩ | ⟨⟨e, he, hf⟩, q0, q1, q2, _⟩
  · have ho : own 1170 = true := hall (1170, X1) (List.mem_cons_self ..)
    intro hn
    exact h' _ _ _ q0 q1 q2 (by rw [← cb_own (τ := τ) (τ' := τ') ((hX 1173 (by decide) (by decide)).trans ho)]; exact hn)
  · have he : e.1 = 1170 ∨ e.1 = 1171 ∨ e.1 = 1172 := by
      simp only [List.mem_cons, List.not_mem_nil, or_false] at he
      rcases he with rfl | rfl | rfl <;> simp
    have ho : own 1170 = false := by
      rw [← hX e.1 (by omega) (by omega)]
      exact hf
    intro hn
    have pp := h _ _ _ q0 q1 q2 (by rw [← cb_kep (τ := τ) (τ' := τ') ((hX 1173 (by decide) (by decide)).trans ho)]; exact hn)
    show ∃ r, CM9 (tx9 m') Xp.toNat r ∧ YE9 r X1 X2
    rw [ht]
    exact pp
theorem bk_X {own : Nat → Bool} {τ τ' : Tf} {m m' : Mt} (hX : ∀ t, 1170 ≤ t → t ≤ 1182 → own t = own 1170) (ht : tx9 m' = tx9 m) (hw : wl9 m' = wl9 m) (hj : m' 110 1 = m 110 1) (htp : ∀ j, m' 111 j = m 111 j) (hL : own 1100 = false → ∀ x, τ 1100 = some x → ∀ j, m' 23 j = m 23 j) (hK : ∀ t x, t = 1101 ∨ t = 1102 → own t = false → τ t = some x → ∀ i, m' 25 i = m 25 i ∧ m' 24 i = m 24 i ∧ m' 26 i = m 26 i) (hT : own 1120 = false → ∀ x, τ 1120 = some x → m' 110 29 = m 110 29 ∧ m' 110 28 = m 110 28 ∧ m' 110 27 = m 110 27 ∧ m' 110 30 = m 110 30 ∧ m' 1000 31 = m 1000 31) (hXS : ∀ t x, 1170 ≤ t → t ≤ 1177 → own t = false → τ t = some x → ∀ i : Nat, m' 143 i = m 143 i ∧ m' 144 i = m 144 i ∧ m' 145 i = m 145 i ∧ m' 146 i = m 146 i ∧ m' 149 i = m 149 i ∧ m' 148 i = m 148 i) (hRS : ∀ t x, 1160 ≤ t → t ≤ 1168 → own t = false → τ t = some x → ∀ i : Nat, m' 146 i = m 146 i ∧ m' 149 i = m 149 i ∧ m' 148 i = m 148 i) (HM : ∀ (i : Nat) (T : List Nat), CLT[i]? = some T → Mx9 own τ' τ T) (h : ∀ X1 X2 Xp Xw Xs Xo Xv Xd : Int, τ 1170 = some X1 → τ 1171 = some X2 → τ 1172 = some Xp → τ 1173 = some Xw → τ 1174 = some Xs → τ 1175 = some Xo → τ 1176 = some Xv → τ 1177 = some Xd → XSt m (τ 1178) (τ 1179) (τ 1180) (τ 1181) (τ 1182) X1 X2 Xp Xw Xs Xo Xv Xd) (h' : ∀ X1 X2 Xp Xw Xs Xo Xv Xd : Int, τ' 1170 = some X1 → τ' 1171 = some X2 → τ' 1172 = some Xp → τ' 1173 = some Xw → τ' 1174 = some Xs → τ' 1175 = some Xo → τ' 1176 = some Xv → τ' 1177 = some Xd → XSt m' (τ' 1178) (τ' 1179) (τ' 1180) (τ' 1181) (τ' 1182) X1 X2 Xp Xw Xs Xo Xv Xd) : ∀ X1 X2 Xp Xw Xs Xo Xv Xd : Int, (cbS own τ' τ) 1170 = some X1 → (cbS own τ' τ) 1171 = some X2 → (cbS own τ' τ) 1172 = some Xp → (cbS own τ' τ) 1173 = some Xw → (cbS own τ' τ) 1174 = some Xs → (cbS own τ' τ) 1175 = some Xo → (cbS own τ' τ) 1176 = some Xv → (cbS own τ' τ) 1177 = some Xd → XSt m' ((cbS own τ' τ) 1178) ((cbS own τ' τ) 1179) ((cbS own τ' τ) 1180) ((cbS own τ' τ) 1181) ((cbS own τ' τ) 1182) X1 X2 Xp Xw Xs Xo Xv Xd := by
  intro X1 X2 Xp Xw Xs Xo Xv Xd e0 e1 e2 e3 e4 e5 e6 e7
  rcases bkS (l := [(1170, X1), (1171, X2), (1172, Xp), (1173, Xw), (1174, Xs), (1175, Xo), (1176, Xv), (1177, Xd)]) ⟨e0, e1, e2, e3, e4, e5, e6, e7, trivial⟩ (HM 52 _ rfl) with ⟨hall, q0, q1, q2, q3, q4, q5, q6, q7, _⟩ | ⟨⟨e, he, hf⟩, q0, q1, q2, q3, q4, q5, q6, q7, _⟩
  · have ho : own 1170 = true := hall (1170, X1) (List.mem_cons_self ..)
    show XSt m' (cbS own τ' τ 1178) (cbS own τ' τ 1179) (cbS own τ' τ 1180) (cbS own τ' τ 1181) (cbS own τ' τ 1182) X1 X2 Xp Xw Xs Xo Xv Xd
    rw [cb_own ((hX 1178 (by decide) (by decide)).trans ho), cb_own ((hX 1179 (by decide) (by decide)).trans ho), cb_own ((hX 1180 (by decide) (by decide)).trans ho), cb_own ((hX 1181 (by decide) (by decide)).trans ho), cb_own ((hX 1182 (by decide) (by decide)).trans ho)]
    exact h' _ _ _ _ _ _ _ _ q0 q1 q2 q3 q4 q5 q6 q7
  · have he : e.1 = 1170 ∨ e.1 = 1171 ∨ e.1 = 1172 ∨ e.1 = 1173 ∨ e.1 = 1174 ∨ e.1 = 1175 ∨ e.1 = 1176 ∨ e.1 = 1177 := by
      simp only [List.mem_cons, List.not_mem_nil, or_false] at he
      rcases he with rfl | rfl | rfl | rfl | rfl | rfl | rfl | rfl <;> simp
    have ho : own 1170 = false := by
      rw [← hX e.1 (by omega) (by omega)]
      exact hf
    have cc := hXS 1170 _ (by decide) (by decide) ho q0
    show XSt m' (cbS own τ' τ 1178) (cbS own τ' τ 1179) (cbS own τ' τ 1180) (cbS own τ' τ 1181) (cbS own τ' τ 1182) X1 X2 Xp Xw Xs Xo Xv Xd
    rw [cb_kep ((hX 1178 (by decide) (by decide)).trans ho), cb_kep ((hX 1179 (by decide) (by decide)).trans ho), cb_kep ((hX 1180 (by decide) (by decide)).trans ho), cb_kep ((hX 1181 (by decide) (by decide)).trans ho), cb_kep ((hX 1182 (by decide) (by decide)).trans ho)]
    exact XS_w (h _ _ _ _ _ _ _ _ q0 q1 q2 q3 q4 q5 q6 q7) ht hj (fun i _ => ⟨(cc i).1, (cc i).2.1, (cc i).2.2.1, (cc i).2.2.2.1⟩) (fun i _ => ⟨(cc i).2.2.2.2.1, (cc i).2.2.2.2.2⟩) (by rw [(cc _).1]) (by rw [(cc _).2.1]) (by rw [(cc _).2.2.1]) (by rw [(cc _).2.2.2.1])
theorem bk_Xe {own : Nat → Bool} {τ τ' : Tf} {m m' : Mt} (hX : ∀ t, 1170 ≤ t → t ≤ 1182 → own t = own 1170) (ht : tx9 m' = tx9 m) (hw : wl9 m' = wl9 m) (hj : m' 110 1 = m 110 1) (htp : ∀ j, m' 111 j = m 111 j) (hL : own 1100 = false → ∀ x, τ 1100 = some x → ∀ j, m' 23 j = m 23 j) (hK : ∀ t x, t = 1101 ∨ t = 1102 → own t = false → τ t = some x → ∀ i, m' 25 i = m 25 i ∧ m' 24 i = m 24 i ∧ m' 26 i = m 26 i) (hT : own 1120 = false → ∀ x, τ 1120 = some x → m' 110 29 = m 110 29 ∧ m' 110 28 = m 110 28 ∧ m' 110 27 = m 110 27 ∧ m' 110 30 = m 110 30 ∧ m' 1000 31 = m 1000 31) (hXS : ∀ t x, 1170 ≤ t → t ≤ 1177 → own t = false → τ t = some x → ∀ i : Nat, m' 143 i = m 143 i ∧ m' 144 i = m 144 i ∧ m' 145 i = m 145 i ∧ m' 146 i = m 146 i ∧ m' 149 i = m 149 i ∧ m' 148 i = m 148 i) (hRS : ∀ t x, 1160 ≤ t → t ≤ 1168 → own t = false → τ t = some x → ∀ i : Nat, m' 146 i = m 146 i ∧ m' 149 i = m 149 i ∧ m' 148 i = m 148 i) (HM : ∀ (i : Nat) (T : List Nat), CLT[i]? = some T → Mx9 own τ' τ T) (h : ∀ Xe Xp Xs : Int, τ 1155 = some Xe → τ 1172 = some Xp → τ 1174 = some Xs → ElX (tx9 m) Xs Xp) (h' : ∀ Xe Xp Xs : Int, τ' 1155 = some Xe → τ' 1172 = some Xp → τ' 1174 = some Xs → ElX (tx9 m') Xs Xp) : ∀ Xe Xp Xs : Int, (cbS own τ' τ) 1155 = some Xe → (cbS own τ' τ) 1172 = some Xp → (cbS own τ' τ) 1174 = some Xs → ElX (tx9 m') Xs Xp := by
  intro Xe Xp Xs e0 e1 e2
  rcases bkS (l := [(1155, Xe), (1172, Xp), (1174, Xs)]) ⟨e0, e1, e2, trivial⟩ (HM 53 _ rfl) with ⟨hall, q0, q1, q2, _⟩ | ⟨⟨e, he, hf⟩, q0, q1, q2, _⟩
  · exact h' _ _ _ q0 q1 q2
  · have pp := h _ _ _ q0 q1 q2
    show ElX (tx9 m') Xs Xp
    rw [ht]
    exact pp
theorem bk_rb {own : Nat → Bool} {τ τ' : Tf} {m m' : Mt} (hX : ∀ t, 1170 ≤ t → t ≤ 1182 → own t = own 1170) (ht : tx9 m' = tx9 m) (hw : wl9 m' = wl9 m) (hj : m' 110 1 = m 110 1) (htp : ∀ j, m' 111 j = m 111 j) (hL : own 1100 = false → ∀ x, τ 1100 = some x → ∀ j, m' 23 j = m 23 j) (hK : ∀ t x, t = 1101 ∨ t = 1102 → own t = false → τ t = some x → ∀ i, m' 25 i = m 25 i ∧ m' 24 i = m 24 i ∧ m' 26 i = m 26 i) (hT : own 1120 = false → ∀ x, τ 1120 = some x → m' 110 29 = m 110 29 ∧ m' 110 28 = m 110 28 ∧ m' 110 27 = m 110 27 ∧ m' 110 30 = m 110 30 ∧ m' 1000 31 = m 1000 31) (hXS : ∀ t x, 1170 ≤ t → t ≤ 1177 → own t = false → τ t = some x → ∀ i : Nat, m' 143 i = m 143 i ∧ m' 144 i = m 144 i ∧ m' 145 i = m 145 i ∧ m' 146 i = m 146 i ∧ m' 149 i = m 149 i ∧ m' 148 i = m 148 i) (hRS : ∀ t x, 1160 ≤ t → t ≤ 1168 → own t = false → τ t = some x → ∀ i : Nat, m' 146 i = m 146 i ∧ m' 149 i = m 149 i ∧ m' 148 i = m 148 i) (HM : ∀ (i : Nat) (T : List Nat), CLT[i]? = some T → Mx9 own τ' τ T) (h : ∀ Ro Rb : Int, τ 1160 = some Ro → τ 1161 = some Rb → 0 ≤ Ro ∧ (0 ≤ Rb ∧ Rb ≤ 1300) ∧ Rb = m 146 Ro.toNat) (h' : ∀ Ro Rb : Int, τ' 1160 = some Ro → τ' 1161 = some Rb → 0 ≤ Ro ∧ (0 ≤ Rb ∧ Rb ≤ 1300) ∧ Rb = m' 146 Ro.toNat) : ∀ Ro Rb : Int, (cbS own τ' τ) 1160 = some Ro → (cbS own τ' τ) 1161 = some Rb → 0 ≤ Ro ∧ (0 ≤ Rb ∧ Rb ≤ 1300) ∧ Rb = m' 146 Ro.toNat := by
  intro Ro Rb e0 e1
  rcases bkS (l := [(1160, Ro), (1161, Rb)]) ⟨e0, e1, trivial⟩ (HM 54 _ rfl) with ⟨hall, q0, q1, _⟩ | ⟨⟨e, he, hf⟩, q0, q1, _⟩
  · exact h' _ _ q0 q1
  · have pp := h _ _ q0 q1
    have he : e.1 = 1160 ∨ e.1 = 1161 := by
      simp only [List.mem_cons, List.not_mem_nil, or_false] at he
      rcases he with rfl | rfl <;> simp
    obtain ⟨x9, hx9⟩ : ∃ x, τ e.1 = some x := by
      rcases he with z | z
      · exact ⟨_, by rw [z]; exact q0⟩
      · exact ⟨_, by rw [z]; exact q1⟩
    have cc := hRS e.1 x9 (by omega) (by omega) hf hx9
    have hWr : ∀ i, m' 149 i = m 149 i := fun i => (cc i).2.1
    rw [(cc _).1]
    exact pp
theorem bk_rh {own : Nat → Bool} {τ τ' : Tf} {m m' : Mt} (hX : ∀ t, 1170 ≤ t → t ≤ 1182 → own t = own 1170) (ht : tx9 m' = tx9 m) (hw : wl9 m' = wl9 m) (hj : m' 110 1 = m 110 1) (htp : ∀ j, m' 111 j = m 111 j) (hL : own 1100 = false → ∀ x, τ 1100 = some x → ∀ j, m' 23 j = m 23 j) (hK : ∀ t x, t = 1101 ∨ t = 1102 → own t = false → τ t = some x → ∀ i, m' 25 i = m 25 i ∧ m' 24 i = m 24 i ∧ m' 26 i = m 26 i) (hT : own 1120 = false → ∀ x, τ 1120 = some x → m' 110 29 = m 110 29 ∧ m' 110 28 = m 110 28 ∧ m' 110 27 = m 110 27 ∧ m' 110 30 = m 110 30 ∧ m' 1000 31 = m 1000 31) (hXS : ∀ t x, 1170 ≤ t → t ≤ 1177 → own t = false → τ t = some x → ∀ i : Nat, m' 143 i = m 143 i ∧ m' 144 i = m 144 i ∧ m' 145 i = m 145 i ∧ m' 146 i = m 146 i ∧ m' 149 i = m 149 i ∧ m' 148 i = m 148 i) (hRS : ∀ t x, 1160 ≤ t → t ≤ 1168 → own t = false → τ t = some x → ∀ i : Nat, m' 146 i = m 146 i ∧ m' 149 i = m 149 i ∧ m' 148 i = m 148 i) (HM : ∀ (i : Nat) (T : List Nat), CLT[i]? = some T → Mx9 own τ' τ T) (h : ∀ Ro Rb Rh : Int, τ 1160 = some Ro → τ 1161 = some Rb → τ 1162 = some Rh → Rb ≤ Rh ∧ Rh ≤ 1300 ∧ WKX m Rh.toNat) (h' : ∀ Ro Rb Rh : Int, τ' 1160 = some Ro → τ' 1161 = some Rb → τ' 1162 = some Rh → Rb ≤ Rh ∧ Rh ≤ 1300 ∧ WKX m' Rh.toNat) : ∀ Ro Rb Rh : Int, (cbS own τ' τ) 1160 = some Ro → (cbS own τ' τ) 1161 = some Rb → (cbS own τ' τ) 1162 = some Rh → Rb ≤ Rh ∧ Rh ≤ 1300 ∧ WKX m' Rh.toNat := by
  intro Ro Rb Rh e0 e1 e2
  rcases bkS (l := [(1160, Ro), (1161, Rb), (1162, Rh)]) ⟨e0, e1, e2, trivial⟩ (HM 55 _ rfl) with ⟨hall, q0, q1, q2, _⟩ | ⟨⟨e, he, hf⟩, q0, q1, q2, _⟩
  · exact h' _ _ _ q0 q1 q2
  · have pp := h _ _ _ q0 q1 q2
    have he : e.1 = 1160 ∨ e.1 = 1161 ∨ e.1 = 1162 := by
      simp only [List.mem_cons, List.not_mem_nil, or_false] at he
      rcases he with rfl | rfl | rfl <;> simp
    obtain ⟨x9, hx9⟩ : ∃ x, τ e.1 = some x := by
      rcases he with z | z | z
      · exact ⟨_, by rw [z]; exact q0⟩
      · exact ⟨_, by rw [z]; exact q1⟩
      · exact ⟨_, by rw [z]; exact q2⟩
    have cc := hRS e.1 x9 (by omega) (by omega) hf hx9
    have hWr : ∀ i, m' 149 i = m 149 i := fun i => (cc i).2.1
    refine ⟨pp.1, pp.2.1, fun i hi => ?_⟩
    rw [(cc i).2.1, (cc i).2.2]
    exact pp.2.2 i hi
theorem bk_rw {own : Nat → Bool} {τ τ' : Tf} {m m' : Mt} (hX : ∀ t, 1170 ≤ t → t ≤ 1182 → own t = own 1170) (ht : tx9 m' = tx9 m) (hw : wl9 m' = wl9 m) (hj : m' 110 1 = m 110 1) (htp : ∀ j, m' 111 j = m 111 j) (hL : own 1100 = false → ∀ x, τ 1100 = some x → ∀ j, m' 23 j = m 23 j) (hK : ∀ t x, t = 1101 ∨ t = 1102 → own t = false → τ t = some x → ∀ i, m' 25 i = m 25 i ∧ m' 24 i = m 24 i ∧ m' 26 i = m 26 i) (hT : own 1120 = false → ∀ x, τ 1120 = some x → m' 110 29 = m 110 29 ∧ m' 110 28 = m 110 28 ∧ m' 110 27 = m 110 27 ∧ m' 110 30 = m 110 30 ∧ m' 1000 31 = m 1000 31) (hXS : ∀ t x, 1170 ≤ t → t ≤ 1177 → own t = false → τ t = some x → ∀ i : Nat, m' 143 i = m 143 i ∧ m' 144 i = m 144 i ∧ m' 145 i = m 145 i ∧ m' 146 i = m 146 i ∧ m' 149 i = m 149 i ∧ m' 148 i = m 148 i) (hRS : ∀ t x, 1160 ≤ t → t ≤ 1168 → own t = false → τ t = some x → ∀ i : Nat, m' 146 i = m 146 i ∧ m' 149 i = m 149 i ∧ m' 148 i = m 148 i) (HM : ∀ (i : Nat) (T : List Nat), CLT[i]? = some T → Mx9 own τ' τ T) (h : ∀ Ro Rb Rh Rr Rw : Int, τ 1160 = some Ro → τ 1161 = some Rb → τ 1162 = some Rh → τ 1163 = some Rr → τ 1164 = some Rw → Rw = Rb + (dlX m Rr.toNat Rb.toNat (Rh.toNat - Rb.toNat) : Int)) (h' : ∀ Ro Rb Rh Rr Rw : Int, τ' 1160 = some Ro → τ' 1161 = some Rb → τ' 1162 = some Rh → τ' 1163 = some Rr → τ' 1164 = some Rw → Rw = Rb + (dlX m' Rr.toNat Rb.toNat (Rh.toNat - Rb.toNat) : Int)) : ∀ Ro Rb Rh Rr Rw : Int, (cbS own τ' τ) 1160 = some Ro → (cbS own τ' τ) 1161 = some Rb → (cbS own τ' τ) 1162 = some Rh → (cbS own τ' τ) 1163 = some Rr → (cbS own τ' τ) 1164 = some Rw → Rw = Rb + (dlX m' Rr.toNat Rb.toNat (Rh.toNat - Rb.toNat) : Int) := by
  intro Ro Rb Rh Rr Rw e0 e1 e2 e3 e4
  rcases bkS (l := [(1160, Ro), (1161, Rb), (1162, Rh), (1163, Rr), (1164, Rw)]) ⟨e0, e1, e2, e3, e4, trivial⟩ (HM 56 _ rfl) with ⟨hall, q0, q1, q2, q3, q4, _⟩ | ⟨⟨e, he, hf⟩, q0, q1, q2, q3, q4, _⟩
  · exact h' _ _ _ _ _ q0 q1 q2 q3 q4
  · have pp := h _ _ _ _ _ q0 q1 q2 q3 q4
    have he : e.1 = 1160 ∨ e.1 = 1161 ∨ e.1 = 1162 ∨ e.1 = 1163 ∨ e.1 = 1164 := by
      simp only [List.mem_cons, List.not_mem_nil, or_false] at he
      rcases he with rfl | rfl | rfl | rfl | rfl <;> simp
    obtain ⟨x9, hx9⟩ : ∃ x, τ e.1 = some x := by
      rcases he with z | z | z | z | z
      · exact ⟨_, by rw [z]; exact q0⟩
      · exact ⟨_, by rw [z]; exact q1⟩
      · exact ⟨_, by rw [z]; exact q2⟩
      · exact ⟨_, by rw [z]; exact q3⟩
      · exact ⟨_, by rw [z]; exact q4⟩
    have cc := hRS e.1 x9 (by omega) (by omega) hf hx9
    have hWr : ∀ i, m' 149 i = m 149 i := fun i => (cc i).2.1
    rw [dl_cg hWr]
    exact pp
theorem bk_rg {own : Nat → Bool} {τ τ' : Tf} {m m' : Mt} (hX : ∀ t, 1170 ≤ t → t ≤ 1182 → own t = own 1170) (ht : tx9 m' = tx9 m) (hw : wl9 m' = wl9 m) (hj : m' 110 1 = m 110 1) (htp : ∀ j, m' 111 j = m 111 j) (hL : own 1100 = false → ∀ x, τ 1100 = some x → ∀ j, m' 23 j = m 23 j) (hK : ∀ t x, t = 1101 ∨ t = 1102 → own t = false → τ t = some x → ∀ i, m' 25 i = m 25 i ∧ m' 24 i = m 24 i ∧ m' 26 i = m 26 i) (hT : own 1120 = false → ∀ x, τ 1120 = some x → m' 110 29 = m 110 29 ∧ m' 110 28 = m 110 28 ∧ m' 110 27 = m 110 27 ∧ m' 110 30 = m 110 30 ∧ m' 1000 31 = m 1000 31) (hXS : ∀ t x, 1170 ≤ t → t ≤ 1177 → own t = false → τ t = some x → ∀ i : Nat, m' 143 i = m 143 i ∧ m' 144 i = m 144 i ∧ m' 145 i = m 145 i ∧ m' 146 i = m 146 i ∧ m' 149 i = m 149 i ∧ m' 148 i = m 148 i) (hRS : ∀ t x, 1160 ≤ t → t ≤ 1168 → own t = false → τ t = some x → ∀ i : Nat, m' 146 i = m 146 i ∧ m' 149 i = m 149 i ∧ m' 148 i = m 148 i) (HM : ∀ (i : Nat) (T : List Nat), CLT[i]? = some T → Mx9 own τ' τ T) (h : ∀ Ro Rh Rg : Int, τ 1160 = some Ro → τ 1162 = some Rh → τ 1167 = some Rg → Rg ≤ 20 ∧ Rg = Ro + (cnX m Rh.toNat : Int)) (h' : ∀ Ro Rh Rg : Int, τ' 1160 = some Ro → τ' 1162 = some Rh → τ' 1167 = some Rg → Rg ≤ 20 ∧ Rg = Ro + (cnX m' Rh.toNat : Int)) : ∀ Ro Rh Rg : Int, (cbS own τ' τ) 1160 = some Ro → (cbS own τ' τ) 1162 = some Rh → (cbS own τ' τ) 1167 = some Rg → Rg ≤ 20 ∧ Rg = Ro + (cnX m' Rh.toNat : Int) := by
  intro Ro Rh Rg e0 e1 e2
  rcases bkS (l := [(1160, Ro), (1162, Rh), (1167, Rg)]) ⟨e0, e1, e2, trivial⟩ (HM 57 _ rfl) with ⟨hall, q0, q1, q2, _⟩ | ⟨⟨e, he, hf⟩, q0, q1, q2, _⟩
  · exact h' _ _ _ q0 q1 q2
  · have pp := h _ _ _ q0 q1 q2
    have he : e.1 = 1160 ∨ e.1 = 1162 ∨ e.1 = 1167 := by
      simp only [List.mem_cons, List.not_mem_nil, or_false] at he
      rcases he with rfl | rfl | rfl <;> simp
    obtain ⟨x9, hx9⟩ : ∃ x, τ e.1 = some x := by
      rcases he with z | z | z
      · exact ⟨_, by rw [z]; exact q0⟩
      · exact ⟨_, by rw [z]; exact q1⟩
      · exact ⟨_, by rw [z]; exact q2⟩
    have cc := hRS e.1 x9 (by omega) (by omega) hf hx9
    have hWr : ∀ i, m' 149 i = m 149 i := fun i => (cc i).2.1
    rw [cn_cg (fun i _ => hWr i)]
    exact pp
theorem bk_rd {own : Nat → Bool} {τ τ' : Tf} {m m' : Mt} (hX : ∀ t, 1170 ≤ t → t ≤ 1182 → own t = own 1170) (ht : tx9 m' = tx9 m) (hw : wl9 m' = wl9 m) (hj : m' 110 1 = m 110 1) (htp : ∀ j, m' 111 j = m 111 j) (hL : own 1100 = false → ∀ x, τ 1100 = some x → ∀ j, m' 23 j = m 23 j) (hK : ∀ t x, t = 1101 ∨ t = 1102 → own t = false → τ t = some x → ∀ i, m' 25 i = m 25 i ∧ m' 24 i = m 24 i ∧ m' 26 i = m 26 i) (hT : own 1120 = false → ∀ x, τ 1120 = some x → m' 110 29 = m 110 29 ∧ m' 110 28 = m 110 28 ∧ m' 110 27 = m 110 27 ∧ m' 110 30 = m 110 30 ∧ m' 1000 31 = m 1000 31) (hXS : ∀ t x, 1170 ≤ t → t ≤ 1177 → own t = false → τ t = some x → ∀ i : Nat, m' 143 i = m 143 i ∧ m' 144 i = m 144 i ∧ m' 145 i = m 145 i ∧ m' 146 i = m 146 i ∧ m' 149 i = m 149 i ∧ m' 148 i = m 148 i) (hRS : ∀ t x, 1160 ≤ t → t ≤ 1168 → own t = false → τ t = some x → ∀ i : Nat, m' 146 i = m 146 i ∧ m' 149 i = m 149 i ∧ m' 148 i = m 148 i) (HM : ∀ (i : Nat) (T : List Nat), CLT[i]? = some T → Mx9 own τ' τ T) (h : ∀ Ro Rw Rd : Int, τ 1160 = some Ro → τ 1164 = some Rw → τ 1165 = some Rd → Rd = Ro + (cnX m Rw.toNat : Int)) (h' : ∀ Ro Rw Rd : Int, τ' 1160 = some Ro → τ' 1164 = some Rw → τ' 1165 = some Rd → Rd = Ro + (cnX m' Rw.toNat : Int)) : ∀ Ro Rw Rd : Int, (cbS own τ' τ) 1160 = some Ro → (cbS own τ' τ) 1164 = some Rw → (cbS own τ' τ) 1165 = some Rd → Rd = Ro + (cnX m' Rw.toNat : Int) := by
  intro Ro Rw Rd e0 e1 e2
  rcases bkS (l := [(1160, Ro), (1164, Rw), (1165, Rd)]) ⟨e0, e1, e2, trivial⟩ (HM 58 _ rfl) with ⟨hall, q0, q1, q2, _⟩ | ⟨⟨e, he, hf⟩, q0, q1, q2, _⟩
  · exact h' _ _ _ q0 q1 q2
  · have pp := h _ _ _ q0 q1 q2
    have he : e.1 = 1160 ∨ e.1 = 1164 ∨ e.1 = 1165 := by
      simp only [List.mem_cons, List.not_mem_nil, or_false] at he
      rcases he with rfl | rfl | rfl <;> simp
    obtain ⟨x9, hx9⟩ : ∃ x, τ e.1 = some x := by
      rcases he with z | z | z
      · exact ⟨_, by rw [z]; exact q0⟩
      · exact ⟨_, by rw [z]; exact q1⟩
      · exact ⟨_, by rw [z]; exact q2⟩
    have cc := hRS e.1 x9 (by omega) (by omega) hf hx9
    have hWr : ∀ i, m' 149 i = m 149 i := fun i => (cc i).2.1
    rw [cn_cg (fun i _ => hWr i)]
    exact pp
theorem bk_rc {own : Nat → Bool} {τ τ' : Tf} {m m' : Mt} (hX : ∀ t, 1170 ≤ t → t ≤ 1182 → own t = own 1170) (ht : tx9 m' = tx9 m) (hw : wl9 m' = wl9 m) (hj : m' 110 1 = m 110 1) (htp : ∀ j, m' 111 j = m 111 j) (hL : own 1100 = false → ∀ x, τ 1100 = some x → ∀ j, m' 23 j = m 23 j) (hK : ∀ t x, t = 1101 ∨ t = 1102 → own t = false → τ t = some x → ∀ i, m' 25 i = m 25 i ∧ m' 24 i = m 24 i ∧ m' 26 i = m 26 i) (hT : own 1120 = false → ∀ x, τ 1120 = some x → m' 110 29 = m 110 29 ∧ m' 110 28 = m 110 28 ∧ m' 110 27 = m 110 27 ∧ m' 110 30 = m 110 30 ∧ m' 1000 31 = m 1000 31) (hXS : ∀ t x, 1170 ≤ t → t ≤ 1177 → own t = false → τ t = some x → ∀ i : Nat, m' 143 i = m 143 i ∧ m' 144 i = m 144 i ∧ m' 145 i = m 145 i ∧ m' 146 i = m 146 i ∧ m' 149 i = m 149 i ∧ m' 148 i = m 148 i) (hRS : ∀ t x, 1160 ≤ t → t ≤ 1168 → own t = false → τ t = some x → ∀ i : Nat, m' 146 i = m 146 i ∧ m' 149 i = m 149 i ∧ m' 148 i = m 148 i) (HM : ∀ (i : Nat) (T : List Nat), CLT[i]? = some T → Mx9 own τ' τ T) (h : ∀ Ro Rb Rh Rr Rw Rc : Int, τ 1160 = some Ro → τ 1161 = some Rb → τ 1162 = some Rh → τ 1163 = some Rr → τ 1164 = some Rw → τ 1166 = some Rc → (Rb ≤ Rc ∧ Rc ≤ Rh) ∧ Rw = Rb + (dlX m Rr.toNat Rb.toNat (Rc.toNat - Rb.toNat) : Int)) (h' : ∀ Ro Rb Rh Rr Rw Rc : Int, τ' 1160 = some Ro → τ' 1161 = some Rb → τ' 1162 = some Rh → τ' 1163 = some Rr → τ' 1164 = some Rw → τ' 1166 = some Rc → (Rb ≤ Rc ∧ Rc ≤ Rh) ∧ Rw = Rb + (dlX m' Rr.toNat Rb.toNat (Rc.toNat - Rb.toNat) : Int)) : ∀ Ro Rb Rh Rr Rw Rc : Int, (cbS own τ' τ) 1160 = some Ro → (cbS own τ' τ) 1161 = some Rb → (cbS own τ' τ) 1162 = some Rh → (cbS own τ' τ) 1163 = some Rr → (cbS own τ' τ) 1164 = some Rw → (cbS own τ' τ) 1166 = some Rc → (Rb ≤ Rc ∧ Rc ≤ Rh) ∧ Rw = Rb + (dlX m' Rr.toNat Rb.toNat (Rc.toNat - Rb.toNat) : Int) := by
  intro Ro Rb Rh Rr Rw Rc e0 e1 e2 e3 e4 e5
  rcases bkS (l := [(1160, Ro), (1161, Rb), (1162, Rh), (1163, Rr), (1164, Rw), (1166, Rc)]) ⟨e0, e1, e2, e3, e4, e5, trivial⟩ (HM 59 _ rfl) with ⟨hall, q0, q1, q2, q3, q4, q5, _⟩ | ⟨⟨e, he, hf⟩, q0, q1, q2, q3, q4, q5, _⟩
  · exact h' _ _ _ _ _ _ q0 q1 q2 q3 q4 q5
  · have pp := h _ _ _ _ _ _ q0 q1 q2 q3 q4 q5
    have he : e.1 = 1160 ∨ e.1 = 1161 ∨ e.1 = 1162 ∨ e.1 = 1163 ∨ e.1 = 1164 ∨ e.1 = 1166 := by
      simp only [List.mem_cons, List.not_mem_nil, or_false] at he
      rcases he with rfl | rfl | rfl | rfl | rfl | rfl <;> simp
    obtain ⟨x9, hx9⟩ : ∃ x, τ e.1 = some x := by
      rcases he with z | z | z | z | z | z
      · exact ⟨_, by rw [z]; exact q0⟩
      · exact ⟨_, by rw [z]; exact q1⟩
      · exact ⟨_, by rw [z]; exact q2⟩
      · exact ⟨_, by rw [z]; exact q3⟩
      · exact ⟨_, by rw [z]; exact q4⟩
      · exact ⟨_, by rw [z]; exact q5⟩
    have cc := hRS e.1 x9 (by omega) (by omega) hf hx9
    have hWr : ∀ i, m' 149 i = m 149 i := fun i => (cc i).2.1
    rw [dl_cg hWr]
    exact pp
theorem bk_rq {own : Nat → Bool} {τ τ' : Tf} {m m' : Mt} (hX : ∀ t, 1170 ≤ t → t ≤ 1182 → own t = own 1170) (ht : tx9 m' = tx9 m) (hw : wl9 m' = wl9 m) (hj : m' 110 1 = m 110 1) (htp : ∀ j, m' 111 j = m 111 j) (hL : own 1100 = false → ∀ x, τ 1100 = some x → ∀ j, m' 23 j = m 23 j) (hK : ∀ t x, t = 1101 ∨ t = 1102 → own t = false → τ t = some x → ∀ i, m' 25 i = m 25 i ∧ m' 24 i = m 24 i ∧ m' 26 i = m 26 i) (hT : own 1120 = false → ∀ x, τ 1120 = some x → m' 110 29 = m 110 29 ∧ m' 110 28 = m 110 28 ∧ m' 110 27 = m 110 27 ∧ m' 110 30 = m 110 30 ∧ m' 1000 31 = m 1000 31) (hXS : ∀ t x, 1170 ≤ t → t ≤ 1177 → own t = false → τ t = some x → ∀ i : Nat, m' 143 i = m 143 i ∧ m' 144 i = m 144 i ∧ m' 145 i = m 145 i ∧ m' 146 i = m 146 i ∧ m' 149 i = m 149 i ∧ m' 148 i = m 148 i) (hRS : ∀ t x, 1160 ≤ t → t ≤ 1168 → own t = false → τ t = some x → ∀ i : Nat, m' 146 i = m 146 i ∧ m' 149 i = m 149 i ∧ m' 148 i = m 148 i) (HM : ∀ (i : Nat) (T : List Nat), CLT[i]? = some T → Mx9 own τ' τ T) (h : ∀ Ro Rc Rq : Int, τ 1160 = some Ro → τ 1166 = some Rc → τ 1168 = some Rq → Rq = Ro + (cnX m Rc.toNat : Int)) (h' : ∀ Ro Rc Rq : Int, τ' 1160 = some Ro → τ' 1166 = some Rc → τ' 1168 = some Rq → Rq = Ro + (cnX m' Rc.toNat : Int)) : ∀ Ro Rc Rq : Int, (cbS own τ' τ) 1160 = some Ro → (cbS own τ' τ) 1166 = some Rc → (cbS own τ' τ) 1168 = some Rq → Rq = Ro + (cnX m' Rc.toNat : Int) := by
  intro Ro Rc Rq e0 e1 e2
  rcases bkS (l := [(1160, Ro), (1166, Rc), (1168, Rq)]) ⟨e0, e1, e2, trivial⟩ (HM 60 _ rfl) with ⟨hall, q0, q1, q2, _⟩ | ⟨⟨e, he, hf⟩, q0, q1, q2, _⟩
  · exact h' _ _ _ q0 q1 q2
  · have pp := h _ _ _ q0 q1 q2
    have he : e.1 = 1160 ∨ e.1 = 1166 ∨ e.1 = 1168 := by
      simp only [List.mem_cons, List.not_mem_nil, or_false] at he
      rcases he with rfl | rfl | rfl <;> simp
    obtain ⟨x9, hx9⟩ : ∃ x, τ e.1 = some x := by
      rcases he with z | z | z
      · exact ⟨_, by rw [z]; exact q0⟩
      · exact ⟨_, by rw [z]; exact q1⟩
      · exact ⟨_, by rw [z]; exact q2⟩
    have cc := hRS e.1 x9 (by omega) (by omega) hf hx9
    have hWr : ∀ i, m' 149 i = m 149 i := fun i => (cc i).2.1
    rw [cn_cg (fun i _ => hWr i)]
    exact pp
theorem bk_f4 {own : Nat → Bool} {τ τ' : Tf} {m m' : Mt} (hX : ∀ t, 1170 ≤ t → t ≤ 1182 → own t = own 1170) (ht : tx9 m' = tx9 m) (hw : wl9 m' = wl9 m) (hj : m' 110 1 = m 110 1) (htp : ∀ j, m' 111 j = m 111 j) (hL : own 1100 = false → ∀ x, τ 1100 = some x → ∀ j, m' 23 j = m 23 j) (hK : ∀ t x, t = 1101 ∨ t = 1102 → own t = false → τ t = some x → ∀ i, m' 25 i = m 25 i ∧ m' 24 i = m 24 i ∧ m' 26 i = m 26 i) (hT : own 1120 = false → ∀ x, τ 1120 = some x → m' 110 29 = m 110 29 ∧ m' 110 28 = m 110 28 ∧ m' 110 27 = m 110 27 ∧ m' 110 30 = m 110 30 ∧ m' 1000 31 = m 1000 31) (hXS : ∀ t x, 1170 ≤ t → t ≤ 1177 → own t = false → τ t = some x → ∀ i : Nat, m' 143 i = m 143 i ∧ m' 144 i = m 144 i ∧ m' 145 i = m 145 i ∧ m' 146 i = m 146 i ∧ m' 149 i = m 149 i ∧ m' 148 i = m 148 i) (hRS : ∀ t x, 1160 ≤ t → t ≤ 1168 → own t = false → τ t = some x → ∀ i : Nat, m' 146 i = m 146 i ∧ m' 149 i = m 149 i ∧ m' 148 i = m 148 i) (HM : ∀ (i : Nat) (T : List Nat), CLT[i]? = some T → Mx9 own τ' τ T) (h : ∀ Fa Fv : Int, τ 1206 = some Fa → τ 1207 = some Fv → ∃ a : Nat, Fa = (a : Int) ∧ Fv = 16777216 * m 111 a + 65536 * m 111 (a + 1) + 256 * m 111 (a + 2) + m 111 (a + 3)) (h' : ∀ Fa Fv : Int, τ' 1206 = some Fa → τ' 1207 = some Fv → ∃ a : Nat, Fa = (a : Int) ∧ Fv = 16777216 * m' 111 a + 65536 * m' 111 (a + 1) + 256 * m' 111 (a + 2) + m' 111 (a + 3)) : ∀ Fa Fv : Int, (cbS own τ' τ) 1206 = some Fa → (cbS own τ' τ) 1207 = some Fv → ∃ a : Nat, Fa = (a : Int) ∧ Fv = 16777216 * m' 111 a + 65536 * m' 111 (a + 1) + 256 * m' 111 (a + 2) + m' 111 (a + 3) := by
  intro Fa Fv e0 e1
  rcases bkS (l := [(1206, Fa), (1207, Fv)]) ⟨e0, e1, trivial⟩ (HM 61 _ rfl) with ⟨hall, q0, q1, _⟩ | ⟨⟨e, he, hf⟩, q0, q1, _⟩
  · exact h' _ _ q0 q1
  · have pp := h _ _ q0 q1
    obtain ⟨a, p1, p2⟩ := pp
    refine ⟨a, p1, ?_⟩
    rw [htp, htp, htp, htp]
    exact p2
theorem SR_back {own : Nat → Bool} {τ τ' : Tf} {m m' : Mt} (hX : ∀ t, 1170 ≤ t → t ≤ 1182 → own t = own 1170) (ht : tx9 m' = tx9 m) (hw : wl9 m' = wl9 m) (hj : m' 110 1 = m 110 1) (htp : ∀ j, m' 111 j = m 111 j) (hL : own 1100 = false → ∀ x, τ 1100 = some x → ∀ j, m' 23 j = m 23 j) (hK : ∀ t x, t = 1101 ∨ t = 1102 → own t = false → τ t = some x → ∀ i, m' 25 i = m 25 i ∧ m' 24 i = m 24 i ∧ m' 26 i = m 26 i) (hT : own 1120 = false → ∀ x, τ 1120 = some x → m' 110 29 = m 110 29 ∧ m' 110 28 = m 110 28 ∧ m' 110 27 = m 110 27 ∧ m' 110 30 = m 110 30 ∧ m' 1000 31 = m 1000 31) (hXS : ∀ t x, 1170 ≤ t → t ≤ 1177 → own t = false → τ t = some x → ∀ i : Nat, m' 143 i = m 143 i ∧ m' 144 i = m 144 i ∧ m' 145 i = m 145 i ∧ m' 146 i = m 146 i ∧ m' 149 i = m 149 i ∧ m' 148 i = m 148 i) (hRS : ∀ t x, 1160 ≤ t → t ≤ 1168 → own t = false → τ t = some x → ∀ i : Nat, m' 146 i = m 146 i ∧ m' 149 i = m 149 i ∧ m' 148 i = m 148 i) (HM : ∀ (i : Nat) (T : List Nat), CLT[i]? = some T → Mx9 own τ' τ T) (hO : own 1199 = true) (hMA : τ' 1199 ≠ none → τ 1199 ≠ none) (hS : SR τ m) (hS' : SR τ' m') : SR (cbS own τ' τ) m' := by
  intro hM
  rw [cb_own hO] at hM
  obtain ⟨h0, k_tok, k_sc1, k_sc2, k_T, k_I, k_F, k_N, k_Y, k_Z, k_A, k_B, k_C, k_X, k_R, k_f4⟩ := hS (hMA hM)
  obtain ⟨h'0, k'_tok, k'_sc1, k'_sc2, k'_T, k'_I, k'_F, k'_N, k'_Y, k'_Z, k'_A, k'_B, k'_C, k'_X, k'_R, k'_f4⟩ := hS' hM
  have k_tok0 := k_tok
  obtain ⟨h_L, h_n, h_nF⟩ := k_tok0
  have k'_tok0 := k'_tok
  obtain ⟨h'_L, h'_n, h'_nF⟩ := k'_tok0
  have k_sc10 := k_sc1
  obtain ⟨h_qz, h_nz, h_s, h_ns, h_nE⟩ := k_sc10
  have k'_sc10 := k'_sc1
  obtain ⟨h'_qz, h'_nz, h'_s, h'_ns, h'_nE⟩ := k'_sc10
  have k_sc20 := k_sc2
  obtain ⟨h_ske, h_skv, h_sku, h_sw, h_swm, h_swu, h_sf, h_sg⟩ := k_sc20
  have k'_sc20 := k'_sc2
  obtain ⟨h'_ske, h'_skv, h'_sku, h'_sw, h'_swm, h'_swu, h'_sf, h'_sg⟩ := k'_sc20
  have k_T0 := k_T
  obtain ⟨h_T, h_TN, h_QZ⟩ := k_T0
  have k'_T0 := k'_T
  obtain ⟨h'_T, h'_TN, h'_QZ⟩ := k'_T0
  have k_I0 := k_I
  obtain ⟨h_p, h_pc, h_ip, h_iP, h_PC, h_PN⟩ := k_I0
  have k'_I0 := k'_I
  obtain ⟨h'_p, h'_pc, h'_ip, h'_iP, h'_PC, h'_PN⟩ := k'_I0
  have k_F0 := k_F
  obtain ⟨h_F0, h_F, h_F1, h_F2⟩ := k_F0
  have k'_F0 := k'_F
  obtain ⟨h'_F0, h'_F, h'_F1, h'_F2⟩ := k'_F0
  have k_N0 := k_N
  obtain ⟨h_N, h_Nk, h_V, h_Yq⟩ := k_N0
  have k'_N0 := k'_N
  obtain ⟨h'_N, h'_Nk, h'_V, h'_Yq⟩ := k'_N0
  have k_Y0 := k_Y
  obtain ⟨h_Y0, h_Y⟩ := k_Y0
  have k'_Y0 := k'_Y
  obtain ⟨h'_Y0, h'_Y⟩ := k'_Y0
  have k_Z0 := k_Z
  obtain ⟨h_Z0, h_Z1, h_Z⟩ := k_Z0
  have k'_Z0 := k'_Z
  obtain ⟨h'_Z0, h'_Z1, h'_Z⟩ := k'_Z0
  have k_A0 := k_A
  obtain ⟨h_A0, h_A⟩ := k_A0
  have k'_A0 := k'_A
  obtain ⟨h'_A0, h'_A⟩ := k'_A0
  have k_B0 := k_B
  obtain ⟨h_B0, h_B, h_Bd0, h_B26, h_B22, h_Bs⟩ := k_B0
  have k'_B0 := k'_B
  obtain ⟨h'_B0, h'_B, h'_Bd0, h'_B26, h'_B22, h'_Bs⟩ := k'_B0
  have k_C0 := k_C
  obtain ⟨h_C0, h_C, h_Ci0, h_Cp⟩ := k_C0
  have k'_C0 := k'_C
  obtain ⟨h'_C0, h'_C, h'_Ci0, h'_Cp⟩ := k'_C0
  have k_X0 := k_X
  obtain ⟨h_X0a, h_X0, h_X, h_Xe⟩ := k_X0
  have k'_X0 := k'_X
  obtain ⟨h'_X0a, h'_X0, h'_X, h'_Xe⟩ := k'_X0
  have k_R0 := k_R
  obtain ⟨h_rb, h_rh, h_rw, h_rg, h_rd, h_rc, h_rq⟩ := k_R0
  have k'_R0 := k'_R
  obtain ⟨h'_rb, h'_rh, h'_rw, h'_rg, h'_rd, h'_rc, h'_rq⟩ := k'_R0
  have h_f4 := k_f4
  have h'_f4 := k'_f4
  exact ⟨h'0, ⟨bk_L hX ht hw hj htp hL hK hT hXS hRS HM h_L h'_L, bk_n hX ht hw hj htp hL hK hT hXS hRS HM h_n h'_n, bk_nF hX ht hw hj htp hL hK hT hXS hRS HM h_nF h'_nF⟩, ⟨bk_qz hX ht hw hj htp hL hK hT hXS hRS HM h_qz h'_qz, bk_nz hX ht hw hj htp hL hK hT hXS hRS HM h_nz h'_nz, bk_s hX ht hw hj htp hL hK hT hXS hRS HM h_s h'_s, bk_ns hX ht hw hj htp hL hK hT hXS hRS HM h_ns h'_ns, bk_nE hX ht hw hj htp hL hK hT hXS hRS HM h_nE h'_nE⟩, ⟨bk_ske hX ht hw hj htp hL hK hT hXS hRS HM h_ske h'_ske, bk_skv hX ht hw hj htp hL hK hT hXS hRS HM h_skv h'_skv, bk_sku hX ht hw hj htp hL hK hT hXS hRS HM h_sku h'_sku, bk_sw hX ht hw hj htp hL hK hT hXS hRS HM h_sw h'_sw, bk_swm hX ht hw hj htp hL hK hT hXS hRS HM h_swm h'_swm, bk_swu hX ht hw hj htp hL hK hT hXS hRS HM h_swu h'_swu, bk_sf hX ht hw hj htp hL hK hT hXS hRS HM h_sf h'_sf, bk_sg hX ht hw hj htp hL hK hT hXS hRS HM h_sg h'_sg⟩, ⟨bk_T hX ht hw hj htp hL hK hT hXS hRS HM h_T h'_T, bk_TN hX ht hw hj htp hL hK hT hXS hRS HM h_TN h'_TN, bk_QZ hX ht hw hj htp hL hK hT hXS hRS HM h_QZ h'_QZ⟩, ⟨bk_p hX ht hw hj htp hL hK hT hXS hRS HM h_p h'_p, bk_pc hX ht hw hj htp hL hK hT hXS hRS HM h_pc h'_pc, bk_ip hX ht hw hj htp hL hK hT hXS hRS HM h_ip h'_ip, bk_iP hX ht hw hj htp hL hK hT hXS hRS HM h_iP h'_iP, bk_PC hX ht hw hj htp hL hK hT hXS hRS HM h_PC h'_PC, bk_PN hX ht hw hj htp hL hK hT hXS hRS HM h_PN h'_PN⟩, ⟨bk_F0 hX ht hw hj htp hL hK hT hXS hRS HM h_F0 h'_F0, bk_F hX ht hw hj htp hL hK hT hXS hRS HM h_F h'_F, bk_F1 hX ht hw hj htp hL hK hT hXS hRS HM h_F1 h'_F1, bk_F2 hX ht hw hj htp hL hK hT hXS hRS HM h_F2 h'_F2⟩, ⟨bk_N hX ht hw hj htp hL hK hT hXS hRS HM h_N h'_N, bk_Nk hX ht hw hj htp hL hK hT hXS hRS HM h_Nk h'_Nk, bk_V hX ht hw hj htp hL hK hT hXS hRS HM h_V h'_V, bk_Yq hX ht hw hj htp hL hK hT hXS hRS HM h_Yq h'_Yq⟩, ⟨bk_Y0 hX ht hw hj htp hL hK hT hXS hRS HM h_Y0 h'_Y0, bk_Y hX ht hw hj htp hL hK hT hXS hRS HM h_Y h'_Y⟩, ⟨bk_Z0 hX ht hw hj htp hL hK hT hXS hRS HM h_Z0 h'_Z0, bk_Z1 hX ht hw hj htp hL hK hT hXS hRS HM h_Z1 h'_Z1, bk_Z hX ht hw hj htp hL hK hT hXS hRS HM h_Z h'_Z⟩, ⟨bk_A0 hX ht hw hj htp hL hK hT hXS hRS HM h_A0 h'_A0, bk_A hX ht hw hj htp hL hK hT hXS hRS HM h_A h'_A⟩, ⟨bk_B0 hX ht hw hj htp hL hK hT hXS hRS HM h_B0 h'_B0, bk_B hX ht hw hj htp hL hK hT hXS hRS HM h_B h'_B, bk_Bd0 hX ht hw hj htp hL hK hT hXS hRS HM h_Bd0 h'_Bd0, bk_B26 hX ht hw hj htp hL hK hT hXS hRS HM h_B26 h'_B26, bk_B22 hX ht hw hj htp hL hK hT hXS hRS HM h_B22 h'_B22, bk_Bs hX ht hw hj htp hL hK hT hXS hRS HM h_Bs h'_Bs⟩, ⟨bk_C0 hX ht hw hj htp hL hK hT hXS hRS HM h_C0 h'_C0, bk_C hX ht hw hj htp hL hK hT hXS hRS HM h_C h'_C, bk_Ci0 hX ht hw hj htp hL hK hT hXS hRS HM h_Ci0 h'_Ci0, bk_Cp hX ht hw hj htp hL hK hT hXS hRS HM h_Cp h'_Cp⟩, ⟨bk_X0a hX ht hw hj htp hL hK hT hXS hRS HM h_X0a h'_X0a, bk_X0 hX ht hw hj htp hL hK hT hXS hRS HM h_X0 h'_X0, bk_X hX ht hw hj htp hL hK hT hXS hRS HM h_X h'_X, bk_Xe hX ht hw hj htp hL hK hT hXS hRS HM h_Xe h'_Xe⟩, ⟨bk_rb hX ht hw hj htp hL hK hT hXS hRS HM h_rb h'_rb, bk_rh hX ht hw hj htp hL hK hT hXS hRS HM h_rh h'_rh, bk_rw hX ht hw hj htp hL hK hT hXS hRS HM h_rw h'_rw, bk_rg hX ht hw hj htp hL hK hT hXS hRS HM h_rg h'_rg, bk_rd hX ht hw hj htp hL hK hT hXS hRS HM h_rd h'_rd, bk_rc hX ht hw hj htp hL hK hT hXS hRS HM h_rc h'_rc, bk_rq hX ht hw hj htp hL hK hT hXS hRS HM h_rq h'_rq⟩, bk_f4 hX ht hw hj htp hL hK hT hXS hRS HM h_f4 h'_f4⟩
theorem SR_copy {τ τ' : Tf} {m m' : Mt} (hS : SR τ m) (hM : τ 1199 ≠ none) (hτ : ∀ t, t ≠ 1100 → τ' t = τ t) (hno : ∀ t, t ≠ 1100 → (t < 1197 ∨ 1199 < t) → τ t = none) (hL : τ' 1100 = some (m 110 1)) (hm : ∀ k j, k ≠ 23 → m' k j = m k j) (ht : ∀ j : Nat, (j : Int) < m 110 1 → m' 23 j = m 111 j) : SR τ' m' := by
  intro _
  have no9 : ∀ {t : Nat} {z : Int}, t ≠ 1100 → (t < 1197 ∨ 1199 < t) → True → τ' t = some z → False := fun {t z} h1 h2 _ e => by
    rw [hτ t h1, hno t h1 h2] at e
    cases e
  have hA : m' 111 = m 111 := funext fun j => hm 111 j (by decide)
  have hB : m' 128 = m 128 := funext fun j => hm 128 j (by decide)
  have hX : tx9 m' = tx9 m := by
    show (fun j => m' 111 j, (m' 110 1).toNat) = (fun j => m 111 j, (m 110 1).toNat)
    rw [hm 110 1 (by decide), hA]
  have hW : wl9 m' = wl9 m := by
    show (m' 110 6, (m' 110 7, fun v => decide (v < m' 110 20) && decide (m' 128 v.toNat ≤ 0))) = (m 110 6, (m 110 7, fun v => decide (v < m 110 20) && decide (m 128 v.toNat ≤ 0)))
    rw [hm 110 6 (by decide), hm 110 7 (by decide), hm 110 20 (by decide), hB]
  obtain ⟨h0, k_tok, k_sc1, k_sc2, k_T, k_I, k_F, k_N, k_Y, k_Z, k_A, k_B, k_C, k_X, k_R, k_f4⟩ := hS hM
  have k_Z0 := k_Z
  obtain ⟨h_Z0, h_Z1, h_Z⟩ := k_Z0
  exact ⟨by rw [hm 110 1 (by decide)]; exact h0, ⟨fun _ e0 => (by
      rw [hL] at e0
      cases Option.some.inj e0
      exact ⟨(hm 110 1 (by decide)).symm, fun j hj => (ht j hj).trans (hm 111 j (by decide)).symm⟩), fun _ e0 => (no9 (t := 1101) (by decide) (by decide) (by decide) e0).elim, fun _ e0 => (no9 (t := 1102) (by decide) (by decide) (by decide) e0).elim⟩, ⟨fun _ _ e0 e1 => (no9 (t := 1103) (by decide) (by decide) (by decide) e0).elim, fun _ _ e0 e1 => (no9 (t := 1101) (by decide) (by decide) (by decide) e0).elim, fun _ e0 => (no9 (t := 1105) (by decide) (by decide) (by decide) e0).elim, fun _ _ e0 e1 => (no9 (t := 1101) (by decide) (by decide) (by decide) e0).elim, fun _ _ e0 e1 => (no9 (t := 1101) (by decide) (by decide) (by decide) e0).elim⟩, ⟨fun _ _ _ e0 e1 e2 => (no9 (t := 1105) (by decide) (by decide) (by decide) e0).elim, fun _ _ _ e0 e1 e2 => (no9 (t := 1105) (by decide) (by decide) (by decide) e0).elim, fun _ _ _ e0 e1 e2 => (no9 (t := 1105) (by decide) (by decide) (by decide) e0).elim, fun _ _ e0 e1 => (no9 (t := 1105) (by decide) (by decide) (by decide) e0).elim, fun _ _ _ e0 e1 e2 => (no9 (t := 1105) (by decide) (by decide) (by decide) e0).elim, fun _ _ _ e0 e1 e2 => (no9 (t := 1105) (by decide) (by decide) (by decide) e0).elim, fun _ _ _ _ e0 e1 e2 e3 => (no9 (t := 1105) (by decide) (by decide) (by decide) e0).elim, fun _ _ _ _ e0 e1 e2 e3 => (no9 (t := 1105) (by decide) (by decide) (by decide) e0).elim⟩, ⟨fun _ e0 => (no9 (t := 1120) (by decide) (by decide) (by decide) e0).elim, fun _ _ e0 e1 => (no9 (t := 1120) (by decide) (by decide) (by decide) e0).elim, fun _ _ e0 e1 => (no9 (t := 1128) (by decide) (by decide) (by decide) e0).elim⟩, ⟨fun _ e0 => (no9 (t := 1123) (by decide) (by decide) (by decide) e0).elim, fun _ _ e0 e1 => (no9 (t := 1123) (by decide) (by decide) (by decide) e0).elim, fun _ _ _ e0 e1 e2 => (no9 (t := 1102) (by decide) (by decide) (by decide) e0).elim, fun _ _ _ e0 e1 e2 => (no9 (t := 1122) (by decide) (by decide) (by decide) e0).elim, fun _ _ e0 e1 => (no9 (t := 1125) (by decide) (by decide) (by decide) e0).elim, fun _ _ _ e0 e1 e2 => (no9 (t := 1125) (by decide) (by decide) (by decide) e0).elim⟩, ⟨fun _ _ e0 e1 => (no9 (t := 1150) (by decide) (by decide) (by decide) e0).elim, fun _ _ _ e0 e1 e2 => (no9 (t := 1150) (by decide) (by decide) (by decide) e0).elim, fun _ _ e0 e1 => (no9 (t := 1150) (by decide) (by decide) (by decide) e0).elim, fun _ _ e0 e1 => (no9 (t := 1153) (by decide) (by decide) (by decide) e0).elim⟩, ⟨fun _ _ _ e0 e1 e2 => (no9 (t := 1184) (by decide) (by decide) (by decide) e0).elim, fun _ _ _ _ _ e0 e1 e2 e3 e4 => (no9 (t := 1184) (by decide) (by decide) (by decide) e0).elim, fun _ _ e0 e1 => (no9 (t := 1208) (by decide) (by decide) (by decide) e0).elim, fun _ _ e0 e1 => (no9 (t := 1208) (by decide) (by decide) (by decide) e0).elim⟩, ⟨fun _ _ _ e0 e1 e2 => (no9 (t := 1190) (by decide) (by decide) (by decide) e0).elim, fun _ _ _ _ e0 e1 e2 e3 => (no9 (t := 1190) (by decide) (by decide) (by decide) e0).elim⟩, ⟨fun _ e0 => (by rw [hX, hW]; exact h_Z0 _ ((hτ 1197 (by decide)).symm.trans e0)), fun _ _ e0 e1 => (by rw [hX, hW]; exact h_Z1 _ _ ((hτ 1197 (by decide)).symm.trans e0) ((hτ 1198 (by decide)).symm.trans e1)), fun _ _ _ _ _ e0 e1 e2 e3 e4 => (no9 (t := 1194) (by decide) (by decide) (by decide) e0).elim⟩, ⟨fun _ _ _ _ _ e0 e1 e2 e3 e4 => (no9 (t := 1102) (by decide) (by decide) (by decide) e0).elim, fun _ _ _ _ _ _ e0 e1 e2 e3 e4 e5 => (no9 (t := 1102) (by decide) (by decide) (by decide) e0).elim⟩, ⟨fun _ _ _ _ _ e0 e1 e2 e3 e4 => (no9 (t := 1102) (by decide) (by decide) (by decide) e0).elim, fun _ _ _ _ _ _ e0 e1 e2 e3 e4 e5 => (no9 (t := 1102) (by decide) (by decide) (by decide) e0).elim, fun _ e0 => (no9 (t := 1140) (by decide) (by decide) (by decide) e0).elim, fun _ _ _ e0 e1 e2 => (no9 (t := 1140) (by decide) (by decide) (by decide) e0).elim, fun _ _ _ _ e0 e1 e2 e3 => (no9 (t := 1140) (by decide) (by decide) (by decide) e0).elim, fun _ _ _ e0 e1 e2 => (no9 (t := 1102) (by decide) (by decide) (by decide) e0).elim⟩, ⟨fun _ _ _ _ _ e0 e1 e2 e3 e4 => (no9 (t := 1102) (by decide) (by decide) (by decide) e0).elim, fun _ _ _ _ _ _ e0 e1 e2 e3 e4 e5 => (no9 (t := 1102) (by decide) (by decide) (by decide) e0).elim, fun _ e0 => (no9 (t := 1201) (by decide) (by decide) (by decide) e0).elim, fun _ _ e0 e1 => (no9 (t := 1201) (by decide) (by decide) (by decide) e0).elim⟩, ⟨fun _ _ e0 e1 => (no9 (t := 1170) (by decide) (by decide) (by decide) e0).elim, fun _ _ _ e0 e1 e2 => (no9 (t := 1170) (by decide) (by decide) (by decide) e0).elim, fun _ _ _ _ _ _ _ _ e0 e1 e2 e3 e4 e5 e6 e7 => (no9 (t := 1170) (by decide) (by decide) (by decide) e0).elim, fun _ _ _ e0 e1 e2 => (no9 (t := 1155) (by decide) (by decide) (by decide) e0).elim⟩, ⟨fun _ _ e0 e1 => (no9 (t := 1160) (by decide) (by decide) (by decide) e0).elim, fun _ _ _ e0 e1 e2 => (no9 (t := 1160) (by decide) (by decide) (by decide) e0).elim, fun _ _ _ _ _ e0 e1 e2 e3 e4 => (no9 (t := 1160) (by decide) (by decide) (by decide) e0).elim, fun _ _ _ e0 e1 e2 => (no9 (t := 1160) (by decide) (by decide) (by decide) e0).elim, fun _ _ _ e0 e1 e2 => (no9 (t := 1160) (by decide) (by decide) (by decide) e0).elim, fun _ _ _ _ _ _ e0 e1 e2 e3 e4 e5 => (no9 (t := 1160) (by decide) (by decide) (by decide) e0).elim, fun _ _ _ e0 e1 e2 => (no9 (t := 1160) (by decide) (by decide) (by decide) e0).elim⟩, fun _ _ e0 e1 => (no9 (t := 1206) (by decide) (by decide) (by decide) e0).elim⟩
end
