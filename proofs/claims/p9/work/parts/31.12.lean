theorem ka_Wo_hasDone_2_0 : chkA GX 3000 193 ct_Wo_hasDone 2 ca_Wo_hasDone_2_0 = true := by decide +kernel
theorem kk_Wo_hasDone : Chk GX 3000 193 ct_Wo_hasDone := ⟨ke_Wo_hasDone, fun pc as h => (show BT.AllP (fun pc as => ∀ a ∈ as, chkA GX 3000 193 ct_Wo_hasDone pc a = true) ct_Wo_hasDone.cut from ⟨⟨List.forall_mem_cons.mpr ⟨ka_Wo_hasDone_2_0, fun a ha => by cases ha⟩, trivial⟩, trivial⟩).at h⟩
theorem ke_H_needed : chkE GX 3000 194 ct_H_needed = true := by decide +kernel
theorem kk_H_needed : Chk GX 3000 194 ct_H_needed := ⟨ke_H_needed, fun pc as h => (show BT.AllP (fun pc as => ∀ a ∈ as, chkA GX 3000 194 ct_H_needed pc a = true) ct_H_needed.cut from trivial).at h⟩
theorem ke_H_tries : chkE GX 3000 195 ct_H_tries = true := by decide +kernel
theorem kk_H_tries : Chk GX 3000 195 ct_H_tries := ⟨ke_H_tries, fun pc as h => (show BT.AllP (fun pc as => ∀ a ∈ as, chkA GX 3000 195 ct_H_tries pc a = true) ct_H_tries.cut from trivial).at h⟩
theorem ke_Le_lendGiving : chkE GX 3000 196 ct_Le_lendGiving = true := by decide +kernel
theorem ka_Le_lendGiving_3_0 : chkA GX 3000 196 ct_Le_lendGiving 3 ca_Le_lendGiving_3_0 = true := by decide +kernel
theorem kk_Le_lendGiving : Chk GX 3000 196 ct_Le_lendGiving := ⟨ke_Le_lendGiving, fun pc as h => (show BT.AllP (fun pc as => ∀ a ∈ as, chkA GX 3000 196 ct_Le_lendGiving pc a = true) ct_Le_lendGiving.cut from ⟨⟨List.forall_mem_cons.mpr ⟨ka_Le_lendGiving_3_0, fun a ha => by cases ha⟩, trivial⟩, trivial⟩).at h⟩
theorem ke_Le_hasRight : chkE GX 3000 197 ct_Le_hasRight = true := by decide +kernel
theorem kk_Le_hasRight : Chk GX 3000 197 ct_Le_hasRight := ⟨ke_Le_hasRight, fun pc as h => (show BT.AllP (fun pc as => ∀ a ∈ as, chkA GX 3000 197 ct_Le_hasRight pc a = true) ct_Le_hasRight.cut from trivial).at h⟩
theorem ke_Le_weighAll : chkE GX 3000 198 ct_Le_weighAll = true := by decide +kernel
theorem ka_Le_weighAll_2_0 : chkA GX 3000 198 ct_Le_weighAll 2 ca_Le_weighAll_2_0 = true := by decide +kernel
theorem ka_Le_weighAll_26_0 : chkA GX 3000 198 ct_Le_weighAll 26 ca_Le_weighAll_26_0 = true := by decide +kernel
theorem ka_Le_weighAll_32_0 : chkA GX 3000 198 ct_Le_weighAll 32 ca_Le_weighAll_32_0 = true := by decide +kernel
theorem kk_Le_weighAll : Chk GX 3000 198 ct_Le_weighAll := ⟨ke_Le_weighAll, fun pc as h => (show BT.AllP (fun pc as => ∀ a ∈ as, chkA GX 3000 198 ct_Le_weighAll pc a = true) ct_Le_weighAll.cut from ⟨⟨List.forall_mem_cons.mpr ⟨ka_Le_weighAll_2_0, fun a ha => by cases ha⟩, trivial⟩, ⟨List.forall_mem_cons.mpr ⟨ka_Le_weighAll_26_0, fun a ha => by cases ha⟩, trivial⟩, ⟨List.forall_mem_cons.mpr ⟨ka_Le_weighAll_32_0, fun a ha => by cases ha⟩, trivial⟩, trivial⟩).at h⟩
theorem ke_H_lend : chkE GX 3000 200 ct_H_lend = true := by decide +kernel
theorem kk_H_lend : Chk GX 3000 200 ct_H_lend := ⟨ke_H_lend, fun pc as h => (show BT.AllP (fun pc as => ∀ a ∈ as, chkA GX 3000 200 ct_H_lend pc a = true) ct_H_lend.cut from trivial).at h⟩
theorem ke_H_endLend : chkE GX 3000 201 ct_H_endLend = true := by decide +kernel
theorem kk_H_endLend : Chk GX 3000 201 ct_H_endLend := ⟨ke_H_endLend, fun pc as h => (show BT.AllP (fun pc as => ∀ a ∈ as, chkA GX 3000 201 ct_H_endLend pc a = true) ct_H_endLend.cut from trivial).at h⟩
theorem ke_Le_keepChain : chkE GX 3000 202 ct_Le_keepChain = true := by decide +kernel
theorem ka_Le_keepChain_33_0 : chkA GX 3000 202 ct_Le_keepChain 33 ca_Le_keepChain_33_0 = true := by decide +kernel
theorem kk_Le_keepChain : Chk GX 3000 202 ct_Le_keepChain := ⟨ke_Le_keepChain, fun pc as h => (show BT.AllP (fun pc as => ∀ a ∈ as, chkA GX 3000 202 ct_Le_keepChain pc a = true) ct_Le_keepChain.cut from ⟨⟨List.forall_mem_cons.mpr ⟨ka_Le_keepChain_33_0, fun a ha => by cases ha⟩, trivial⟩, trivial⟩).at h⟩
theorem ke_H_stands : chkE GX 3000 203 ct_H_stands = true := by decide +kernel
theorem kk_H_stands : Chk GX 3000 203 ct_H_stands := ⟨ke_H_stands, fun pc as h => (show BT.AllP (fun pc as => ∀ a ∈ as, chkA GX 3000 203 ct_H_stands pc a = true) ct_H_stands.cut from trivial).at h⟩
theorem ke_H_chain : chkE GX 3000 204 ct_H_chain = true := by decide +kernel
theorem kk_H_chain : Chk GX 3000 204 ct_H_chain := ⟨ke_H_chain, fun pc as h => (show BT.AllP (fun pc as => ∀ a ∈ as, chkA GX 3000 204 ct_H_chain pc a = true) ct_H_chain.cut from trivial).at h⟩
theorem ke_Le_spendChain : chkE GX 3000 205 ct_Le_spendChain = true := by decide +kernel
theorem ka_Le_spendChain_2_0 : chkA GX 3000 205 ct_Le_spendChain 2 ca_Le_spendChain_2_0 = true := by decide +kernel
theorem kk_Le_spendChain : Chk GX 3000 205 ct_Le_spendChain := ⟨ke_Le_spendChain, fun pc as h => (show BT.AllP (fun pc as => ∀ a ∈ as, chkA GX 3000 205 ct_Le_spendChain pc a = true) ct_Le_spendChain.cut from ⟨⟨List.forall_mem_cons.mpr ⟨ka_Le_spendChain_2_0, fun a ha => by cases ha⟩, trivial⟩, trivial⟩).at h⟩
theorem ke_H_useRight : chkE GX 3000 206 ct_H_useRight = true := by decide +kernel
theorem kk_H_useRight : Chk GX 3000 206 ct_H_useRight := ⟨ke_H_useRight, fun pc as h => (show BT.AllP (fun pc as => ∀ a ∈ as, chkA GX 3000 206 ct_H_useRight pc a = true) ct_H_useRight.cut from trivial).at h⟩
theorem ke_H_lendOf : chkE GX 3000 207 ct_H_lendOf = true := by decide +kernel
theorem kk_H_lendOf : Chk GX 3000 207 ct_H_lendOf := ⟨ke_H_lendOf, fun pc as h => (show BT.AllP (fun pc as => ∀ a ∈ as, chkA GX 3000 207 ct_H_lendOf pc a = true) ct_H_lendOf.cut from trivial).at h⟩
theorem ke_H_key : chkE GX 3000 210 ct_H_key = true := by decide +kernel
theorem kk_H_key : Chk GX 3000 210 ct_H_key := ⟨ke_H_key, fun pc as h => (show BT.AllP (fun pc as => ∀ a ∈ as, chkA GX 3000 210 ct_H_key pc a = true) ct_H_key.cut from trivial).at h⟩
theorem ke_Le_pass : chkE GX 3000 211 ct_Le_pass = true := by decide +kernel
theorem kk_Le_pass : Chk GX 3000 211 ct_Le_pass := ⟨ke_Le_pass, fun pc as h => (show BT.AllP (fun pc as => ∀ a ∈ as, chkA GX 3000 211 ct_Le_pass pc a = true) ct_Le_pass.cut from trivial).at h⟩
theorem ke_Le_goRound : chkE GX 3000 212 ct_Le_goRound = true := by decide +kernel
theorem ka_Le_goRound_2_0 : chkA GX 3000 212 ct_Le_goRound 2 ca_Le_goRound_2_0 = true := by decide +kernel
theorem ka_Le_goRound_10_0 : chkA GX 3000 212 ct_Le_goRound 10 ca_Le_goRound_10_0 = true := by decide +kernel
theorem ka_Le_goRound_18_0 : chkA GX 3000 212 ct_Le_goRound 18 ca_Le_goRound_18_0 = true := by decide +kernel
theorem kk_Le_goRound : Chk GX 3000 212 ct_Le_goRound := ⟨ke_Le_goRound, fun pc as h => (show BT.AllP (fun pc as => ∀ a ∈ as, chkA GX 3000 212 ct_Le_goRound pc a = true) ct_Le_goRound.cut from ⟨⟨List.forall_mem_cons.mpr ⟨ka_Le_goRound_2_0, fun a ha => by cases ha⟩, trivial⟩, ⟨List.forall_mem_cons.mpr ⟨ka_Le_goRound_10_0, fun a ha => by cases ha⟩, trivial⟩, ⟨List.forall_mem_cons.mpr ⟨ka_Le_goRound_18_0, fun a ha => by cases ha⟩, trivial⟩, trivial⟩).at h⟩
theorem ke_Le_countGains : chkE GX 3000 213 ct_Le_countGains = true := by decide +kernel
theorem ka_Le_countGains_24_0 : chkA GX 3000 213 ct_Le_countGains 24 ca_Le_countGains_24_0 = true := by decide +kernel
theorem ka_Le_countGains_51_0 : chkA GX 3000 213 ct_Le_countGains 51 ca_Le_countGains_51_0 = true := by decide +kernel
theorem kk_Le_countGains : Chk GX 3000 213 ct_Le_countGains := ⟨ke_Le_countGains, fun pc as h => (show BT.AllP (fun pc as => ∀ a ∈ as, chkA GX 3000 213 ct_Le_countGains pc a = true) ct_Le_countGains.cut from ⟨⟨List.forall_mem_cons.mpr ⟨ka_Le_countGains_24_0, fun a ha => by cases ha⟩, trivial⟩, ⟨List.forall_mem_cons.mpr ⟨ka_Le_countGains_51_0, fun a ha => by cases ha⟩, trivial⟩, trivial⟩).at h⟩
theorem ke_Le_gainsUntil : chkE GX 3000 214 ct_Le_gainsUntil = true := by decide +kernel
theorem ka_Le_gainsUntil_33_0 : chkA GX 3000 214 ct_Le_gainsUntil 33 ca_Le_gainsUntil_33_0 = true := by decide +kernel
theorem kk_Le_gainsUntil : Chk GX 3000 214 ct_Le_gainsUntil := ⟨ke_Le_gainsUntil, fun pc as h => (show BT.AllP (fun pc as => ∀ a ∈ as, chkA GX 3000 214 ct_Le_gainsUntil pc a = true) ct_Le_gainsUntil.cut from ⟨⟨List.forall_mem_cons.mpr ⟨ka_Le_gainsUntil_33_0, fun a ha => by cases ha⟩, trivial⟩, trivial⟩).at h⟩
theorem ke_H_ever : chkE GX 3000 215 ct_H_ever = true := by decide +kernel
theorem kk_H_ever : Chk GX 3000 215 ct_H_ever := ⟨ke_H_ever, fun pc as h => (show BT.AllP (fun pc as => ∀ a ∈ as, chkA GX 3000 215 ct_H_ever pc a = true) ct_H_ever.cut from trivial).at h⟩
theorem ke_H_gain : chkE GX 3000 216 ct_H_gain = true := by decide +kernel
theorem kk_H_gain : Chk GX 3000 216 ct_H_gain := ⟨ke_H_gain, fun pc as h => (show BT.AllP (fun pc as => ∀ a ∈ as, chkA GX 3000 216 ct_H_gain pc a = true) ct_H_gain.cut from trivial).at h⟩
theorem ke_H_label : chkE GX 3000 217 ct_H_label = true := by decide +kernel
theorem kk_H_label : Chk GX 3000 217 ct_H_label := ⟨ke_H_label, fun pc as h => (show BT.AllP (fun pc as => ∀ a ∈ as, chkA GX 3000 217 ct_H_label pc a = true) ct_H_label.cut from trivial).at h⟩
theorem ke_Fl_reachesOut : chkE GX 3000 222 ct_Fl_reachesOut = true := by decide +kernel
theorem ka_Fl_reachesOut_8_0 : chkA GX 3000 222 ct_Fl_reachesOut 8 ca_Fl_reachesOut_8_0 = true := by decide +kernel
theorem kk_Fl_reachesOut : Chk GX 3000 222 ct_Fl_reachesOut := ⟨ke_Fl_reachesOut, fun pc as h => (show BT.AllP (fun pc as => ∀ a ∈ as, chkA GX 3000 222 ct_Fl_reachesOut pc a = true) ct_Fl_reachesOut.cut from ⟨⟨List.forall_mem_cons.mpr ⟨ka_Fl_reachesOut_8_0, fun a ha => by cases ha⟩, trivial⟩, trivial⟩).at h⟩
theorem ke_H_statement : chkE GX 3000 224 ct_H_statement = true := by decide +kernel
theorem kk_H_statement : Chk GX 3000 224 ct_H_statement := ⟨ke_H_statement, fun pc as h => (show BT.AllP (fun pc as => ∀ a ∈ as, chkA GX 3000 224 ct_H_statement pc a = true) ct_H_statement.cut from trivial).at h⟩
theorem ke_H_erase : chkE GX 3000 225 ct_H_erase = true := by decide +kernel
theorem kk_H_erase : Chk GX 3000 225 ct_H_erase := ⟨ke_H_erase, fun pc as h => (show BT.AllP (fun pc as => ∀ a ∈ as, chkA GX 3000 225 ct_H_erase pc a = true) ct_H_erase.cut from trivial).at h⟩
theorem ke_Fl_isTight : chkE GX 3000 227 ct_Fl_isTight = true := by decide +kernel
theorem ka_Fl_isTight_6_0 : chkA GX 3000 227 ct_Fl_isTight 6 ca_Fl_isTight_6_0 = true := by decide +kernel
theorem kk_Fl_isTight : Chk GX 3000 227 ct_Fl_isTight := ⟨ke_Fl_isTight, fun pc as h => (show BT.AllP (fun pc as => ∀ a ∈ as, chkA GX 3000 227 ct_Fl_isTight pc a = true) ct_Fl_isTight.cut from ⟨⟨List.forall_mem_cons.mpr ⟨ka_Fl_isTight_6_0, fun a ha => by cases ha⟩, trivial⟩, trivial⟩).at h⟩
theorem ke_Fl_firstLoose : chkE GX 3000 228 ct_Fl_firstLoose = true := by decide +kernel
theorem ka_Fl_firstLoose_2_0 : chkA GX 3000 228 ct_Fl_firstLoose 2 ca_Fl_firstLoose_2_0 = true := by decide +kernel
theorem kk_Fl_firstLoose : Chk GX 3000 228 ct_Fl_firstLoose := ⟨ke_Fl_firstLoose, fun pc as h => (show BT.AllP (fun pc as => ∀ a ∈ as, chkA GX 3000 228 ct_Fl_firstLoose pc a = true) ct_Fl_firstLoose.cut from ⟨⟨List.forall_mem_cons.mpr ⟨ka_Fl_firstLoose_2_0, fun a ha => by cases ha⟩, trivial⟩, trivial⟩).at h⟩
theorem ke_H_tight : chkE GX 3000 229 ct_H_tight = true := by decide +kernel
theorem kk_H_tight : Chk GX 3000 229 ct_H_tight := ⟨ke_H_tight, fun pc as h => (show BT.AllP (fun pc as => ∀ a ∈ as, chkA GX 3000 229 ct_H_tight pc a = true) ct_H_tight.cut from trivial).at h⟩
