/-! ===== the tables are right ===== -/
def codeChk (b : ByteArray) (nl : Nat) (t : BT (Ix × Nat)) : Bool := t.all fun pc r => decide (decode b pc = .ok (enc r.1, r.2)) && (r.1.fits nl && (Nat.beq r.1.len 0 || Nat.beq r.1.len r.2))
def MeOk (m : Nat) (e : Me) : Prop := codeChk e.y.2.1 e.y.2.2.1 e.code = true ∧ e.y.1.cls = cname e.own ∧ t_room.get m = some e.room ∧ (((e.room.1 ≤ e.y.2.2.2.2.frames ∧ e.room.2.1 ≤ e.y.2.2.2.2.locals) ∧ ((e.room.1 ≠ 200 → e.y.2.2.2.2.frames = e.room.1 ∧ e.y.2.2.2.2.locals = e.room.2.1) ∧ (e.room.1 = 200 → e.y.2.2.2.2.frames ≤ 600 ∧ e.y.2.2.2.2.locals ≤ 20000)) ∧ e.y.2.2.2.2.cells = 0 ∧ e.y.2.2.2.2.slots = 0) ∧ (e.y.2.2.1 = e.room.2.2.1 ∧ plainName e.y.1.cls = true) ∧ (e.room.2.2.2.1 = 0 → e.y.2.2.2.1 = none) ∧ (e.room.2.2.2.1 = 1 → e.y.2.2.2.1 = some .int) ∧ (e.room.2.2.2.1 = 2 → e.y.2.2.2.1 = some .boolean) ∧ (e.room.2.2.2.1 = 3 → e.y.2.2.2.1 = some .long) ∧ (e.room.2.2.2.1 = 4 → e.y.2.2.2.1 = some .char) ∧ (e.room.2.2.2.1 = 5 → e.y.2.2.2.1 = some .byte))
theorem cc_H_feed : codeChk Y_H_feed.2.1 Y_H_feed.2.2.1 c_H_feed = true := by decide +kernel
theorem me_H_feed : MeOk 1 ⟨Y_H_feed, c_H_feed, 1, (1, (40, (5, (1, 0))))⟩ := ⟨cc_H_feed, rfl, by decide +kernel, ⟨⟨by decide, by decide⟩, ⟨fun _ => ⟨rfl, rfl⟩, fun q => absurd q (by decide)⟩, rfl, rfl⟩, ⟨rfl, by decide⟩, fun q => absurd q (by decide), fun _ => rfl, fun q => absurd q (by decide), fun q => absurd q (by decide), fun q => absurd q (by decide), fun q => absurd q (by decide)⟩
theorem cc_H_cut : codeChk Y_H_cut.2.1 Y_H_cut.2.2.1 c_H_cut = true := by decide +kernel
theorem me_H_cut : MeOk 2 ⟨Y_H_cut, c_H_cut, 1, (1, (40, (3, (1, 0))))⟩ := ⟨cc_H_cut, rfl, by decide +kernel, ⟨⟨by decide, by decide⟩, ⟨fun _ => ⟨rfl, rfl⟩, fun q => absurd q (by decide)⟩, rfl, rfl⟩, ⟨rfl, by decide⟩, fun q => absurd q (by decide), fun _ => rfl, fun q => absurd q (by decide), fun q => absurd q (by decide), fun q => absurd q (by decide), fun q => absurd q (by decide)⟩
theorem cc_H_tick : codeChk Y_H_tick.2.1 Y_H_tick.2.2.1 c_H_tick = true := by decide +kernel
theorem me_H_tick : MeOk 3 ⟨Y_H_tick, c_H_tick, 1, (1, (40, (2, (1, 0))))⟩ := ⟨cc_H_tick, rfl, by decide +kernel, ⟨⟨by decide, by decide⟩, ⟨fun _ => ⟨rfl, rfl⟩, fun q => absurd q (by decide)⟩, rfl, rfl⟩, ⟨rfl, by decide⟩, fun q => absurd q (by decide), fun _ => rfl, fun q => absurd q (by decide), fun q => absurd q (by decide), fun q => absurd q (by decide), fun q => absurd q (by decide)⟩
theorem cc_H_isMoment : codeChk Y_H_isMoment.2.1 Y_H_isMoment.2.2.1 c_H_isMoment = true := by decide +kernel
theorem me_H_isMoment : MeOk 4 ⟨Y_H_isMoment, c_H_isMoment, 1, (1, (40, (1, (2, 0))))⟩ := ⟨cc_H_isMoment, rfl, by decide +kernel, ⟨⟨by decide, by decide⟩, ⟨fun _ => ⟨rfl, rfl⟩, fun q => absurd q (by decide)⟩, rfl, rfl⟩, ⟨rfl, by decide⟩, fun q => absurd q (by decide), fun q => absurd q (by decide), fun _ => rfl, fun q => absurd q (by decide), fun q => absurd q (by decide), fun q => absurd q (by decide)⟩
theorem cc_H_isAct : codeChk Y_H_isAct.2.1 Y_H_isAct.2.2.1 c_H_isAct = true := by decide +kernel
theorem me_H_isAct : MeOk 5 ⟨Y_H_isAct, c_H_isAct, 1, (1, (40, (1, (2, 0))))⟩ := ⟨cc_H_isAct, rfl, by decide +kernel, ⟨⟨by decide, by decide⟩, ⟨fun _ => ⟨rfl, rfl⟩, fun q => absurd q (by decide)⟩, rfl, rfl⟩, ⟨rfl, by decide⟩, fun q => absurd q (by decide), fun q => absurd q (by decide), fun _ => rfl, fun q => absurd q (by decide), fun q => absurd q (by decide), fun q => absurd q (by decide)⟩
theorem cc_H_isAmong : codeChk Y_H_isAmong.2.1 Y_H_isAmong.2.2.1 c_H_isAmong = true := by decide +kernel
theorem me_H_isAmong : MeOk 6 ⟨Y_H_isAmong, c_H_isAmong, 1, (1, (40, (2, (2, 0))))⟩ := ⟨cc_H_isAmong, rfl, by decide +kernel, ⟨⟨by decide, by decide⟩, ⟨fun _ => ⟨rfl, rfl⟩, fun q => absurd q (by decide)⟩, rfl, rfl⟩, ⟨rfl, by decide⟩, fun q => absurd q (by decide), fun q => absurd q (by decide), fun _ => rfl, fun q => absurd q (by decide), fun q => absurd q (by decide), fun q => absurd q (by decide)⟩
theorem cc_H_person : codeChk Y_H_person.2.1 Y_H_person.2.2.1 c_H_person = true := by decide +kernel
theorem me_H_person : MeOk 7 ⟨Y_H_person, c_H_person, 1, (1, (40, (1, (1, 0))))⟩ := ⟨cc_H_person, rfl, by decide +kernel, ⟨⟨by decide, by decide⟩, ⟨fun _ => ⟨rfl, rfl⟩, fun q => absurd q (by decide)⟩, rfl, rfl⟩, ⟨rfl, by decide⟩, fun q => absurd q (by decide), fun _ => rfl, fun q => absurd q (by decide), fun q => absurd q (by decide), fun q => absurd q (by decide), fun q => absurd q (by decide)⟩
theorem cc_H_group : codeChk Y_H_group.2.1 Y_H_group.2.2.1 c_H_group = true := by decide +kernel
theorem me_H_group : MeOk 8 ⟨Y_H_group, c_H_group, 1, (1, (40, (1, (1, 0))))⟩ := ⟨cc_H_group, rfl, by decide +kernel, ⟨⟨by decide, by decide⟩, ⟨fun _ => ⟨rfl, rfl⟩, fun q => absurd q (by decide)⟩, rfl, rfl⟩, ⟨rfl, by decide⟩, fun q => absurd q (by decide), fun _ => rfl, fun q => absurd q (by decide), fun q => absurd q (by decide), fun q => absurd q (by decide), fun q => absurd q (by decide)⟩
theorem cc_Wh_isPerson : codeChk Y_Wh_isPerson.2.1 Y_Wh_isPerson.2.2.1 c_Wh_isPerson = true := by decide +kernel
theorem me_Wh_isPerson : MeOk 9 ⟨Y_Wh_isPerson, c_Wh_isPerson, 11, (1, (40, (2, (2, 5))))⟩ := ⟨cc_Wh_isPerson, rfl, by decide +kernel, ⟨⟨by decide, by decide⟩, ⟨fun _ => ⟨rfl, rfl⟩, fun q => absurd q (by decide)⟩, rfl, rfl⟩, ⟨rfl, by decide⟩, fun q => absurd q (by decide), fun q => absurd q (by decide), fun _ => rfl, fun q => absurd q (by decide), fun q => absurd q (by decide), fun q => absurd q (by decide)⟩
theorem cc_Wh_isGroup : codeChk Y_Wh_isGroup.2.1 Y_Wh_isGroup.2.2.1 c_Wh_isGroup = true := by decide +kernel
theorem me_Wh_isGroup : MeOk 10 ⟨Y_Wh_isGroup, c_Wh_isGroup, 11, (1, (40, (2, (2, 5))))⟩ := ⟨cc_Wh_isGroup, rfl, by decide +kernel, ⟨⟨by decide, by decide⟩, ⟨fun _ => ⟨rfl, rfl⟩, fun q => absurd q (by decide)⟩, rfl, rfl⟩, ⟨rfl, by decide⟩, fun q => absurd q (by decide), fun q => absurd q (by decide), fun _ => rfl, fun q => absurd q (by decide), fun q => absurd q (by decide), fun q => absurd q (by decide)⟩
theorem cc_Wh_isMember : codeChk Y_Wh_isMember.2.1 Y_Wh_isMember.2.2.1 c_Wh_isMember = true := by decide +kernel
theorem me_Wh_isMember : MeOk 11 ⟨Y_Wh_isMember, c_Wh_isMember, 11, (2, (61, (2, (2, 5))))⟩ := ⟨cc_Wh_isMember, rfl, by decide +kernel, ⟨⟨by decide, by decide⟩, ⟨fun _ => ⟨rfl, rfl⟩, fun q => absurd q (by decide)⟩, rfl, rfl⟩, ⟨rfl, by decide⟩, fun q => absurd q (by decide), fun q => absurd q (by decide), fun _ => rfl, fun q => absurd q (by decide), fun q => absurd q (by decide), fun q => absurd q (by decide)⟩
theorem cc_Wh_isFromAmong : codeChk Y_Wh_isFromAmong.2.1 Y_Wh_isFromAmong.2.2.1 c_Wh_isFromAmong = true := by decide +kernel
theorem me_Wh_isFromAmong : MeOk 12 ⟨Y_Wh_isFromAmong, c_Wh_isFromAmong, 11, (1, (40, (4, (2, 5))))⟩ := ⟨cc_Wh_isFromAmong, rfl, by decide +kernel, ⟨⟨by decide, by decide⟩, ⟨fun _ => ⟨rfl, rfl⟩, fun q => absurd q (by decide)⟩, rfl, rfl⟩, ⟨rfl, by decide⟩, fun q => absurd q (by decide), fun q => absurd q (by decide), fun _ => rfl, fun q => absurd q (by decide), fun q => absurd q (by decide), fun q => absurd q (by decide)⟩
theorem cc_Wh_isLasting : codeChk Y_Wh_isLasting.2.1 Y_Wh_isLasting.2.2.1 c_Wh_isLasting = true := by decide +kernel
theorem me_Wh_isLasting : MeOk 13 ⟨Y_Wh_isLasting, c_Wh_isLasting, 11, (1, (40, (2, (2, 5))))⟩ := ⟨cc_Wh_isLasting, rfl, by decide +kernel, ⟨⟨by decide, by decide⟩, ⟨fun _ => ⟨rfl, rfl⟩, fun q => absurd q (by decide)⟩, rfl, rfl⟩, ⟨rfl, by decide⟩, fun q => absurd q (by decide), fun q => absurd q (by decide), fun _ => rfl, fun q => absurd q (by decide), fun q => absurd q (by decide), fun q => absurd q (by decide)⟩
theorem cc_Wh_counts : codeChk Y_Wh_counts.2.1 Y_Wh_counts.2.2.1 c_Wh_counts = true := by decide +kernel
theorem me_Wh_counts : MeOk 14 ⟨Y_Wh_counts, c_Wh_counts, 11, (2, (61, (6, (2, 5))))⟩ := ⟨cc_Wh_counts, rfl, by decide +kernel, ⟨⟨by decide, by decide⟩, ⟨fun _ => ⟨rfl, rfl⟩, fun q => absurd q (by decide)⟩, rfl, rfl⟩, ⟨rfl, by decide⟩, fun q => absurd q (by decide), fun q => absurd q (by decide), fun _ => rfl, fun q => absurd q (by decide), fun q => absurd q (by decide), fun q => absurd q (by decide)⟩
theorem cc_Wh_reachedFrom : codeChk Y_Wh_reachedFrom.2.1 Y_Wh_reachedFrom.2.2.1 c_Wh_reachedFrom = true := by decide +kernel
theorem me_Wh_reachedFrom : MeOk 15 ⟨Y_Wh_reachedFrom, c_Wh_reachedFrom, 11, (3, (86, (8, (1, 5))))⟩ := ⟨cc_Wh_reachedFrom, rfl, by decide +kernel, ⟨⟨by decide, by decide⟩, ⟨fun _ => ⟨rfl, rfl⟩, fun q => absurd q (by decide)⟩, rfl, rfl⟩, ⟨rfl, by decide⟩, fun q => absurd q (by decide), fun _ => rfl, fun q => absurd q (by decide), fun q => absurd q (by decide), fun q => absurd q (by decide), fun q => absurd q (by decide)⟩
theorem cc_Wh_wouldRing : codeChk Y_Wh_wouldRing.2.1 Y_Wh_wouldRing.2.2.1 c_Wh_wouldRing = true := by decide +kernel
theorem me_Wh_wouldRing : MeOk 16 ⟨Y_Wh_wouldRing, c_Wh_wouldRing, 11, (4, (113, (3, (2, 5))))⟩ := ⟨cc_Wh_wouldRing, rfl, by decide +kernel, ⟨⟨by decide, by decide⟩, ⟨fun _ => ⟨rfl, rfl⟩, fun q => absurd q (by decide)⟩, rfl, rfl⟩, ⟨rfl, by decide⟩, fun q => absurd q (by decide), fun q => absurd q (by decide), fun _ => rfl, fun q => absurd q (by decide), fun q => absurd q (by decide), fun q => absurd q (by decide)⟩
theorem cc_Wh_addRow : codeChk Y_Wh_addRow.2.1 Y_Wh_addRow.2.2.1 c_Wh_addRow = true := by decide +kernel
theorem me_Wh_addRow : MeOk 17 ⟨Y_Wh_addRow, c_Wh_addRow, 11, (1, (40, (7, (1, 5))))⟩ := ⟨cc_Wh_addRow, rfl, by decide +kernel, ⟨⟨by decide, by decide⟩, ⟨fun _ => ⟨rfl, rfl⟩, fun q => absurd q (by decide)⟩, rfl, rfl⟩, ⟨rfl, by decide⟩, fun q => absurd q (by decide), fun _ => rfl, fun q => absurd q (by decide), fun q => absurd q (by decide), fun q => absurd q (by decide), fun q => absurd q (by decide)⟩
theorem cc_H_put : codeChk Y_H_put.2.1 Y_H_put.2.2.1 c_H_put = true := by decide +kernel
theorem me_H_put : MeOk 18 ⟨Y_H_put, c_H_put, 1, (5, (135, (5, (1, 0))))⟩ := ⟨cc_H_put, rfl, by decide +kernel, ⟨⟨by decide, by decide⟩, ⟨fun _ => ⟨rfl, rfl⟩, fun q => absurd q (by decide)⟩, rfl, rfl⟩, ⟨rfl, by decide⟩, fun q => absurd q (by decide), fun _ => rfl, fun q => absurd q (by decide), fun q => absurd q (by decide), fun q => absurd q (by decide), fun q => absurd q (by decide)⟩
theorem cc_Wh_endRow : codeChk Y_Wh_endRow.2.1 Y_Wh_endRow.2.2.1 c_Wh_endRow = true := by decide +kernel
theorem me_Wh_endRow : MeOk 19 ⟨Y_Wh_endRow, c_Wh_endRow, 11, (1, (40, (3, (0, 5))))⟩ := ⟨cc_Wh_endRow, rfl, by decide +kernel, ⟨⟨by decide, by decide⟩, ⟨fun _ => ⟨rfl, rfl⟩, fun q => absurd q (by decide)⟩, rfl, rfl⟩, ⟨rfl, by decide⟩, fun _ => rfl, fun q => absurd q (by decide), fun q => absurd q (by decide), fun q => absurd q (by decide), fun q => absurd q (by decide), fun q => absurd q (by decide)⟩
theorem cc_H_back : codeChk Y_H_back.2.1 Y_H_back.2.2.1 c_H_back = true := by decide +kernel
theorem me_H_back : MeOk 20 ⟨Y_H_back, c_H_back, 1, (2, (62, (2, (1, 0))))⟩ := ⟨cc_H_back, rfl, by decide +kernel, ⟨⟨by decide, by decide⟩, ⟨fun _ => ⟨rfl, rfl⟩, fun q => absurd q (by decide)⟩, rfl, rfl⟩, ⟨rfl, by decide⟩, fun q => absurd q (by decide), fun _ => rfl, fun q => absurd q (by decide), fun q => absurd q (by decide), fun q => absurd q (by decide), fun q => absurd q (by decide)⟩
theorem cc_Wh_groupsOf : codeChk Y_Wh_groupsOf.2.1 Y_Wh_groupsOf.2.2.1 c_Wh_groupsOf = true := by decide +kernel
theorem me_Wh_groupsOf : MeOk 21 ⟨Y_Wh_groupsOf, c_Wh_groupsOf, 11, (4, (113, (6, (1, 5))))⟩ := ⟨cc_Wh_groupsOf, rfl, by decide +kernel, ⟨⟨by decide, by decide⟩, ⟨fun _ => ⟨rfl, rfl⟩, fun q => absurd q (by decide)⟩, rfl, rfl⟩, ⟨rfl, by decide⟩, fun q => absurd q (by decide), fun _ => rfl, fun q => absurd q (by decide), fun q => absurd q (by decide), fun q => absurd q (by decide), fun q => absurd q (by decide)⟩
theorem cc_H_belongs : codeChk Y_H_belongs.2.1 Y_H_belongs.2.2.1 c_H_belongs = true := by decide +kernel
theorem me_H_belongs : MeOk 22 ⟨Y_H_belongs, c_H_belongs, 1, (5, (138, (5, (1, 0))))⟩ := ⟨cc_H_belongs, rfl, by decide +kernel, ⟨⟨by decide, by decide⟩, ⟨fun _ => ⟨rfl, rfl⟩, fun q => absurd q (by decide)⟩, rfl, rfl⟩, ⟨rfl, by decide⟩, fun q => absurd q (by decide), fun _ => rfl, fun q => absurd q (by decide), fun q => absurd q (by decide), fun q => absurd q (by decide), fun q => absurd q (by decide)⟩
theorem cc_H_rowOf : codeChk Y_H_rowOf.2.1 Y_H_rowOf.2.2.1 c_H_rowOf = true := by decide +kernel
theorem me_H_rowOf : MeOk 23 ⟨Y_H_rowOf, c_H_rowOf, 1, (2, (61, (3, (1, 0))))⟩ := ⟨cc_H_rowOf, rfl, by decide +kernel, ⟨⟨by decide, by decide⟩, ⟨fun _ => ⟨rfl, rfl⟩, fun q => absurd q (by decide)⟩, rfl, rfl⟩, ⟨rfl, by decide⟩, fun q => absurd q (by decide), fun _ => rfl, fun q => absurd q (by decide), fun q => absurd q (by decide), fun q => absurd q (by decide), fun q => absurd q (by decide)⟩
theorem cc_Wh_slotOfPerson : codeChk Y_Wh_slotOfPerson.2.1 Y_Wh_slotOfPerson.2.2.1 c_Wh_slotOfPerson = true := by decide +kernel
theorem me_Wh_slotOfPerson : MeOk 24 ⟨Y_Wh_slotOfPerson, c_Wh_slotOfPerson, 11, (1, (40, (2, (1, 0))))⟩ := ⟨cc_Wh_slotOfPerson, rfl, by decide +kernel, ⟨⟨by decide, by decide⟩, ⟨fun _ => ⟨rfl, rfl⟩, fun q => absurd q (by decide)⟩, rfl, rfl⟩, ⟨rfl, by decide⟩, fun q => absurd q (by decide), fun _ => rfl, fun q => absurd q (by decide), fun q => absurd q (by decide), fun q => absurd q (by decide), fun q => absurd q (by decide)⟩
theorem cc_Th_isThere : codeChk Y_Th_isThere.2.1 Y_Th_isThere.2.2.1 c_Th_isThere = true := by decide +kernel
theorem me_Th_isThere : MeOk 25 ⟨Y_Th_isThere, c_Th_isThere, 10, (1, (40, (2, (2, 10))))⟩ := ⟨cc_Th_isThere, rfl, by decide +kernel, ⟨⟨by decide, by decide⟩, ⟨fun _ => ⟨rfl, rfl⟩, fun q => absurd q (by decide)⟩, rfl, rfl⟩, ⟨rfl, by decide⟩, fun q => absurd q (by decide), fun q => absurd q (by decide), fun _ => rfl, fun q => absurd q (by decide), fun q => absurd q (by decide), fun q => absurd q (by decide)⟩
theorem cc_Wh_slotOfThing : codeChk Y_Wh_slotOfThing.2.1 Y_Wh_slotOfThing.2.2.1 c_Wh_slotOfThing = true := by decide +kernel
theorem me_Wh_slotOfThing : MeOk 26 ⟨Y_Wh_slotOfThing, c_Wh_slotOfThing, 11, (1, (40, (2, (1, 0))))⟩ := ⟨cc_Wh_slotOfThing, rfl, by decide +kernel, ⟨⟨by decide, by decide⟩, ⟨fun _ => ⟨rfl, rfl⟩, fun q => absurd q (by decide)⟩, rfl, rfl⟩, ⟨rfl, by decide⟩, fun q => absurd q (by decide), fun _ => rfl, fun q => absurd q (by decide), fun q => absurd q (by decide), fun q => absurd q (by decide), fun q => absurd q (by decide)⟩
theorem cc_H_slotOf : codeChk Y_H_slotOf.2.1 Y_H_slotOf.2.2.1 c_H_slotOf = true := by decide +kernel
theorem me_H_slotOf : MeOk 27 ⟨Y_H_slotOf, c_H_slotOf, 1, (2, (61, (3, (1, 0))))⟩ := ⟨cc_H_slotOf, rfl, by decide +kernel, ⟨⟨by decide, by decide⟩, ⟨fun _ => ⟨rfl, rfl⟩, fun q => absurd q (by decide)⟩, rfl, rfl⟩, ⟨rfl, by decide⟩, fun q => absurd q (by decide), fun _ => rfl, fun q => absurd q (by decide), fun q => absurd q (by decide), fun q => absurd q (by decide), fun q => absurd q (by decide)⟩
theorem cc_Wh_setFeature : codeChk Y_Wh_setFeature.2.1 Y_Wh_setFeature.2.2.1 c_Wh_setFeature = true := by decide +kernel
theorem me_Wh_setFeature : MeOk 28 ⟨Y_Wh_setFeature, c_Wh_setFeature, 11, (1, (40, (5, (0, 5))))⟩ := ⟨cc_Wh_setFeature, rfl, by decide +kernel, ⟨⟨by decide, by decide⟩, ⟨fun _ => ⟨rfl, rfl⟩, fun q => absurd q (by decide)⟩, rfl, rfl⟩, ⟨rfl, by decide⟩, fun _ => rfl, fun q => absurd q (by decide), fun q => absurd q (by decide), fun q => absurd q (by decide), fun q => absurd q (by decide), fun q => absurd q (by decide)⟩
theorem cc_H_feature : codeChk Y_H_feature.2.1 Y_H_feature.2.2.1 c_H_feature = true := by decide +kernel
theorem me_H_feature : MeOk 29 ⟨Y_H_feature, c_H_feature, 1, (3, (83, (7, (1, 0))))⟩ := ⟨cc_H_feature, rfl, by decide +kernel, ⟨⟨by decide, by decide⟩, ⟨fun _ => ⟨rfl, rfl⟩, fun q => absurd q (by decide)⟩, rfl, rfl⟩, ⟨rfl, by decide⟩, fun q => absurd q (by decide), fun _ => rfl, fun q => absurd q (by decide), fun q => absurd q (by decide), fun q => absurd q (by decide), fun q => absurd q (by decide)⟩
theorem cc_Re_isNoNumber : codeChk Y_Re_isNoNumber.2.1 Y_Re_isNoNumber.2.2.1 c_Re_isNoNumber = true := by decide +kernel
theorem me_Re_isNoNumber : MeOk 30 ⟨Y_Re_isNoNumber, c_Re_isNoNumber, 8, (1, (40, (2, (2, 0))))⟩ := ⟨cc_Re_isNoNumber, rfl, by decide +kernel, ⟨⟨by decide, by decide⟩, ⟨fun _ => ⟨rfl, rfl⟩, fun q => absurd q (by decide)⟩, rfl, rfl⟩, ⟨rfl, by decide⟩, fun q => absurd q (by decide), fun q => absurd q (by decide), fun _ => rfl, fun q => absurd q (by decide), fun q => absurd q (by decide), fun q => absurd q (by decide)⟩
theorem cc_Wh_setItem : codeChk Y_Wh_setItem.2.1 Y_Wh_setItem.2.2.1 c_Wh_setItem = true := by decide +kernel
theorem me_Wh_setItem : MeOk 31 ⟨Y_Wh_setItem, c_Wh_setItem, 11, (2, (61, (7, (0, 5))))⟩ := ⟨cc_Wh_setItem, rfl, by decide +kernel, ⟨⟨by decide, by decide⟩, ⟨fun _ => ⟨rfl, rfl⟩, fun q => absurd q (by decide)⟩, rfl, rfl⟩, ⟨rfl, by decide⟩, fun _ => rfl, fun q => absurd q (by decide), fun q => absurd q (by decide), fun q => absurd q (by decide), fun q => absurd q (by decide), fun q => absurd q (by decide)⟩
theorem cc_H_item : codeChk Y_H_item.2.1 Y_H_item.2.2.1 c_H_item = true := by decide +kernel
theorem me_H_item : MeOk 32 ⟨Y_H_item, c_H_item, 1, (3, (87, (7, (1, 0))))⟩ := ⟨cc_H_item, rfl, by decide +kernel, ⟨⟨by decide, by decide⟩, ⟨fun _ => ⟨rfl, rfl⟩, fun q => absurd q (by decide)⟩, rfl, rfl⟩, ⟨rfl, by decide⟩, fun q => absurd q (by decide), fun _ => rfl, fun q => absurd q (by decide), fun q => absurd q (by decide), fun q => absurd q (by decide), fun q => absurd q (by decide)⟩
theorem cc_H_itemOf : codeChk Y_H_itemOf.2.1 Y_H_itemOf.2.2.1 c_H_itemOf = true := by decide +kernel
theorem me_H_itemOf : MeOk 33 ⟨Y_H_itemOf, c_H_itemOf, 1, (3, (83, (6, (3, 0))))⟩ := ⟨cc_H_itemOf, rfl, by decide +kernel, ⟨⟨by decide, by decide⟩, ⟨fun _ => ⟨rfl, rfl⟩, fun q => absurd q (by decide)⟩, rfl, rfl⟩, ⟨rfl, by decide⟩, fun q => absurd q (by decide), fun q => absurd q (by decide), fun q => absurd q (by decide), fun _ => rfl, fun q => absurd q (by decide), fun q => absurd q (by decide)⟩
theorem cc_Wh_hasItems : codeChk Y_Wh_hasItems.2.1 Y_Wh_hasItems.2.2.1 c_Wh_hasItems = true := by decide +kernel
theorem me_Wh_hasItems : MeOk 34 ⟨Y_Wh_hasItems, c_Wh_hasItems, 11, (1, (40, (4, (2, 5))))⟩ := ⟨cc_Wh_hasItems, rfl, by decide +kernel, ⟨⟨by decide, by decide⟩, ⟨fun _ => ⟨rfl, rfl⟩, fun q => absurd q (by decide)⟩, rfl, rfl⟩, ⟨rfl, by decide⟩, fun q => absurd q (by decide), fun q => absurd q (by decide), fun _ => rfl, fun q => absurd q (by decide), fun q => absurd q (by decide), fun q => absurd q (by decide)⟩
theorem cc_H_copy : codeChk Y_H_copy.2.1 Y_H_copy.2.2.1 c_H_copy = true := by decide +kernel
theorem me_H_copy : MeOk 35 ⟨Y_H_copy, c_H_copy, 1, (20, (600, (10, (1, 0))))⟩ := ⟨cc_H_copy, rfl, by decide +kernel, ⟨⟨by decide, by decide⟩, ⟨fun _ => ⟨rfl, rfl⟩, fun q => absurd q (by decide)⟩, rfl, rfl⟩, ⟨rfl, by decide⟩, fun q => absurd q (by decide), fun _ => rfl, fun q => absurd q (by decide), fun q => absurd q (by decide), fun q => absurd q (by decide), fun q => absurd q (by decide)⟩
theorem cc_Th_add : codeChk Y_Th_add.2.1 Y_Th_add.2.2.1 c_Th_add = true := by decide +kernel
theorem me_Th_add : MeOk 36 ⟨Y_Th_add, c_Th_add, 10, (1, (40, (3, (1, 10))))⟩ := ⟨cc_Th_add, rfl, by decide +kernel, ⟨⟨by decide, by decide⟩, ⟨fun _ => ⟨rfl, rfl⟩, fun q => absurd q (by decide)⟩, rfl, rfl⟩, ⟨rfl, by decide⟩, fun q => absurd q (by decide), fun _ => rfl, fun q => absurd q (by decide), fun q => absurd q (by decide), fun q => absurd q (by decide), fun q => absurd q (by decide)⟩
theorem cc_H_thing : codeChk Y_H_thing.2.1 Y_H_thing.2.2.1 c_H_thing = true := by decide +kernel
theorem me_H_thing : MeOk 37 ⟨Y_H_thing, c_H_thing, 1, (2, (62, (3, (1, 0))))⟩ := ⟨cc_H_thing, rfl, by decide +kernel, ⟨⟨by decide, by decide⟩, ⟨fun _ => ⟨rfl, rfl⟩, fun q => absurd q (by decide)⟩, rfl, rfl⟩, ⟨rfl, by decide⟩, fun q => absurd q (by decide), fun _ => rfl, fun q => absurd q (by decide), fun q => absurd q (by decide), fun q => absurd q (by decide), fun q => absurd q (by decide)⟩
theorem cc_Th_isInside : codeChk Y_Th_isInside.2.1 Y_Th_isInside.2.2.1 c_Th_isInside = true := by decide +kernel
theorem me_Th_isInside : MeOk 38 ⟨Y_Th_isInside, c_Th_isInside, 10, (1, (40, (5, (2, 10))))⟩ := ⟨cc_Th_isInside, rfl, by decide +kernel, ⟨⟨by decide, by decide⟩, ⟨fun _ => ⟨rfl, rfl⟩, fun q => absurd q (by decide)⟩, rfl, rfl⟩, ⟨rfl, by decide⟩, fun q => absurd q (by decide), fun q => absurd q (by decide), fun _ => rfl, fun q => absurd q (by decide), fun q => absurd q (by decide), fun q => absurd q (by decide)⟩
theorem cc_H_move : codeChk Y_H_move.2.1 Y_H_move.2.2.1 c_H_move = true := by decide +kernel
theorem me_H_move : MeOk 39 ⟨Y_H_move, c_H_move, 1, (2, (64, (3, (1, 0))))⟩ := ⟨cc_H_move, rfl, by decide +kernel, ⟨⟨by decide, by decide⟩, ⟨fun _ => ⟨rfl, rfl⟩, fun q => absurd q (by decide)⟩, rfl, rfl⟩, ⟨rfl, by decide⟩, fun q => absurd q (by decide), fun _ => rfl, fun q => absurd q (by decide), fun q => absurd q (by decide), fun q => absurd q (by decide), fun q => absurd q (by decide)⟩
theorem cc_H_cutOff : codeChk Y_H_cutOff.2.1 Y_H_cutOff.2.2.1 c_H_cutOff = true := by decide +kernel
theorem me_H_cutOff : MeOk 40 ⟨Y_H_cutOff, c_H_cutOff, 1, (2, (61, (4, (1, 0))))⟩ := ⟨cc_H_cutOff, rfl, by decide +kernel, ⟨⟨by decide, by decide⟩, ⟨fun _ => ⟨rfl, rfl⟩, fun q => absurd q (by decide)⟩, rfl, rfl⟩, ⟨rfl, by decide⟩, fun q => absurd q (by decide), fun _ => rfl, fun q => absurd q (by decide), fun q => absurd q (by decide), fun q => absurd q (by decide), fun q => absurd q (by decide)⟩
theorem cc_Th_bearsAny : codeChk Y_Th_bearsAny.2.1 Y_Th_bearsAny.2.2.1 c_Th_bearsAny = true := by decide +kernel
theorem me_Th_bearsAny : MeOk 41 ⟨Y_Th_bearsAny, c_Th_bearsAny, 10, (1, (40, (3, (2, 10))))⟩ := ⟨cc_Th_bearsAny, rfl, by decide +kernel, ⟨⟨by decide, by decide⟩, ⟨fun _ => ⟨rfl, rfl⟩, fun q => absurd q (by decide)⟩, rfl, rfl⟩, ⟨rfl, by decide⟩, fun q => absurd q (by decide), fun q => absurd q (by decide), fun _ => rfl, fun q => absurd q (by decide), fun q => absurd q (by decide), fun q => absurd q (by decide)⟩
theorem cc_H_drop : codeChk Y_H_drop.2.1 Y_H_drop.2.2.1 c_H_drop = true := by decide +kernel
theorem me_H_drop : MeOk 42 ⟨Y_H_drop, c_H_drop, 1, (2, (62, (2, (1, 0))))⟩ := ⟨cc_H_drop, rfl, by decide +kernel, ⟨⟨by decide, by decide⟩, ⟨fun _ => ⟨rfl, rfl⟩, fun q => absurd q (by decide)⟩, rfl, rfl⟩, ⟨rfl, by decide⟩, fun q => absurd q (by decide), fun _ => rfl, fun q => absurd q (by decide), fun q => absurd q (by decide), fun q => absurd q (by decide), fun q => absurd q (by decide)⟩
theorem cc_Th_depthOf : codeChk Y_Th_depthOf.2.1 Y_Th_depthOf.2.2.1 c_Th_depthOf = true := by decide +kernel
theorem me_Th_depthOf : MeOk 43 ⟨Y_Th_depthOf, c_Th_depthOf, 10, (1, (40, (5, (1, 10))))⟩ := ⟨cc_Th_depthOf, rfl, by decide +kernel, ⟨⟨by decide, by decide⟩, ⟨fun _ => ⟨rfl, rfl⟩, fun q => absurd q (by decide)⟩, rfl, rfl⟩, ⟨rfl, by decide⟩, fun q => absurd q (by decide), fun _ => rfl, fun q => absurd q (by decide), fun q => absurd q (by decide), fun q => absurd q (by decide), fun q => absurd q (by decide)⟩
theorem cc_H_thingOf : codeChk Y_H_thingOf.2.1 Y_H_thingOf.2.2.1 c_H_thingOf = true := by decide +kernel
theorem me_H_thingOf : MeOk 44 ⟨Y_H_thingOf, c_H_thingOf, 1, (2, (64, (3, (1, 0))))⟩ := ⟨cc_H_thingOf, rfl, by decide +kernel, ⟨⟨by decide, by decide⟩, ⟨fun _ => ⟨rfl, rfl⟩, fun q => absurd q (by decide)⟩, rfl, rfl⟩, ⟨rfl, by decide⟩, fun q => absurd q (by decide), fun _ => rfl, fun q => absurd q (by decide), fun q => absurd q (by decide), fun q => absurd q (by decide), fun q => absurd q (by decide)⟩
theorem cc_Th_isUnder : codeChk Y_Th_isUnder.2.1 Y_Th_isUnder.2.2.1 c_Th_isUnder = true := by decide +kernel
theorem me_Th_isUnder : MeOk 45 ⟨Y_Th_isUnder, c_Th_isUnder, 10, (1, (40, (5, (2, 10))))⟩ := ⟨cc_Th_isUnder, rfl, by decide +kernel, ⟨⟨by decide, by decide⟩, ⟨fun _ => ⟨rfl, rfl⟩, fun q => absurd q (by decide)⟩, rfl, rfl⟩, ⟨rfl, by decide⟩, fun q => absurd q (by decide), fun q => absurd q (by decide), fun _ => rfl, fun q => absurd q (by decide), fun q => absurd q (by decide), fun q => absurd q (by decide)⟩
theorem cc_H_under : codeChk Y_H_under.2.1 Y_H_under.2.2.1 c_H_under = true := by decide +kernel
theorem me_H_under : MeOk 46 ⟨Y_H_under, c_H_under, 1, (2, (64, (3, (1, 0))))⟩ := ⟨cc_H_under, rfl, by decide +kernel, ⟨⟨by decide, by decide⟩, ⟨fun _ => ⟨rfl, rfl⟩, fun q => absurd q (by decide)⟩, rfl, rfl⟩, ⟨rfl, by decide⟩, fun q => absurd q (by decide), fun _ => rfl, fun q => absurd q (by decide), fun q => absurd q (by decide), fun q => absurd q (by decide), fun q => absurd q (by decide)⟩
theorem cc_Th_closeHolds : codeChk Y_Th_closeHolds.2.1 Y_Th_closeHolds.2.2.1 c_Th_closeHolds = true := by decide +kernel
theorem me_Th_closeHolds : MeOk 47 ⟨Y_Th_closeHolds, c_Th_closeHolds, 10, (1, (40, (3, (0, 10))))⟩ := ⟨cc_Th_closeHolds, rfl, by decide +kernel, ⟨⟨by decide, by decide⟩, ⟨fun _ => ⟨rfl, rfl⟩, fun q => absurd q (by decide)⟩, rfl, rfl⟩, ⟨rfl, by decide⟩, fun _ => rfl, fun q => absurd q (by decide), fun q => absurd q (by decide), fun q => absurd q (by decide), fun q => absurd q (by decide), fun q => absurd q (by decide)⟩
theorem cc_Th_tellHolds : codeChk Y_Th_tellHolds.2.1 Y_Th_tellHolds.2.2.1 c_Th_tellHolds = true := by decide +kernel
theorem me_Th_tellHolds : MeOk 48 ⟨Y_Th_tellHolds, c_Th_tellHolds, 10, (2, (62, (5, (2, 10))))⟩ := ⟨cc_Th_tellHolds, rfl, by decide +kernel, ⟨⟨by decide, by decide⟩, ⟨fun _ => ⟨rfl, rfl⟩, fun q => absurd q (by decide)⟩, rfl, rfl⟩, ⟨rfl, by decide⟩, fun q => absurd q (by decide), fun q => absurd q (by decide), fun _ => rfl, fun q => absurd q (by decide), fun q => absurd q (by decide), fun q => absurd q (by decide)⟩
theorem cc_H_holds : codeChk Y_H_holds.2.1 Y_H_holds.2.2.1 c_H_holds = true := by decide +kernel
theorem me_H_holds : MeOk 49 ⟨Y_H_holds, c_H_holds, 1, (3, (86, (4, (1, 0))))⟩ := ⟨cc_H_holds, rfl, by decide +kernel, ⟨⟨by decide, by decide⟩, ⟨fun _ => ⟨rfl, rfl⟩, fun q => absurd q (by decide)⟩, rfl, rfl⟩, ⟨rfl, by decide⟩, fun q => absurd q (by decide), fun _ => rfl, fun q => absurd q (by decide), fun q => absurd q (by decide), fun q => absurd q (by decide), fun q => absurd q (by decide)⟩
theorem cc_Th_actHolds : codeChk Y_Th_actHolds.2.1 Y_Th_actHolds.2.2.1 c_Th_actHolds = true := by decide +kernel
theorem me_Th_actHolds : MeOk 50 ⟨Y_Th_actHolds, c_Th_actHolds, 10, (1, (40, (3, (2, 10))))⟩ := ⟨cc_Th_actHolds, rfl, by decide +kernel, ⟨⟨by decide, by decide⟩, ⟨fun _ => ⟨rfl, rfl⟩, fun q => absurd q (by decide)⟩, rfl, rfl⟩, ⟨rfl, by decide⟩, fun q => absurd q (by decide), fun q => absurd q (by decide), fun _ => rfl, fun q => absurd q (by decide), fun q => absurd q (by decide), fun q => absurd q (by decide)⟩
theorem cc_H_doesHold : codeChk Y_H_doesHold.2.1 Y_H_doesHold.2.2.1 c_H_doesHold = true := by decide +kernel
theorem me_H_doesHold : MeOk 51 ⟨Y_H_doesHold, c_H_doesHold, 1, (2, (62, (3, (1, 0))))⟩ := ⟨cc_H_doesHold, rfl, by decide +kernel, ⟨⟨by decide, by decide⟩, ⟨fun _ => ⟨rfl, rfl⟩, fun q => absurd q (by decide)⟩, rfl, rfl⟩, ⟨rfl, by decide⟩, fun q => absurd q (by decide), fun _ => rfl, fun q => absurd q (by decide), fun q => absurd q (by decide), fun q => absurd q (by decide), fun q => absurd q (by decide)⟩
theorem cc_Po_isFigure : codeChk Y_Po_isFigure.2.1 Y_Po_isFigure.2.2.1 c_Po_isFigure = true := by decide +kernel
theorem me_Po_isFigure : MeOk 52 ⟨Y_Po_isFigure, c_Po_isFigure, 7, (1, (40, (2, (2, 17))))⟩ := ⟨cc_Po_isFigure, rfl, by decide +kernel, ⟨⟨by decide, by decide⟩, ⟨fun _ => ⟨rfl, rfl⟩, fun q => absurd q (by decide)⟩, rfl, rfl⟩, ⟨rfl, by decide⟩, fun q => absurd q (by decide), fun q => absurd q (by decide), fun _ => rfl, fun q => absurd q (by decide), fun q => absurd q (by decide), fun q => absurd q (by decide)⟩
theorem cc_Po_addToken : codeChk Y_Po_addToken.2.1 Y_Po_addToken.2.2.1 c_Po_addToken = true := by decide +kernel
theorem me_Po_addToken : MeOk 53 ⟨Y_Po_addToken, c_Po_addToken, 7, (1, (40, (5, (0, 17))))⟩ := ⟨cc_Po_addToken, rfl, by decide +kernel, ⟨⟨by decide, by decide⟩, ⟨fun _ => ⟨rfl, rfl⟩, fun q => absurd q (by decide)⟩, rfl, rfl⟩, ⟨rfl, by decide⟩, fun _ => rfl, fun q => absurd q (by decide), fun q => absurd q (by decide), fun q => absurd q (by decide), fun q => absurd q (by decide), fun q => absurd q (by decide)⟩
theorem cc_Re_packed : codeChk Y_Re_packed.2.1 Y_Re_packed.2.2.1 c_Re_packed = true := by decide +kernel
theorem me_Re_packed : MeOk 54 ⟨Y_Re_packed, c_Re_packed, 8, (1, (40, (16, (3, 0))))⟩ := ⟨cc_Re_packed, rfl, by decide +kernel, ⟨⟨by decide, by decide⟩, ⟨fun _ => ⟨rfl, rfl⟩, fun q => absurd q (by decide)⟩, rfl, rfl⟩, ⟨rfl, by decide⟩, fun q => absurd q (by decide), fun q => absurd q (by decide), fun q => absurd q (by decide), fun _ => rfl, fun q => absurd q (by decide), fun q => absurd q (by decide)⟩
theorem cc_Re_ofWhole : codeChk Y_Re_ofWhole.2.1 Y_Re_ofWhole.2.2.1 c_Re_ofWhole = true := by decide +kernel
theorem me_Re_ofWhole : MeOk 55 ⟨Y_Re_ofWhole, c_Re_ofWhole, 8, (2, (75, (2, (3, 0))))⟩ := ⟨cc_Re_ofWhole, rfl, by decide +kernel, ⟨⟨by decide, by decide⟩, ⟨fun _ => ⟨rfl, rfl⟩, fun q => absurd q (by decide)⟩, rfl, rfl⟩, ⟨rfl, by decide⟩, fun q => absurd q (by decide), fun q => absurd q (by decide), fun q => absurd q (by decide), fun _ => rfl, fun q => absurd q (by decide), fun q => absurd q (by decide)⟩
theorem cc_Re_isEndless : codeChk Y_Re_isEndless.2.1 Y_Re_isEndless.2.2.1 c_Re_isEndless = true := by decide +kernel
theorem me_Re_isEndless : MeOk 56 ⟨Y_Re_isEndless, c_Re_isEndless, 8, (1, (40, (2, (2, 0))))⟩ := ⟨cc_Re_isEndless, rfl, by decide +kernel, ⟨⟨by decide, by decide⟩, ⟨fun _ => ⟨rfl, rfl⟩, fun q => absurd q (by decide)⟩, rfl, rfl⟩, ⟨rfl, by decide⟩, fun q => absurd q (by decide), fun q => absurd q (by decide), fun _ => rfl, fun q => absurd q (by decide), fun q => absurd q (by decide), fun q => absurd q (by decide)⟩
theorem cc_Re_isZero : codeChk Y_Re_isZero.2.1 Y_Re_isZero.2.2.1 c_Re_isZero = true := by decide +kernel
theorem me_Re_isZero : MeOk 57 ⟨Y_Re_isZero, c_Re_isZero, 8, (1, (40, (2, (2, 0))))⟩ := ⟨cc_Re_isZero, rfl, by decide +kernel, ⟨⟨by decide, by decide⟩, ⟨fun _ => ⟨rfl, rfl⟩, fun q => absurd q (by decide)⟩, rfl, rfl⟩, ⟨rfl, by decide⟩, fun q => absurd q (by decide), fun q => absurd q (by decide), fun _ => rfl, fun q => absurd q (by decide), fun q => absurd q (by decide), fun q => absurd q (by decide)⟩
theorem cc_Re_mantissa : codeChk Y_Re_mantissa.2.1 Y_Re_mantissa.2.2.1 c_Re_mantissa = true := by decide +kernel
theorem me_Re_mantissa : MeOk 58 ⟨Y_Re_mantissa, c_Re_mantissa, 8, (1, (40, (4, (3, 0))))⟩ := ⟨cc_Re_mantissa, rfl, by decide +kernel, ⟨⟨by decide, by decide⟩, ⟨fun _ => ⟨rfl, rfl⟩, fun q => absurd q (by decide)⟩, rfl, rfl⟩, ⟨rfl, by decide⟩, fun q => absurd q (by decide), fun q => absurd q (by decide), fun q => absurd q (by decide), fun _ => rfl, fun q => absurd q (by decide), fun q => absurd q (by decide)⟩
theorem cc_Re_shortage : codeChk Y_Re_shortage.2.1 Y_Re_shortage.2.2.1 c_Re_shortage = true := by decide +kernel
theorem me_Re_shortage : MeOk 59 ⟨Y_Re_shortage, c_Re_shortage, 8, (1, (40, (3, (1, 0))))⟩ := ⟨cc_Re_shortage, rfl, by decide +kernel, ⟨⟨by decide, by decide⟩, ⟨fun _ => ⟨rfl, rfl⟩, fun q => absurd q (by decide)⟩, rfl, rfl⟩, ⟨rfl, by decide⟩, fun q => absurd q (by decide), fun _ => rfl, fun q => absurd q (by decide), fun q => absurd q (by decide), fun q => absurd q (by decide), fun q => absurd q (by decide)⟩
theorem cc_Re_exponent : codeChk Y_Re_exponent.2.1 Y_Re_exponent.2.2.1 c_Re_exponent = true := by decide +kernel
theorem me_Re_exponent : MeOk 60 ⟨Y_Re_exponent, c_Re_exponent, 8, (1, (40, (3, (1, 0))))⟩ := ⟨cc_Re_exponent, rfl, by decide +kernel, ⟨⟨by decide, by decide⟩, ⟨fun _ => ⟨rfl, rfl⟩, fun q => absurd q (by decide)⟩, rfl, rfl⟩, ⟨rfl, by decide⟩, fun q => absurd q (by decide), fun _ => rfl, fun q => absurd q (by decide), fun q => absurd q (by decide), fun q => absurd q (by decide), fun q => absurd q (by decide)⟩
theorem cc_Re_over : codeChk Y_Re_over.2.1 Y_Re_over.2.2.1 c_Re_over = true := by decide +kernel
theorem me_Re_over : MeOk 61 ⟨Y_Re_over, c_Re_over, 8, (2, (75, (15, (3, 0))))⟩ := ⟨cc_Re_over, rfl, by decide +kernel, ⟨⟨by decide, by decide⟩, ⟨fun _ => ⟨rfl, rfl⟩, fun q => absurd q (by decide)⟩, rfl, rfl⟩, ⟨rfl, by decide⟩, fun q => absurd q (by decide), fun q => absurd q (by decide), fun q => absurd q (by decide), fun _ => rfl, fun q => absurd q (by decide), fun q => absurd q (by decide)⟩
theorem cc_Po_splitNumber : codeChk Y_Po_splitNumber.2.1 Y_Po_splitNumber.2.2.1 c_Po_splitNumber = true := by decide +kernel
theorem me_Po_splitNumber : MeOk 62 ⟨Y_Po_splitNumber, c_Po_splitNumber, 7, (3, (109, (10, (1, 17))))⟩ := ⟨cc_Po_splitNumber, rfl, by decide +kernel, ⟨⟨by decide, by decide⟩, ⟨fun _ => ⟨rfl, rfl⟩, fun q => absurd q (by decide)⟩, rfl, rfl⟩, ⟨rfl, by decide⟩, fun q => absurd q (by decide), fun _ => rfl, fun q => absurd q (by decide), fun q => absurd q (by decide), fun q => absurd q (by decide), fun q => absurd q (by decide)⟩
theorem cc_Po_isLetter : codeChk Y_Po_isLetter.2.1 Y_Po_isLetter.2.2.1 c_Po_isLetter = true := by decide +kernel
theorem me_Po_isLetter : MeOk 63 ⟨Y_Po_isLetter, c_Po_isLetter, 7, (1, (40, (2, (2, 17))))⟩ := ⟨cc_Po_isLetter, rfl, by decide +kernel, ⟨⟨by decide, by decide⟩, ⟨fun _ => ⟨rfl, rfl⟩, fun q => absurd q (by decide)⟩, rfl, rfl⟩, ⟨rfl, by decide⟩, fun q => absurd q (by decide), fun q => absurd q (by decide), fun _ => rfl, fun q => absurd q (by decide), fun q => absurd q (by decide), fun q => absurd q (by decide)⟩
theorem cc_JS_isLatin1 : codeChk Y_JS_isLatin1.2.1 Y_JS_isLatin1.2.2.1 c_JS_isLatin1 = true := by decide +kernel
theorem me_JS_isLatin1 : MeOk 64 ⟨Y_JS_isLatin1, c_JS_isLatin1, 15, (1, (40, (1, (2, 1000))))⟩ := ⟨cc_JS_isLatin1, rfl, by decide +kernel, ⟨⟨by decide, by decide⟩, ⟨fun _ => ⟨rfl, rfl⟩, fun q => absurd q (by decide)⟩, rfl, rfl⟩, ⟨rfl, by decide⟩, fun q => absurd q (by decide), fun q => absurd q (by decide), fun _ => rfl, fun q => absurd q (by decide), fun q => absurd q (by decide), fun q => absurd q (by decide)⟩
theorem cc_JS_coder : codeChk Y_JS_coder.2.1 Y_JS_coder.2.2.1 c_JS_coder = true := by decide +kernel
theorem me_JS_coder : MeOk 65 ⟨Y_JS_coder, c_JS_coder, 15, (1, (40, (1, (5, 1000))))⟩ := ⟨cc_JS_coder, rfl, by decide +kernel, ⟨⟨by decide, by decide⟩, ⟨fun _ => ⟨rfl, rfl⟩, fun q => absurd q (by decide)⟩, rfl, rfl⟩, ⟨rfl, by decide⟩, fun q => absurd q (by decide), fun q => absurd q (by decide), fun q => absurd q (by decide), fun q => absurd q (by decide), fun q => absurd q (by decide), fun _ => rfl⟩
theorem cc_JS_length : codeChk Y_JS_length.2.1 Y_JS_length.2.2.1 c_JS_length = true := by decide +kernel
theorem me_JS_length : MeOk 66 ⟨Y_JS_length, c_JS_length, 15, (2, (60, (1, (1, 1000))))⟩ := ⟨cc_JS_length, rfl, by decide +kernel, ⟨⟨by decide, by decide⟩, ⟨fun _ => ⟨rfl, rfl⟩, fun q => absurd q (by decide)⟩, rfl, rfl⟩, ⟨rfl, by decide⟩, fun q => absurd q (by decide), fun _ => rfl, fun q => absurd q (by decide), fun q => absurd q (by decide), fun q => absurd q (by decide), fun q => absurd q (by decide)⟩
theorem cc_JL_canEncode : codeChk Y_JL_canEncode.2.1 Y_JL_canEncode.2.2.1 c_JL_canEncode = true := by decide +kernel
theorem me_JL_canEncode : MeOk 67 ⟨Y_JL_canEncode, c_JL_canEncode, 16, (1, (40, (1, (2, 0))))⟩ := ⟨cc_JL_canEncode, rfl, by decide +kernel, ⟨⟨by decide, by decide⟩, ⟨fun _ => ⟨rfl, rfl⟩, fun q => absurd q (by decide)⟩, rfl, rfl⟩, ⟨rfl, by decide⟩, fun q => absurd q (by decide), fun q => absurd q (by decide), fun _ => rfl, fun q => absurd q (by decide), fun q => absurd q (by decide), fun q => absurd q (by decide)⟩
theorem cc_JM_max : codeChk Y_JM_max.2.1 Y_JM_max.2.2.1 c_JM_max = true := by decide +kernel
theorem me_JM_max : MeOk 68 ⟨Y_JM_max, c_JM_max, 14, (1, (40, (2, (1, 0))))⟩ := ⟨cc_JM_max, rfl, by decide +kernel, ⟨⟨by decide, by decide⟩, ⟨fun _ => ⟨rfl, rfl⟩, fun q => absurd q (by decide)⟩, rfl, rfl⟩, ⟨rfl, by decide⟩, fun q => absurd q (by decide), fun _ => rfl, fun q => absurd q (by decide), fun q => absurd q (by decide), fun q => absurd q (by decide), fun q => absurd q (by decide)⟩
theorem cc_JM_min : codeChk Y_JM_min.2.1 Y_JM_min.2.2.1 c_JM_min = true := by decide +kernel
theorem me_JM_min : MeOk 69 ⟨Y_JM_min, c_JM_min, 14, (1, (40, (2, (1, 0))))⟩ := ⟨cc_JM_min, rfl, by decide +kernel, ⟨⟨by decide, by decide⟩, ⟨fun _ => ⟨rfl, rfl⟩, fun q => absurd q (by decide)⟩, rfl, rfl⟩, ⟨rfl, by decide⟩, fun q => absurd q (by decide), fun _ => rfl, fun q => absurd q (by decide), fun q => absurd q (by decide), fun q => absurd q (by decide), fun q => absurd q (by decide)⟩
theorem cc_JL_indexOfChar : codeChk Y_JL_indexOfChar.2.1 Y_JL_indexOfChar.2.2.1 c_JL_indexOfChar = true := by decide +kernel
theorem me_JL_indexOfChar : MeOk 70 ⟨Y_JL_indexOfChar, c_JL_indexOfChar, 16, (1, (40, (6, (1, 0))))⟩ := ⟨cc_JL_indexOfChar, rfl, by decide +kernel, ⟨⟨by decide, by decide⟩, ⟨fun _ => ⟨rfl, rfl⟩, fun q => absurd q (by decide)⟩, rfl, rfl⟩, ⟨rfl, by decide⟩, fun q => absurd q (by decide), fun _ => rfl, fun q => absurd q (by decide), fun q => absurd q (by decide), fun q => absurd q (by decide), fun q => absurd q (by decide)⟩
theorem cc_JL_indexOf : codeChk Y_JL_indexOf.2.1 Y_JL_indexOf.2.2.1 c_JL_indexOf = true := by decide +kernel
theorem me_JL_indexOf : MeOk 71 ⟨Y_JL_indexOf, c_JL_indexOf, 16, (2, (65, (4, (1, 0))))⟩ := ⟨cc_JL_indexOf, rfl, by decide +kernel, ⟨⟨by decide, by decide⟩, ⟨fun _ => ⟨rfl, rfl⟩, fun q => absurd q (by decide)⟩, rfl, rfl⟩, ⟨rfl, by decide⟩, fun q => absurd q (by decide), fun _ => rfl, fun q => absurd q (by decide), fun q => absurd q (by decide), fun q => absurd q (by decide), fun q => absurd q (by decide)⟩
theorem cc_JS_indexOf_1 : codeChk Y_JS_indexOf_1.2.1 Y_JS_indexOf_1.2.2.1 c_JS_indexOf_1 = true := by decide +kernel
theorem me_JS_indexOf_1 : MeOk 72 ⟨Y_JS_indexOf_1, c_JS_indexOf_1, 15, (3, (88, (3, (1, 1000))))⟩ := ⟨cc_JS_indexOf_1, rfl, by decide +kernel, ⟨⟨by decide, by decide⟩, ⟨fun _ => ⟨rfl, rfl⟩, fun q => absurd q (by decide)⟩, rfl, rfl⟩, ⟨rfl, by decide⟩, fun q => absurd q (by decide), fun _ => rfl, fun q => absurd q (by decide), fun q => absurd q (by decide), fun q => absurd q (by decide), fun q => absurd q (by decide)⟩
theorem cc_JS_indexOf_0 : codeChk Y_JS_indexOf_0.2.1 Y_JS_indexOf_0.2.2.1 c_JS_indexOf_0 = true := by decide +kernel
theorem me_JS_indexOf_0 : MeOk 73 ⟨Y_JS_indexOf_0, c_JS_indexOf_0, 15, (4, (110, (2, (1, 1000))))⟩ := ⟨cc_JS_indexOf_0, rfl, by decide +kernel, ⟨⟨by decide, by decide⟩, ⟨fun _ => ⟨rfl, rfl⟩, fun q => absurd q (by decide)⟩, rfl, rfl⟩, ⟨rfl, by decide⟩, fun q => absurd q (by decide), fun _ => rfl, fun q => absurd q (by decide), fun q => absurd q (by decide), fun q => absurd q (by decide), fun q => absurd q (by decide)⟩
theorem cc_Po_splitSign : codeChk Y_Po_splitSign.2.1 Y_Po_splitSign.2.2.1 c_Po_splitSign = true := by decide +kernel
theorem me_Po_splitSign : MeOk 74 ⟨Y_Po_splitSign, c_Po_splitSign, 7, (20, (600, (5, (1, 17))))⟩ := ⟨cc_Po_splitSign, rfl, by decide +kernel, ⟨⟨by decide, by decide⟩, ⟨fun _ => ⟨rfl, rfl⟩, fun q => absurd q (by decide)⟩, rfl, rfl⟩, ⟨rfl, by decide⟩, fun q => absurd q (by decide), fun _ => rfl, fun q => absurd q (by decide), fun q => absurd q (by decide), fun q => absurd q (by decide), fun q => absurd q (by decide)⟩
theorem cc_Po_splitOff : codeChk Y_Po_splitOff.2.1 Y_Po_splitOff.2.2.1 c_Po_splitOff = true := by decide +kernel
theorem me_Po_splitOff : MeOk 75 ⟨Y_Po_splitOff, c_Po_splitOff, 7, (21, (624, (4, (1, 17))))⟩ := ⟨cc_Po_splitOff, rfl, by decide +kernel, ⟨⟨by decide, by decide⟩, ⟨fun _ => ⟨rfl, rfl⟩, fun q => absurd q (by decide)⟩, rfl, rfl⟩, ⟨rfl, by decide⟩, fun q => absurd q (by decide), fun _ => rfl, fun q => absurd q (by decide), fun q => absurd q (by decide), fun q => absurd q (by decide), fun q => absurd q (by decide)⟩
theorem cc_Po_split : codeChk Y_Po_split.2.1 Y_Po_split.2.2.1 c_Po_split = true := by decide +kernel
theorem me_Po_split : MeOk 76 ⟨Y_Po_split, c_Po_split, 7, (22, (647, (3, (0, 17))))⟩ := ⟨cc_Po_split, rfl, by decide +kernel, ⟨⟨by decide, by decide⟩, ⟨fun _ => ⟨rfl, rfl⟩, fun q => absurd q (by decide)⟩, rfl, rfl⟩, ⟨rfl, by decide⟩, fun _ => rfl, fun q => absurd q (by decide), fun q => absurd q (by decide), fun q => absurd q (by decide), fun q => absurd q (by decide), fun q => absurd q (by decide)⟩
theorem cc_Po_ruleAt : codeChk Y_Po_ruleAt.2.1 Y_Po_ruleAt.2.2.1 c_Po_ruleAt = true := by decide +kernel
theorem me_Po_ruleAt : MeOk 77 ⟨Y_Po_ruleAt, c_Po_ruleAt, 7, (1, (40, (2, (1, 0))))⟩ := ⟨cc_Po_ruleAt, rfl, by decide +kernel, ⟨⟨by decide, by decide⟩, ⟨fun _ => ⟨rfl, rfl⟩, fun q => absurd q (by decide)⟩, rfl, rfl⟩, ⟨rfl, by decide⟩, fun q => absurd q (by decide), fun _ => rfl, fun q => absurd q (by decide), fun q => absurd q (by decide), fun q => absurd q (by decide), fun q => absurd q (by decide)⟩
theorem cc_JS_checkIndex : codeChk Y_JS_checkIndex.2.1 Y_JS_checkIndex.2.2.1 c_JS_checkIndex = true := by decide +kernel
theorem me_JS_checkIndex : MeOk 78 ⟨Y_JS_checkIndex, c_JS_checkIndex, 15, (2, (62, (2, (0, 0))))⟩ := ⟨cc_JS_checkIndex, rfl, by decide +kernel, ⟨⟨by decide, by decide⟩, ⟨fun _ => ⟨rfl, rfl⟩, fun q => absurd q (by decide)⟩, rfl, rfl⟩, ⟨rfl, by decide⟩, fun _ => rfl, fun q => absurd q (by decide), fun q => absurd q (by decide), fun q => absurd q (by decide), fun q => absurd q (by decide), fun q => absurd q (by decide)⟩
theorem cc_JL_charAt : codeChk Y_JL_charAt.2.1 Y_JL_charAt.2.2.1 c_JL_charAt = true := by decide +kernel
theorem me_JL_charAt : MeOk 79 ⟨Y_JL_charAt, c_JL_charAt, 16, (3, (83, (2, (4, 0))))⟩ := ⟨cc_JL_charAt, rfl, by decide +kernel, ⟨⟨by decide, by decide⟩, ⟨fun _ => ⟨rfl, rfl⟩, fun q => absurd q (by decide)⟩, rfl, rfl⟩, ⟨rfl, by decide⟩, fun q => absurd q (by decide), fun q => absurd q (by decide), fun q => absurd q (by decide), fun q => absurd q (by decide), fun _ => rfl, fun q => absurd q (by decide)⟩
theorem cc_JS_charAt : codeChk Y_JS_charAt.2.1 Y_JS_charAt.2.2.1 c_JS_charAt = true := by decide +kernel
theorem me_JS_charAt : MeOk 80 ⟨Y_JS_charAt, c_JS_charAt, 15, (4, (104, (2, (4, 1000))))⟩ := ⟨cc_JS_charAt, rfl, by decide +kernel, ⟨⟨by decide, by decide⟩, ⟨fun _ => ⟨rfl, rfl⟩, fun q => absurd q (by decide)⟩, rfl, rfl⟩, ⟨rfl, by decide⟩, fun q => absurd q (by decide), fun q => absurd q (by decide), fun q => absurd q (by decide), fun q => absurd q (by decide), fun _ => rfl, fun q => absurd q (by decide)⟩
theorem cc_Po_isWord : codeChk Y_Po_isWord.2.1 Y_Po_isWord.2.2.1 c_Po_isWord = true := by decide +kernel
theorem me_Po_isWord : MeOk 81 ⟨Y_Po_isWord, c_Po_isWord, 7, (20, (600, (3, (2, 17))))⟩ := ⟨cc_Po_isWord, rfl, by decide +kernel, ⟨⟨by decide, by decide⟩, ⟨fun _ => ⟨rfl, rfl⟩, fun q => absurd q (by decide)⟩, rfl, rfl⟩, ⟨rfl, by decide⟩, fun q => absurd q (by decide), fun q => absurd q (by decide), fun _ => rfl, fun q => absurd q (by decide), fun q => absurd q (by decide), fun q => absurd q (by decide)⟩
theorem cc_Po_fail : codeChk Y_Po_fail.2.1 Y_Po_fail.2.2.1 c_Po_fail = true := by decide +kernel
theorem me_Po_fail : MeOk 82 ⟨Y_Po_fail, c_Po_fail, 7, (1, (40, (1, (2, 17))))⟩ := ⟨cc_Po_fail, rfl, by decide +kernel, ⟨⟨by decide, by decide⟩, ⟨fun _ => ⟨rfl, rfl⟩, fun q => absurd q (by decide)⟩, rfl, rfl⟩, ⟨rfl, by decide⟩, fun q => absurd q (by decide), fun q => absurd q (by decide), fun _ => rfl, fun q => absurd q (by decide), fun q => absurd q (by decide), fun q => absurd q (by decide)⟩
theorem cc_Po_readEffect : codeChk Y_Po_readEffect.2.1 Y_Po_readEffect.2.2.1 c_Po_readEffect = true := by decide +kernel
theorem me_Po_readEffect : MeOk 83 ⟨Y_Po_readEffect, c_Po_readEffect, 7, (21, (622, (2, (2, 17))))⟩ := ⟨cc_Po_readEffect, rfl, by decide +kernel, ⟨⟨by decide, by decide⟩, ⟨fun _ => ⟨rfl, rfl⟩, fun q => absurd q (by decide)⟩, rfl, rfl⟩, ⟨rfl, by decide⟩, fun q => absurd q (by decide), fun q => absurd q (by decide), fun _ => rfl, fun q => absurd q (by decide), fun q => absurd q (by decide), fun q => absurd q (by decide)⟩
theorem cc_Po_numberBehind : codeChk Y_Po_numberBehind.2.1 Y_Po_numberBehind.2.2.1 c_Po_numberBehind = true := by decide +kernel
theorem me_Po_numberBehind : MeOk 84 ⟨Y_Po_numberBehind, c_Po_numberBehind, 7, (2, (61, (6, (1, 17))))⟩ := ⟨cc_Po_numberBehind, rfl, by decide +kernel, ⟨⟨by decide, by decide⟩, ⟨fun _ => ⟨rfl, rfl⟩, fun q => absurd q (by decide)⟩, rfl, rfl⟩, ⟨rfl, by decide⟩, fun q => absurd q (by decide), fun _ => rfl, fun q => absurd q (by decide), fun q => absurd q (by decide), fun q => absurd q (by decide), fun q => absurd q (by decide)⟩
theorem cc_Po_readWho : codeChk Y_Po_readWho.2.1 Y_Po_readWho.2.2.1 c_Po_readWho = true := by decide +kernel
theorem me_Po_readWho : MeOk 85 ⟨Y_Po_readWho, c_Po_readWho, 7, (21, (622, (4, (2, 17))))⟩ := ⟨cc_Po_readWho, rfl, by decide +kernel, ⟨⟨by decide, by decide⟩, ⟨fun _ => ⟨rfl, rfl⟩, fun q => absurd q (by decide)⟩, rfl, rfl⟩, ⟨rfl, by decide⟩, fun q => absurd q (by decide), fun q => absurd q (by decide), fun _ => rfl, fun q => absurd q (by decide), fun q => absurd q (by decide), fun q => absurd q (by decide)⟩
theorem cc_Po_oneLetter : codeChk Y_Po_oneLetter.2.1 Y_Po_oneLetter.2.2.1 c_Po_oneLetter = true := by decide +kernel
theorem me_Po_oneLetter : MeOk 86 ⟨Y_Po_oneLetter, c_Po_oneLetter, 7, (1, (40, (2, (4, 17))))⟩ := ⟨cc_Po_oneLetter, rfl, by decide +kernel, ⟨⟨by decide, by decide⟩, ⟨fun _ => ⟨rfl, rfl⟩, fun q => absurd q (by decide)⟩, rfl, rfl⟩, ⟨rfl, by decide⟩, fun q => absurd q (by decide), fun q => absurd q (by decide), fun q => absurd q (by decide), fun q => absurd q (by decide), fun _ => rfl, fun q => absurd q (by decide)⟩
theorem cc_Po_readAct : codeChk Y_Po_readAct.2.1 Y_Po_readAct.2.2.1 c_Po_readAct = true := by decide +kernel
theorem me_Po_readAct : MeOk 87 ⟨Y_Po_readAct, c_Po_readAct, 7, (21, (622, (3, (2, 17))))⟩ := ⟨cc_Po_readAct, rfl, by decide +kernel, ⟨⟨by decide, by decide⟩, ⟨fun _ => ⟨rfl, rfl⟩, fun q => absurd q (by decide)⟩, rfl, rfl⟩, ⟨rfl, by decide⟩, fun q => absurd q (by decide), fun q => absurd q (by decide), fun _ => rfl, fun q => absurd q (by decide), fun q => absurd q (by decide), fun q => absurd q (by decide)⟩
theorem cc_Po_isSign : codeChk Y_Po_isSign.2.1 Y_Po_isSign.2.2.1 c_Po_isSign = true := by decide +kernel
theorem me_Po_isSign : MeOk 88 ⟨Y_Po_isSign, c_Po_isSign, 7, (1, (40, (2, (2, 17))))⟩ := ⟨cc_Po_isSign, rfl, by decide +kernel, ⟨⟨by decide, by decide⟩, ⟨fun _ => ⟨rfl, rfl⟩, fun q => absurd q (by decide)⟩, rfl, rfl⟩, ⟨rfl, by decide⟩, fun q => absurd q (by decide), fun q => absurd q (by decide), fun _ => rfl, fun q => absurd q (by decide), fun q => absurd q (by decide), fun q => absurd q (by decide)⟩
theorem cc_Po_readThing : codeChk Y_Po_readThing.2.1 Y_Po_readThing.2.2.1 c_Po_readThing = true := by decide +kernel
theorem me_Po_readThing : MeOk 89 ⟨Y_Po_readThing, c_Po_readThing, 7, (21, (622, (3, (2, 17))))⟩ := ⟨cc_Po_readThing, rfl, by decide +kernel, ⟨⟨by decide, by decide⟩, ⟨fun _ => ⟨rfl, rfl⟩, fun q => absurd q (by decide)⟩, rfl, rfl⟩, ⟨rfl, by decide⟩, fun q => absurd q (by decide), fun q => absurd q (by decide), fun _ => rfl, fun q => absurd q (by decide), fun q => absurd q (by decide), fun q => absurd q (by decide)⟩
theorem cc_Po_emit : codeChk Y_Po_emit.2.1 Y_Po_emit.2.2.1 c_Po_emit = true := by decide +kernel
theorem me_Po_emit : MeOk 90 ⟨Y_Po_emit, c_Po_emit, 7, (1, (40, (4, (0, 17))))⟩ := ⟨cc_Po_emit, rfl, by decide +kernel, ⟨⟨by decide, by decide⟩, ⟨fun _ => ⟨rfl, rfl⟩, fun q => absurd q (by decide)⟩, rfl, rfl⟩, ⟨rfl, by decide⟩, fun _ => rfl, fun q => absurd q (by decide), fun q => absurd q (by decide), fun q => absurd q (by decide), fun q => absurd q (by decide), fun q => absurd q (by decide)⟩
theorem cc_Po_readFeature : codeChk Y_Po_readFeature.2.1 Y_Po_readFeature.2.2.1 c_Po_readFeature = true := by decide +kernel
theorem me_Po_readFeature : MeOk 91 ⟨Y_Po_readFeature, c_Po_readFeature, 7, (21, (622, (4, (2, 17))))⟩ := ⟨cc_Po_readFeature, rfl, by decide +kernel, ⟨⟨by decide, by decide⟩, ⟨fun _ => ⟨rfl, rfl⟩, fun q => absurd q (by decide)⟩, rfl, rfl⟩, ⟨rfl, by decide⟩, fun q => absurd q (by decide), fun q => absurd q (by decide), fun _ => rfl, fun q => absurd q (by decide), fun q => absurd q (by decide), fun q => absurd q (by decide)⟩
theorem cc_Po_passes : codeChk Y_Po_passes.2.1 Y_Po_passes.2.2.1 c_Po_passes = true := by decide +kernel
theorem me_Po_passes : MeOk 92 ⟨Y_Po_passes, c_Po_passes, 7, (2, (61, (2, (2, 17))))⟩ := ⟨cc_Po_passes, rfl, by decide +kernel, ⟨⟨by decide, by decide⟩, ⟨fun _ => ⟨rfl, rfl⟩, fun q => absurd q (by decide)⟩, rfl, rfl⟩, ⟨rfl, by decide⟩, fun q => absurd q (by decide), fun q => absurd q (by decide), fun _ => rfl, fun q => absurd q (by decide), fun q => absurd q (by decide), fun q => absurd q (by decide)⟩
theorem cc_Po_readItem : codeChk Y_Po_readItem.2.1 Y_Po_readItem.2.2.1 c_Po_readItem = true := by decide +kernel
theorem me_Po_readItem : MeOk 93 ⟨Y_Po_readItem, c_Po_readItem, 7, (200, (4000, (5, (2, 17))))⟩ := ⟨cc_Po_readItem, rfl, by decide +kernel, ⟨⟨by decide, by decide⟩, ⟨fun q => absurd rfl q, fun _ => ⟨by decide, by decide⟩⟩, rfl, rfl⟩, ⟨rfl, by decide⟩, fun q => absurd q (by decide), fun q => absurd q (by decide), fun _ => rfl, fun q => absurd q (by decide), fun q => absurd q (by decide), fun q => absurd q (by decide)⟩
theorem cc_Po_readNested : codeChk Y_Po_readNested.2.1 Y_Po_readNested.2.2.1 c_Po_readNested = true := by decide +kernel
theorem me_Po_readNested : MeOk 94 ⟨Y_Po_readNested, c_Po_readNested, 7, (200, (4000, (3, (2, 17))))⟩ := ⟨cc_Po_readNested, rfl, by decide +kernel, ⟨⟨by decide, by decide⟩, ⟨fun q => absurd rfl q, fun _ => ⟨by decide, by decide⟩⟩, rfl, rfl⟩, ⟨rfl, by decide⟩, fun q => absurd q (by decide), fun q => absurd q (by decide), fun _ => rfl, fun q => absurd q (by decide), fun q => absurd q (by decide), fun q => absurd q (by decide)⟩
theorem cc_Po_readTerm : codeChk Y_Po_readTerm.2.1 Y_Po_readTerm.2.2.1 c_Po_readTerm = true := by decide +kernel
theorem me_Po_readTerm : MeOk 95 ⟨Y_Po_readTerm, c_Po_readTerm, 7, (200, (4000, (2, (2, 17))))⟩ := ⟨cc_Po_readTerm, rfl, by decide +kernel, ⟨⟨by decide, by decide⟩, ⟨fun q => absurd rfl q, fun _ => ⟨by decide, by decide⟩⟩, rfl, rfl⟩, ⟨rfl, by decide⟩, fun q => absurd q (by decide), fun q => absurd q (by decide), fun _ => rfl, fun q => absurd q (by decide), fun q => absurd q (by decide), fun q => absurd q (by decide)⟩
theorem cc_Po_readProduct : codeChk Y_Po_readProduct.2.1 Y_Po_readProduct.2.2.1 c_Po_readProduct = true := by decide +kernel
theorem me_Po_readProduct : MeOk 96 ⟨Y_Po_readProduct, c_Po_readProduct, 7, (200, (4000, (4, (2, 17))))⟩ := ⟨cc_Po_readProduct, rfl, by decide +kernel, ⟨⟨by decide, by decide⟩, ⟨fun q => absurd rfl q, fun _ => ⟨by decide, by decide⟩⟩, rfl, rfl⟩, ⟨rfl, by decide⟩, fun q => absurd q (by decide), fun q => absurd q (by decide), fun _ => rfl, fun q => absurd q (by decide), fun q => absurd q (by decide), fun q => absurd q (by decide)⟩
theorem cc_Po_readSum : codeChk Y_Po_readSum.2.1 Y_Po_readSum.2.2.1 c_Po_readSum = true := by decide +kernel
theorem me_Po_readSum : MeOk 97 ⟨Y_Po_readSum, c_Po_readSum, 7, (200, (4000, (4, (2, 17))))⟩ := ⟨cc_Po_readSum, rfl, by decide +kernel, ⟨⟨by decide, by decide⟩, ⟨fun q => absurd rfl q, fun _ => ⟨by decide, by decide⟩⟩, rfl, rfl⟩, ⟨rfl, by decide⟩, fun q => absurd q (by decide), fun q => absurd q (by decide), fun _ => rfl, fun q => absurd q (by decide), fun q => absurd q (by decide), fun q => absurd q (by decide)⟩
theorem cc_Po_comparisonHere : codeChk Y_Po_comparisonHere.2.1 Y_Po_comparisonHere.2.2.1 c_Po_comparisonHere = true := by decide +kernel
theorem me_Po_comparisonHere : MeOk 98 ⟨Y_Po_comparisonHere, c_Po_comparisonHere, 7, (1, (40, (1, (1, 17))))⟩ := ⟨cc_Po_comparisonHere, rfl, by decide +kernel, ⟨⟨by decide, by decide⟩, ⟨fun _ => ⟨rfl, rfl⟩, fun q => absurd q (by decide)⟩, rfl, rfl⟩, ⟨rfl, by decide⟩, fun q => absurd q (by decide), fun _ => rfl, fun q => absurd q (by decide), fun q => absurd q (by decide), fun q => absurd q (by decide), fun q => absurd q (by decide)⟩
theorem cc_Po_readComparison : codeChk Y_Po_readComparison.2.1 Y_Po_readComparison.2.2.1 c_Po_readComparison = true := by decide +kernel
theorem me_Po_readComparison : MeOk 99 ⟨Y_Po_readComparison, c_Po_readComparison, 7, (601, (20023, (3, (2, 17))))⟩ := ⟨cc_Po_readComparison, rfl, by decide +kernel, ⟨⟨by decide, by decide⟩, ⟨fun _ => ⟨rfl, rfl⟩, fun q => absurd q (by decide)⟩, rfl, rfl⟩, ⟨rfl, by decide⟩, fun q => absurd q (by decide), fun q => absurd q (by decide), fun _ => rfl, fun q => absurd q (by decide), fun q => absurd q (by decide), fun q => absurd q (by decide)⟩
theorem cc_Po_aimHere : codeChk Y_Po_aimHere.2.1 Y_Po_aimHere.2.2.1 c_Po_aimHere = true := by decide +kernel
theorem me_Po_aimHere : MeOk 100 ⟨Y_Po_aimHere, c_Po_aimHere, 7, (1, (40, (2, (0, 17))))⟩ := ⟨cc_Po_aimHere, rfl, by decide +kernel, ⟨⟨by decide, by decide⟩, ⟨fun _ => ⟨rfl, rfl⟩, fun q => absurd q (by decide)⟩, rfl, rfl⟩, ⟨rfl, by decide⟩, fun _ => rfl, fun q => absurd q (by decide), fun q => absurd q (by decide), fun q => absurd q (by decide), fun q => absurd q (by decide), fun q => absurd q (by decide)⟩
theorem cc_Po_readBothWays : codeChk Y_Po_readBothWays.2.1 Y_Po_readBothWays.2.2.1 c_Po_readBothWays = true := by decide +kernel
theorem me_Po_readBothWays : MeOk 101 ⟨Y_Po_readBothWays, c_Po_readBothWays, 7, (200, (4000, (5, (2, 17))))⟩ := ⟨cc_Po_readBothWays, rfl, by decide +kernel, ⟨⟨by decide, by decide⟩, ⟨fun q => absurd rfl q, fun _ => ⟨by decide, by decide⟩⟩, rfl, rfl⟩, ⟨rfl, by decide⟩, fun q => absurd q (by decide), fun q => absurd q (by decide), fun _ => rfl, fun q => absurd q (by decide), fun q => absurd q (by decide), fun q => absurd q (by decide)⟩
theorem cc_Po_readSuch : codeChk Y_Po_readSuch.2.1 Y_Po_readSuch.2.2.1 c_Po_readSuch = true := by decide +kernel
theorem me_Po_readSuch : MeOk 102 ⟨Y_Po_readSuch, c_Po_readSuch, 7, (200, (4000, (2, (2, 17))))⟩ := ⟨cc_Po_readSuch, rfl, by decide +kernel, ⟨⟨by decide, by decide⟩, ⟨fun q => absurd rfl q, fun _ => ⟨by decide, by decide⟩⟩, rfl, rfl⟩, ⟨rfl, by decide⟩, fun q => absurd q (by decide), fun q => absurd q (by decide), fun _ => rfl, fun q => absurd q (by decide), fun q => absurd q (by decide), fun q => absurd q (by decide)⟩
theorem cc_Po_readPart : codeChk Y_Po_readPart.2.1 Y_Po_readPart.2.2.1 c_Po_readPart = true := by decide +kernel
theorem me_Po_readPart : MeOk 103 ⟨Y_Po_readPart, c_Po_readPart, 7, (200, (4000, (4, (2, 17))))⟩ := ⟨cc_Po_readPart, rfl, by decide +kernel, ⟨⟨by decide, by decide⟩, ⟨fun q => absurd rfl q, fun _ => ⟨by decide, by decide⟩⟩, rfl, rfl⟩, ⟨rfl, by decide⟩, fun q => absurd q (by decide), fun q => absurd q (by decide), fun _ => rfl, fun q => absurd q (by decide), fun q => absurd q (by decide), fun q => absurd q (by decide)⟩
theorem cc_Po_readCondition : codeChk Y_Po_readCondition.2.1 Y_Po_readCondition.2.2.1 c_Po_readCondition = true := by decide +kernel
theorem me_Po_readCondition : MeOk 104 ⟨Y_Po_readCondition, c_Po_readCondition, 7, (200, (4000, (4, (2, 17))))⟩ := ⟨cc_Po_readCondition, rfl, by decide +kernel, ⟨⟨by decide, by decide⟩, ⟨fun q => absurd rfl q, fun _ => ⟨by decide, by decide⟩⟩, rfl, rfl⟩, ⟨rfl, by decide⟩, fun q => absurd q (by decide), fun q => absurd q (by decide), fun _ => rfl, fun q => absurd q (by decide), fun q => absurd q (by decide), fun q => absurd q (by decide)⟩
theorem cc_Po_readRule : codeChk Y_Po_readRule.2.1 Y_Po_readRule.2.2.1 c_Po_readRule = true := by decide +kernel
theorem me_Po_readRule : MeOk 105 ⟨Y_Po_readRule, c_Po_readRule, 7, (601, (20023, (2, (2, 17))))⟩ := ⟨cc_Po_readRule, rfl, by decide +kernel, ⟨⟨by decide, by decide⟩, ⟨fun _ => ⟨rfl, rfl⟩, fun q => absurd q (by decide)⟩, rfl, rfl⟩, ⟨rfl, by decide⟩, fun q => absurd q (by decide), fun q => absurd q (by decide), fun _ => rfl, fun q => absurd q (by decide), fun q => absurd q (by decide), fun q => absurd q (by decide)⟩
theorem cc_Po_read : codeChk Y_Po_read.2.1 Y_Po_read.2.2.1 c_Po_read = true := by decide +kernel
theorem me_Po_read : MeOk 106 ⟨Y_Po_read, c_Po_read, 7, (602, (20044, (5, (1, 17))))⟩ := ⟨cc_Po_read, rfl, by decide +kernel, ⟨⟨by decide, by decide⟩, ⟨fun _ => ⟨rfl, rfl⟩, fun q => absurd q (by decide)⟩, rfl, rfl⟩, ⟨rfl, by decide⟩, fun q => absurd q (by decide), fun _ => rfl, fun q => absurd q (by decide), fun q => absurd q (by decide), fun q => absurd q (by decide), fun q => absurd q (by decide)⟩
theorem cc_H_policy : codeChk Y_H_policy.2.1 Y_H_policy.2.2.1 c_H_policy = true := by decide +kernel
theorem me_H_policy : MeOk 107 ⟨Y_H_policy, c_H_policy, 1, (603, (20068, (4, (1, 0))))⟩ := ⟨cc_H_policy, rfl, by decide +kernel, ⟨⟨by decide, by decide⟩, ⟨fun _ => ⟨rfl, rfl⟩, fun q => absurd q (by decide)⟩, rfl, rfl⟩, ⟨rfl, by decide⟩, fun q => absurd q (by decide), fun _ => rfl, fun q => absurd q (by decide), fun q => absurd q (by decide), fun q => absurd q (by decide), fun q => absurd q (by decide)⟩
theorem cc_H_rules : codeChk Y_H_rules.2.1 Y_H_rules.2.2.1 c_H_rules = true := by decide +kernel
theorem me_H_rules : MeOk 108 ⟨Y_H_rules, c_H_rules, 1, (2, (61, (2, (1, 0))))⟩ := ⟨cc_H_rules, rfl, by decide +kernel, ⟨⟨by decide, by decide⟩, ⟨fun _ => ⟨rfl, rfl⟩, fun q => absurd q (by decide)⟩, rfl, rfl⟩, ⟨rfl, by decide⟩, fun q => absurd q (by decide), fun _ => rfl, fun q => absurd q (by decide), fun q => absurd q (by decide), fun q => absurd q (by decide), fun q => absurd q (by decide)⟩
theorem cc_H_sumAhead : codeChk Y_H_sumAhead.2.1 Y_H_sumAhead.2.2.1 c_H_sumAhead = true := by decide +kernel
theorem me_H_sumAhead : MeOk 109 ⟨Y_H_sumAhead, c_H_sumAhead, 1, (1, (40, (2, (1, 0))))⟩ := ⟨cc_H_sumAhead, rfl, by decide +kernel, ⟨⟨by decide, by decide⟩, ⟨fun _ => ⟨rfl, rfl⟩, fun q => absurd q (by decide)⟩, rfl, rfl⟩, ⟨rfl, by decide⟩, fun q => absurd q (by decide), fun _ => rfl, fun q => absurd q (by decide), fun q => absurd q (by decide), fun q => absurd q (by decide), fun q => absurd q (by decide)⟩
theorem cc_H_sumBehind : codeChk Y_H_sumBehind.2.1 Y_H_sumBehind.2.2.1 c_H_sumBehind = true := by decide +kernel
theorem me_H_sumBehind : MeOk 110 ⟨Y_H_sumBehind, c_H_sumBehind, 1, (1, (40, (5, (1, 0))))⟩ := ⟨cc_H_sumBehind, rfl, by decide +kernel, ⟨⟨by decide, by decide⟩, ⟨fun _ => ⟨rfl, rfl⟩, fun q => absurd q (by decide)⟩, rfl, rfl⟩, ⟨rfl, by decide⟩, fun q => absurd q (by decide), fun _ => rfl, fun q => absurd q (by decide), fun q => absurd q (by decide), fun q => absurd q (by decide), fun q => absurd q (by decide)⟩
theorem cc_H_writeLog : codeChk Y_H_writeLog.2.1 Y_H_writeLog.2.2.1 c_H_writeLog = true := by decide +kernel
theorem me_H_writeLog : MeOk 111 ⟨Y_H_writeLog, c_H_writeLog, 1, (2, (64, (7, (0, 0))))⟩ := ⟨cc_H_writeLog, rfl, by decide +kernel, ⟨⟨by decide, by decide⟩, ⟨fun _ => ⟨rfl, rfl⟩, fun q => absurd q (by decide)⟩, rfl, rfl⟩, ⟨rfl, by decide⟩, fun _ => rfl, fun q => absurd q (by decide), fun q => absurd q (by decide), fun q => absurd q (by decide), fun q => absurd q (by decide), fun q => absurd q (by decide)⟩
theorem cc_H_inForce : codeChk Y_H_inForce.2.1 Y_H_inForce.2.2.1 c_H_inForce = true := by decide +kernel
theorem me_H_inForce : MeOk 112 ⟨Y_H_inForce, c_H_inForce, 1, (3, (90, (2, (1, 0))))⟩ := ⟨cc_H_inForce, rfl, by decide +kernel, ⟨⟨by decide, by decide⟩, ⟨fun _ => ⟨rfl, rfl⟩, fun q => absurd q (by decide)⟩, rfl, rfl⟩, ⟨rfl, by decide⟩, fun q => absurd q (by decide), fun _ => rfl, fun q => absurd q (by decide), fun q => absurd q (by decide), fun q => absurd q (by decide), fun q => absurd q (by decide)⟩
theorem cc_H_policyInForce : codeChk Y_H_policyInForce.2.1 Y_H_policyInForce.2.2.1 c_H_policyInForce = true := by decide +kernel
theorem me_H_policyInForce : MeOk 113 ⟨Y_H_policyInForce, c_H_policyInForce, 1, (1, (40, (3, (1, 0))))⟩ := ⟨cc_H_policyInForce, rfl, by decide +kernel, ⟨⟨by decide, by decide⟩, ⟨fun _ => ⟨rfl, rfl⟩, fun q => absurd q (by decide)⟩, rfl, rfl⟩, ⟨rfl, by decide⟩, fun q => absurd q (by decide), fun _ => rfl, fun q => absurd q (by decide), fun q => absurd q (by decide), fun q => absurd q (by decide), fun q => absurd q (by decide)⟩
theorem cc_H_isRequest : codeChk Y_H_isRequest.2.1 Y_H_isRequest.2.2.1 c_H_isRequest = true := by decide +kernel
theorem me_H_isRequest : MeOk 114 ⟨Y_H_isRequest, c_H_isRequest, 1, (2, (61, (4, (2, 0))))⟩ := ⟨cc_H_isRequest, rfl, by decide +kernel, ⟨⟨by decide, by decide⟩, ⟨fun _ => ⟨rfl, rfl⟩, fun q => absurd q (by decide)⟩, rfl, rfl⟩, ⟨rfl, by decide⟩, fun q => absurd q (by decide), fun q => absurd q (by decide), fun _ => rfl, fun q => absurd q (by decide), fun q => absurd q (by decide), fun q => absurd q (by decide)⟩
theorem cc_Ju_setMoment : codeChk Y_Ju_setMoment.2.1 Y_Ju_setMoment.2.2.1 c_Ju_setMoment = true := by decide +kernel
theorem me_Ju_setMoment : MeOk 115 ⟨Y_Ju_setMoment, c_Ju_setMoment, 5, (1, (40, (3, (0, 27))))⟩ := ⟨cc_Ju_setMoment, rfl, by decide +kernel, ⟨⟨by decide, by decide⟩, ⟨fun _ => ⟨rfl, rfl⟩, fun q => absurd q (by decide)⟩, rfl, rfl⟩, ⟨rfl, by decide⟩, fun _ => rfl, fun q => absurd q (by decide), fun q => absurd q (by decide), fun q => absurd q (by decide), fun q => absurd q (by decide), fun q => absurd q (by decide)⟩
theorem cc_Ju_setPerson : codeChk Y_Ju_setPerson.2.1 Y_Ju_setPerson.2.2.1 c_Ju_setPerson = true := by decide +kernel
theorem me_Ju_setPerson : MeOk 116 ⟨Y_Ju_setPerson, c_Ju_setPerson, 5, (1, (40, (3, (0, 27))))⟩ := ⟨cc_Ju_setPerson, rfl, by decide +kernel, ⟨⟨by decide, by decide⟩, ⟨fun _ => ⟨rfl, rfl⟩, fun q => absurd q (by decide)⟩, rfl, rfl⟩, ⟨rfl, by decide⟩, fun _ => rfl, fun q => absurd q (by decide), fun q => absurd q (by decide), fun q => absurd q (by decide), fun q => absurd q (by decide), fun q => absurd q (by decide)⟩
theorem cc_Ju_fitsWho : codeChk Y_Ju_fitsWho.2.1 Y_Ju_fitsWho.2.2.1 c_Ju_fitsWho = true := by decide +kernel
theorem me_Ju_fitsWho : MeOk 117 ⟨Y_Ju_fitsWho, c_Ju_fitsWho, 5, (1, (40, (3, (2, 27))))⟩ := ⟨cc_Ju_fitsWho, rfl, by decide +kernel, ⟨⟨by decide, by decide⟩, ⟨fun _ => ⟨rfl, rfl⟩, fun q => absurd q (by decide)⟩, rfl, rfl⟩, ⟨rfl, by decide⟩, fun q => absurd q (by decide), fun q => absurd q (by decide), fun _ => rfl, fun q => absurd q (by decide), fun q => absurd q (by decide), fun q => absurd q (by decide)⟩
theorem cc_Ju_fitsAct : codeChk Y_Ju_fitsAct.2.1 Y_Ju_fitsAct.2.2.1 c_Ju_fitsAct = true := by decide +kernel
theorem me_Ju_fitsAct : MeOk 118 ⟨Y_Ju_fitsAct, c_Ju_fitsAct, 5, (2, (62, (5, (2, 27))))⟩ := ⟨cc_Ju_fitsAct, rfl, by decide +kernel, ⟨⟨by decide, by decide⟩, ⟨fun _ => ⟨rfl, rfl⟩, fun q => absurd q (by decide)⟩, rfl, rfl⟩, ⟨rfl, by decide⟩, fun q => absurd q (by decide), fun q => absurd q (by decide), fun _ => rfl, fun q => absurd q (by decide), fun q => absurd q (by decide), fun q => absurd q (by decide)⟩
theorem cc_Ju_fitsThing : codeChk Y_Ju_fitsThing.2.1 Y_Ju_fitsThing.2.2.1 c_Ju_fitsThing = true := by decide +kernel
theorem me_Ju_fitsThing : MeOk 119 ⟨Y_Ju_fitsThing, c_Ju_fitsThing, 5, (2, (64, (3, (2, 27))))⟩ := ⟨cc_Ju_fitsThing, rfl, by decide +kernel, ⟨⟨by decide, by decide⟩, ⟨fun _ => ⟨rfl, rfl⟩, fun q => absurd q (by decide)⟩, rfl, rfl⟩, ⟨rfl, by decide⟩, fun q => absurd q (by decide), fun q => absurd q (by decide), fun _ => rfl, fun q => absurd q (by decide), fun q => absurd q (by decide), fun q => absurd q (by decide)⟩
theorem cc_Ju_behindSkip : codeChk Y_Ju_behindSkip.2.1 Y_Ju_behindSkip.2.2.1 c_Ju_behindSkip = true := by decide +kernel
theorem me_Ju_behindSkip : MeOk 120 ⟨Y_Ju_behindSkip, c_Ju_behindSkip, 5, (20, (600, (5, (1, 27))))⟩ := ⟨cc_Ju_behindSkip, rfl, by decide +kernel, ⟨⟨by decide, by decide⟩, ⟨fun _ => ⟨rfl, rfl⟩, fun q => absurd q (by decide)⟩, rfl, rfl⟩, ⟨rfl, by decide⟩, fun q => absurd q (by decide), fun _ => rfl, fun q => absurd q (by decide), fun q => absurd q (by decide), fun q => absurd q (by decide), fun q => absurd q (by decide)⟩
theorem cc_Ju_slotOf : codeChk Y_Ju_slotOf.2.1 Y_Ju_slotOf.2.2.1 c_Ju_slotOf = true := by decide +kernel
theorem me_Ju_slotOf : MeOk 121 ⟨Y_Ju_slotOf, c_Ju_slotOf, 5, (2, (61, (4, (1, 27))))⟩ := ⟨cc_Ju_slotOf, rfl, by decide +kernel, ⟨⟨by decide, by decide⟩, ⟨fun _ => ⟨rfl, rfl⟩, fun q => absurd q (by decide)⟩, rfl, rfl⟩, ⟨rfl, by decide⟩, fun q => absurd q (by decide), fun _ => rfl, fun q => absurd q (by decide), fun q => absurd q (by decide), fun q => absurd q (by decide), fun q => absurd q (by decide)⟩
theorem cc_Ju_pushTruth : codeChk Y_Ju_pushTruth.2.1 Y_Ju_pushTruth.2.2.1 c_Ju_pushTruth = true := by decide +kernel
theorem me_Ju_pushTruth : MeOk 122 ⟨Y_Ju_pushTruth, c_Ju_pushTruth, 5, (1, (40, (2, (0, 27))))⟩ := ⟨cc_Ju_pushTruth, rfl, by decide +kernel, ⟨⟨by decide, by decide⟩, ⟨fun _ => ⟨rfl, rfl⟩, fun q => absurd q (by decide)⟩, rfl, rfl⟩, ⟨rfl, by decide⟩, fun _ => rfl, fun q => absurd q (by decide), fun q => absurd q (by decide), fun q => absurd q (by decide), fun q => absurd q (by decide), fun q => absurd q (by decide)⟩
theorem cc_Ju_combine : codeChk Y_Ju_combine.2.1 Y_Ju_combine.2.2.1 c_Ju_combine = true := by decide +kernel
theorem me_Ju_combine : MeOk 123 ⟨Y_Ju_combine, c_Ju_combine, 5, (3, (84, (7, (0, 27))))⟩ := ⟨cc_Ju_combine, rfl, by decide +kernel, ⟨⟨by decide, by decide⟩, ⟨fun _ => ⟨rfl, rfl⟩, fun q => absurd q (by decide)⟩, rfl, rfl⟩, ⟨rfl, by decide⟩, fun _ => rfl, fun q => absurd q (by decide), fun q => absurd q (by decide), fun q => absurd q (by decide), fun q => absurd q (by decide), fun q => absurd q (by decide)⟩
theorem cc_Ju_pushValue : codeChk Y_Ju_pushValue.2.1 Y_Ju_pushValue.2.2.1 c_Ju_pushValue = true := by decide +kernel
theorem me_Ju_pushValue : MeOk 124 ⟨Y_Ju_pushValue, c_Ju_pushValue, 5, (1, (40, (4, (1, 27))))⟩ := ⟨cc_Ju_pushValue, rfl, by decide +kernel, ⟨⟨by decide, by decide⟩, ⟨fun _ => ⟨rfl, rfl⟩, fun q => absurd q (by decide)⟩, rfl, rfl⟩, ⟨rfl, by decide⟩, fun q => absurd q (by decide), fun _ => rfl, fun q => absurd q (by decide), fun q => absurd q (by decide), fun q => absurd q (by decide), fun q => absurd q (by decide)⟩
theorem cc_Ju_failBy : codeChk Y_Ju_failBy.2.1 Y_Ju_failBy.2.2.1 c_Ju_failBy = true := by decide +kernel
theorem me_Ju_failBy : MeOk 125 ⟨Y_Ju_failBy, c_Ju_failBy, 5, (1, (40, (2, (1, 27))))⟩ := ⟨cc_Ju_failBy, rfl, by decide +kernel, ⟨⟨by decide, by decide⟩, ⟨fun _ => ⟨rfl, rfl⟩, fun q => absurd q (by decide)⟩, rfl, rfl⟩, ⟨rfl, by decide⟩, fun q => absurd q (by decide), fun _ => rfl, fun q => absurd q (by decide), fun q => absurd q (by decide), fun q => absurd q (by decide), fun q => absurd q (by decide)⟩
theorem cc_Ju_loadItem : codeChk Y_Ju_loadItem.2.1 Y_Ju_loadItem.2.2.1 c_Ju_loadItem = true := by decide +kernel
theorem me_Ju_loadItem : MeOk 126 ⟨Y_Ju_loadItem, c_Ju_loadItem, 5, (2, (63, (4, (1, 27))))⟩ := ⟨cc_Ju_loadItem, rfl, by decide +kernel, ⟨⟨by decide, by decide⟩, ⟨fun _ => ⟨rfl, rfl⟩, fun q => absurd q (by decide)⟩, rfl, rfl⟩, ⟨rfl, by decide⟩, fun q => absurd q (by decide), fun _ => rfl, fun q => absurd q (by decide), fun q => absurd q (by decide), fun q => absurd q (by decide), fun q => absurd q (by decide)⟩
theorem cc_Ju_load : codeChk Y_Ju_load.2.1 Y_Ju_load.2.2.1 c_Ju_load = true := by decide +kernel
theorem me_Ju_load : MeOk 127 ⟨Y_Ju_load, c_Ju_load, 5, (3, (86, (5, (1, 27))))⟩ := ⟨cc_Ju_load, rfl, by decide +kernel, ⟨⟨by decide, by decide⟩, ⟨fun _ => ⟨rfl, rfl⟩, fun q => absurd q (by decide)⟩, rfl, rfl⟩, ⟨rfl, by decide⟩, fun q => absurd q (by decide), fun _ => rfl, fun q => absurd q (by decide), fun q => absurd q (by decide), fun q => absurd q (by decide), fun q => absurd q (by decide)⟩
theorem cc_Re_negated : codeChk Y_Re_negated.2.1 Y_Re_negated.2.2.1 c_Re_negated = true := by decide +kernel
theorem me_Re_negated : MeOk 128 ⟨Y_Re_negated, c_Re_negated, 8, (2, (61, (2, (3, 0))))⟩ := ⟨cc_Re_negated, rfl, by decide +kernel, ⟨⟨by decide, by decide⟩, ⟨fun _ => ⟨rfl, rfl⟩, fun q => absurd q (by decide)⟩, rfl, rfl⟩, ⟨rfl, by decide⟩, fun q => absurd q (by decide), fun q => absurd q (by decide), fun q => absurd q (by decide), fun _ => rfl, fun q => absurd q (by decide), fun q => absurd q (by decide)⟩
theorem cc_Ju_calculateWholes : codeChk Y_Ju_calculateWholes.2.1 Y_Ju_calculateWholes.2.2.1 c_Ju_calculateWholes = true := by decide +kernel
theorem me_Ju_calculateWholes : MeOk 129 ⟨Y_Ju_calculateWholes, c_Ju_calculateWholes, 5, (2, (63, (6, (1, 27))))⟩ := ⟨cc_Ju_calculateWholes, rfl, by decide +kernel, ⟨⟨by decide, by decide⟩, ⟨fun _ => ⟨rfl, rfl⟩, fun q => absurd q (by decide)⟩, rfl, rfl⟩, ⟨rfl, by decide⟩, fun q => absurd q (by decide), fun _ => rfl, fun q => absurd q (by decide), fun q => absurd q (by decide), fun q => absurd q (by decide), fun q => absurd q (by decide)⟩
theorem cc_Re_plus : codeChk Y_Re_plus.2.1 Y_Re_plus.2.2.1 c_Re_plus = true := by decide +kernel
theorem me_Re_plus : MeOk 130 ⟨Y_Re_plus, c_Re_plus, 8, (2, (75, (15, (3, 0))))⟩ := ⟨cc_Re_plus, rfl, by decide +kernel, ⟨⟨by decide, by decide⟩, ⟨fun _ => ⟨rfl, rfl⟩, fun q => absurd q (by decide)⟩, rfl, rfl⟩, ⟨rfl, by decide⟩, fun q => absurd q (by decide), fun q => absurd q (by decide), fun q => absurd q (by decide), fun _ => rfl, fun q => absurd q (by decide), fun q => absurd q (by decide)⟩
theorem cc_Re_times : codeChk Y_Re_times.2.1 Y_Re_times.2.2.1 c_Re_times = true := by decide +kernel
theorem me_Re_times : MeOk 131 ⟨Y_Re_times, c_Re_times, 8, (2, (75, (22, (3, 0))))⟩ := ⟨cc_Re_times, rfl, by decide +kernel, ⟨⟨by decide, by decide⟩, ⟨fun _ => ⟨rfl, rfl⟩, fun q => absurd q (by decide)⟩, rfl, rfl⟩, ⟨rfl, by decide⟩, fun q => absurd q (by decide), fun q => absurd q (by decide), fun q => absurd q (by decide), fun _ => rfl, fun q => absurd q (by decide), fun q => absurd q (by decide)⟩
theorem cc_Re_rest : codeChk Y_Re_rest.2.1 Y_Re_rest.2.2.1 c_Re_rest = true := by decide +kernel
theorem me_Re_rest : MeOk 132 ⟨Y_Re_rest, c_Re_rest, 8, (2, (75, (10, (3, 0))))⟩ := ⟨cc_Re_rest, rfl, by decide +kernel, ⟨⟨by decide, by decide⟩, ⟨fun _ => ⟨rfl, rfl⟩, fun q => absurd q (by decide)⟩, rfl, rfl⟩, ⟨rfl, by decide⟩, fun q => absurd q (by decide), fun q => absurd q (by decide), fun q => absurd q (by decide), fun _ => rfl, fun q => absurd q (by decide), fun q => absurd q (by decide)⟩
theorem cc_Ju_calculate : codeChk Y_Ju_calculate.2.1 Y_Ju_calculate.2.2.1 c_Ju_calculate = true := by decide +kernel
theorem me_Ju_calculate : MeOk 133 ⟨Y_Ju_calculate, c_Ju_calculate, 5, (3, (116, (6, (1, 27))))⟩ := ⟨cc_Ju_calculate, rfl, by decide +kernel, ⟨⟨by decide, by decide⟩, ⟨fun _ => ⟨rfl, rfl⟩, fun q => absurd q (by decide)⟩, rfl, rfl⟩, ⟨rfl, by decide⟩, fun q => absurd q (by decide), fun _ => rfl, fun q => absurd q (by decide), fun q => absurd q (by decide), fun q => absurd q (by decide), fun q => absurd q (by decide)⟩
theorem cc_Wh_hasMark : codeChk Y_Wh_hasMark.2.1 Y_Wh_hasMark.2.2.1 c_Wh_hasMark = true := by decide +kernel
theorem me_Wh_hasMark : MeOk 134 ⟨Y_Wh_hasMark, c_Wh_hasMark, 11, (1, (40, (5, (2, 5))))⟩ := ⟨cc_Wh_hasMark, rfl, by decide +kernel, ⟨⟨by decide, by decide⟩, ⟨fun _ => ⟨rfl, rfl⟩, fun q => absurd q (by decide)⟩, rfl, rfl⟩, ⟨rfl, by decide⟩, fun q => absurd q (by decide), fun q => absurd q (by decide), fun _ => rfl, fun q => absurd q (by decide), fun q => absurd q (by decide), fun q => absurd q (by decide)⟩
theorem cc_Ju_weighAmong : codeChk Y_Ju_weighAmong.2.1 Y_Ju_weighAmong.2.2.1 c_Ju_weighAmong = true := by decide +kernel
theorem me_Ju_weighAmong : MeOk 135 ⟨Y_Ju_weighAmong, c_Ju_weighAmong, 5, (2, (64, (2, (1, 27))))⟩ := ⟨cc_Ju_weighAmong, rfl, by decide +kernel, ⟨⟨by decide, by decide⟩, ⟨fun _ => ⟨rfl, rfl⟩, fun q => absurd q (by decide)⟩, rfl, rfl⟩, ⟨rfl, by decide⟩, fun q => absurd q (by decide), fun _ => rfl, fun q => absurd q (by decide), fun q => absurd q (by decide), fun q => absurd q (by decide), fun q => absurd q (by decide)⟩
theorem cc_Re_order : codeChk Y_Re_order.2.1 Y_Re_order.2.2.1 c_Re_order = true := by decide +kernel
theorem me_Re_order : MeOk 136 ⟨Y_Re_order, c_Re_order, 8, (20, (600, (8, (1, 0))))⟩ := ⟨cc_Re_order, rfl, by decide +kernel, ⟨⟨by decide, by decide⟩, ⟨fun _ => ⟨rfl, rfl⟩, fun q => absurd q (by decide)⟩, rfl, rfl⟩, ⟨rfl, by decide⟩, fun q => absurd q (by decide), fun _ => rfl, fun q => absurd q (by decide), fun q => absurd q (by decide), fun q => absurd q (by decide), fun q => absurd q (by decide)⟩
theorem cc_Ju_isSo : codeChk Y_Ju_isSo.2.1 Y_Ju_isSo.2.2.1 c_Ju_isSo = true := by decide +kernel
theorem me_Ju_isSo : MeOk 137 ⟨Y_Ju_isSo, c_Ju_isSo, 5, (1, (40, (2, (2, 0))))⟩ := ⟨cc_Ju_isSo, rfl, by decide +kernel, ⟨⟨by decide, by decide⟩, ⟨fun _ => ⟨rfl, rfl⟩, fun q => absurd q (by decide)⟩, rfl, rfl⟩, ⟨rfl, by decide⟩, fun q => absurd q (by decide), fun q => absurd q (by decide), fun _ => rfl, fun q => absurd q (by decide), fun q => absurd q (by decide), fun q => absurd q (by decide)⟩
theorem cc_Ju_weigh : codeChk Y_Ju_weigh.2.1 Y_Ju_weigh.2.2.1 c_Ju_weigh = true := by decide +kernel
theorem me_Ju_weigh : MeOk 138 ⟨Y_Ju_weigh, c_Ju_weigh, 5, (21, (627, (9, (1, 27))))⟩ := ⟨cc_Ju_weigh, rfl, by decide +kernel, ⟨⟨by decide, by decide⟩, ⟨fun _ => ⟨rfl, rfl⟩, fun q => absurd q (by decide)⟩, rfl, rfl⟩, ⟨rfl, by decide⟩, fun q => absurd q (by decide), fun _ => rfl, fun q => absurd q (by decide), fun q => absurd q (by decide), fun q => absurd q (by decide), fun q => absurd q (by decide)⟩
theorem cc_Ju_endOfComparison : codeChk Y_Ju_endOfComparison.2.1 Y_Ju_endOfComparison.2.2.1 c_Ju_endOfComparison = true := by decide +kernel
theorem me_Ju_endOfComparison : MeOk 139 ⟨Y_Ju_endOfComparison, c_Ju_endOfComparison, 5, (1, (40, (4, (1, 27))))⟩ := ⟨cc_Ju_endOfComparison, rfl, by decide +kernel, ⟨⟨by decide, by decide⟩, ⟨fun _ => ⟨rfl, rfl⟩, fun q => absurd q (by decide)⟩, rfl, rfl⟩, ⟨rfl, by decide⟩, fun q => absurd q (by decide), fun _ => rfl, fun q => absurd q (by decide), fun q => absurd q (by decide), fun q => absurd q (by decide), fun q => absurd q (by decide)⟩
theorem cc_Ju_truthOf : codeChk Y_Ju_truthOf.2.1 Y_Ju_truthOf.2.2.1 c_Ju_truthOf = true := by decide +kernel
theorem me_Ju_truthOf : MeOk 140 ⟨Y_Ju_truthOf, c_Ju_truthOf, 5, (22, (655, (6, (1, 27))))⟩ := ⟨cc_Ju_truthOf, rfl, by decide +kernel, ⟨⟨by decide, by decide⟩, ⟨fun _ => ⟨rfl, rfl⟩, fun q => absurd q (by decide)⟩, rfl, rfl⟩, ⟨rfl, by decide⟩, fun q => absurd q (by decide), fun _ => rfl, fun q => absurd q (by decide), fun q => absurd q (by decide), fun q => absurd q (by decide), fun q => absurd q (by decide)⟩
theorem cc_Ju_spoken : codeChk Y_Ju_spoken.2.1 Y_Ju_spoken.2.2.1 c_Ju_spoken = true := by decide +kernel
theorem me_Ju_spoken : MeOk 141 ⟨Y_Ju_spoken, c_Ju_spoken, 5, (23, (680, (5, (1, 27))))⟩ := ⟨cc_Ju_spoken, rfl, by decide +kernel, ⟨⟨by decide, by decide⟩, ⟨fun _ => ⟨rfl, rfl⟩, fun q => absurd q (by decide)⟩, rfl, rfl⟩, ⟨rfl, by decide⟩, fun q => absurd q (by decide), fun _ => rfl, fun q => absurd q (by decide), fun q => absurd q (by decide), fun q => absurd q (by decide), fun q => absurd q (by decide)⟩
theorem cc_Ju_weightOf : codeChk Y_Ju_weightOf.2.1 Y_Ju_weightOf.2.2.1 c_Ju_weightOf = true := by decide +kernel
theorem me_Ju_weightOf : MeOk 142 ⟨Y_Ju_weightOf, c_Ju_weightOf, 5, (2, (64, (6, (1, 27))))⟩ := ⟨cc_Ju_weightOf, rfl, by decide +kernel, ⟨⟨by decide, by decide⟩, ⟨fun _ => ⟨rfl, rfl⟩, fun q => absurd q (by decide)⟩, rfl, rfl⟩, ⟨rfl, by decide⟩, fun q => absurd q (by decide), fun _ => rfl, fun q => absurd q (by decide), fun q => absurd q (by decide), fun q => absurd q (by decide), fun q => absurd q (by decide)⟩
theorem cc_Ju_answer : codeChk Y_Ju_answer.2.1 Y_Ju_answer.2.2.1 c_Ju_answer = true := by decide +kernel
theorem me_Ju_answer : MeOk 143 ⟨Y_Ju_answer, c_Ju_answer, 5, (24, (704, (11, (1, 27))))⟩ := ⟨cc_Ju_answer, rfl, by decide +kernel, ⟨⟨by decide, by decide⟩, ⟨fun _ => ⟨rfl, rfl⟩, fun q => absurd q (by decide)⟩, rfl, rfl⟩, ⟨rfl, by decide⟩, fun q => absurd q (by decide), fun _ => rfl, fun q => absurd q (by decide), fun q => absurd q (by decide), fun q => absurd q (by decide), fun q => absurd q (by decide)⟩
theorem cc_Ju_answerKept : codeChk Y_Ju_answerKept.2.1 Y_Ju_answerKept.2.2.1 c_Ju_answerKept = true := by decide +kernel
theorem me_Ju_answerKept : MeOk 144 ⟨Y_Ju_answerKept, c_Ju_answerKept, 5, (25, (734, (5, (1, 27))))⟩ := ⟨cc_Ju_answerKept, rfl, by decide +kernel, ⟨⟨by decide, by decide⟩, ⟨fun _ => ⟨rfl, rfl⟩, fun q => absurd q (by decide)⟩, rfl, rfl⟩, ⟨rfl, by decide⟩, fun q => absurd q (by decide), fun _ => rfl, fun q => absurd q (by decide), fun q => absurd q (by decide), fun q => absurd q (by decide), fun q => absurd q (by decide)⟩
theorem cc_H_ask : codeChk Y_H_ask.2.1 Y_H_ask.2.2.1 c_H_ask = true := by decide +kernel
theorem me_H_ask : MeOk 145 ⟨Y_H_ask, c_H_ask, 1, (26, (758, (5, (1, 0))))⟩ := ⟨cc_H_ask, rfl, by decide +kernel, ⟨⟨by decide, by decide⟩, ⟨fun _ => ⟨rfl, rfl⟩, fun q => absurd q (by decide)⟩, rfl, rfl⟩, ⟨rfl, by decide⟩, fun q => absurd q (by decide), fun _ => rfl, fun q => absurd q (by decide), fun q => absurd q (by decide), fun q => absurd q (by decide), fun q => absurd q (by decide)⟩
theorem cc_H_asked : codeChk Y_H_asked.2.1 Y_H_asked.2.2.1 c_H_asked = true := by decide +kernel
theorem me_H_asked : MeOk 146 ⟨Y_H_asked, c_H_asked, 1, (26, (758, (6, (1, 0))))⟩ := ⟨cc_H_asked, rfl, by decide +kernel, ⟨⟨by decide, by decide⟩, ⟨fun _ => ⟨rfl, rfl⟩, fun q => absurd q (by decide)⟩, rfl, rfl⟩, ⟨rfl, by decide⟩, fun q => absurd q (by decide), fun _ => rfl, fun q => absurd q (by decide), fun q => absurd q (by decide), fun q => absurd q (by decide), fun q => absurd q (by decide)⟩
theorem cc_H_made : codeChk Y_H_made.2.1 Y_H_made.2.2.1 c_H_made = true := by decide +kernel
theorem me_H_made : MeOk 147 ⟨Y_H_made, c_H_made, 1, (2, (61, (2, (1, 0))))⟩ := ⟨cc_H_made, rfl, by decide +kernel, ⟨⟨by decide, by decide⟩, ⟨fun _ => ⟨rfl, rfl⟩, fun q => absurd q (by decide)⟩, rfl, rfl⟩, ⟨rfl, by decide⟩, fun q => absurd q (by decide), fun _ => rfl, fun q => absurd q (by decide), fun q => absurd q (by decide), fun q => absurd q (by decide), fun q => absurd q (by decide)⟩
theorem cc_Ju_thingAllowed : codeChk Y_Ju_thingAllowed.2.1 Y_Ju_thingAllowed.2.2.1 c_Ju_thingAllowed = true := by decide +kernel
theorem me_Ju_thingAllowed : MeOk 148 ⟨Y_Ju_thingAllowed, c_Ju_thingAllowed, 5, (25, (734, (6, (1, 27))))⟩ := ⟨cc_Ju_thingAllowed, rfl, by decide +kernel, ⟨⟨by decide, by decide⟩, ⟨fun _ => ⟨rfl, rfl⟩, fun q => absurd q (by decide)⟩, rfl, rfl⟩, ⟨rfl, by decide⟩, fun q => absurd q (by decide), fun _ => rfl, fun q => absurd q (by decide), fun q => absurd q (by decide), fun q => absurd q (by decide), fun q => absurd q (by decide)⟩
theorem cc_H_may : codeChk Y_H_may.2.1 Y_H_may.2.2.1 c_H_may = true := by decide +kernel
theorem me_H_may : MeOk 149 ⟨Y_H_may, c_H_may, 1, (26, (759, (5, (1, 0))))⟩ := ⟨cc_H_may, rfl, by decide +kernel, ⟨⟨by decide, by decide⟩, ⟨fun _ => ⟨rfl, rfl⟩, fun q => absurd q (by decide)⟩, rfl, rfl⟩, ⟨rfl, by decide⟩, fun q => absurd q (by decide), fun _ => rfl, fun q => absurd q (by decide), fun q => absurd q (by decide), fun q => absurd q (by decide), fun q => absurd q (by decide)⟩
theorem cc_Ju_personAllowed : codeChk Y_Ju_personAllowed.2.1 Y_Ju_personAllowed.2.2.1 c_Ju_personAllowed = true := by decide +kernel
theorem me_Ju_personAllowed : MeOk 150 ⟨Y_Ju_personAllowed, c_Ju_personAllowed, 5, (25, (734, (7, (1, 27))))⟩ := ⟨cc_Ju_personAllowed, rfl, by decide +kernel, ⟨⟨by decide, by decide⟩, ⟨fun _ => ⟨rfl, rfl⟩, fun q => absurd q (by decide)⟩, rfl, rfl⟩, ⟨rfl, by decide⟩, fun q => absurd q (by decide), fun _ => rfl, fun q => absurd q (by decide), fun q => absurd q (by decide), fun q => absurd q (by decide), fun q => absurd q (by decide)⟩
theorem cc_H_who : codeChk Y_H_who.2.1 Y_H_who.2.2.1 c_H_who = true := by decide +kernel
theorem me_H_who : MeOk 151 ⟨Y_H_who, c_H_who, 1, (26, (760, (5, (1, 0))))⟩ := ⟨cc_H_who, rfl, by decide +kernel, ⟨⟨by decide, by decide⟩, ⟨fun _ => ⟨rfl, rfl⟩, fun q => absurd q (by decide)⟩, rfl, rfl⟩, ⟨rfl, by decide⟩, fun q => absurd q (by decide), fun _ => rfl, fun q => absurd q (by decide), fun q => absurd q (by decide), fun q => absurd q (by decide), fun q => absurd q (by decide)⟩
theorem cc_Ju_noteDifference : codeChk Y_Ju_noteDifference.2.1 Y_Ju_noteDifference.2.2.1 c_Ju_noteDifference = true := by decide +kernel
theorem me_Ju_noteDifference : MeOk 152 ⟨Y_Ju_noteDifference, c_Ju_noteDifference, 5, (1, (40, (5, (0, 27))))⟩ := ⟨cc_Ju_noteDifference, rfl, by decide +kernel, ⟨⟨by decide, by decide⟩, ⟨fun _ => ⟨rfl, rfl⟩, fun q => absurd q (by decide)⟩, rfl, rfl⟩, ⟨rfl, by decide⟩, fun _ => rfl, fun q => absurd q (by decide), fun q => absurd q (by decide), fun q => absurd q (by decide), fun q => absurd q (by decide), fun q => absurd q (by decide)⟩
theorem cc_Ju_differences : codeChk Y_Ju_differences.2.1 Y_Ju_differences.2.2.1 c_Ju_differences = true := by decide +kernel
theorem me_Ju_differences : MeOk 153 ⟨Y_Ju_differences, c_Ju_differences, 5, (25, (734, (9, (1, 27))))⟩ := ⟨cc_Ju_differences, rfl, by decide +kernel, ⟨⟨by decide, by decide⟩, ⟨fun _ => ⟨rfl, rfl⟩, fun q => absurd q (by decide)⟩, rfl, rfl⟩, ⟨rfl, by decide⟩, fun q => absurd q (by decide), fun _ => rfl, fun q => absurd q (by decide), fun q => absurd q (by decide), fun q => absurd q (by decide), fun q => absurd q (by decide)⟩
theorem cc_H_compare : codeChk Y_H_compare.2.1 Y_H_compare.2.2.1 c_H_compare = true := by decide +kernel
theorem me_H_compare : MeOk 154 ⟨Y_H_compare, c_H_compare, 1, (26, (762, (3, (1, 0))))⟩ := ⟨cc_H_compare, rfl, by decide +kernel, ⟨⟨by decide, by decide⟩, ⟨fun _ => ⟨rfl, rfl⟩, fun q => absurd q (by decide)⟩, rfl, rfl⟩, ⟨rfl, by decide⟩, fun q => absurd q (by decide), fun _ => rfl, fun q => absurd q (by decide), fun q => absurd q (by decide), fun q => absurd q (by decide), fun q => absurd q (by decide)⟩
theorem cc_H_compared : codeChk Y_H_compared.2.1 Y_H_compared.2.2.1 c_H_compared = true := by decide +kernel
theorem me_H_compared : MeOk 155 ⟨Y_H_compared, c_H_compared, 1, (2, (61, (2, (1, 0))))⟩ := ⟨cc_H_compared, rfl, by decide +kernel, ⟨⟨by decide, by decide⟩, ⟨fun _ => ⟨rfl, rfl⟩, fun q => absurd q (by decide)⟩, rfl, rfl⟩, ⟨rfl, by decide⟩, fun q => absurd q (by decide), fun _ => rfl, fun q => absurd q (by decide), fun q => absurd q (by decide), fun q => absurd q (by decide), fun q => absurd q (by decide)⟩
theorem cc_Ju_decidedBy : codeChk Y_Ju_decidedBy.2.1 Y_Ju_decidedBy.2.2.1 c_Ju_decidedBy = true := by decide +kernel
theorem me_Ju_decidedBy : MeOk 156 ⟨Y_Ju_decidedBy, c_Ju_decidedBy, 5, (25, (734, (7, (1, 27))))⟩ := ⟨cc_Ju_decidedBy, rfl, by decide +kernel, ⟨⟨by decide, by decide⟩, ⟨fun _ => ⟨rfl, rfl⟩, fun q => absurd q (by decide)⟩, rfl, rfl⟩, ⟨rfl, by decide⟩, fun q => absurd q (by decide), fun _ => rfl, fun q => absurd q (by decide), fun q => absurd q (by decide), fun q => absurd q (by decide), fun q => absurd q (by decide)⟩
theorem cc_H_decides : codeChk Y_H_decides.2.1 Y_H_decides.2.2.1 c_H_decides = true := by decide +kernel
theorem me_H_decides : MeOk 157 ⟨Y_H_decides, c_H_decides, 1, (26, (760, (3, (1, 0))))⟩ := ⟨cc_H_decides, rfl, by decide +kernel, ⟨⟨by decide, by decide⟩, ⟨fun _ => ⟨rfl, rfl⟩, fun q => absurd q (by decide)⟩, rfl, rfl⟩, ⟨rfl, by decide⟩, fun q => absurd q (by decide), fun _ => rfl, fun q => absurd q (by decide), fun q => absurd q (by decide), fun q => absurd q (by decide), fun q => absurd q (by decide)⟩
theorem cc_Ro_addLaw : codeChk Y_Ro_addLaw.2.1 Y_Ro_addLaw.2.2.1 c_Ro_addLaw = true := by decide +kernel
theorem me_Ro_addLaw : MeOk 158 ⟨Y_Ro_addLaw, c_Ro_addLaw, 9, (1, (40, (4, (1, 34))))⟩ := ⟨cc_Ro_addLaw, rfl, by decide +kernel, ⟨⟨by decide, by decide⟩, ⟨fun _ => ⟨rfl, rfl⟩, fun q => absurd q (by decide)⟩, rfl, rfl⟩, ⟨rfl, by decide⟩, fun q => absurd q (by decide), fun _ => rfl, fun q => absurd q (by decide), fun q => absurd q (by decide), fun q => absurd q (by decide), fun q => absurd q (by decide)⟩
theorem cc_H_law : codeChk Y_H_law.2.1 Y_H_law.2.2.1 c_H_law = true := by decide +kernel
theorem me_H_law : MeOk 159 ⟨Y_H_law, c_H_law, 1, (2, (63, (5, (1, 0))))⟩ := ⟨cc_H_law, rfl, by decide +kernel, ⟨⟨by decide, by decide⟩, ⟨fun _ => ⟨rfl, rfl⟩, fun q => absurd q (by decide)⟩, rfl, rfl⟩, ⟨rfl, by decide⟩, fun q => absurd q (by decide), fun _ => rfl, fun q => absurd q (by decide), fun q => absurd q (by decide), fun q => absurd q (by decide), fun q => absurd q (by decide)⟩
theorem cc_Ro_refusingGiver : codeChk Y_Ro_refusingGiver.2.1 Y_Ro_refusingGiver.2.2.1 c_Ro_refusingGiver = true := by decide +kernel
theorem me_Ro_refusingGiver : MeOk 160 ⟨Y_Ro_refusingGiver, c_Ro_refusingGiver, 9, (5, (138, (7, (1, 34))))⟩ := ⟨cc_Ro_refusingGiver, rfl, by decide +kernel, ⟨⟨by decide, by decide⟩, ⟨fun _ => ⟨rfl, rfl⟩, fun q => absurd q (by decide)⟩, rfl, rfl⟩, ⟨rfl, by decide⟩, fun q => absurd q (by decide), fun _ => rfl, fun q => absurd q (by decide), fun q => absurd q (by decide), fun q => absurd q (by decide), fun q => absurd q (by decide)⟩
theorem cc_Ro_isBothOn : codeChk Y_Ro_isBothOn.2.1 Y_Ro_isBothOn.2.2.1 c_Ro_isBothOn = true := by decide +kernel
theorem me_Ro_isBothOn : MeOk 161 ⟨Y_Ro_isBothOn, c_Ro_isBothOn, 9, (1, (40, (4, (2, 34))))⟩ := ⟨cc_Ro_isBothOn, rfl, by decide +kernel, ⟨⟨by decide, by decide⟩, ⟨fun _ => ⟨rfl, rfl⟩, fun q => absurd q (by decide)⟩, rfl, rfl⟩, ⟨rfl, by decide⟩, fun q => absurd q (by decide), fun q => absurd q (by decide), fun _ => rfl, fun q => absurd q (by decide), fun q => absurd q (by decide), fun q => absurd q (by decide)⟩
theorem cc_Ro_doesLawHold : codeChk Y_Ro_doesLawHold.2.1 Y_Ro_doesLawHold.2.2.1 c_Ro_doesLawHold = true := by decide +kernel
theorem me_Ro_doesLawHold : MeOk 162 ⟨Y_Ro_doesLawHold, c_Ro_doesLawHold, 9, (2, (63, (6, (2, 34))))⟩ := ⟨cc_Ro_doesLawHold, rfl, by decide +kernel, ⟨⟨by decide, by decide⟩, ⟨fun _ => ⟨rfl, rfl⟩, fun q => absurd q (by decide)⟩, rfl, rfl⟩, ⟨rfl, by decide⟩, fun q => absurd q (by decide), fun q => absurd q (by decide), fun _ => rfl, fun q => absurd q (by decide), fun q => absurd q (by decide), fun q => absurd q (by decide)⟩
theorem cc_Ro_firstNotHolding : codeChk Y_Ro_firstNotHolding.2.1 Y_Ro_firstNotHolding.2.2.1 c_Ro_firstNotHolding = true := by decide +kernel
theorem me_Ro_firstNotHolding : MeOk 163 ⟨Y_Ro_firstNotHolding, c_Ro_firstNotHolding, 9, (5, (138, (5, (1, 34))))⟩ := ⟨cc_Ro_firstNotHolding, rfl, by decide +kernel, ⟨⟨by decide, by decide⟩, ⟨fun _ => ⟨rfl, rfl⟩, fun q => absurd q (by decide)⟩, rfl, rfl⟩, ⟨rfl, by decide⟩, fun q => absurd q (by decide), fun _ => rfl, fun q => absurd q (by decide), fun q => absurd q (by decide), fun q => absurd q (by decide), fun q => absurd q (by decide)⟩
theorem cc_Ro_giveRow : codeChk Y_Ro_giveRow.2.1 Y_Ro_giveRow.2.2.1 c_Ro_giveRow = true := by decide +kernel
theorem me_Ro_giveRow : MeOk 164 ⟨Y_Ro_giveRow, c_Ro_giveRow, 9, (6, (164, (7, (1, 34))))⟩ := ⟨cc_Ro_giveRow, rfl, by decide +kernel, ⟨⟨by decide, by decide⟩, ⟨fun _ => ⟨rfl, rfl⟩, fun q => absurd q (by decide)⟩, rfl, rfl⟩, ⟨rfl, by decide⟩, fun q => absurd q (by decide), fun _ => rfl, fun q => absurd q (by decide), fun q => absurd q (by decide), fun q => absurd q (by decide), fun q => absurd q (by decide)⟩
theorem cc_H_give : codeChk Y_H_give.2.1 Y_H_give.2.2.1 c_H_give = true := by decide +kernel
theorem me_H_give : MeOk 165 ⟨Y_H_give, c_H_give, 1, (7, (190, (6, (1, 0))))⟩ := ⟨cc_H_give, rfl, by decide +kernel, ⟨⟨by decide, by decide⟩, ⟨fun _ => ⟨rfl, rfl⟩, fun q => absurd q (by decide)⟩, rfl, rfl⟩, ⟨rfl, by decide⟩, fun q => absurd q (by decide), fun _ => rfl, fun q => absurd q (by decide), fun q => absurd q (by decide), fun q => absurd q (by decide), fun q => absurd q (by decide)⟩
theorem cc_Wh_endRows : codeChk Y_Wh_endRows.2.1 Y_Wh_endRows.2.2.1 c_Wh_endRows = true := by decide +kernel
theorem me_Wh_endRows : MeOk 166 ⟨Y_Wh_endRows, c_Wh_endRows, 11, (2, (62, (7, (1, 5))))⟩ := ⟨cc_Wh_endRows, rfl, by decide +kernel, ⟨⟨by decide, by decide⟩, ⟨fun _ => ⟨rfl, rfl⟩, fun q => absurd q (by decide)⟩, rfl, rfl⟩, ⟨rfl, by decide⟩, fun q => absurd q (by decide), fun _ => rfl, fun q => absurd q (by decide), fun q => absurd q (by decide), fun q => absurd q (by decide), fun q => absurd q (by decide)⟩
theorem cc_H_take : codeChk Y_H_take.2.1 Y_H_take.2.2.1 c_H_take = true := by decide +kernel
theorem me_H_take : MeOk 167 ⟨Y_H_take, c_H_take, 1, (6, (164, (4, (1, 0))))⟩ := ⟨cc_H_take, rfl, by decide +kernel, ⟨⟨by decide, by decide⟩, ⟨fun _ => ⟨rfl, rfl⟩, fun q => absurd q (by decide)⟩, rfl, rfl⟩, ⟨rfl, by decide⟩, fun q => absurd q (by decide), fun _ => rfl, fun q => absurd q (by decide), fun q => absurd q (by decide), fun q => absurd q (by decide), fun q => absurd q (by decide)⟩
theorem cc_H_broken : codeChk Y_H_broken.2.1 Y_H_broken.2.2.1 c_H_broken = true := by decide +kernel
theorem me_H_broken : MeOk 168 ⟨Y_H_broken, c_H_broken, 1, (1, (40, (1, (1, 0))))⟩ := ⟨cc_H_broken, rfl, by decide +kernel, ⟨⟨by decide, by decide⟩, ⟨fun _ => ⟨rfl, rfl⟩, fun q => absurd q (by decide)⟩, rfl, rfl⟩, ⟨rfl, by decide⟩, fun q => absurd q (by decide), fun _ => rfl, fun q => absurd q (by decide), fun q => absurd q (by decide), fun q => absurd q (by decide), fun q => absurd q (by decide)⟩
theorem cc_H_breach : codeChk Y_H_breach.2.1 Y_H_breach.2.2.1 c_H_breach = true := by decide +kernel
theorem me_H_breach : MeOk 169 ⟨Y_H_breach, c_H_breach, 1, (6, (162, (2, (1, 0))))⟩ := ⟨cc_H_breach, rfl, by decide +kernel, ⟨⟨by decide, by decide⟩, ⟨fun _ => ⟨rfl, rfl⟩, fun q => absurd q (by decide)⟩, rfl, rfl⟩, ⟨rfl, by decide⟩, fun q => absurd q (by decide), fun _ => rfl, fun q => absurd q (by decide), fun q => absurd q (by decide), fun q => absurd q (by decide), fun q => absurd q (by decide)⟩
theorem cc_Ro_addSession : codeChk Y_Ro_addSession.2.1 Y_Ro_addSession.2.2.1 c_Ro_addSession = true := by decide +kernel
theorem me_Ro_addSession : MeOk 170 ⟨Y_Ro_addSession, c_Ro_addSession, 9, (1, (40, (2, (1, 34))))⟩ := ⟨cc_Ro_addSession, rfl, by decide +kernel, ⟨⟨by decide, by decide⟩, ⟨fun _ => ⟨rfl, rfl⟩, fun q => absurd q (by decide)⟩, rfl, rfl⟩, ⟨rfl, by decide⟩, fun q => absurd q (by decide), fun _ => rfl, fun q => absurd q (by decide), fun q => absurd q (by decide), fun q => absurd q (by decide), fun q => absurd q (by decide)⟩
theorem cc_H_session : codeChk Y_H_session.2.1 Y_H_session.2.2.1 c_H_session = true := by decide +kernel
theorem me_H_session : MeOk 171 ⟨Y_H_session, c_H_session, 1, (2, (61, (2, (1, 0))))⟩ := ⟨cc_H_session, rfl, by decide +kernel, ⟨⟨by decide, by decide⟩, ⟨fun _ => ⟨rfl, rfl⟩, fun q => absurd q (by decide)⟩, rfl, rfl⟩, ⟨rfl, by decide⟩, fun q => absurd q (by decide), fun _ => rfl, fun q => absurd q (by decide), fun q => absurd q (by decide), fun q => absurd q (by decide), fun q => absurd q (by decide)⟩
theorem cc_Ro_turnOn : codeChk Y_Ro_turnOn.2.1 Y_Ro_turnOn.2.2.1 c_Ro_turnOn = true := by decide +kernel
theorem me_Ro_turnOn : MeOk 172 ⟨Y_Ro_turnOn, c_Ro_turnOn, 9, (6, (162, (4, (1, 34))))⟩ := ⟨cc_Ro_turnOn, rfl, by decide +kernel, ⟨⟨by decide, by decide⟩, ⟨fun _ => ⟨rfl, rfl⟩, fun q => absurd q (by decide)⟩, rfl, rfl⟩, ⟨rfl, by decide⟩, fun q => absurd q (by decide), fun _ => rfl, fun q => absurd q (by decide), fun q => absurd q (by decide), fun q => absurd q (by decide), fun q => absurd q (by decide)⟩
theorem cc_H_switchOn : codeChk Y_H_switchOn.2.1 Y_H_switchOn.2.2.1 c_H_switchOn = true := by decide +kernel
theorem me_H_switchOn : MeOk 173 ⟨Y_H_switchOn, c_H_switchOn, 1, (7, (185, (3, (1, 0))))⟩ := ⟨cc_H_switchOn, rfl, by decide +kernel, ⟨⟨by decide, by decide⟩, ⟨fun _ => ⟨rfl, rfl⟩, fun q => absurd q (by decide)⟩, rfl, rfl⟩, ⟨rfl, by decide⟩, fun q => absurd q (by decide), fun _ => rfl, fun q => absurd q (by decide), fun q => absurd q (by decide), fun q => absurd q (by decide), fun q => absurd q (by decide)⟩
theorem cc_H_switchOff : codeChk Y_H_switchOff.2.1 Y_H_switchOff.2.2.1 c_H_switchOff = true := by decide +kernel
theorem me_H_switchOff : MeOk 174 ⟨Y_H_switchOff, c_H_switchOff, 1, (2, (61, (4, (1, 0))))⟩ := ⟨cc_H_switchOff, rfl, by decide +kernel, ⟨⟨by decide, by decide⟩, ⟨fun _ => ⟨rfl, rfl⟩, fun q => absurd q (by decide)⟩, rfl, rfl⟩, ⟨rfl, by decide⟩, fun q => absurd q (by decide), fun _ => rfl, fun q => absurd q (by decide), fun q => absurd q (by decide), fun q => absurd q (by decide), fun q => absurd q (by decide)⟩
theorem cc_Ro_groupsIn : codeChk Y_Ro_groupsIn.2.1 Y_Ro_groupsIn.2.2.1 c_Ro_groupsIn = true := by decide +kernel
theorem me_Ro_groupsIn : MeOk 175 ⟨Y_Ro_groupsIn, c_Ro_groupsIn, 9, (5, (138, (4, (1, 34))))⟩ := ⟨cc_Ro_groupsIn, rfl, by decide +kernel, ⟨⟨by decide, by decide⟩, ⟨fun _ => ⟨rfl, rfl⟩, fun q => absurd q (by decide)⟩, rfl, rfl⟩, ⟨rfl, by decide⟩, fun q => absurd q (by decide), fun _ => rfl, fun q => absurd q (by decide), fun q => absurd q (by decide), fun q => absurd q (by decide), fun q => absurd q (by decide)⟩
theorem cc_H_askIn : codeChk Y_H_askIn.2.1 Y_H_askIn.2.2.1 c_H_askIn = true := by decide +kernel
theorem me_H_askIn : MeOk 176 ⟨Y_H_askIn, c_H_askIn, 1, (26, (758, (4, (1, 0))))⟩ := ⟨cc_H_askIn, rfl, by decide +kernel, ⟨⟨by decide, by decide⟩, ⟨fun _ => ⟨rfl, rfl⟩, fun q => absurd q (by decide)⟩, rfl, rfl⟩, ⟨rfl, by decide⟩, fun q => absurd q (by decide), fun _ => rfl, fun q => absurd q (by decide), fun q => absurd q (by decide), fun q => absurd q (by decide), fun q => absurd q (by decide)⟩
theorem cc_H_work : codeChk Y_H_work.2.1 Y_H_work.2.2.1 c_H_work = true := by decide +kernel
theorem me_H_work : MeOk 177 ⟨Y_H_work, c_H_work, 1, (1, (40, (1, (1, 0))))⟩ := ⟨cc_H_work, rfl, by decide +kernel, ⟨⟨by decide, by decide⟩, ⟨fun _ => ⟨rfl, rfl⟩, fun q => absurd q (by decide)⟩, rfl, rfl⟩, ⟨rfl, by decide⟩, fun q => absurd q (by decide), fun _ => rfl, fun q => absurd q (by decide), fun q => absurd q (by decide), fun q => absurd q (by decide), fun q => absurd q (by decide)⟩
theorem cc_Wo_addStep : codeChk Y_Wo_addStep.2.1 Y_Wo_addStep.2.2.1 c_Wo_addStep = true := by decide +kernel
theorem me_Wo_addStep : MeOk 178 ⟨Y_Wo_addStep, c_Wo_addStep, 12, (1, (40, (3, (1, 41))))⟩ := ⟨cc_Wo_addStep, rfl, by decide +kernel, ⟨⟨by decide, by decide⟩, ⟨fun _ => ⟨rfl, rfl⟩, fun q => absurd q (by decide)⟩, rfl, rfl⟩, ⟨rfl, by decide⟩, fun q => absurd q (by decide), fun _ => rfl, fun q => absurd q (by decide), fun q => absurd q (by decide), fun q => absurd q (by decide), fun q => absurd q (by decide)⟩
theorem cc_H_step : codeChk Y_H_step.2.1 Y_H_step.2.2.1 c_H_step = true := by decide +kernel
theorem me_H_step : MeOk 179 ⟨Y_H_step, c_H_step, 1, (2, (62, (3, (1, 0))))⟩ := ⟨cc_H_step, rfl, by decide +kernel, ⟨⟨by decide, by decide⟩, ⟨fun _ => ⟨rfl, rfl⟩, fun q => absurd q (by decide)⟩, rfl, rfl⟩, ⟨rfl, by decide⟩, fun q => absurd q (by decide), fun _ => rfl, fun q => absurd q (by decide), fun q => absurd q (by decide), fun q => absurd q (by decide), fun q => absurd q (by decide)⟩
theorem cc_Wo_addTie : codeChk Y_Wo_addTie.2.1 Y_Wo_addTie.2.2.1 c_Wo_addTie = true := by decide +kernel
theorem me_Wo_addTie : MeOk 180 ⟨Y_Wo_addTie, c_Wo_addTie, 12, (1, (40, (6, (1, 41))))⟩ := ⟨cc_Wo_addTie, rfl, by decide +kernel, ⟨⟨by decide, by decide⟩, ⟨fun _ => ⟨rfl, rfl⟩, fun q => absurd q (by decide)⟩, rfl, rfl⟩, ⟨rfl, by decide⟩, fun q => absurd q (by decide), fun _ => rfl, fun q => absurd q (by decide), fun q => absurd q (by decide), fun q => absurd q (by decide), fun q => absurd q (by decide)⟩
theorem cc_H_tie : codeChk Y_H_tie.2.1 Y_H_tie.2.2.1 c_H_tie = true := by decide +kernel
theorem me_H_tie : MeOk 181 ⟨Y_H_tie, c_H_tie, 1, (2, (65, (7, (1, 0))))⟩ := ⟨cc_H_tie, rfl, by decide +kernel, ⟨⟨by decide, by decide⟩, ⟨fun _ => ⟨rfl, rfl⟩, fun q => absurd q (by decide)⟩, rfl, rfl⟩, ⟨rfl, by decide⟩, fun q => absurd q (by decide), fun _ => rfl, fun q => absurd q (by decide), fun q => absurd q (by decide), fun q => absurd q (by decide), fun q => absurd q (by decide)⟩
theorem cc_H_isSearch : codeChk Y_H_isSearch.2.1 Y_H_isSearch.2.2.1 c_H_isSearch = true := by decide +kernel
theorem me_H_isSearch : MeOk 182 ⟨Y_H_isSearch, c_H_isSearch, 1, (2, (61, (3, (2, 0))))⟩ := ⟨cc_H_isSearch, rfl, by decide +kernel, ⟨⟨by decide, by decide⟩, ⟨fun _ => ⟨rfl, rfl⟩, fun q => absurd q (by decide)⟩, rfl, rfl⟩, ⟨rfl, by decide⟩, fun q => absurd q (by decide), fun q => absurd q (by decide), fun _ => rfl, fun q => absurd q (by decide), fun q => absurd q (by decide), fun q => absurd q (by decide)⟩
theorem cc_Wo_prepare : codeChk Y_Wo_prepare.2.1 Y_Wo_prepare.2.2.1 c_Wo_prepare = true := by decide +kernel
theorem me_Wo_prepare : MeOk 183 ⟨Y_Wo_prepare, c_Wo_prepare, 12, (5, (138, (7, (0, 41))))⟩ := ⟨cc_Wo_prepare, rfl, by decide +kernel, ⟨⟨by decide, by decide⟩, ⟨fun _ => ⟨rfl, rfl⟩, fun q => absurd q (by decide)⟩, rfl, rfl⟩, ⟨rfl, by decide⟩, fun _ => rfl, fun q => absurd q (by decide), fun q => absurd q (by decide), fun q => absurd q (by decide), fun q => absurd q (by decide), fun q => absurd q (by decide)⟩
theorem cc_Wo_hasAnybodyMoreThan : codeChk Y_Wo_hasAnybodyMoreThan.2.1 Y_Wo_hasAnybodyMoreThan.2.2.1 c_Wo_hasAnybodyMoreThan = true := by decide +kernel
theorem me_Wo_hasAnybodyMoreThan : MeOk 184 ⟨Y_Wo_hasAnybodyMoreThan, c_Wo_hasAnybodyMoreThan, 12, (1, (40, (5, (2, 41))))⟩ := ⟨cc_Wo_hasAnybodyMoreThan, rfl, by decide +kernel, ⟨⟨by decide, by decide⟩, ⟨fun _ => ⟨rfl, rfl⟩, fun q => absurd q (by decide)⟩, rfl, rfl⟩, ⟨rfl, by decide⟩, fun q => absurd q (by decide), fun q => absurd q (by decide), fun _ => rfl, fun q => absurd q (by decide), fun q => absurd q (by decide), fun q => absurd q (by decide)⟩
theorem cc_Wo_doTiesHold : codeChk Y_Wo_doTiesHold.2.1 Y_Wo_doTiesHold.2.2.1 c_Wo_doTiesHold = true := by decide +kernel
theorem me_Wo_doTiesHold : MeOk 185 ⟨Y_Wo_doTiesHold, c_Wo_doTiesHold, 12, (20, (600, (6, (2, 41))))⟩ := ⟨cc_Wo_doTiesHold, rfl, by decide +kernel, ⟨⟨by decide, by decide⟩, ⟨fun _ => ⟨rfl, rfl⟩, fun q => absurd q (by decide)⟩, rfl, rfl⟩, ⟨rfl, by decide⟩, fun q => absurd q (by decide), fun q => absurd q (by decide), fun _ => rfl, fun q => absurd q (by decide), fun q => absurd q (by decide), fun q => absurd q (by decide)⟩
theorem cc_Wo_searchFrom : codeChk Y_Wo_searchFrom.2.1 Y_Wo_searchFrom.2.2.1 c_Wo_searchFrom = true := by decide +kernel
theorem me_Wo_searchFrom : MeOk 186 ⟨Y_Wo_searchFrom, c_Wo_searchFrom, 12, (200, (4000, (4, (1, 41))))⟩ := ⟨cc_Wo_searchFrom, rfl, by decide +kernel, ⟨⟨by decide, by decide⟩, ⟨fun q => absurd rfl q, fun _ => ⟨by decide, by decide⟩⟩, rfl, rfl⟩, ⟨rfl, by decide⟩, fun q => absurd q (by decide), fun _ => rfl, fun q => absurd q (by decide), fun q => absurd q (by decide), fun q => absurd q (by decide), fun q => absurd q (by decide)⟩
theorem cc_Wo_search : codeChk Y_Wo_search.2.1 Y_Wo_search.2.2.1 c_Wo_search = true := by decide +kernel
theorem me_Wo_search : MeOk 187 ⟨Y_Wo_search, c_Wo_search, 12, (601, (20023, (2, (1, 41))))⟩ := ⟨cc_Wo_search, rfl, by decide +kernel, ⟨⟨by decide, by decide⟩, ⟨fun _ => ⟨rfl, rfl⟩, fun q => absurd q (by decide)⟩, rfl, rfl⟩, ⟨rfl, by decide⟩, fun q => absurd q (by decide), fun _ => rfl, fun q => absurd q (by decide), fun q => absurd q (by decide), fun q => absurd q (by decide), fun q => absurd q (by decide)⟩
theorem cc_Wo_keep : codeChk Y_Wo_keep.2.1 Y_Wo_keep.2.2.1 c_Wo_keep = true := by decide +kernel
theorem me_Wo_keep : MeOk 188 ⟨Y_Wo_keep, c_Wo_keep, 12, (1, (40, (2, (0, 41))))⟩ := ⟨cc_Wo_keep, rfl, by decide +kernel, ⟨⟨by decide, by decide⟩, ⟨fun _ => ⟨rfl, rfl⟩, fun q => absurd q (by decide)⟩, rfl, rfl⟩, ⟨rfl, by decide⟩, fun _ => rfl, fun q => absurd q (by decide), fun q => absurd q (by decide), fun q => absurd q (by decide), fun q => absurd q (by decide), fun q => absurd q (by decide)⟩
theorem cc_H_fill : codeChk Y_H_fill.2.1 Y_H_fill.2.2.1 c_H_fill = true := by decide +kernel
theorem me_H_fill : MeOk 189 ⟨Y_H_fill, c_H_fill, 1, (602, (20044, (4, (1, 0))))⟩ := ⟨cc_H_fill, rfl, by decide +kernel, ⟨⟨by decide, by decide⟩, ⟨fun _ => ⟨rfl, rfl⟩, fun q => absurd q (by decide)⟩, rfl, rfl⟩, ⟨rfl, by decide⟩, fun q => absurd q (by decide), fun _ => rfl, fun q => absurd q (by decide), fun q => absurd q (by decide), fun q => absurd q (by decide), fun q => absurd q (by decide)⟩
theorem cc_H_filled : codeChk Y_H_filled.2.1 Y_H_filled.2.2.1 c_H_filled = true := by decide +kernel
theorem me_H_filled : MeOk 190 ⟨Y_H_filled, c_H_filled, 1, (2, (61, (3, (1, 0))))⟩ := ⟨cc_H_filled, rfl, by decide +kernel, ⟨⟨by decide, by decide⟩, ⟨fun _ => ⟨rfl, rfl⟩, fun q => absurd q (by decide)⟩, rfl, rfl⟩, ⟨rfl, by decide⟩, fun q => absurd q (by decide), fun _ => rfl, fun q => absurd q (by decide), fun q => absurd q (by decide), fun q => absurd q (by decide), fun q => absurd q (by decide)⟩
theorem cc_Wo_searchWith : codeChk Y_Wo_searchWith.2.1 Y_Wo_searchWith.2.2.1 c_Wo_searchWith = true := by decide +kernel
theorem me_Wo_searchWith : MeOk 191 ⟨Y_Wo_searchWith, c_Wo_searchWith, 12, (602, (20044, (4, (1, 41))))⟩ := ⟨cc_Wo_searchWith, rfl, by decide +kernel, ⟨⟨by decide, by decide⟩, ⟨fun _ => ⟨rfl, rfl⟩, fun q => absurd q (by decide)⟩, rfl, rfl⟩, ⟨rfl, by decide⟩, fun q => absurd q (by decide), fun _ => rfl, fun q => absurd q (by decide), fun q => absurd q (by decide), fun q => absurd q (by decide), fun q => absurd q (by decide)⟩
theorem cc_H_next : codeChk Y_H_next.2.1 Y_H_next.2.2.1 c_H_next = true := by decide +kernel
theorem me_H_next : MeOk 192 ⟨Y_H_next, c_H_next, 1, (603, (20067, (5, (1, 0))))⟩ := ⟨cc_H_next, rfl, by decide +kernel, ⟨⟨by decide, by decide⟩, ⟨fun _ => ⟨rfl, rfl⟩, fun q => absurd q (by decide)⟩, rfl, rfl⟩, ⟨rfl, by decide⟩, fun q => absurd q (by decide), fun _ => rfl, fun q => absurd q (by decide), fun q => absurd q (by decide), fun q => absurd q (by decide), fun q => absurd q (by decide)⟩
theorem cc_H_perform : codeChk Y_H_perform.2.1 Y_H_perform.2.2.1 c_H_perform = true := by decide +kernel
theorem me_H_perform : MeOk 193 ⟨Y_H_perform, c_H_perform, 1, (604, (20091, (6, (1, 0))))⟩ := ⟨cc_H_perform, rfl, by decide +kernel, ⟨⟨by decide, by decide⟩, ⟨fun _ => ⟨rfl, rfl⟩, fun q => absurd q (by decide)⟩, rfl, rfl⟩, ⟨rfl, by decide⟩, fun q => absurd q (by decide), fun _ => rfl, fun q => absurd q (by decide), fun q => absurd q (by decide), fun q => absurd q (by decide), fun q => absurd q (by decide)⟩
theorem cc_Wo_hasDone : codeChk Y_Wo_hasDone.2.1 Y_Wo_hasDone.2.2.1 c_Wo_hasDone = true := by decide +kernel
theorem me_Wo_hasDone : MeOk 194 ⟨Y_Wo_hasDone, c_Wo_hasDone, 12, (1, (40, (4, (2, 41))))⟩ := ⟨cc_Wo_hasDone, rfl, by decide +kernel, ⟨⟨by decide, by decide⟩, ⟨fun _ => ⟨rfl, rfl⟩, fun q => absurd q (by decide)⟩, rfl, rfl⟩, ⟨rfl, by decide⟩, fun q => absurd q (by decide), fun q => absurd q (by decide), fun _ => rfl, fun q => absurd q (by decide), fun q => absurd q (by decide), fun q => absurd q (by decide)⟩
theorem cc_H_needed : codeChk Y_H_needed.2.1 Y_H_needed.2.2.1 c_H_needed = true := by decide +kernel
theorem me_H_needed : MeOk 195 ⟨Y_H_needed, c_H_needed, 1, (602, (20044, (6, (1, 0))))⟩ := ⟨cc_H_needed, rfl, by decide +kernel, ⟨⟨by decide, by decide⟩, ⟨fun _ => ⟨rfl, rfl⟩, fun q => absurd q (by decide)⟩, rfl, rfl⟩, ⟨rfl, by decide⟩, fun q => absurd q (by decide), fun _ => rfl, fun q => absurd q (by decide), fun q => absurd q (by decide), fun q => absurd q (by decide), fun q => absurd q (by decide)⟩
theorem cc_H_tries : codeChk Y_H_tries.2.1 Y_H_tries.2.2.1 c_H_tries = true := by decide +kernel
theorem me_H_tries : MeOk 196 ⟨Y_H_tries, c_H_tries, 1, (1, (40, (1, (1, 0))))⟩ := ⟨cc_H_tries, rfl, by decide +kernel, ⟨⟨by decide, by decide⟩, ⟨fun _ => ⟨rfl, rfl⟩, fun q => absurd q (by decide)⟩, rfl, rfl⟩, ⟨rfl, by decide⟩, fun q => absurd q (by decide), fun _ => rfl, fun q => absurd q (by decide), fun q => absurd q (by decide), fun q => absurd q (by decide), fun q => absurd q (by decide)⟩
theorem cc_Le_lendGiving : codeChk Y_Le_lendGiving.2.1 Y_Le_lendGiving.2.2.1 c_Le_lendGiving = true := by decide +kernel
theorem me_Le_lendGiving : MeOk 197 ⟨Y_Le_lendGiving, c_Le_lendGiving, 6, (2, (64, (7, (1, 52))))⟩ := ⟨cc_Le_lendGiving, rfl, by decide +kernel, ⟨⟨by decide, by decide⟩, ⟨fun _ => ⟨rfl, rfl⟩, fun q => absurd q (by decide)⟩, rfl, rfl⟩, ⟨rfl, by decide⟩, fun q => absurd q (by decide), fun _ => rfl, fun q => absurd q (by decide), fun q => absurd q (by decide), fun q => absurd q (by decide), fun q => absurd q (by decide)⟩
theorem cc_Le_hasRight : codeChk Y_Le_hasRight.2.1 Y_Le_hasRight.2.2.1 c_Le_hasRight = true := by decide +kernel
theorem me_Le_hasRight : MeOk 198 ⟨Y_Le_hasRight, c_Le_hasRight, 6, (3, (90, (5, (2, 52))))⟩ := ⟨cc_Le_hasRight, rfl, by decide +kernel, ⟨⟨by decide, by decide⟩, ⟨fun _ => ⟨rfl, rfl⟩, fun q => absurd q (by decide)⟩, rfl, rfl⟩, ⟨rfl, by decide⟩, fun q => absurd q (by decide), fun q => absurd q (by decide), fun _ => rfl, fun q => absurd q (by decide), fun q => absurd q (by decide), fun q => absurd q (by decide)⟩
theorem cc_Le_weighAll : codeChk Y_Le_weighAll.2.1 Y_Le_weighAll.2.2.1 c_Le_weighAll = true := by decide +kernel
theorem me_Le_weighAll : MeOk 199 ⟨Y_Le_weighAll, c_Le_weighAll, 6, (4, (114, (6, (0, 52))))⟩ := ⟨cc_Le_weighAll, rfl, by decide +kernel, ⟨⟨by decide, by decide⟩, ⟨fun _ => ⟨rfl, rfl⟩, fun q => absurd q (by decide)⟩, rfl, rfl⟩, ⟨rfl, by decide⟩, fun _ => rfl, fun q => absurd q (by decide), fun q => absurd q (by decide), fun q => absurd q (by decide), fun q => absurd q (by decide), fun q => absurd q (by decide)⟩
theorem cc_Le_add : codeChk Y_Le_add.2.1 Y_Le_add.2.2.1 c_Le_add = true := by decide +kernel
theorem me_Le_add : MeOk 200 ⟨Y_Le_add, c_Le_add, 6, (1, (40, (9, (1, 52))))⟩ := ⟨cc_Le_add, rfl, by decide +kernel, ⟨⟨by decide, by decide⟩, ⟨fun _ => ⟨rfl, rfl⟩, fun q => absurd q (by decide)⟩, rfl, rfl⟩, ⟨rfl, by decide⟩, fun q => absurd q (by decide), fun _ => rfl, fun q => absurd q (by decide), fun q => absurd q (by decide), fun q => absurd q (by decide), fun q => absurd q (by decide)⟩
theorem cc_H_lend : codeChk Y_H_lend.2.1 Y_H_lend.2.2.1 c_H_lend = true := by decide +kernel
theorem me_H_lend : MeOk 201 ⟨Y_H_lend, c_H_lend, 1, (5, (139, (9, (1, 0))))⟩ := ⟨cc_H_lend, rfl, by decide +kernel, ⟨⟨by decide, by decide⟩, ⟨fun _ => ⟨rfl, rfl⟩, fun q => absurd q (by decide)⟩, rfl, rfl⟩, ⟨rfl, by decide⟩, fun q => absurd q (by decide), fun _ => rfl, fun q => absurd q (by decide), fun q => absurd q (by decide), fun q => absurd q (by decide), fun q => absurd q (by decide)⟩
theorem cc_H_endLend : codeChk Y_H_endLend.2.1 Y_H_endLend.2.2.1 c_H_endLend = true := by decide +kernel
theorem me_H_endLend : MeOk 202 ⟨Y_H_endLend, c_H_endLend, 1, (2, (61, (5, (1, 0))))⟩ := ⟨cc_H_endLend, rfl, by decide +kernel, ⟨⟨by decide, by decide⟩, ⟨fun _ => ⟨rfl, rfl⟩, fun q => absurd q (by decide)⟩, rfl, rfl⟩, ⟨rfl, by decide⟩, fun q => absurd q (by decide), fun _ => rfl, fun q => absurd q (by decide), fun q => absurd q (by decide), fun q => absurd q (by decide), fun q => absurd q (by decide)⟩
theorem cc_Le_keepChain : codeChk Y_Le_keepChain.2.1 Y_Le_keepChain.2.2.1 c_Le_keepChain = true := by decide +kernel
theorem me_Le_keepChain : MeOk 203 ⟨Y_Le_keepChain, c_Le_keepChain, 6, (4, (114, (10, (2, 52))))⟩ := ⟨cc_Le_keepChain, rfl, by decide +kernel, ⟨⟨by decide, by decide⟩, ⟨fun _ => ⟨rfl, rfl⟩, fun q => absurd q (by decide)⟩, rfl, rfl⟩, ⟨rfl, by decide⟩, fun q => absurd q (by decide), fun q => absurd q (by decide), fun _ => rfl, fun q => absurd q (by decide), fun q => absurd q (by decide), fun q => absurd q (by decide)⟩
theorem cc_H_stands : codeChk Y_H_stands.2.1 Y_H_stands.2.2.1 c_H_stands = true := by decide +kernel
theorem me_H_stands : MeOk 204 ⟨Y_H_stands, c_H_stands, 1, (5, (143, (5, (1, 0))))⟩ := ⟨cc_H_stands, rfl, by decide +kernel, ⟨⟨by decide, by decide⟩, ⟨fun _ => ⟨rfl, rfl⟩, fun q => absurd q (by decide)⟩, rfl, rfl⟩, ⟨rfl, by decide⟩, fun q => absurd q (by decide), fun _ => rfl, fun q => absurd q (by decide), fun q => absurd q (by decide), fun q => absurd q (by decide), fun q => absurd q (by decide)⟩
theorem cc_H_chain : codeChk Y_H_chain.2.1 Y_H_chain.2.2.1 c_H_chain = true := by decide +kernel
theorem me_H_chain : MeOk 205 ⟨Y_H_chain, c_H_chain, 1, (2, (61, (2, (1, 0))))⟩ := ⟨cc_H_chain, rfl, by decide +kernel, ⟨⟨by decide, by decide⟩, ⟨fun _ => ⟨rfl, rfl⟩, fun q => absurd q (by decide)⟩, rfl, rfl⟩, ⟨rfl, by decide⟩, fun q => absurd q (by decide), fun _ => rfl, fun q => absurd q (by decide), fun q => absurd q (by decide), fun q => absurd q (by decide), fun q => absurd q (by decide)⟩
theorem cc_Le_spendChain : codeChk Y_Le_spendChain.2.1 Y_Le_spendChain.2.2.1 c_Le_spendChain = true := by decide +kernel
theorem me_Le_spendChain : MeOk 206 ⟨Y_Le_spendChain, c_Le_spendChain, 6, (1, (40, (3, (0, 52))))⟩ := ⟨cc_Le_spendChain, rfl, by decide +kernel, ⟨⟨by decide, by decide⟩, ⟨fun _ => ⟨rfl, rfl⟩, fun q => absurd q (by decide)⟩, rfl, rfl⟩, ⟨rfl, by decide⟩, fun _ => rfl, fun q => absurd q (by decide), fun q => absurd q (by decide), fun q => absurd q (by decide), fun q => absurd q (by decide), fun q => absurd q (by decide)⟩
theorem cc_H_useRight : codeChk Y_H_useRight.2.1 Y_H_useRight.2.2.1 c_H_useRight = true := by decide +kernel
theorem me_H_useRight : MeOk 207 ⟨Y_H_useRight, c_H_useRight, 1, (5, (143, (4, (1, 0))))⟩ := ⟨cc_H_useRight, rfl, by decide +kernel, ⟨⟨by decide, by decide⟩, ⟨fun _ => ⟨rfl, rfl⟩, fun q => absurd q (by decide)⟩, rfl, rfl⟩, ⟨rfl, by decide⟩, fun q => absurd q (by decide), fun _ => rfl, fun q => absurd q (by decide), fun q => absurd q (by decide), fun q => absurd q (by decide), fun q => absurd q (by decide)⟩
theorem cc_H_lendOf : codeChk Y_H_lendOf.2.1 Y_H_lendOf.2.2.1 c_H_lendOf = true := by decide +kernel
theorem me_H_lendOf : MeOk 208 ⟨Y_H_lendOf, c_H_lendOf, 1, (2, (61, (3, (1, 0))))⟩ := ⟨cc_H_lendOf, rfl, by decide +kernel, ⟨⟨by decide, by decide⟩, ⟨fun _ => ⟨rfl, rfl⟩, fun q => absurd q (by decide)⟩, rfl, rfl⟩, ⟨rfl, by decide⟩, fun q => absurd q (by decide), fun _ => rfl, fun q => absurd q (by decide), fun q => absurd q (by decide), fun q => absurd q (by decide), fun q => absurd q (by decide)⟩
theorem cc_H_isHolder : codeChk Y_H_isHolder.2.1 Y_H_isHolder.2.2.1 c_H_isHolder = true := by decide +kernel
theorem me_H_isHolder : MeOk 209 ⟨Y_H_isHolder, c_H_isHolder, 1, (1, (40, (1, (2, 0))))⟩ := ⟨cc_H_isHolder, rfl, by decide +kernel, ⟨⟨by decide, by decide⟩, ⟨fun _ => ⟨rfl, rfl⟩, fun q => absurd q (by decide)⟩, rfl, rfl⟩, ⟨rfl, by decide⟩, fun q => absurd q (by decide), fun q => absurd q (by decide), fun _ => rfl, fun q => absurd q (by decide), fun q => absurd q (by decide), fun q => absurd q (by decide)⟩
theorem cc_Le_setKey : codeChk Y_Le_setKey.2.1 Y_Le_setKey.2.2.1 c_Le_setKey = true := by decide +kernel
theorem me_Le_setKey : MeOk 210 ⟨Y_Le_setKey, c_Le_setKey, 6, (1, (40, (5, (1, 52))))⟩ := ⟨cc_Le_setKey, rfl, by decide +kernel, ⟨⟨by decide, by decide⟩, ⟨fun _ => ⟨rfl, rfl⟩, fun q => absurd q (by decide)⟩, rfl, rfl⟩, ⟨rfl, by decide⟩, fun q => absurd q (by decide), fun _ => rfl, fun q => absurd q (by decide), fun q => absurd q (by decide), fun q => absurd q (by decide), fun q => absurd q (by decide)⟩
theorem cc_H_key : codeChk Y_H_key.2.1 Y_H_key.2.2.1 c_H_key = true := by decide +kernel
theorem me_H_key : MeOk 211 ⟨Y_H_key, c_H_key, 1, (2, (64, (4, (1, 0))))⟩ := ⟨cc_H_key, rfl, by decide +kernel, ⟨⟨by decide, by decide⟩, ⟨fun _ => ⟨rfl, rfl⟩, fun q => absurd q (by decide)⟩, rfl, rfl⟩, ⟨rfl, by decide⟩, fun q => absurd q (by decide), fun _ => rfl, fun q => absurd q (by decide), fun q => absurd q (by decide), fun q => absurd q (by decide), fun q => absurd q (by decide)⟩
theorem cc_Le_pass : codeChk Y_Le_pass.2.1 Y_Le_pass.2.2.1 c_Le_pass = true := by decide +kernel
theorem me_Le_pass : MeOk 212 ⟨Y_Le_pass, c_Le_pass, 6, (1, (40, (5, (0, 52))))⟩ := ⟨cc_Le_pass, rfl, by decide +kernel, ⟨⟨by decide, by decide⟩, ⟨fun _ => ⟨rfl, rfl⟩, fun q => absurd q (by decide)⟩, rfl, rfl⟩, ⟨rfl, by decide⟩, fun _ => rfl, fun q => absurd q (by decide), fun q => absurd q (by decide), fun q => absurd q (by decide), fun q => absurd q (by decide), fun q => absurd q (by decide)⟩
theorem cc_Le_goRound : codeChk Y_Le_goRound.2.1 Y_Le_goRound.2.2.1 c_Le_goRound = true := by decide +kernel
theorem me_Le_goRound : MeOk 213 ⟨Y_Le_goRound, c_Le_goRound, 6, (2, (64, (4, (0, 52))))⟩ := ⟨cc_Le_goRound, rfl, by decide +kernel, ⟨⟨by decide, by decide⟩, ⟨fun _ => ⟨rfl, rfl⟩, fun q => absurd q (by decide)⟩, rfl, rfl⟩, ⟨rfl, by decide⟩, fun _ => rfl, fun q => absurd q (by decide), fun q => absurd q (by decide), fun q => absurd q (by decide), fun q => absurd q (by decide), fun q => absurd q (by decide)⟩
theorem cc_Le_countGains : codeChk Y_Le_countGains.2.1 Y_Le_countGains.2.2.1 c_Le_countGains = true := by decide +kernel
theorem me_Le_countGains : MeOk 214 ⟨Y_Le_countGains, c_Le_countGains, 6, (3, (87, (3, (1, 52))))⟩ := ⟨cc_Le_countGains, rfl, by decide +kernel, ⟨⟨by decide, by decide⟩, ⟨fun _ => ⟨rfl, rfl⟩, fun q => absurd q (by decide)⟩, rfl, rfl⟩, ⟨rfl, by decide⟩, fun q => absurd q (by decide), fun _ => rfl, fun q => absurd q (by decide), fun q => absurd q (by decide), fun q => absurd q (by decide), fun q => absurd q (by decide)⟩
theorem cc_Le_gainsUntil : codeChk Y_Le_gainsUntil.2.1 Y_Le_gainsUntil.2.2.1 c_Le_gainsUntil = true := by decide +kernel
theorem me_Le_gainsUntil : MeOk 215 ⟨Y_Le_gainsUntil, c_Le_gainsUntil, 6, (4, (109, (8, (1, 52))))⟩ := ⟨cc_Le_gainsUntil, rfl, by decide +kernel, ⟨⟨by decide, by decide⟩, ⟨fun _ => ⟨rfl, rfl⟩, fun q => absurd q (by decide)⟩, rfl, rfl⟩, ⟨rfl, by decide⟩, fun q => absurd q (by decide), fun _ => rfl, fun q => absurd q (by decide), fun q => absurd q (by decide), fun q => absurd q (by decide), fun q => absurd q (by decide)⟩
theorem cc_H_ever : codeChk Y_H_ever.2.1 Y_H_ever.2.2.1 c_H_ever = true := by decide +kernel
theorem me_H_ever : MeOk 216 ⟨Y_H_ever, c_H_ever, 1, (5, (136, (4, (1, 0))))⟩ := ⟨cc_H_ever, rfl, by decide +kernel, ⟨⟨by decide, by decide⟩, ⟨fun _ => ⟨rfl, rfl⟩, fun q => absurd q (by decide)⟩, rfl, rfl⟩, ⟨rfl, by decide⟩, fun q => absurd q (by decide), fun _ => rfl, fun q => absurd q (by decide), fun q => absurd q (by decide), fun q => absurd q (by decide), fun q => absurd q (by decide)⟩
theorem cc_H_gain : codeChk Y_H_gain.2.1 Y_H_gain.2.2.1 c_H_gain = true := by decide +kernel
theorem me_H_gain : MeOk 217 ⟨Y_H_gain, c_H_gain, 1, (4, (109, (4, (1, 0))))⟩ := ⟨cc_H_gain, rfl, by decide +kernel, ⟨⟨by decide, by decide⟩, ⟨fun _ => ⟨rfl, rfl⟩, fun q => absurd q (by decide)⟩, rfl, rfl⟩, ⟨rfl, by decide⟩, fun q => absurd q (by decide), fun _ => rfl, fun q => absurd q (by decide), fun q => absurd q (by decide), fun q => absurd q (by decide), fun q => absurd q (by decide)⟩
theorem cc_H_label : codeChk Y_H_label.2.1 Y_H_label.2.2.1 c_H_label = true := by decide +kernel
theorem me_H_label : MeOk 218 ⟨Y_H_label, c_H_label, 1, (2, (61, (4, (1, 0))))⟩ := ⟨cc_H_label, rfl, by decide +kernel, ⟨⟨by decide, by decide⟩, ⟨fun _ => ⟨rfl, rfl⟩, fun q => absurd q (by decide)⟩, rfl, rfl⟩, ⟨rfl, by decide⟩, fun q => absurd q (by decide), fun _ => rfl, fun q => absurd q (by decide), fun q => absurd q (by decide), fun q => absurd q (by decide), fun q => absurd q (by decide)⟩
theorem cc_Fl_isVariable : codeChk Y_Fl_isVariable.2.1 Y_Fl_isVariable.2.2.1 c_Fl_isVariable = true := by decide +kernel
theorem me_Fl_isVariable : MeOk 219 ⟨Y_Fl_isVariable, c_Fl_isVariable, 2, (1, (40, (1, (2, 0))))⟩ := ⟨cc_Fl_isVariable, rfl, by decide +kernel, ⟨⟨by decide, by decide⟩, ⟨fun _ => ⟨rfl, rfl⟩, fun q => absurd q (by decide)⟩, rfl, rfl⟩, ⟨rfl, by decide⟩, fun q => absurd q (by decide), fun q => absurd q (by decide), fun _ => rfl, fun q => absurd q (by decide), fun q => absurd q (by decide), fun q => absurd q (by decide)⟩
theorem cc_Fl_isStatement : codeChk Y_Fl_isStatement.2.1 Y_Fl_isStatement.2.2.1 c_Fl_isStatement = true := by decide +kernel
theorem me_Fl_isStatement : MeOk 220 ⟨Y_Fl_isStatement, c_Fl_isStatement, 2, (2, (60, (4, (2, 0))))⟩ := ⟨cc_Fl_isStatement, rfl, by decide +kernel, ⟨⟨by decide, by decide⟩, ⟨fun _ => ⟨rfl, rfl⟩, fun q => absurd q (by decide)⟩, rfl, rfl⟩, ⟨rfl, by decide⟩, fun q => absurd q (by decide), fun q => absurd q (by decide), fun _ => rfl, fun q => absurd q (by decide), fun q => absurd q (by decide), fun q => absurd q (by decide)⟩
theorem cc_Fl_isBlock : codeChk Y_Fl_isBlock.2.1 Y_Fl_isBlock.2.2.1 c_Fl_isBlock = true := by decide +kernel
theorem me_Fl_isBlock : MeOk 221 ⟨Y_Fl_isBlock, c_Fl_isBlock, 2, (1, (40, (1, (2, 0))))⟩ := ⟨cc_Fl_isBlock, rfl, by decide +kernel, ⟨⟨by decide, by decide⟩, ⟨fun _ => ⟨rfl, rfl⟩, fun q => absurd q (by decide)⟩, rfl, rfl⟩, ⟨rfl, by decide⟩, fun q => absurd q (by decide), fun q => absurd q (by decide), fun _ => rfl, fun q => absurd q (by decide), fun q => absurd q (by decide), fun q => absurd q (by decide)⟩
theorem cc_Fl_isWithin : codeChk Y_Fl_isWithin.2.1 Y_Fl_isWithin.2.2.1 c_Fl_isWithin = true := by decide +kernel
theorem me_Fl_isWithin : MeOk 222 ⟨Y_Fl_isWithin, c_Fl_isWithin, 2, (2, (60, (3, (2, 59))))⟩ := ⟨cc_Fl_isWithin, rfl, by decide +kernel, ⟨⟨by decide, by decide⟩, ⟨fun _ => ⟨rfl, rfl⟩, fun q => absurd q (by decide)⟩, rfl, rfl⟩, ⟨rfl, by decide⟩, fun q => absurd q (by decide), fun q => absurd q (by decide), fun _ => rfl, fun q => absurd q (by decide), fun q => absurd q (by decide), fun q => absurd q (by decide)⟩
theorem cc_Fl_reachesOut : codeChk Y_Fl_reachesOut.2.1 Y_Fl_reachesOut.2.2.1 c_Fl_reachesOut = true := by decide +kernel
theorem me_Fl_reachesOut : MeOk 223 ⟨Y_Fl_reachesOut, c_Fl_reachesOut, 2, (3, (82, (5, (2, 59))))⟩ := ⟨cc_Fl_reachesOut, rfl, by decide +kernel, ⟨⟨by decide, by decide⟩, ⟨fun _ => ⟨rfl, rfl⟩, fun q => absurd q (by decide)⟩, rfl, rfl⟩, ⟨rfl, by decide⟩, fun q => absurd q (by decide), fun q => absurd q (by decide), fun _ => rfl, fun q => absurd q (by decide), fun q => absurd q (by decide), fun q => absurd q (by decide)⟩
theorem cc_Fl_addStatement : codeChk Y_Fl_addStatement.2.1 Y_Fl_addStatement.2.2.1 c_Fl_addStatement = true := by decide +kernel
theorem me_Fl_addStatement : MeOk 224 ⟨Y_Fl_addStatement, c_Fl_addStatement, 2, (1, (40, (5, (1, 59))))⟩ := ⟨cc_Fl_addStatement, rfl, by decide +kernel, ⟨⟨by decide, by decide⟩, ⟨fun _ => ⟨rfl, rfl⟩, fun q => absurd q (by decide)⟩, rfl, rfl⟩, ⟨rfl, by decide⟩, fun q => absurd q (by decide), fun _ => rfl, fun q => absurd q (by decide), fun q => absurd q (by decide), fun q => absurd q (by decide), fun q => absurd q (by decide)⟩
theorem cc_H_statement : codeChk Y_H_statement.2.1 Y_H_statement.2.2.1 c_H_statement = true := by decide +kernel
theorem me_H_statement : MeOk 225 ⟨Y_H_statement, c_H_statement, 1, (4, (106, (5, (1, 0))))⟩ := ⟨cc_H_statement, rfl, by decide +kernel, ⟨⟨by decide, by decide⟩, ⟨fun _ => ⟨rfl, rfl⟩, fun q => absurd q (by decide)⟩, rfl, rfl⟩, ⟨rfl, by decide⟩, fun q => absurd q (by decide), fun _ => rfl, fun q => absurd q (by decide), fun q => absurd q (by decide), fun q => absurd q (by decide), fun q => absurd q (by decide)⟩
theorem cc_H_erase : codeChk Y_H_erase.2.1 Y_H_erase.2.2.1 c_H_erase = true := by decide +kernel
theorem me_H_erase : MeOk 226 ⟨Y_H_erase, c_H_erase, 1, (1, (40, (2, (1, 0))))⟩ := ⟨cc_H_erase, rfl, by decide +kernel, ⟨⟨by decide, by decide⟩, ⟨fun _ => ⟨rfl, rfl⟩, fun q => absurd q (by decide)⟩, rfl, rfl⟩, ⟨rfl, by decide⟩, fun q => absurd q (by decide), fun _ => rfl, fun q => absurd q (by decide), fun q => absurd q (by decide), fun q => absurd q (by decide), fun q => absurd q (by decide)⟩
theorem cc_Fl_doesFlow : codeChk Y_Fl_doesFlow.2.1 Y_Fl_doesFlow.2.2.1 c_Fl_doesFlow = true := by decide +kernel
theorem me_Fl_doesFlow : MeOk 227 ⟨Y_Fl_doesFlow, c_Fl_doesFlow, 2, (1, (40, (2, (2, 0))))⟩ := ⟨cc_Fl_doesFlow, rfl, by decide +kernel, ⟨⟨by decide, by decide⟩, ⟨fun _ => ⟨rfl, rfl⟩, fun q => absurd q (by decide)⟩, rfl, rfl⟩, ⟨rfl, by decide⟩, fun q => absurd q (by decide), fun q => absurd q (by decide), fun _ => rfl, fun q => absurd q (by decide), fun q => absurd q (by decide), fun q => absurd q (by decide)⟩
theorem cc_Fl_isTight : codeChk Y_Fl_isTight.2.1 Y_Fl_isTight.2.2.1 c_Fl_isTight = true := by decide +kernel
theorem me_Fl_isTight : MeOk 228 ⟨Y_Fl_isTight, c_Fl_isTight, 2, (3, (82, (4, (2, 59))))⟩ := ⟨cc_Fl_isTight, rfl, by decide +kernel, ⟨⟨by decide, by decide⟩, ⟨fun _ => ⟨rfl, rfl⟩, fun q => absurd q (by decide)⟩, rfl, rfl⟩, ⟨rfl, by decide⟩, fun q => absurd q (by decide), fun q => absurd q (by decide), fun _ => rfl, fun q => absurd q (by decide), fun q => absurd q (by decide), fun q => absurd q (by decide)⟩
theorem cc_Fl_firstLoose : codeChk Y_Fl_firstLoose.2.1 Y_Fl_firstLoose.2.2.1 c_Fl_firstLoose = true := by decide +kernel
theorem me_Fl_firstLoose : MeOk 229 ⟨Y_Fl_firstLoose, c_Fl_firstLoose, 2, (4, (105, (2, (1, 59))))⟩ := ⟨cc_Fl_firstLoose, rfl, by decide +kernel, ⟨⟨by decide, by decide⟩, ⟨fun _ => ⟨rfl, rfl⟩, fun q => absurd q (by decide)⟩, rfl, rfl⟩, ⟨rfl, by decide⟩, fun q => absurd q (by decide), fun _ => rfl, fun q => absurd q (by decide), fun q => absurd q (by decide), fun q => absurd q (by decide), fun q => absurd q (by decide)⟩
theorem cc_H_tight : codeChk Y_H_tight.2.1 Y_H_tight.2.2.1 c_H_tight = true := by decide +kernel
theorem me_H_tight : MeOk 230 ⟨Y_H_tight, c_H_tight, 1, (5, (126, (1, (1, 0))))⟩ := ⟨cc_H_tight, rfl, by decide +kernel, ⟨⟨by decide, by decide⟩, ⟨fun _ => ⟨rfl, rfl⟩, fun q => absurd q (by decide)⟩, rfl, rfl⟩, ⟨rfl, by decide⟩, fun q => absurd q (by decide), fun _ => rfl, fun q => absurd q (by decide), fun q => absurd q (by decide), fun q => absurd q (by decide), fun q => absurd q (by decide)⟩
theorem cc_Fl_countLowers : codeChk Y_Fl_countLowers.2.1 Y_Fl_countLowers.2.2.1 c_Fl_countLowers = true := by decide +kernel
theorem me_Fl_countLowers : MeOk 231 ⟨Y_Fl_countLowers, c_Fl_countLowers, 2, (1, (40, (3, (1, 59))))⟩ := ⟨cc_Fl_countLowers, rfl, by decide +kernel, ⟨⟨by decide, by decide⟩, ⟨fun _ => ⟨rfl, rfl⟩, fun q => absurd q (by decide)⟩, rfl, rfl⟩, ⟨rfl, by decide⟩, fun q => absurd q (by decide), fun _ => rfl, fun q => absurd q (by decide), fun q => absurd q (by decide), fun q => absurd q (by decide), fun q => absurd q (by decide)⟩
theorem cc_H_lowered : codeChk Y_H_lowered.2.1 Y_H_lowered.2.2.1 c_H_lowered = true := by decide +kernel
theorem me_H_lowered : MeOk 232 ⟨Y_H_lowered, c_H_lowered, 1, (2, (62, (1, (1, 0))))⟩ := ⟨cc_H_lowered, rfl, by decide +kernel, ⟨⟨by decide, by decide⟩, ⟨fun _ => ⟨rfl, rfl⟩, fun q => absurd q (by decide)⟩, rfl, rfl⟩, ⟨rfl, by decide⟩, fun q => absurd q (by decide), fun _ => rfl, fun q => absurd q (by decide), fun q => absurd q (by decide), fun q => absurd q (by decide), fun q => absurd q (by decide)⟩
theorem cc_H_given : codeChk Y_H_given.2.1 Y_H_given.2.2.1 c_H_given = true := by decide +kernel
theorem me_H_given : MeOk 233 ⟨Y_H_given, c_H_given, 1, (2, (61, (4, (1, 0))))⟩ := ⟨cc_H_given, rfl, by decide +kernel, ⟨⟨by decide, by decide⟩, ⟨fun _ => ⟨rfl, rfl⟩, fun q => absurd q (by decide)⟩, rfl, rfl⟩, ⟨rfl, by decide⟩, fun q => absurd q (by decide), fun _ => rfl, fun q => absurd q (by decide), fun q => absurd q (by decide), fun q => absurd q (by decide), fun q => absurd q (by decide)⟩
theorem cc_Fl_behindBlock : codeChk Y_Fl_behindBlock.2.1 Y_Fl_behindBlock.2.2.1 c_Fl_behindBlock = true := by decide +kernel
theorem me_Fl_behindBlock : MeOk 234 ⟨Y_Fl_behindBlock, c_Fl_behindBlock, 2, (1, (40, (3, (1, 59))))⟩ := ⟨cc_Fl_behindBlock, rfl, by decide +kernel, ⟨⟨by decide, by decide⟩, ⟨fun _ => ⟨rfl, rfl⟩, fun q => absurd q (by decide)⟩, rfl, rfl⟩, ⟨rfl, by decide⟩, fun q => absurd q (by decide), fun _ => rfl, fun q => absurd q (by decide), fun q => absurd q (by decide), fun q => absurd q (by decide), fun q => absurd q (by decide)⟩
theorem cc_Fl_sayOn : codeChk Y_Fl_sayOn.2.1 Y_Fl_sayOn.2.2.1 c_Fl_sayOn = true := by decide +kernel
theorem me_Fl_sayOn : MeOk 235 ⟨Y_Fl_sayOn, c_Fl_sayOn, 2, (1, (40, (3, (0, 59))))⟩ := ⟨cc_Fl_sayOn, rfl, by decide +kernel, ⟨⟨by decide, by decide⟩, ⟨fun _ => ⟨rfl, rfl⟩, fun q => absurd q (by decide)⟩, rfl, rfl⟩, ⟨rfl, by decide⟩, fun _ => rfl, fun q => absurd q (by decide), fun q => absurd q (by decide), fun q => absurd q (by decide), fun q => absurd q (by decide), fun q => absurd q (by decide)⟩
theorem cc_Fl_runBlock : codeChk Y_Fl_runBlock.2.1 Y_Fl_runBlock.2.2.1 c_Fl_runBlock = true := by decide +kernel
theorem me_Fl_runBlock : MeOk 236 ⟨Y_Fl_runBlock, c_Fl_runBlock, 2, (1, (40, (2, (1, 59))))⟩ := ⟨cc_Fl_runBlock, rfl, by decide +kernel, ⟨⟨by decide, by decide⟩, ⟨fun _ => ⟨rfl, rfl⟩, fun q => absurd q (by decide)⟩, rfl, rfl⟩, ⟨rfl, by decide⟩, fun q => absurd q (by decide), fun _ => rfl, fun q => absurd q (by decide), fun q => absurd q (by decide), fun q => absurd q (by decide), fun q => absurd q (by decide)⟩
theorem cc_Fl_runOne : codeChk Y_Fl_runOne.2.1 Y_Fl_runOne.2.2.1 c_Fl_runOne = true := by decide +kernel
theorem me_Fl_runOne : MeOk 237 ⟨Y_Fl_runOne, c_Fl_runOne, 2, (2, (62, (2, (1, 59))))⟩ := ⟨cc_Fl_runOne, rfl, by decide +kernel, ⟨⟨by decide, by decide⟩, ⟨fun _ => ⟨rfl, rfl⟩, fun q => absurd q (by decide)⟩, rfl, rfl⟩, ⟨rfl, by decide⟩, fun q => absurd q (by decide), fun _ => rfl, fun q => absurd q (by decide), fun q => absurd q (by decide), fun q => absurd q (by decide), fun q => absurd q (by decide)⟩
theorem cc_Fl_run : codeChk Y_Fl_run.2.1 Y_Fl_run.2.2.1 c_Fl_run = true := by decide +kernel
theorem me_Fl_run : MeOk 238 ⟨Y_Fl_run, c_Fl_run, 2, (3, (83, (4, (1, 59))))⟩ := ⟨cc_Fl_run, rfl, by decide +kernel, ⟨⟨by decide, by decide⟩, ⟨fun _ => ⟨rfl, rfl⟩, fun q => absurd q (by decide)⟩, rfl, rfl⟩, ⟨rfl, by decide⟩, fun q => absurd q (by decide), fun _ => rfl, fun q => absurd q (by decide), fun q => absurd q (by decide), fun q => absurd q (by decide), fun q => absurd q (by decide)⟩
theorem cc_H_flow : codeChk Y_H_flow.2.1 Y_H_flow.2.2.1 c_H_flow = true := by decide +kernel
theorem me_H_flow : MeOk 239 ⟨Y_H_flow, c_H_flow, 1, (4, (106, (2, (1, 0))))⟩ := ⟨cc_H_flow, rfl, by decide +kernel, ⟨⟨by decide, by decide⟩, ⟨fun _ => ⟨rfl, rfl⟩, fun q => absurd q (by decide)⟩, rfl, rfl⟩, ⟨rfl, by decide⟩, fun q => absurd q (by decide), fun _ => rfl, fun q => absurd q (by decide), fun q => absurd q (by decide), fun q => absurd q (by decide), fun q => absurd q (by decide)⟩
theorem cc_H_said : codeChk Y_H_said.2.1 Y_H_said.2.2.1 c_H_said = true := by decide +kernel
theorem me_H_said : MeOk 240 ⟨Y_H_said, c_H_said, 1, (2, (61, (4, (1, 0))))⟩ := ⟨cc_H_said, rfl, by decide +kernel, ⟨⟨by decide, by decide⟩, ⟨fun _ => ⟨rfl, rfl⟩, fun q => absurd q (by decide)⟩, rfl, rfl⟩, ⟨rfl, by decide⟩, fun q => absurd q (by decide), fun _ => rfl, fun q => absurd q (by decide), fun q => absurd q (by decide), fun q => absurd q (by decide), fun q => absurd q (by decide)⟩
theorem cc_H_variable : codeChk Y_H_variable.2.1 Y_H_variable.2.2.1 c_H_variable = true := by decide +kernel
theorem me_H_variable : MeOk 241 ⟨Y_H_variable, c_H_variable, 1, (2, (61, (2, (1, 0))))⟩ := ⟨cc_H_variable, rfl, by decide +kernel, ⟨⟨by decide, by decide⟩, ⟨fun _ => ⟨rfl, rfl⟩, fun q => absurd q (by decide)⟩, rfl, rfl⟩, ⟨rfl, by decide⟩, fun q => absurd q (by decide), fun _ => rfl, fun q => absurd q (by decide), fun q => absurd q (by decide), fun q => absurd q (by decide), fun q => absurd q (by decide)⟩
theorem cc_H_isAsker : codeChk Y_H_isAsker.2.1 Y_H_isAsker.2.2.1 c_H_isAsker = true := by decide +kernel
theorem me_H_isAsker : MeOk 242 ⟨Y_H_isAsker, c_H_isAsker, 1, (1, (40, (1, (2, 0))))⟩ := ⟨cc_H_isAsker, rfl, by decide +kernel, ⟨⟨by decide, by decide⟩, ⟨fun _ => ⟨rfl, rfl⟩, fun q => absurd q (by decide)⟩, rfl, rfl⟩, ⟨rfl, by decide⟩, fun q => absurd q (by decide), fun q => absurd q (by decide), fun _ => rfl, fun q => absurd q (by decide), fun q => absurd q (by decide), fun q => absurd q (by decide)⟩
theorem cc_H_guarded : codeChk Y_H_guarded.2.1 Y_H_guarded.2.2.1 c_H_guarded = true := by decide +kernel
theorem me_H_guarded : MeOk 243 ⟨Y_H_guarded, c_H_guarded, 1, (2, (61, (6, (3, 0))))⟩ := ⟨cc_H_guarded, rfl, by decide +kernel, ⟨⟨by decide, by decide⟩, ⟨fun _ => ⟨rfl, rfl⟩, fun q => absurd q (by decide)⟩, rfl, rfl⟩, ⟨rfl, by decide⟩, fun q => absurd q (by decide), fun q => absurd q (by decide), fun q => absurd q (by decide), fun _ => rfl, fun q => absurd q (by decide), fun q => absurd q (by decide)⟩
theorem cc_Gu_wasTold : codeChk Y_Gu_wasTold.2.1 Y_Gu_wasTold.2.2.1 c_Gu_wasTold = true := by decide +kernel
theorem me_Gu_wasTold : MeOk 244 ⟨Y_Gu_wasTold, c_Gu_wasTold, 4, (1, (40, (4, (2, 70))))⟩ := ⟨cc_Gu_wasTold, rfl, by decide +kernel, ⟨⟨by decide, by decide⟩, ⟨fun _ => ⟨rfl, rfl⟩, fun q => absurd q (by decide)⟩, rfl, rfl⟩, ⟨rfl, by decide⟩, fun q => absurd q (by decide), fun q => absurd q (by decide), fun _ => rfl, fun q => absurd q (by decide), fun q => absurd q (by decide), fun q => absurd q (by decide)⟩
theorem cc_Gu_total : codeChk Y_Gu_total.2.1 Y_Gu_total.2.2.1 c_Gu_total = true := by decide +kernel
theorem me_Gu_total : MeOk 245 ⟨Y_Gu_total, c_Gu_total, 4, (1, (40, (5, (3, 70))))⟩ := ⟨cc_Gu_total, rfl, by decide +kernel, ⟨⟨by decide, by decide⟩, ⟨fun _ => ⟨rfl, rfl⟩, fun q => absurd q (by decide)⟩, rfl, rfl⟩, ⟨rfl, by decide⟩, fun q => absurd q (by decide), fun q => absurd q (by decide), fun q => absurd q (by decide), fun _ => rfl, fun q => absurd q (by decide), fun q => absurd q (by decide)⟩
theorem cc_Gu_reduce : codeChk Y_Gu_reduce.2.1 Y_Gu_reduce.2.2.1 c_Gu_reduce = true := by decide +kernel
theorem me_Gu_reduce : MeOk 246 ⟨Y_Gu_reduce, c_Gu_reduce, 4, (1, (40, (7, (1, 70))))⟩ := ⟨cc_Gu_reduce, rfl, by decide +kernel, ⟨⟨by decide, by decide⟩, ⟨fun _ => ⟨rfl, rfl⟩, fun q => absurd q (by decide)⟩, rfl, rfl⟩, ⟨rfl, by decide⟩, fun q => absurd q (by decide), fun _ => rfl, fun q => absurd q (by decide), fun q => absurd q (by decide), fun q => absurd q (by decide), fun q => absurd q (by decide)⟩
theorem cc_Gu_addRow : codeChk Y_Gu_addRow.2.1 Y_Gu_addRow.2.2.1 c_Gu_addRow = true := by decide +kernel
theorem me_Gu_addRow : MeOk 247 ⟨Y_Gu_addRow, c_Gu_addRow, 4, (2, (66, (7, (0, 70))))⟩ := ⟨cc_Gu_addRow, rfl, by decide +kernel, ⟨⟨by decide, by decide⟩, ⟨fun _ => ⟨rfl, rfl⟩, fun q => absurd q (by decide)⟩, rfl, rfl⟩, ⟨rfl, by decide⟩, fun _ => rfl, fun q => absurd q (by decide), fun q => absurd q (by decide), fun q => absurd q (by decide), fun q => absurd q (by decide), fun q => absurd q (by decide)⟩
theorem cc_Gu_rankOf : codeChk Y_Gu_rankOf.2.1 Y_Gu_rankOf.2.2.1 c_Gu_rankOf = true := by decide +kernel
theorem me_Gu_rankOf : MeOk 248 ⟨Y_Gu_rankOf, c_Gu_rankOf, 4, (3, (92, (4, (1, 70))))⟩ := ⟨cc_Gu_rankOf, rfl, by decide +kernel, ⟨⟨by decide, by decide⟩, ⟨fun _ => ⟨rfl, rfl⟩, fun q => absurd q (by decide)⟩, rfl, rfl⟩, ⟨rfl, by decide⟩, fun q => absurd q (by decide), fun _ => rfl, fun q => absurd q (by decide), fun q => absurd q (by decide), fun q => absurd q (by decide), fun q => absurd q (by decide)⟩
theorem cc_Gu_wouldReveal : codeChk Y_Gu_wouldReveal.2.1 Y_Gu_wouldReveal.2.2.1 c_Gu_wouldReveal = true := by decide +kernel
theorem me_Gu_wouldReveal : MeOk 249 ⟨Y_Gu_wouldReveal, c_Gu_wouldReveal, 4, (4, (115, (6, (2, 70))))⟩ := ⟨cc_Gu_wouldReveal, rfl, by decide +kernel, ⟨⟨by decide, by decide⟩, ⟨fun _ => ⟨rfl, rfl⟩, fun q => absurd q (by decide)⟩, rfl, rfl⟩, ⟨rfl, by decide⟩, fun q => absurd q (by decide), fun q => absurd q (by decide), fun _ => rfl, fun q => absurd q (by decide), fun q => absurd q (by decide), fun q => absurd q (by decide)⟩
theorem cc_Gu_tell : codeChk Y_Gu_tell.2.1 Y_Gu_tell.2.2.1 c_Gu_tell = true := by decide +kernel
theorem me_Gu_tell : MeOk 250 ⟨Y_Gu_tell, c_Gu_tell, 4, (1, (40, (3, (0, 70))))⟩ := ⟨cc_Gu_tell, rfl, by decide +kernel, ⟨⟨by decide, by decide⟩, ⟨fun _ => ⟨rfl, rfl⟩, fun q => absurd q (by decide)⟩, rfl, rfl⟩, ⟨rfl, by decide⟩, fun _ => rfl, fun q => absurd q (by decide), fun q => absurd q (by decide), fun q => absurd q (by decide), fun q => absurd q (by decide), fun q => absurd q (by decide)⟩
theorem cc_H_sum : codeChk Y_H_sum.2.1 Y_H_sum.2.2.1 c_H_sum = true := by decide +kernel
theorem me_H_sum : MeOk 251 ⟨Y_H_sum, c_H_sum, 1, (5, (140, (5, (3, 0))))⟩ := ⟨cc_H_sum, rfl, by decide +kernel, ⟨⟨by decide, by decide⟩, ⟨fun _ => ⟨rfl, rfl⟩, fun q => absurd q (by decide)⟩, rfl, rfl⟩, ⟨rfl, by decide⟩, fun q => absurd q (by decide), fun q => absurd q (by decide), fun q => absurd q (by decide), fun _ => rfl, fun q => absurd q (by decide), fun q => absurd q (by decide)⟩
theorem cc_Gu_join : codeChk Y_Gu_join.2.1 Y_Gu_join.2.2.1 c_Gu_join = true := by decide +kernel
theorem me_Gu_join : MeOk 252 ⟨Y_Gu_join, c_Gu_join, 4, (1, (40, (3, (0, 70))))⟩ := ⟨cc_Gu_join, rfl, by decide +kernel, ⟨⟨by decide, by decide⟩, ⟨fun _ => ⟨rfl, rfl⟩, fun q => absurd q (by decide)⟩, rfl, rfl⟩, ⟨rfl, by decide⟩, fun _ => rfl, fun q => absurd q (by decide), fun q => absurd q (by decide), fun q => absurd q (by decide), fun q => absurd q (by decide), fun q => absurd q (by decide)⟩
theorem cc_H_share : codeChk Y_H_share.2.1 Y_H_share.2.2.1 c_H_share = true := by decide +kernel
theorem me_H_share : MeOk 253 ⟨Y_H_share, c_H_share, 1, (5, (140, (4, (1, 0))))⟩ := ⟨cc_H_share, rfl, by decide +kernel, ⟨⟨by decide, by decide⟩, ⟨fun _ => ⟨rfl, rfl⟩, fun q => absurd q (by decide)⟩, rfl, rfl⟩, ⟨rfl, by decide⟩, fun q => absurd q (by decide), fun _ => rfl, fun q => absurd q (by decide), fun q => absurd q (by decide), fun q => absurd q (by decide), fun q => absurd q (by decide)⟩
theorem cc_Gu_wasToldToAny : codeChk Y_Gu_wasToldToAny.2.1 Y_Gu_wasToldToAny.2.2.1 c_Gu_wasToldToAny = true := by decide +kernel
theorem me_Gu_wasToldToAny : MeOk 254 ⟨Y_Gu_wasToldToAny, c_Gu_wasToldToAny, 4, (2, (63, (4, (2, 70))))⟩ := ⟨cc_Gu_wasToldToAny, rfl, by decide +kernel, ⟨⟨by decide, by decide⟩, ⟨fun _ => ⟨rfl, rfl⟩, fun q => absurd q (by decide)⟩, rfl, rfl⟩, ⟨rfl, by decide⟩, fun q => absurd q (by decide), fun q => absurd q (by decide), fun _ => rfl, fun q => absurd q (by decide), fun q => absurd q (by decide), fun q => absurd q (by decide)⟩
theorem cc_Gu_countSets : codeChk Y_Gu_countSets.2.1 Y_Gu_countSets.2.2.1 c_Gu_countSets = true := by decide +kernel
theorem me_Gu_countSets : MeOk 255 ⟨Y_Gu_countSets, c_Gu_countSets, 4, (3, (86, (6, (1, 70))))⟩ := ⟨cc_Gu_countSets, rfl, by decide +kernel, ⟨⟨by decide, by decide⟩, ⟨fun _ => ⟨rfl, rfl⟩, fun q => absurd q (by decide)⟩, rfl, rfl⟩, ⟨rfl, by decide⟩, fun q => absurd q (by decide), fun _ => rfl, fun q => absurd q (by decide), fun q => absurd q (by decide), fun q => absurd q (by decide), fun q => absurd q (by decide)⟩
theorem cc_H_knows : codeChk Y_H_knows.2.1 Y_H_knows.2.2.1 c_H_knows = true := by decide +kernel
theorem me_H_knows : MeOk 256 ⟨Y_H_knows, c_H_knows, 1, (4, (115, (3, (1, 0))))⟩ := ⟨cc_H_knows, rfl, by decide +kernel, ⟨⟨by decide, by decide⟩, ⟨fun _ => ⟨rfl, rfl⟩, fun q => absurd q (by decide)⟩, rfl, rfl⟩, ⟨rfl, by decide⟩, fun q => absurd q (by decide), fun _ => rfl, fun q => absurd q (by decide), fun q => absurd q (by decide), fun q => absurd q (by decide), fun q => absurd q (by decide)⟩
theorem cc_Ga_areRights : codeChk Y_Ga_areRights.2.1 Y_Ga_areRights.2.2.1 c_Ga_areRights = true := by decide +kernel
theorem me_Ga_areRights : MeOk 257 ⟨Y_Ga_areRights, c_Ga_areRights, 3, (1, (40, (1, (2, 0))))⟩ := ⟨cc_Ga_areRights, rfl, by decide +kernel, ⟨⟨by decide, by decide⟩, ⟨fun _ => ⟨rfl, rfl⟩, fun q => absurd q (by decide)⟩, rfl, rfl⟩, ⟨rfl, by decide⟩, fun q => absurd q (by decide), fun q => absurd q (by decide), fun _ => rfl, fun q => absurd q (by decide), fun q => absurd q (by decide), fun q => absurd q (by decide)⟩
theorem cc_Ga_addRoom : codeChk Y_Ga_addRoom.2.1 Y_Ga_addRoom.2.2.1 c_Ga_addRoom = true := by decide +kernel
theorem me_Ga_addRoom : MeOk 258 ⟨Y_Ga_addRoom, c_Ga_addRoom, 3, (1, (40, (2, (1, 98))))⟩ := ⟨cc_Ga_addRoom, rfl, by decide +kernel, ⟨⟨by decide, by decide⟩, ⟨fun _ => ⟨rfl, rfl⟩, fun q => absurd q (by decide)⟩, rfl, rfl⟩, ⟨rfl, by decide⟩, fun q => absurd q (by decide), fun _ => rfl, fun q => absurd q (by decide), fun q => absurd q (by decide), fun q => absurd q (by decide), fun q => absurd q (by decide)⟩
theorem cc_H_room : codeChk Y_H_room.2.1 Y_H_room.2.2.1 c_H_room = true := by decide +kernel
theorem me_H_room : MeOk 259 ⟨Y_H_room, c_H_room, 1, (2, (61, (2, (1, 0))))⟩ := ⟨cc_H_room, rfl, by decide +kernel, ⟨⟨by decide, by decide⟩, ⟨fun _ => ⟨rfl, rfl⟩, fun q => absurd q (by decide)⟩, rfl, rfl⟩, ⟨rfl, by decide⟩, fun q => absurd q (by decide), fun _ => rfl, fun q => absurd q (by decide), fun q => absurd q (by decide), fun q => absurd q (by decide), fun q => absurd q (by decide)⟩
theorem cc_Ga_addMethod : codeChk Y_Ga_addMethod.2.1 Y_Ga_addMethod.2.2.1 c_Ga_addMethod = true := by decide +kernel
theorem me_Ga_addMethod : MeOk 260 ⟨Y_Ga_addMethod, c_Ga_addMethod, 3, (1, (40, (2, (1, 98))))⟩ := ⟨cc_Ga_addMethod, rfl, by decide +kernel, ⟨⟨by decide, by decide⟩, ⟨fun _ => ⟨rfl, rfl⟩, fun q => absurd q (by decide)⟩, rfl, rfl⟩, ⟨rfl, by decide⟩, fun q => absurd q (by decide), fun _ => rfl, fun q => absurd q (by decide), fun q => absurd q (by decide), fun q => absurd q (by decide), fun q => absurd q (by decide)⟩
theorem cc_H_method : codeChk Y_H_method.2.1 Y_H_method.2.2.1 c_H_method = true := by decide +kernel
theorem me_H_method : MeOk 261 ⟨Y_H_method, c_H_method, 1, (2, (61, (2, (1, 0))))⟩ := ⟨cc_H_method, rfl, by decide +kernel, ⟨⟨by decide, by decide⟩, ⟨fun _ => ⟨rfl, rfl⟩, fun q => absurd q (by decide)⟩, rfl, rfl⟩, ⟨rfl, by decide⟩, fun q => absurd q (by decide), fun _ => rfl, fun q => absurd q (by decide), fun q => absurd q (by decide), fun q => absurd q (by decide), fun q => absurd q (by decide)⟩
theorem cc_Ga_isOp : codeChk Y_Ga_isOp.2.1 Y_Ga_isOp.2.2.1 c_Ga_isOp = true := by decide +kernel
theorem me_Ga_isOp : MeOk 262 ⟨Y_Ga_isOp, c_Ga_isOp, 3, (2, (60, (4, (2, 0))))⟩ := ⟨cc_Ga_isOp, rfl, by decide +kernel, ⟨⟨by decide, by decide⟩, ⟨fun _ => ⟨rfl, rfl⟩, fun q => absurd q (by decide)⟩, rfl, rfl⟩, ⟨rfl, by decide⟩, fun q => absurd q (by decide), fun q => absurd q (by decide), fun _ => rfl, fun q => absurd q (by decide), fun q => absurd q (by decide), fun q => absurd q (by decide)⟩
theorem cc_Ga_addOp : codeChk Y_Ga_addOp.2.1 Y_Ga_addOp.2.2.1 c_Ga_addOp = true := by decide +kernel
theorem me_Ga_addOp : MeOk 263 ⟨Y_Ga_addOp, c_Ga_addOp, 3, (1, (40, (6, (1, 98))))⟩ := ⟨cc_Ga_addOp, rfl, by decide +kernel, ⟨⟨by decide, by decide⟩, ⟨fun _ => ⟨rfl, rfl⟩, fun q => absurd q (by decide)⟩, rfl, rfl⟩, ⟨rfl, by decide⟩, fun q => absurd q (by decide), fun _ => rfl, fun q => absurd q (by decide), fun q => absurd q (by decide), fun q => absurd q (by decide), fun q => absurd q (by decide)⟩
theorem cc_H_op : codeChk Y_H_op.2.1 Y_H_op.2.2.1 c_H_op = true := by decide +kernel
theorem me_H_op : MeOk 264 ⟨Y_H_op, c_H_op, 1, (3, (83, (5, (1, 0))))⟩ := ⟨cc_H_op, rfl, by decide +kernel, ⟨⟨by decide, by decide⟩, ⟨fun _ => ⟨rfl, rfl⟩, fun q => absurd q (by decide)⟩, rfl, rfl⟩, ⟨rfl, by decide⟩, fun q => absurd q (by decide), fun _ => rfl, fun q => absurd q (by decide), fun q => absurd q (by decide), fun q => absurd q (by decide), fun q => absurd q (by decide)⟩
theorem cc_Ga_push : codeChk Y_Ga_push.2.1 Y_Ga_push.2.2.1 c_Ga_push = true := by decide +kernel
theorem me_Ga_push : MeOk 265 ⟨Y_Ga_push, c_Ga_push, 3, (1, (40, (4, (0, 98))))⟩ := ⟨cc_Ga_push, rfl, by decide +kernel, ⟨⟨by decide, by decide⟩, ⟨fun _ => ⟨rfl, rfl⟩, fun q => absurd q (by decide)⟩, rfl, rfl⟩, ⟨rfl, by decide⟩, fun _ => rfl, fun q => absurd q (by decide), fun q => absurd q (by decide), fun q => absurd q (by decide), fun q => absurd q (by decide), fun q => absurd q (by decide)⟩
theorem cc_Ga_lackingIn : codeChk Y_Ga_lackingIn.2.1 Y_Ga_lackingIn.2.2.1 c_Ga_lackingIn = true := by decide +kernel
theorem me_Ga_lackingIn : MeOk 266 ⟨Y_Ga_lackingIn, c_Ga_lackingIn, 3, (1, (40, (3, (1, 98))))⟩ := ⟨cc_Ga_lackingIn, rfl, by decide +kernel, ⟨⟨by decide, by decide⟩, ⟨fun _ => ⟨rfl, rfl⟩, fun q => absurd q (by decide)⟩, rfl, rfl⟩, ⟨rfl, by decide⟩, fun q => absurd q (by decide), fun _ => rfl, fun q => absurd q (by decide), fun q => absurd q (by decide), fun q => absurd q (by decide), fun q => absurd q (by decide)⟩
theorem cc_Ga_lackingOf : codeChk Y_Ga_lackingOf.2.1 Y_Ga_lackingOf.2.2.1 c_Ga_lackingOf = true := by decide +kernel
theorem me_Ga_lackingOf : MeOk 267 ⟨Y_Ga_lackingOf, c_Ga_lackingOf, 3, (2, (62, (5, (1, 98))))⟩ := ⟨cc_Ga_lackingOf, rfl, by decide +kernel, ⟨⟨by decide, by decide⟩, ⟨fun _ => ⟨rfl, rfl⟩, fun q => absurd q (by decide)⟩, rfl, rfl⟩, ⟨rfl, by decide⟩, fun q => absurd q (by decide), fun _ => rfl, fun q => absurd q (by decide), fun q => absurd q (by decide), fun q => absurd q (by decide), fun q => absurd q (by decide)⟩
theorem cc_Ga_throwOut : codeChk Y_Ga_throwOut.2.1 Y_Ga_throwOut.2.2.1 c_Ga_throwOut = true := by decide +kernel
theorem me_Ga_throwOut : MeOk 268 ⟨Y_Ga_throwOut, c_Ga_throwOut, 3, (1, (40, (7, (1, 98))))⟩ := ⟨cc_Ga_throwOut, rfl, by decide +kernel, ⟨⟨by decide, by decide⟩, ⟨fun _ => ⟨rfl, rfl⟩, fun q => absurd q (by decide)⟩, rfl, rfl⟩, ⟨rfl, by decide⟩, fun q => absurd q (by decide), fun _ => rfl, fun q => absurd q (by decide), fun q => absurd q (by decide), fun q => absurd q (by decide), fun q => absurd q (by decide)⟩
theorem cc_Ga_callBy : codeChk Y_Ga_callBy.2.1 Y_Ga_callBy.2.2.1 c_Ga_callBy = true := by decide +kernel
theorem me_Ga_callBy : MeOk 269 ⟨Y_Ga_callBy, c_Ga_callBy, 3, (2, (66, (2, (1, 98))))⟩ := ⟨cc_Ga_callBy, rfl, by decide +kernel, ⟨⟨by decide, by decide⟩, ⟨fun _ => ⟨rfl, rfl⟩, fun q => absurd q (by decide)⟩, rfl, rfl⟩, ⟨rfl, by decide⟩, fun q => absurd q (by decide), fun _ => rfl, fun q => absurd q (by decide), fun q => absurd q (by decide), fun q => absurd q (by decide), fun q => absurd q (by decide)⟩
theorem cc_Ga_goOn : codeChk Y_Ga_goOn.2.1 Y_Ga_goOn.2.2.1 c_Ga_goOn = true := by decide +kernel
theorem me_Ga_goOn : MeOk 270 ⟨Y_Ga_goOn, c_Ga_goOn, 3, (3, (87, (7, (1, 98))))⟩ := ⟨cc_Ga_goOn, rfl, by decide +kernel, ⟨⟨by decide, by decide⟩, ⟨fun _ => ⟨rfl, rfl⟩, fun q => absurd q (by decide)⟩, rfl, rfl⟩, ⟨rfl, by decide⟩, fun q => absurd q (by decide), fun _ => rfl, fun q => absurd q (by decide), fun q => absurd q (by decide), fun q => absurd q (by decide), fun q => absurd q (by decide)⟩
theorem cc_Ga_run : codeChk Y_Ga_run.2.1 Y_Ga_run.2.2.1 c_Ga_run = true := by decide +kernel
theorem me_Ga_run : MeOk 271 ⟨Y_Ga_run, c_Ga_run, 3, (4, (113, (5, (1, 98))))⟩ := ⟨cc_Ga_run, rfl, by decide +kernel, ⟨⟨by decide, by decide⟩, ⟨fun _ => ⟨rfl, rfl⟩, fun q => absurd q (by decide)⟩, rfl, rfl⟩, ⟨rfl, by decide⟩, fun q => absurd q (by decide), fun _ => rfl, fun q => absurd q (by decide), fun q => absurd q (by decide), fun q => absurd q (by decide), fun q => absurd q (by decide)⟩
theorem cc_H_enter : codeChk Y_H_enter.2.1 Y_H_enter.2.2.1 c_H_enter = true := by decide +kernel
theorem me_H_enter : MeOk 272 ⟨Y_H_enter, c_H_enter, 1, (5, (137, (3, (1, 0))))⟩ := ⟨cc_H_enter, rfl, by decide +kernel, ⟨⟨by decide, by decide⟩, ⟨fun _ => ⟨rfl, rfl⟩, fun q => absurd q (by decide)⟩, rfl, rfl⟩, ⟨rfl, by decide⟩, fun q => absurd q (by decide), fun _ => rfl, fun q => absurd q (by decide), fun q => absurd q (by decide), fun q => absurd q (by decide), fun q => absurd q (by decide)⟩
theorem cc_H_entered : codeChk Y_H_entered.2.1 Y_H_entered.2.2.1 c_H_entered = true := by decide +kernel
theorem me_H_entered : MeOk 273 ⟨Y_H_entered, c_H_entered, 1, (2, (61, (2, (1, 0))))⟩ := ⟨cc_H_entered, rfl, by decide +kernel, ⟨⟨by decide, by decide⟩, ⟨fun _ => ⟨rfl, rfl⟩, fun q => absurd q (by decide)⟩, rfl, rfl⟩, ⟨rfl, by decide⟩, fun q => absurd q (by decide), fun _ => rfl, fun q => absurd q (by decide), fun q => absurd q (by decide), fun q => absurd q (by decide), fun q => absurd q (by decide)⟩
theorem cc_H_tapeNumber : codeChk Y_H_tapeNumber.2.1 Y_H_tapeNumber.2.2.1 c_H_tapeNumber = true := by decide +kernel
theorem me_H_tapeNumber : MeOk 274 ⟨Y_H_tapeNumber, c_H_tapeNumber, 1, (1, (40, (5, (3, 0))))⟩ := ⟨cc_H_tapeNumber, rfl, by decide +kernel, ⟨⟨by decide, by decide⟩, ⟨fun _ => ⟨rfl, rfl⟩, fun q => absurd q (by decide)⟩, rfl, rfl⟩, ⟨rfl, by decide⟩, fun q => absurd q (by decide), fun q => absurd q (by decide), fun q => absurd q (by decide), fun _ => rfl, fun q => absurd q (by decide), fun q => absurd q (by decide)⟩
theorem cc_H_half : codeChk Y_H_half.2.1 Y_H_half.2.2.1 c_H_half = true := by decide +kernel
theorem me_H_half : MeOk 275 ⟨Y_H_half, c_H_half, 1, (2, (64, (6, (1, 0))))⟩ := ⟨cc_H_half, rfl, by decide +kernel, ⟨⟨by decide, by decide⟩, ⟨fun _ => ⟨rfl, rfl⟩, fun q => absurd q (by decide)⟩, rfl, rfl⟩, ⟨rfl, by decide⟩, fun q => absurd q (by decide), fun _ => rfl, fun q => absurd q (by decide), fun q => absurd q (by decide), fun q => absurd q (by decide), fun q => absurd q (by decide)⟩
theorem cc_H_areHalves : codeChk Y_H_areHalves.2.1 Y_H_areHalves.2.2.1 c_H_areHalves = true := by decide +kernel
theorem me_H_areHalves : MeOk 276 ⟨Y_H_areHalves, c_H_areHalves, 1, (2, (64, (5, (2, 0))))⟩ := ⟨cc_H_areHalves, rfl, by decide +kernel, ⟨⟨by decide, by decide⟩, ⟨fun _ => ⟨rfl, rfl⟩, fun q => absurd q (by decide)⟩, rfl, rfl⟩, ⟨rfl, by decide⟩, fun q => absurd q (by decide), fun q => absurd q (by decide), fun _ => rfl, fun q => absurd q (by decide), fun q => absurd q (by decide), fun q => absurd q (by decide)⟩
theorem cc_H_inverse : codeChk Y_H_inverse.2.1 Y_H_inverse.2.2.1 c_H_inverse = true := by decide +kernel
theorem me_H_inverse : MeOk 277 ⟨Y_H_inverse, c_H_inverse, 1, (1, (40, (8, (3, 0))))⟩ := ⟨cc_H_inverse, rfl, by decide +kernel, ⟨⟨by decide, by decide⟩, ⟨fun _ => ⟨rfl, rfl⟩, fun q => absurd q (by decide)⟩, rfl, rfl⟩, ⟨rfl, by decide⟩, fun q => absurd q (by decide), fun q => absurd q (by decide), fun q => absurd q (by decide), fun _ => rfl, fun q => absurd q (by decide), fun q => absurd q (by decide)⟩
theorem cc_H_weightOf : codeChk Y_H_weightOf.2.1 Y_H_weightOf.2.2.1 c_H_weightOf = true := by decide +kernel
theorem me_H_weightOf : MeOk 278 ⟨Y_H_weightOf, c_H_weightOf, 1, (2, (67, (11, (3, 0))))⟩ := ⟨cc_H_weightOf, rfl, by decide +kernel, ⟨⟨by decide, by decide⟩, ⟨fun _ => ⟨rfl, rfl⟩, fun q => absurd q (by decide)⟩, rfl, rfl⟩, ⟨rfl, by decide⟩, fun q => absurd q (by decide), fun q => absurd q (by decide), fun q => absurd q (by decide), fun _ => rfl, fun q => absurd q (by decide), fun q => absurd q (by decide)⟩
theorem cc_H_joined : codeChk Y_H_joined.2.1 Y_H_joined.2.2.1 c_H_joined = true := by decide +kernel
theorem me_H_joined : MeOk 279 ⟨Y_H_joined, c_H_joined, 1, (3, (97, (4, (1, 0))))⟩ := ⟨cc_H_joined, rfl, by decide +kernel, ⟨⟨by decide, by decide⟩, ⟨fun _ => ⟨rfl, rfl⟩, fun q => absurd q (by decide)⟩, rfl, rfl⟩, ⟨rfl, by decide⟩, fun q => absurd q (by decide), fun _ => rfl, fun q => absurd q (by decide), fun q => absurd q (by decide), fun q => absurd q (by decide), fun q => absurd q (by decide)⟩
theorem cc_H_logged : codeChk Y_H_logged.2.1 Y_H_logged.2.2.1 c_H_logged = true := by decide +kernel
theorem me_H_logged : MeOk 280 ⟨Y_H_logged, c_H_logged, 1, (2, (61, (3, (1, 0))))⟩ := ⟨cc_H_logged, rfl, by decide +kernel, ⟨⟨by decide, by decide⟩, ⟨fun _ => ⟨rfl, rfl⟩, fun q => absurd q (by decide)⟩, rfl, rfl⟩, ⟨rfl, by decide⟩, fun q => absurd q (by decide), fun _ => rfl, fun q => absurd q (by decide), fun q => absurd q (by decide), fun q => absurd q (by decide), fun q => absurd q (by decide)⟩
theorem cc_H_forge : codeChk Y_H_forge.2.1 Y_H_forge.2.2.1 c_H_forge = true := by decide +kernel
theorem me_H_forge : MeOk 281 ⟨Y_H_forge, c_H_forge, 1, (2, (61, (5, (1, 0))))⟩ := ⟨cc_H_forge, rfl, by decide +kernel, ⟨⟨by decide, by decide⟩, ⟨fun _ => ⟨rfl, rfl⟩, fun q => absurd q (by decide)⟩, rfl, rfl⟩, ⟨rfl, by decide⟩, fun q => absurd q (by decide), fun _ => rfl, fun q => absurd q (by decide), fun q => absurd q (by decide), fun q => absurd q (by decide), fun q => absurd q (by decide)⟩
theorem cc_H_wrong : codeChk Y_H_wrong.2.1 Y_H_wrong.2.2.1 c_H_wrong = true := by decide +kernel
theorem me_H_wrong : MeOk 282 ⟨Y_H_wrong, c_H_wrong, 1, (2, (64, (2, (1, 0))))⟩ := ⟨cc_H_wrong, rfl, by decide +kernel, ⟨⟨by decide, by decide⟩, ⟨fun _ => ⟨rfl, rfl⟩, fun q => absurd q (by decide)⟩, rfl, rfl⟩, ⟨rfl, by decide⟩, fun q => absurd q (by decide), fun _ => rfl, fun q => absurd q (by decide), fun q => absurd q (by decide), fun q => absurd q (by decide), fun q => absurd q (by decide)⟩
theorem cc_H_sealed : codeChk Y_H_sealed.2.1 Y_H_sealed.2.2.1 c_H_sealed = true := by decide +kernel
theorem me_H_sealed : MeOk 283 ⟨Y_H_sealed, c_H_sealed, 1, (2, (64, (5, (1, 0))))⟩ := ⟨cc_H_sealed, rfl, by decide +kernel, ⟨⟨by decide, by decide⟩, ⟨fun _ => ⟨rfl, rfl⟩, fun q => absurd q (by decide)⟩, rfl, rfl⟩, ⟨rfl, by decide⟩, fun q => absurd q (by decide), fun _ => rfl, fun q => absurd q (by decide), fun q => absurd q (by decide), fun q => absurd q (by decide), fun q => absurd q (by decide)⟩
theorem cc_H_could : codeChk Y_H_could.2.1 Y_H_could.2.2.1 c_H_could = true := by decide +kernel
theorem me_H_could : MeOk 284 ⟨Y_H_could, c_H_could, 1, (26, (760, (5, (1, 0))))⟩ := ⟨cc_H_could, rfl, by decide +kernel, ⟨⟨by decide, by decide⟩, ⟨fun _ => ⟨rfl, rfl⟩, fun q => absurd q (by decide)⟩, rfl, rfl⟩, ⟨rfl, by decide⟩, fun q => absurd q (by decide), fun _ => rfl, fun q => absurd q (by decide), fun q => absurd q (by decide), fun q => absurd q (by decide), fun q => absurd q (by decide)⟩
theorem cc_M_in : codeChk Y_M_in.2.1 Y_M_in.2.2.1 c_M_in = true := by decide +kernel
theorem me_M_in : MeOk 285 ⟨Y_M_in, c_M_in, 13, (1, (40, (6, (2, 0))))⟩ := ⟨cc_M_in, rfl, by decide +kernel, ⟨⟨by decide, by decide⟩, ⟨fun _ => ⟨rfl, rfl⟩, fun q => absurd q (by decide)⟩, rfl, rfl⟩, ⟨rfl, by decide⟩, fun q => absurd q (by decide), fun q => absurd q (by decide), fun _ => rfl, fun q => absurd q (by decide), fun q => absurd q (by decide), fun q => absurd q (by decide)⟩
theorem cc_M_isMoment : codeChk Y_M_isMoment.2.1 Y_M_isMoment.2.2.1 c_M_isMoment = true := by decide +kernel
theorem me_M_isMoment : MeOk 286 ⟨Y_M_isMoment, c_M_isMoment, 13, (2, (65, (1, (2, 0))))⟩ := ⟨cc_M_isMoment, rfl, by decide +kernel, ⟨⟨by decide, by decide⟩, ⟨fun _ => ⟨rfl, rfl⟩, fun q => absurd q (by decide)⟩, rfl, rfl⟩, ⟨rfl, by decide⟩, fun q => absurd q (by decide), fun q => absurd q (by decide), fun _ => rfl, fun q => absurd q (by decide), fun q => absurd q (by decide), fun q => absurd q (by decide)⟩
theorem cc_M_isNan : codeChk Y_M_isNan.2.1 Y_M_isNan.2.2.1 c_M_isNan = true := by decide +kernel
theorem me_M_isNan : MeOk 287 ⟨Y_M_isNan, c_M_isNan, 13, (1, (40, (2, (2, 0))))⟩ := ⟨cc_M_isNan, rfl, by decide +kernel, ⟨⟨by decide, by decide⟩, ⟨fun _ => ⟨rfl, rfl⟩, fun q => absurd q (by decide)⟩, rfl, rfl⟩, ⟨rfl, by decide⟩, fun q => absurd q (by decide), fun q => absurd q (by decide), fun _ => rfl, fun q => absurd q (by decide), fun q => absurd q (by decide), fun q => absurd q (by decide)⟩
theorem cc_M_isInfinite : codeChk Y_M_isInfinite.2.1 Y_M_isInfinite.2.2.1 c_M_isInfinite = true := by decide +kernel
theorem me_M_isInfinite : MeOk 288 ⟨Y_M_isInfinite, c_M_isInfinite, 13, (1, (40, (2, (2, 0))))⟩ := ⟨cc_M_isInfinite, rfl, by decide +kernel, ⟨⟨by decide, by decide⟩, ⟨fun _ => ⟨rfl, rfl⟩, fun q => absurd q (by decide)⟩, rfl, rfl⟩, ⟨rfl, by decide⟩, fun q => absurd q (by decide), fun q => absurd q (by decide), fun _ => rfl, fun q => absurd q (by decide), fun q => absurd q (by decide), fun q => absurd q (by decide)⟩
theorem cc_M_isZero : codeChk Y_M_isZero.2.1 Y_M_isZero.2.2.1 c_M_isZero = true := by decide +kernel
theorem me_M_isZero : MeOk 289 ⟨Y_M_isZero, c_M_isZero, 13, (1, (40, (2, (2, 0))))⟩ := ⟨cc_M_isZero, rfl, by decide +kernel, ⟨⟨by decide, by decide⟩, ⟨fun _ => ⟨rfl, rfl⟩, fun q => absurd q (by decide)⟩, rfl, rfl⟩, ⟨rfl, by decide⟩, fun q => absurd q (by decide), fun q => absurd q (by decide), fun _ => rfl, fun q => absurd q (by decide), fun q => absurd q (by decide), fun q => absurd q (by decide)⟩
theorem cc_M_mantissa : codeChk Y_M_mantissa.2.1 Y_M_mantissa.2.2.1 c_M_mantissa = true := by decide +kernel
theorem me_M_mantissa : MeOk 290 ⟨Y_M_mantissa, c_M_mantissa, 13, (1, (40, (4, (3, 0))))⟩ := ⟨cc_M_mantissa, rfl, by decide +kernel, ⟨⟨by decide, by decide⟩, ⟨fun _ => ⟨rfl, rfl⟩, fun q => absurd q (by decide)⟩, rfl, rfl⟩, ⟨rfl, by decide⟩, fun q => absurd q (by decide), fun q => absurd q (by decide), fun q => absurd q (by decide), fun _ => rfl, fun q => absurd q (by decide), fun q => absurd q (by decide)⟩
theorem cc_M_exponent : codeChk Y_M_exponent.2.1 Y_M_exponent.2.2.1 c_M_exponent = true := by decide +kernel
theorem me_M_exponent : MeOk 291 ⟨Y_M_exponent, c_M_exponent, 13, (1, (40, (3, (1, 0))))⟩ := ⟨cc_M_exponent, rfl, by decide +kernel, ⟨⟨by decide, by decide⟩, ⟨fun _ => ⟨rfl, rfl⟩, fun q => absurd q (by decide)⟩, rfl, rfl⟩, ⟨rfl, by decide⟩, fun q => absurd q (by decide), fun _ => rfl, fun q => absurd q (by decide), fun q => absurd q (by decide), fun q => absurd q (by decide), fun q => absurd q (by decide)⟩
theorem cc_M_length : codeChk Y_M_length.2.1 Y_M_length.2.2.1 c_M_length = true := by decide +kernel
theorem me_M_length : MeOk 292 ⟨Y_M_length, c_M_length, 13, (1, (40, (5, (1, 0))))⟩ := ⟨cc_M_length, rfl, by decide +kernel, ⟨⟨by decide, by decide⟩, ⟨fun _ => ⟨rfl, rfl⟩, fun q => absurd q (by decide)⟩, rfl, rfl⟩, ⟨rfl, by decide⟩, fun q => absurd q (by decide), fun _ => rfl, fun q => absurd q (by decide), fun q => absurd q (by decide), fun q => absurd q (by decide), fun q => absurd q (by decide)⟩
theorem cc_M_signed : codeChk Y_M_signed.2.1 Y_M_signed.2.2.1 c_M_signed = true := by decide +kernel
theorem me_M_signed : MeOk 293 ⟨Y_M_signed, c_M_signed, 13, (1, (40, (3, (3, 0))))⟩ := ⟨cc_M_signed, rfl, by decide +kernel, ⟨⟨by decide, by decide⟩, ⟨fun _ => ⟨rfl, rfl⟩, fun q => absurd q (by decide)⟩, rfl, rfl⟩, ⟨rfl, by decide⟩, fun q => absurd q (by decide), fun q => absurd q (by decide), fun q => absurd q (by decide), fun _ => rfl, fun q => absurd q (by decide), fun q => absurd q (by decide)⟩
theorem cc_M_pack : codeChk Y_M_pack.2.1 Y_M_pack.2.2.1 c_M_pack = true := by decide +kernel
theorem me_M_pack : MeOk 294 ⟨Y_M_pack, c_M_pack, 13, (2, (64, (8, (3, 0))))⟩ := ⟨cc_M_pack, rfl, by decide +kernel, ⟨⟨by decide, by decide⟩, ⟨fun _ => ⟨rfl, rfl⟩, fun q => absurd q (by decide)⟩, rfl, rfl⟩, ⟨rfl, by decide⟩, fun q => absurd q (by decide), fun q => absurd q (by decide), fun q => absurd q (by decide), fun _ => rfl, fun q => absurd q (by decide), fun q => absurd q (by decide)⟩
theorem cc_M_fit : codeChk Y_M_fit.2.1 Y_M_fit.2.2.1 c_M_fit = true := by decide +kernel
theorem me_M_fit : MeOk 295 ⟨Y_M_fit, c_M_fit, 13, (3, (91, (14, (3, 0))))⟩ := ⟨cc_M_fit, rfl, by decide +kernel, ⟨⟨by decide, by decide⟩, ⟨fun _ => ⟨rfl, rfl⟩, fun q => absurd q (by decide)⟩, rfl, rfl⟩, ⟨rfl, by decide⟩, fun q => absurd q (by decide), fun q => absurd q (by decide), fun q => absurd q (by decide), fun _ => rfl, fun q => absurd q (by decide), fun q => absurd q (by decide)⟩
theorem cc_M_ofWhole : codeChk Y_M_ofWhole.2.1 Y_M_ofWhole.2.2.1 c_M_ofWhole = true := by decide +kernel
theorem me_M_ofWhole : MeOk 296 ⟨Y_M_ofWhole, c_M_ofWhole, 13, (4, (124, (5, (3, 0))))⟩ := ⟨cc_M_ofWhole, rfl, by decide +kernel, ⟨⟨by decide, by decide⟩, ⟨fun _ => ⟨rfl, rfl⟩, fun q => absurd q (by decide)⟩, rfl, rfl⟩, ⟨rfl, by decide⟩, fun q => absurd q (by decide), fun q => absurd q (by decide), fun q => absurd q (by decide), fun _ => rfl, fun q => absurd q (by decide), fun q => absurd q (by decide)⟩
theorem cc_M_times : codeChk Y_M_times.2.1 Y_M_times.2.2.1 c_M_times = true := by decide +kernel
theorem me_M_times : MeOk 297 ⟨Y_M_times, c_M_times, 13, (4, (124, (20, (3, 0))))⟩ := ⟨cc_M_times, rfl, by decide +kernel, ⟨⟨by decide, by decide⟩, ⟨fun _ => ⟨rfl, rfl⟩, fun q => absurd q (by decide)⟩, rfl, rfl⟩, ⟨rfl, by decide⟩, fun q => absurd q (by decide), fun q => absurd q (by decide), fun q => absurd q (by decide), fun _ => rfl, fun q => absurd q (by decide), fun q => absurd q (by decide)⟩
theorem cc_M_plus : codeChk Y_M_plus.2.1 Y_M_plus.2.2.1 c_M_plus = true := by decide +kernel
theorem me_M_plus : MeOk 298 ⟨Y_M_plus, c_M_plus, 13, (4, (124, (19, (3, 0))))⟩ := ⟨cc_M_plus, rfl, by decide +kernel, ⟨⟨by decide, by decide⟩, ⟨fun _ => ⟨rfl, rfl⟩, fun q => absurd q (by decide)⟩, rfl, rfl⟩, ⟨rfl, by decide⟩, fun q => absurd q (by decide), fun q => absurd q (by decide), fun q => absurd q (by decide), fun _ => rfl, fun q => absurd q (by decide), fun q => absurd q (by decide)⟩
theorem cc_M_other : codeChk Y_M_other.2.1 Y_M_other.2.2.1 c_M_other = true := by decide +kernel
theorem me_M_other : MeOk 299 ⟨Y_M_other, c_M_other, 13, (2, (61, (2, (3, 0))))⟩ := ⟨cc_M_other, rfl, by decide +kernel, ⟨⟨by decide, by decide⟩, ⟨fun _ => ⟨rfl, rfl⟩, fun q => absurd q (by decide)⟩, rfl, rfl⟩, ⟨rfl, by decide⟩, fun q => absurd q (by decide), fun q => absurd q (by decide), fun q => absurd q (by decide), fun _ => rfl, fun q => absurd q (by decide), fun q => absurd q (by decide)⟩
theorem cc_M_over : codeChk Y_M_over.2.1 Y_M_over.2.2.1 c_M_over = true := by decide +kernel
theorem me_M_over : MeOk 300 ⟨Y_M_over, c_M_over, 13, (4, (124, (12, (3, 0))))⟩ := ⟨cc_M_over, rfl, by decide +kernel, ⟨⟨by decide, by decide⟩, ⟨fun _ => ⟨rfl, rfl⟩, fun q => absurd q (by decide)⟩, rfl, rfl⟩, ⟨rfl, by decide⟩, fun q => absurd q (by decide), fun q => absurd q (by decide), fun q => absurd q (by decide), fun _ => rfl, fun q => absurd q (by decide), fun q => absurd q (by decide)⟩
theorem cc_M_left : codeChk Y_M_left.2.1 Y_M_left.2.2.1 c_M_left = true := by decide +kernel
theorem me_M_left : MeOk 301 ⟨Y_M_left, c_M_left, 13, (3, (91, (12, (3, 0))))⟩ := ⟨cc_M_left, rfl, by decide +kernel, ⟨⟨by decide, by decide⟩, ⟨fun _ => ⟨rfl, rfl⟩, fun q => absurd q (by decide)⟩, rfl, rfl⟩, ⟨rfl, by decide⟩, fun q => absurd q (by decide), fun q => absurd q (by decide), fun q => absurd q (by decide), fun _ => rfl, fun q => absurd q (by decide), fun q => absurd q (by decide)⟩
theorem cc_M_rank : codeChk Y_M_rank.2.1 Y_M_rank.2.2.1 c_M_rank = true := by decide +kernel
theorem me_M_rank : MeOk 302 ⟨Y_M_rank, c_M_rank, 13, (2, (61, (2, (3, 0))))⟩ := ⟨cc_M_rank, rfl, by decide +kernel, ⟨⟨by decide, by decide⟩, ⟨fun _ => ⟨rfl, rfl⟩, fun q => absurd q (by decide)⟩, rfl, rfl⟩, ⟨rfl, by decide⟩, fun q => absurd q (by decide), fun q => absurd q (by decide), fun q => absurd q (by decide), fun _ => rfl, fun q => absurd q (by decide), fun q => absurd q (by decide)⟩
theorem cc_M_feed : codeChk Y_M_feed.2.1 Y_M_feed.2.2.1 c_M_feed = true := by decide +kernel
theorem me_M_feed : MeOk 303 ⟨Y_M_feed, c_M_feed, 13, (2, (65, (5, (1, 110))))⟩ := ⟨cc_M_feed, rfl, by decide +kernel, ⟨⟨by decide, by decide⟩, ⟨fun _ => ⟨rfl, rfl⟩, fun q => absurd q (by decide)⟩, rfl, rfl⟩, ⟨rfl, by decide⟩, fun q => absurd q (by decide), fun _ => rfl, fun q => absurd q (by decide), fun q => absurd q (by decide), fun q => absurd q (by decide), fun q => absurd q (by decide)⟩
theorem cc_M_cut : codeChk Y_M_cut.2.1 Y_M_cut.2.2.1 c_M_cut = true := by decide +kernel
theorem me_M_cut : MeOk 304 ⟨Y_M_cut, c_M_cut, 13, (2, (65, (3, (1, 110))))⟩ := ⟨cc_M_cut, rfl, by decide +kernel, ⟨⟨by decide, by decide⟩, ⟨fun _ => ⟨rfl, rfl⟩, fun q => absurd q (by decide)⟩, rfl, rfl⟩, ⟨rfl, by decide⟩, fun q => absurd q (by decide), fun _ => rfl, fun q => absurd q (by decide), fun q => absurd q (by decide), fun q => absurd q (by decide), fun q => absurd q (by decide)⟩
theorem cc_M_tick : codeChk Y_M_tick.2.1 Y_M_tick.2.2.1 c_M_tick = true := by decide +kernel
theorem me_M_tick : MeOk 305 ⟨Y_M_tick, c_M_tick, 13, (2, (65, (2, (1, 110))))⟩ := ⟨cc_M_tick, rfl, by decide +kernel, ⟨⟨by decide, by decide⟩, ⟨fun _ => ⟨rfl, rfl⟩, fun q => absurd q (by decide)⟩, rfl, rfl⟩, ⟨rfl, by decide⟩, fun q => absurd q (by decide), fun _ => rfl, fun q => absurd q (by decide), fun q => absurd q (by decide), fun q => absurd q (by decide), fun q => absurd q (by decide)⟩
theorem cc_M_mixed : codeChk Y_M_mixed.2.1 Y_M_mixed.2.2.1 c_M_mixed = true := by decide +kernel
theorem me_M_mixed : MeOk 306 ⟨Y_M_mixed, c_M_mixed, 13, (1, (40, (3, (1, 0))))⟩ := ⟨cc_M_mixed, rfl, by decide +kernel, ⟨⟨by decide, by decide⟩, ⟨fun _ => ⟨rfl, rfl⟩, fun q => absurd q (by decide)⟩, rfl, rfl⟩, ⟨rfl, by decide⟩, fun q => absurd q (by decide), fun _ => rfl, fun q => absurd q (by decide), fun q => absurd q (by decide), fun q => absurd q (by decide), fun q => absurd q (by decide)⟩
theorem cc_M_sumOf : codeChk Y_M_sumOf.2.1 Y_M_sumOf.2.2.1 c_M_sumOf = true := by decide +kernel
theorem me_M_sumOf : MeOk 307 ⟨Y_M_sumOf, c_M_sumOf, 13, (2, (62, (5, (1, 110))))⟩ := ⟨cc_M_sumOf, rfl, by decide +kernel, ⟨⟨by decide, by decide⟩, ⟨fun _ => ⟨rfl, rfl⟩, fun q => absurd q (by decide)⟩, rfl, rfl⟩, ⟨rfl, by decide⟩, fun q => absurd q (by decide), fun _ => rfl, fun q => absurd q (by decide), fun q => absurd q (by decide), fun q => absurd q (by decide), fun q => absurd q (by decide)⟩
theorem cc_M_log : codeChk Y_M_log.2.1 Y_M_log.2.2.1 c_M_log = true := by decide +kernel
theorem me_M_log : MeOk 308 ⟨Y_M_log, c_M_log, 13, (3, (86, (6, (0, 110))))⟩ := ⟨cc_M_log, rfl, by decide +kernel, ⟨⟨by decide, by decide⟩, ⟨fun _ => ⟨rfl, rfl⟩, fun q => absurd q (by decide)⟩, rfl, rfl⟩, ⟨rfl, by decide⟩, fun _ => rfl, fun q => absurd q (by decide), fun q => absurd q (by decide), fun q => absurd q (by decide), fun q => absurd q (by decide), fun q => absurd q (by decide)⟩
theorem cc_M_logged : codeChk Y_M_logged.2.1 Y_M_logged.2.2.1 c_M_logged = true := by decide +kernel
theorem me_M_logged : MeOk 309 ⟨Y_M_logged, c_M_logged, 13, (2, (65, (3, (1, 110))))⟩ := ⟨cc_M_logged, rfl, by decide +kernel, ⟨⟨by decide, by decide⟩, ⟨fun _ => ⟨rfl, rfl⟩, fun q => absurd q (by decide)⟩, rfl, rfl⟩, ⟨rfl, by decide⟩, fun q => absurd q (by decide), fun _ => rfl, fun q => absurd q (by decide), fun q => absurd q (by decide), fun q => absurd q (by decide), fun q => absurd q (by decide)⟩
theorem cc_M_forge : codeChk Y_M_forge.2.1 Y_M_forge.2.2.1 c_M_forge = true := by decide +kernel
theorem me_M_forge : MeOk 310 ⟨Y_M_forge, c_M_forge, 13, (2, (65, (5, (1, 110))))⟩ := ⟨cc_M_forge, rfl, by decide +kernel, ⟨⟨by decide, by decide⟩, ⟨fun _ => ⟨rfl, rfl⟩, fun q => absurd q (by decide)⟩, rfl, rfl⟩, ⟨rfl, by decide⟩, fun q => absurd q (by decide), fun _ => rfl, fun q => absurd q (by decide), fun q => absurd q (by decide), fun q => absurd q (by decide), fun q => absurd q (by decide)⟩
theorem cc_M_wrong : codeChk Y_M_wrong.2.1 Y_M_wrong.2.2.1 c_M_wrong = true := by decide +kernel
theorem me_M_wrong : MeOk 311 ⟨Y_M_wrong, c_M_wrong, 13, (3, (86, (2, (1, 110))))⟩ := ⟨cc_M_wrong, rfl, by decide +kernel, ⟨⟨by decide, by decide⟩, ⟨fun _ => ⟨rfl, rfl⟩, fun q => absurd q (by decide)⟩, rfl, rfl⟩, ⟨rfl, by decide⟩, fun q => absurd q (by decide), fun _ => rfl, fun q => absurd q (by decide), fun q => absurd q (by decide), fun q => absurd q (by decide), fun q => absurd q (by decide)⟩
theorem cc_M_sealed : codeChk Y_M_sealed.2.1 Y_M_sealed.2.2.1 c_M_sealed = true := by decide +kernel
theorem me_M_sealed : MeOk 312 ⟨Y_M_sealed, c_M_sealed, 13, (3, (86, (5, (1, 110))))⟩ := ⟨cc_M_sealed, rfl, by decide +kernel, ⟨⟨by decide, by decide⟩, ⟨fun _ => ⟨rfl, rfl⟩, fun q => absurd q (by decide)⟩, rfl, rfl⟩, ⟨rfl, by decide⟩, fun q => absurd q (by decide), fun _ => rfl, fun q => absurd q (by decide), fun q => absurd q (by decide), fun q => absurd q (by decide), fun q => absurd q (by decide)⟩
theorem cc_M_person : codeChk Y_M_person.2.1 Y_M_person.2.2.1 c_M_person = true := by decide +kernel
theorem me_M_person : MeOk 313 ⟨Y_M_person, c_M_person, 13, (1, (40, (1, (1, 110))))⟩ := ⟨cc_M_person, rfl, by decide +kernel, ⟨⟨by decide, by decide⟩, ⟨fun _ => ⟨rfl, rfl⟩, fun q => absurd q (by decide)⟩, rfl, rfl⟩, ⟨rfl, by decide⟩, fun q => absurd q (by decide), fun _ => rfl, fun q => absurd q (by decide), fun q => absurd q (by decide), fun q => absurd q (by decide), fun q => absurd q (by decide)⟩
theorem cc_M_group : codeChk Y_M_group.2.1 Y_M_group.2.2.1 c_M_group = true := by decide +kernel
theorem me_M_group : MeOk 314 ⟨Y_M_group, c_M_group, 13, (1, (40, (1, (1, 110))))⟩ := ⟨cc_M_group, rfl, by decide +kernel, ⟨⟨by decide, by decide⟩, ⟨fun _ => ⟨rfl, rfl⟩, fun q => absurd q (by decide)⟩, rfl, rfl⟩, ⟨rfl, by decide⟩, fun q => absurd q (by decide), fun _ => rfl, fun q => absurd q (by decide), fun q => absurd q (by decide), fun q => absurd q (by decide), fun q => absurd q (by decide)⟩
theorem cc_M_isPerson : codeChk Y_M_isPerson.2.1 Y_M_isPerson.2.2.1 c_M_isPerson = true := by decide +kernel
theorem me_M_isPerson : MeOk 315 ⟨Y_M_isPerson, c_M_isPerson, 13, (2, (65, (2, (2, 110))))⟩ := ⟨cc_M_isPerson, rfl, by decide +kernel, ⟨⟨by decide, by decide⟩, ⟨fun _ => ⟨rfl, rfl⟩, fun q => absurd q (by decide)⟩, rfl, rfl⟩, ⟨rfl, by decide⟩, fun q => absurd q (by decide), fun q => absurd q (by decide), fun _ => rfl, fun q => absurd q (by decide), fun q => absurd q (by decide), fun q => absurd q (by decide)⟩
theorem cc_M_isGroup : codeChk Y_M_isGroup.2.1 Y_M_isGroup.2.2.1 c_M_isGroup = true := by decide +kernel
theorem me_M_isGroup : MeOk 316 ⟨Y_M_isGroup, c_M_isGroup, 13, (2, (65, (2, (2, 110))))⟩ := ⟨cc_M_isGroup, rfl, by decide +kernel, ⟨⟨by decide, by decide⟩, ⟨fun _ => ⟨rfl, rfl⟩, fun q => absurd q (by decide)⟩, rfl, rfl⟩, ⟨rfl, by decide⟩, fun q => absurd q (by decide), fun q => absurd q (by decide), fun _ => rfl, fun q => absurd q (by decide), fun q => absurd q (by decide), fun q => absurd q (by decide)⟩
theorem cc_M_standsAt : codeChk Y_M_standsAt.2.1 Y_M_standsAt.2.2.1 c_M_standsAt = true := by decide +kernel
theorem me_M_standsAt : MeOk 317 ⟨Y_M_standsAt, c_M_standsAt, 13, (1, (40, (4, (2, 110))))⟩ := ⟨cc_M_standsAt, rfl, by decide +kernel, ⟨⟨by decide, by decide⟩, ⟨fun _ => ⟨rfl, rfl⟩, fun q => absurd q (by decide)⟩, rfl, rfl⟩, ⟨rfl, by decide⟩, fun q => absurd q (by decide), fun q => absurd q (by decide), fun _ => rfl, fun q => absurd q (by decide), fun q => absurd q (by decide), fun q => absurd q (by decide)⟩
theorem cc_M_spreads : codeChk Y_M_spreads.2.1 Y_M_spreads.2.2.1 c_M_spreads = true := by decide +kernel
theorem me_M_spreads : MeOk 318 ⟨Y_M_spreads, c_M_spreads, 13, (2, (63, (5, (0, 110))))⟩ := ⟨cc_M_spreads, rfl, by decide +kernel, ⟨⟨by decide, by decide⟩, ⟨fun _ => ⟨rfl, rfl⟩, fun q => absurd q (by decide)⟩, rfl, rfl⟩, ⟨rfl, by decide⟩, fun _ => rfl, fun q => absurd q (by decide), fun q => absurd q (by decide), fun q => absurd q (by decide), fun q => absurd q (by decide), fun q => absurd q (by decide)⟩
theorem cc_M_reaches : codeChk Y_M_reaches.2.1 Y_M_reaches.2.2.1 c_M_reaches = true := by decide +kernel
theorem me_M_reaches : MeOk 319 ⟨Y_M_reaches, c_M_reaches, 13, (3, (87, (5, (0, 110))))⟩ := ⟨cc_M_reaches, rfl, by decide +kernel, ⟨⟨by decide, by decide⟩, ⟨fun _ => ⟨rfl, rfl⟩, fun q => absurd q (by decide)⟩, rfl, rfl⟩, ⟨rfl, by decide⟩, fun _ => rfl, fun q => absurd q (by decide), fun q => absurd q (by decide), fun q => absurd q (by decide), fun q => absurd q (by decide), fun q => absurd q (by decide)⟩
theorem cc_M_isIn : codeChk Y_M_isIn.2.1 Y_M_isIn.2.2.1 c_M_isIn = true := by decide +kernel
theorem me_M_isIn : MeOk 320 ⟨Y_M_isIn, c_M_isIn, 13, (4, (111, (3, (2, 110))))⟩ := ⟨cc_M_isIn, rfl, by decide +kernel, ⟨⟨by decide, by decide⟩, ⟨fun _ => ⟨rfl, rfl⟩, fun q => absurd q (by decide)⟩, rfl, rfl⟩, ⟨rfl, by decide⟩, fun q => absurd q (by decide), fun q => absurd q (by decide), fun _ => rfl, fun q => absurd q (by decide), fun q => absurd q (by decide), fun q => absurd q (by decide)⟩
theorem cc_M_rowPut : codeChk Y_M_rowPut.2.1 Y_M_rowPut.2.2.1 c_M_rowPut = true := by decide +kernel
theorem me_M_rowPut : MeOk 321 ⟨Y_M_rowPut, c_M_rowPut, 13, (1, (40, (5, (1, 110))))⟩ := ⟨cc_M_rowPut, rfl, by decide +kernel, ⟨⟨by decide, by decide⟩, ⟨fun _ => ⟨rfl, rfl⟩, fun q => absurd q (by decide)⟩, rfl, rfl⟩, ⟨rfl, by decide⟩, fun q => absurd q (by decide), fun _ => rfl, fun q => absurd q (by decide), fun q => absurd q (by decide), fun q => absurd q (by decide), fun q => absurd q (by decide)⟩
theorem cc_M_put : codeChk Y_M_put.2.1 Y_M_put.2.2.1 c_M_put = true := by decide +kernel
theorem me_M_put : MeOk 322 ⟨Y_M_put, c_M_put, 13, (3, (86, (8, (1, 110))))⟩ := ⟨cc_M_put, rfl, by decide +kernel, ⟨⟨by decide, by decide⟩, ⟨fun _ => ⟨rfl, rfl⟩, fun q => absurd q (by decide)⟩, rfl, rfl⟩, ⟨rfl, by decide⟩, fun q => absurd q (by decide), fun _ => rfl, fun q => absurd q (by decide), fun q => absurd q (by decide), fun q => absurd q (by decide), fun q => absurd q (by decide)⟩
theorem cc_M_back : codeChk Y_M_back.2.1 Y_M_back.2.2.1 c_M_back = true := by decide +kernel
theorem me_M_back : MeOk 323 ⟨Y_M_back, c_M_back, 13, (2, (65, (2, (1, 110))))⟩ := ⟨cc_M_back, rfl, by decide +kernel, ⟨⟨by decide, by decide⟩, ⟨fun _ => ⟨rfl, rfl⟩, fun q => absurd q (by decide)⟩, rfl, rfl⟩, ⟨rfl, by decide⟩, fun q => absurd q (by decide), fun _ => rfl, fun q => absurd q (by decide), fun q => absurd q (by decide), fun q => absurd q (by decide), fun q => absurd q (by decide)⟩
theorem cc_M_belongs : codeChk Y_M_belongs.2.1 Y_M_belongs.2.2.1 c_M_belongs = true := by decide +kernel
theorem me_M_belongs : MeOk 324 ⟨Y_M_belongs, c_M_belongs, 13, (4, (111, (5, (1, 110))))⟩ := ⟨cc_M_belongs, rfl, by decide +kernel, ⟨⟨by decide, by decide⟩, ⟨fun _ => ⟨rfl, rfl⟩, fun q => absurd q (by decide)⟩, rfl, rfl⟩, ⟨rfl, by decide⟩, fun q => absurd q (by decide), fun _ => rfl, fun q => absurd q (by decide), fun q => absurd q (by decide), fun q => absurd q (by decide), fun q => absurd q (by decide)⟩
theorem cc_M_rowOf : codeChk Y_M_rowOf.2.1 Y_M_rowOf.2.2.1 c_M_rowOf = true := by decide +kernel
theorem me_M_rowOf : MeOk 325 ⟨Y_M_rowOf, c_M_rowOf, 13, (2, (65, (3, (1, 110))))⟩ := ⟨cc_M_rowOf, rfl, by decide +kernel, ⟨⟨by decide, by decide⟩, ⟨fun _ => ⟨rfl, rfl⟩, fun q => absurd q (by decide)⟩, rfl, rfl⟩, ⟨rfl, by decide⟩, fun q => absurd q (by decide), fun _ => rfl, fun q => absurd q (by decide), fun q => absurd q (by decide), fun q => absurd q (by decide), fun q => absurd q (by decide)⟩
theorem cc_M_isThing : codeChk Y_M_isThing.2.1 Y_M_isThing.2.2.1 c_M_isThing = true := by decide +kernel
theorem me_M_isThing : MeOk 326 ⟨Y_M_isThing, c_M_isThing, 13, (2, (65, (2, (2, 110))))⟩ := ⟨cc_M_isThing, rfl, by decide +kernel, ⟨⟨by decide, by decide⟩, ⟨fun _ => ⟨rfl, rfl⟩, fun q => absurd q (by decide)⟩, rfl, rfl⟩, ⟨rfl, by decide⟩, fun q => absurd q (by decide), fun q => absurd q (by decide), fun _ => rfl, fun q => absurd q (by decide), fun q => absurd q (by decide), fun q => absurd q (by decide)⟩
theorem cc_M_rowFor : codeChk Y_M_rowFor.2.1 Y_M_rowFor.2.2.1 c_M_rowFor = true := by decide +kernel
theorem me_M_rowFor : MeOk 327 ⟨Y_M_rowFor, c_M_rowFor, 13, (3, (86, (4, (1, 110))))⟩ := ⟨cc_M_rowFor, rfl, by decide +kernel, ⟨⟨by decide, by decide⟩, ⟨fun _ => ⟨rfl, rfl⟩, fun q => absurd q (by decide)⟩, rfl, rfl⟩, ⟨rfl, by decide⟩, fun q => absurd q (by decide), fun _ => rfl, fun q => absurd q (by decide), fun q => absurd q (by decide), fun q => absurd q (by decide), fun q => absurd q (by decide)⟩
theorem cc_M_feature : codeChk Y_M_feature.2.1 Y_M_feature.2.2.1 c_M_feature = true := by decide +kernel
theorem me_M_feature : MeOk 328 ⟨Y_M_feature, c_M_feature, 13, (4, (109, (7, (1, 110))))⟩ := ⟨cc_M_feature, rfl, by decide +kernel, ⟨⟨by decide, by decide⟩, ⟨fun _ => ⟨rfl, rfl⟩, fun q => absurd q (by decide)⟩, rfl, rfl⟩, ⟨rfl, by decide⟩, fun q => absurd q (by decide), fun _ => rfl, fun q => absurd q (by decide), fun q => absurd q (by decide), fun q => absurd q (by decide), fun q => absurd q (by decide)⟩
theorem cc_M_item : codeChk Y_M_item.2.1 Y_M_item.2.2.1 c_M_item = true := by decide +kernel
theorem me_M_item : MeOk 329 ⟨Y_M_item, c_M_item, 13, (4, (109, (7, (1, 110))))⟩ := ⟨cc_M_item, rfl, by decide +kernel, ⟨⟨by decide, by decide⟩, ⟨fun _ => ⟨rfl, rfl⟩, fun q => absurd q (by decide)⟩, rfl, rfl⟩, ⟨rfl, by decide⟩, fun q => absurd q (by decide), fun _ => rfl, fun q => absurd q (by decide), fun q => absurd q (by decide), fun q => absurd q (by decide), fun q => absurd q (by decide)⟩
theorem cc_M_itemOf : codeChk Y_M_itemOf.2.1 Y_M_itemOf.2.2.1 c_M_itemOf = true := by decide +kernel
theorem me_M_itemOf : MeOk 330 ⟨Y_M_itemOf, c_M_itemOf, 13, (4, (109, (6, (3, 110))))⟩ := ⟨cc_M_itemOf, rfl, by decide +kernel, ⟨⟨by decide, by decide⟩, ⟨fun _ => ⟨rfl, rfl⟩, fun q => absurd q (by decide)⟩, rfl, rfl⟩, ⟨rfl, by decide⟩, fun q => absurd q (by decide), fun q => absurd q (by decide), fun q => absurd q (by decide), fun _ => rfl, fun q => absurd q (by decide), fun q => absurd q (by decide)⟩
theorem cc_M_copy : codeChk Y_M_copy.2.1 Y_M_copy.2.2.1 c_M_copy = true := by decide +kernel
theorem me_M_copy : MeOk 331 ⟨Y_M_copy, c_M_copy, 13, (4, (109, (11, (1, 110))))⟩ := ⟨cc_M_copy, rfl, by decide +kernel, ⟨⟨by decide, by decide⟩, ⟨fun _ => ⟨rfl, rfl⟩, fun q => absurd q (by decide)⟩, rfl, rfl⟩, ⟨rfl, by decide⟩, fun q => absurd q (by decide), fun _ => rfl, fun q => absurd q (by decide), fun q => absurd q (by decide), fun q => absurd q (by decide), fun q => absurd q (by decide)⟩
theorem cc_M_begins : codeChk Y_M_begins.2.1 Y_M_begins.2.2.1 c_M_begins = true := by decide +kernel
theorem me_M_begins : MeOk 332 ⟨Y_M_begins, c_M_begins, 13, (1, (40, (2, (0, 110))))⟩ := ⟨cc_M_begins, rfl, by decide +kernel, ⟨⟨by decide, by decide⟩, ⟨fun _ => ⟨rfl, rfl⟩, fun q => absurd q (by decide)⟩, rfl, rfl⟩, ⟨rfl, by decide⟩, fun _ => rfl, fun q => absurd q (by decide), fun q => absurd q (by decide), fun q => absurd q (by decide), fun q => absurd q (by decide), fun q => absurd q (by decide)⟩
theorem cc_M_isHere : codeChk Y_M_isHere.2.1 Y_M_isHere.2.2.1 c_M_isHere = true := by decide +kernel
theorem me_M_isHere : MeOk 333 ⟨Y_M_isHere, c_M_isHere, 13, (3, (86, (2, (2, 110))))⟩ := ⟨cc_M_isHere, rfl, by decide +kernel, ⟨⟨by decide, by decide⟩, ⟨fun _ => ⟨rfl, rfl⟩, fun q => absurd q (by decide)⟩, rfl, rfl⟩, ⟨rfl, by decide⟩, fun q => absurd q (by decide), fun q => absurd q (by decide), fun _ => rfl, fun q => absurd q (by decide), fun q => absurd q (by decide), fun q => absurd q (by decide)⟩
theorem cc_M_thing : codeChk Y_M_thing.2.1 Y_M_thing.2.2.1 c_M_thing = true := by decide +kernel
theorem me_M_thing : MeOk 334 ⟨Y_M_thing, c_M_thing, 13, (4, (107, (3, (1, 110))))⟩ := ⟨cc_M_thing, rfl, by decide +kernel, ⟨⟨by decide, by decide⟩, ⟨fun _ => ⟨rfl, rfl⟩, fun q => absurd q (by decide)⟩, rfl, rfl⟩, ⟨rfl, by decide⟩, fun q => absurd q (by decide), fun _ => rfl, fun q => absurd q (by decide), fun q => absurd q (by decide), fun q => absurd q (by decide), fun q => absurd q (by decide)⟩
theorem cc_M_move : codeChk Y_M_move.2.1 Y_M_move.2.2.1 c_M_move = true := by decide +kernel
theorem me_M_move : MeOk 335 ⟨Y_M_move, c_M_move, 13, (4, (107, (4, (1, 110))))⟩ := ⟨cc_M_move, rfl, by decide +kernel, ⟨⟨by decide, by decide⟩, ⟨fun _ => ⟨rfl, rfl⟩, fun q => absurd q (by decide)⟩, rfl, rfl⟩, ⟨rfl, by decide⟩, fun q => absurd q (by decide), fun _ => rfl, fun q => absurd q (by decide), fun q => absurd q (by decide), fun q => absurd q (by decide), fun q => absurd q (by decide)⟩
theorem cc_M_cutOff : codeChk Y_M_cutOff.2.1 Y_M_cutOff.2.2.1 c_M_cutOff = true := by decide +kernel
theorem me_M_cutOff : MeOk 336 ⟨Y_M_cutOff, c_M_cutOff, 13, (4, (107, (4, (1, 110))))⟩ := ⟨cc_M_cutOff, rfl, by decide +kernel, ⟨⟨by decide, by decide⟩, ⟨fun _ => ⟨rfl, rfl⟩, fun q => absurd q (by decide)⟩, rfl, rfl⟩, ⟨rfl, by decide⟩, fun q => absurd q (by decide), fun _ => rfl, fun q => absurd q (by decide), fun q => absurd q (by decide), fun q => absurd q (by decide), fun q => absurd q (by decide)⟩
theorem cc_M_drop : codeChk Y_M_drop.2.1 Y_M_drop.2.2.1 c_M_drop = true := by decide +kernel
theorem me_M_drop : MeOk 337 ⟨Y_M_drop, c_M_drop, 13, (4, (107, (3, (1, 110))))⟩ := ⟨cc_M_drop, rfl, by decide +kernel, ⟨⟨by decide, by decide⟩, ⟨fun _ => ⟨rfl, rfl⟩, fun q => absurd q (by decide)⟩, rfl, rfl⟩, ⟨rfl, by decide⟩, fun q => absurd q (by decide), fun _ => rfl, fun q => absurd q (by decide), fun q => absurd q (by decide), fun q => absurd q (by decide), fun q => absurd q (by decide)⟩
theorem cc_M_depthOf : codeChk Y_M_depthOf.2.1 Y_M_depthOf.2.2.1 c_M_depthOf = true := by decide +kernel
theorem me_M_depthOf : MeOk 338 ⟨Y_M_depthOf, c_M_depthOf, 13, (1, (40, (4, (1, 110))))⟩ := ⟨cc_M_depthOf, rfl, by decide +kernel, ⟨⟨by decide, by decide⟩, ⟨fun _ => ⟨rfl, rfl⟩, fun q => absurd q (by decide)⟩, rfl, rfl⟩, ⟨rfl, by decide⟩, fun q => absurd q (by decide), fun _ => rfl, fun q => absurd q (by decide), fun q => absurd q (by decide), fun q => absurd q (by decide), fun q => absurd q (by decide)⟩
theorem cc_M_thingOf : codeChk Y_M_thingOf.2.1 Y_M_thingOf.2.2.1 c_M_thingOf = true := by decide +kernel
theorem me_M_thingOf : MeOk 339 ⟨Y_M_thingOf, c_M_thingOf, 13, (3, (86, (3, (1, 110))))⟩ := ⟨cc_M_thingOf, rfl, by decide +kernel, ⟨⟨by decide, by decide⟩, ⟨fun _ => ⟨rfl, rfl⟩, fun q => absurd q (by decide)⟩, rfl, rfl⟩, ⟨rfl, by decide⟩, fun q => absurd q (by decide), fun _ => rfl, fun q => absurd q (by decide), fun q => absurd q (by decide), fun q => absurd q (by decide), fun q => absurd q (by decide)⟩
theorem cc_M_isUnder : codeChk Y_M_isUnder.2.1 Y_M_isUnder.2.2.1 c_M_isUnder = true := by decide +kernel
theorem me_M_isUnder : MeOk 340 ⟨Y_M_isUnder, c_M_isUnder, 13, (1, (40, (4, (2, 110))))⟩ := ⟨cc_M_isUnder, rfl, by decide +kernel, ⟨⟨by decide, by decide⟩, ⟨fun _ => ⟨rfl, rfl⟩, fun q => absurd q (by decide)⟩, rfl, rfl⟩, ⟨rfl, by decide⟩, fun q => absurd q (by decide), fun q => absurd q (by decide), fun _ => rfl, fun q => absurd q (by decide), fun q => absurd q (by decide), fun q => absurd q (by decide)⟩
theorem cc_M_under : codeChk Y_M_under.2.1 Y_M_under.2.2.1 c_M_under = true := by decide +kernel
theorem me_M_under : MeOk 341 ⟨Y_M_under, c_M_under, 13, (4, (107, (3, (1, 110))))⟩ := ⟨cc_M_under, rfl, by decide +kernel, ⟨⟨by decide, by decide⟩, ⟨fun _ => ⟨rfl, rfl⟩, fun q => absurd q (by decide)⟩, rfl, rfl⟩, ⟨rfl, by decide⟩, fun q => absurd q (by decide), fun _ => rfl, fun q => absurd q (by decide), fun q => absurd q (by decide), fun q => absurd q (by decide), fun q => absurd q (by decide)⟩
theorem cc_M_holds : codeChk Y_M_holds.2.1 Y_M_holds.2.2.1 c_M_holds = true := by decide +kernel
theorem me_M_holds : MeOk 342 ⟨Y_M_holds, c_M_holds, 13, (2, (65, (5, (1, 110))))⟩ := ⟨cc_M_holds, rfl, by decide +kernel, ⟨⟨by decide, by decide⟩, ⟨fun _ => ⟨rfl, rfl⟩, fun q => absurd q (by decide)⟩, rfl, rfl⟩, ⟨rfl, by decide⟩, fun q => absurd q (by decide), fun _ => rfl, fun q => absurd q (by decide), fun q => absurd q (by decide), fun q => absurd q (by decide), fun q => absurd q (by decide)⟩
theorem cc_M_heldBy : codeChk Y_M_heldBy.2.1 Y_M_heldBy.2.2.1 c_M_heldBy = true := by decide +kernel
theorem me_M_heldBy : MeOk 343 ⟨Y_M_heldBy, c_M_heldBy, 13, (2, (61, (6, (1, 110))))⟩ := ⟨cc_M_heldBy, rfl, by decide +kernel, ⟨⟨by decide, by decide⟩, ⟨fun _ => ⟨rfl, rfl⟩, fun q => absurd q (by decide)⟩, rfl, rfl⟩, ⟨rfl, by decide⟩, fun q => absurd q (by decide), fun _ => rfl, fun q => absurd q (by decide), fun q => absurd q (by decide), fun q => absurd q (by decide), fun q => absurd q (by decide)⟩
theorem cc_M_isHeld : codeChk Y_M_isHeld.2.1 Y_M_isHeld.2.2.1 c_M_isHeld = true := by decide +kernel
theorem me_M_isHeld : MeOk 344 ⟨Y_M_isHeld, c_M_isHeld, 13, (3, (86, (3, (2, 110))))⟩ := ⟨cc_M_isHeld, rfl, by decide +kernel, ⟨⟨by decide, by decide⟩, ⟨fun _ => ⟨rfl, rfl⟩, fun q => absurd q (by decide)⟩, rfl, rfl⟩, ⟨rfl, by decide⟩, fun q => absurd q (by decide), fun q => absurd q (by decide), fun _ => rfl, fun q => absurd q (by decide), fun q => absurd q (by decide), fun q => absurd q (by decide)⟩
theorem cc_M_doesHold : codeChk Y_M_doesHold.2.1 Y_M_doesHold.2.2.1 c_M_doesHold = true := by decide +kernel
theorem me_M_doesHold : MeOk 345 ⟨Y_M_doesHold, c_M_doesHold, 13, (4, (108, (3, (1, 110))))⟩ := ⟨cc_M_doesHold, rfl, by decide +kernel, ⟨⟨by decide, by decide⟩, ⟨fun _ => ⟨rfl, rfl⟩, fun q => absurd q (by decide)⟩, rfl, rfl⟩, ⟨rfl, by decide⟩, fun q => absurd q (by decide), fun _ => rfl, fun q => absurd q (by decide), fun q => absurd q (by decide), fun q => absurd q (by decide), fun q => absurd q (by decide)⟩
theorem cc_M_byteAt : codeChk Y_M_byteAt.2.1 Y_M_byteAt.2.2.1 c_M_byteAt = true := by decide +kernel
theorem me_M_byteAt : MeOk 346 ⟨Y_M_byteAt, c_M_byteAt, 13, (1, (40, (2, (1, 110))))⟩ := ⟨cc_M_byteAt, rfl, by decide +kernel, ⟨⟨by decide, by decide⟩, ⟨fun _ => ⟨rfl, rfl⟩, fun q => absurd q (by decide)⟩, rfl, rfl⟩, ⟨rfl, by decide⟩, fun q => absurd q (by decide), fun _ => rfl, fun q => absurd q (by decide), fun q => absurd q (by decide), fun q => absurd q (by decide), fun q => absurd q (by decide)⟩
theorem cc_M_isFigure : codeChk Y_M_isFigure.2.1 Y_M_isFigure.2.2.1 c_M_isFigure = true := by decide +kernel
theorem me_M_isFigure : MeOk 347 ⟨Y_M_isFigure, c_M_isFigure, 13, (1, (40, (1, (2, 0))))⟩ := ⟨cc_M_isFigure, rfl, by decide +kernel, ⟨⟨by decide, by decide⟩, ⟨fun _ => ⟨rfl, rfl⟩, fun q => absurd q (by decide)⟩, rfl, rfl⟩, ⟨rfl, by decide⟩, fun q => absurd q (by decide), fun q => absurd q (by decide), fun _ => rfl, fun q => absurd q (by decide), fun q => absurd q (by decide), fun q => absurd q (by decide)⟩
theorem cc_M_isLetter : codeChk Y_M_isLetter.2.1 Y_M_isLetter.2.2.1 c_M_isLetter = true := by decide +kernel
theorem me_M_isLetter : MeOk 348 ⟨Y_M_isLetter, c_M_isLetter, 13, (1, (40, (1, (2, 0))))⟩ := ⟨cc_M_isLetter, rfl, by decide +kernel, ⟨⟨by decide, by decide⟩, ⟨fun _ => ⟨rfl, rfl⟩, fun q => absurd q (by decide)⟩, rfl, rfl⟩, ⟨rfl, by decide⟩, fun q => absurd q (by decide), fun q => absurd q (by decide), fun _ => rfl, fun q => absurd q (by decide), fun q => absurd q (by decide), fun q => absurd q (by decide)⟩
theorem cc_M_number : codeChk Y_M_number.2.1 Y_M_number.2.2.1 c_M_number = true := by decide +kernel
theorem me_M_number : MeOk 349 ⟨Y_M_number, c_M_number, 13, (5, (155, (4, (0, 110))))⟩ := ⟨cc_M_number, rfl, by decide +kernel, ⟨⟨by decide, by decide⟩, ⟨fun _ => ⟨rfl, rfl⟩, fun q => absurd q (by decide)⟩, rfl, rfl⟩, ⟨rfl, by decide⟩, fun _ => rfl, fun q => absurd q (by decide), fun q => absurd q (by decide), fun q => absurd q (by decide), fun q => absurd q (by decide), fun q => absurd q (by decide)⟩
theorem cc_M_sign : codeChk Y_M_sign.2.1 Y_M_sign.2.2.1 c_M_sign = true := by decide +kernel
theorem me_M_sign : MeOk 350 ⟨Y_M_sign, c_M_sign, 13, (2, (61, (4, (0, 110))))⟩ := ⟨cc_M_sign, rfl, by decide +kernel, ⟨⟨by decide, by decide⟩, ⟨fun _ => ⟨rfl, rfl⟩, fun q => absurd q (by decide)⟩, rfl, rfl⟩, ⟨rfl, by decide⟩, fun _ => rfl, fun q => absurd q (by decide), fun q => absurd q (by decide), fun q => absurd q (by decide), fun q => absurd q (by decide), fun q => absurd q (by decide)⟩
theorem cc_M_token : codeChk Y_M_token.2.1 Y_M_token.2.2.1 c_M_token = true := by decide +kernel
theorem me_M_token : MeOk 351 ⟨Y_M_token, c_M_token, 13, (6, (178, (2, (0, 110))))⟩ := ⟨cc_M_token, rfl, by decide +kernel, ⟨⟨by decide, by decide⟩, ⟨fun _ => ⟨rfl, rfl⟩, fun q => absurd q (by decide)⟩, rfl, rfl⟩, ⟨rfl, by decide⟩, fun _ => rfl, fun q => absurd q (by decide), fun q => absurd q (by decide), fun q => absurd q (by decide), fun q => absurd q (by decide), fun q => absurd q (by decide)⟩
theorem cc_M_isSign : codeChk Y_M_isSign.2.1 Y_M_isSign.2.2.1 c_M_isSign = true := by decide +kernel
theorem me_M_isSign : MeOk 352 ⟨Y_M_isSign, c_M_isSign, 13, (1, (40, (2, (2, 110))))⟩ := ⟨cc_M_isSign, rfl, by decide +kernel, ⟨⟨by decide, by decide⟩, ⟨fun _ => ⟨rfl, rfl⟩, fun q => absurd q (by decide)⟩, rfl, rfl⟩, ⟨rfl, by decide⟩, fun q => absurd q (by decide), fun q => absurd q (by decide), fun _ => rfl, fun q => absurd q (by decide), fun q => absurd q (by decide), fun q => absurd q (by decide)⟩
theorem cc_M_isWord : codeChk Y_M_isWord.2.1 Y_M_isWord.2.2.1 c_M_isWord = true := by decide +kernel
theorem me_M_isWord : MeOk 353 ⟨Y_M_isWord, c_M_isWord, 13, (1, (40, (8, (2, 110))))⟩ := ⟨cc_M_isWord, rfl, by decide +kernel, ⟨⟨by decide, by decide⟩, ⟨fun _ => ⟨rfl, rfl⟩, fun q => absurd q (by decide)⟩, rfl, rfl⟩, ⟨rfl, by decide⟩, fun q => absurd q (by decide), fun q => absurd q (by decide), fun _ => rfl, fun q => absurd q (by decide), fun q => absurd q (by decide), fun q => absurd q (by decide)⟩
theorem cc_M_numbered : codeChk Y_M_numbered.2.1 Y_M_numbered.2.2.1 c_M_numbered = true := by decide +kernel
theorem me_M_numbered : MeOk 354 ⟨Y_M_numbered, c_M_numbered, 13, (2, (61, (5, (1, 110))))⟩ := ⟨cc_M_numbered, rfl, by decide +kernel, ⟨⟨by decide, by decide⟩, ⟨fun _ => ⟨rfl, rfl⟩, fun q => absurd q (by decide)⟩, rfl, rfl⟩, ⟨rfl, by decide⟩, fun q => absurd q (by decide), fun _ => rfl, fun q => absurd q (by decide), fun q => absurd q (by decide), fun q => absurd q (by decide), fun q => absurd q (by decide)⟩
theorem cc_M_emit : codeChk Y_M_emit.2.1 Y_M_emit.2.2.1 c_M_emit = true := by decide +kernel
theorem me_M_emit : MeOk 355 ⟨Y_M_emit, c_M_emit, 13, (1, (40, (4, (0, 110))))⟩ := ⟨cc_M_emit, rfl, by decide +kernel, ⟨⟨by decide, by decide⟩, ⟨fun _ => ⟨rfl, rfl⟩, fun q => absurd q (by decide)⟩, rfl, rfl⟩, ⟨rfl, by decide⟩, fun _ => rfl, fun q => absurd q (by decide), fun q => absurd q (by decide), fun q => absurd q (by decide), fun q => absurd q (by decide), fun q => absurd q (by decide)⟩
theorem cc_M_reduce : codeChk Y_M_reduce.2.1 Y_M_reduce.2.2.1 c_M_reduce = true := by decide +kernel
theorem me_M_reduce : MeOk 356 ⟨Y_M_reduce, c_M_reduce, 13, (2, (63, (2, (0, 110))))⟩ := ⟨cc_M_reduce, rfl, by decide +kernel, ⟨⟨by decide, by decide⟩, ⟨fun _ => ⟨rfl, rfl⟩, fun q => absurd q (by decide)⟩, rfl, rfl⟩, ⟨rfl, by decide⟩, fun _ => rfl, fun q => absurd q (by decide), fun q => absurd q (by decide), fun q => absurd q (by decide), fun q => absurd q (by decide), fun q => absurd q (by decide)⟩
theorem cc_M_holdBack : codeChk Y_M_holdBack.2.1 Y_M_holdBack.2.2.1 c_M_holdBack = true := by decide +kernel
theorem me_M_holdBack : MeOk 357 ⟨Y_M_holdBack, c_M_holdBack, 13, (1, (40, (4, (0, 110))))⟩ := ⟨cc_M_holdBack, rfl, by decide +kernel, ⟨⟨by decide, by decide⟩, ⟨fun _ => ⟨rfl, rfl⟩, fun q => absurd q (by decide)⟩, rfl, rfl⟩, ⟨rfl, by decide⟩, fun _ => rfl, fun q => absurd q (by decide), fun q => absurd q (by decide), fun q => absurd q (by decide), fun q => absurd q (by decide), fun q => absurd q (by decide)⟩
theorem cc_M_deeper : codeChk Y_M_deeper.2.1 Y_M_deeper.2.2.1 c_M_deeper = true := by decide +kernel
theorem me_M_deeper : MeOk 358 ⟨Y_M_deeper, c_M_deeper, 13, (1, (40, (1, (2, 110))))⟩ := ⟨cc_M_deeper, rfl, by decide +kernel, ⟨⟨by decide, by decide⟩, ⟨fun _ => ⟨rfl, rfl⟩, fun q => absurd q (by decide)⟩, rfl, rfl⟩, ⟨rfl, by decide⟩, fun q => absurd q (by decide), fun q => absurd q (by decide), fun _ => rfl, fun q => absurd q (by decide), fun q => absurd q (by decide), fun q => absurd q (by decide)⟩
theorem cc_M_opens : codeChk Y_M_opens.2.1 Y_M_opens.2.2.1 c_M_opens = true := by decide +kernel
theorem me_M_opens : MeOk 359 ⟨Y_M_opens, c_M_opens, 13, (1, (40, (3, (0, 110))))⟩ := ⟨cc_M_opens, rfl, by decide +kernel, ⟨⟨by decide, by decide⟩, ⟨fun _ => ⟨rfl, rfl⟩, fun q => absurd q (by decide)⟩, rfl, rfl⟩, ⟨rfl, by decide⟩, fun _ => rfl, fun q => absurd q (by decide), fun q => absurd q (by decide), fun q => absurd q (by decide), fun q => absurd q (by decide), fun q => absurd q (by decide)⟩
theorem cc_M_isFeature : codeChk Y_M_isFeature.2.1 Y_M_isFeature.2.2.1 c_M_isFeature = true := by decide +kernel
theorem me_M_isFeature : MeOk 360 ⟨Y_M_isFeature, c_M_isFeature, 13, (7, (199, (2, (2, 110))))⟩ := ⟨cc_M_isFeature, rfl, by decide +kernel, ⟨⟨by decide, by decide⟩, ⟨fun _ => ⟨rfl, rfl⟩, fun q => absurd q (by decide)⟩, rfl, rfl⟩, ⟨rfl, by decide⟩, fun q => absurd q (by decide), fun q => absurd q (by decide), fun _ => rfl, fun q => absurd q (by decide), fun q => absurd q (by decide), fun q => absurd q (by decide)⟩
theorem cc_M_valueDone : codeChk Y_M_valueDone.2.1 Y_M_valueDone.2.2.1 c_M_valueDone = true := by decide +kernel
theorem me_M_valueDone : MeOk 361 ⟨Y_M_valueDone, c_M_valueDone, 13, (3, (84, (1, (0, 110))))⟩ := ⟨cc_M_valueDone, rfl, by decide +kernel, ⟨⟨by decide, by decide⟩, ⟨fun _ => ⟨rfl, rfl⟩, fun q => absurd q (by decide)⟩, rfl, rfl⟩, ⟨rfl, by decide⟩, fun _ => rfl, fun q => absurd q (by decide), fun q => absurd q (by decide), fun q => absurd q (by decide), fun q => absurd q (by decide), fun q => absurd q (by decide)⟩
theorem cc_M_featureDone : codeChk Y_M_featureDone.2.1 Y_M_featureDone.2.2.1 c_M_featureDone = true := by decide +kernel
theorem me_M_featureDone : MeOk 362 ⟨Y_M_featureDone, c_M_featureDone, 13, (7, (199, (3, (0, 110))))⟩ := ⟨cc_M_featureDone, rfl, by decide +kernel, ⟨⟨by decide, by decide⟩, ⟨fun _ => ⟨rfl, rfl⟩, fun q => absurd q (by decide)⟩, rfl, rfl⟩, ⟨rfl, by decide⟩, fun _ => rfl, fun q => absurd q (by decide), fun q => absurd q (by decide), fun q => absurd q (by decide), fun q => absurd q (by decide), fun q => absurd q (by decide)⟩
theorem cc_M_wanted : codeChk Y_M_wanted.2.1 Y_M_wanted.2.2.1 c_M_wanted = true := by decide +kernel
theorem me_M_wanted : MeOk 363 ⟨Y_M_wanted, c_M_wanted, 13, (8, (221, (1, (0, 110))))⟩ := ⟨cc_M_wanted, rfl, by decide +kernel, ⟨⟨by decide, by decide⟩, ⟨fun _ => ⟨rfl, rfl⟩, fun q => absurd q (by decide)⟩, rfl, rfl⟩, ⟨rfl, by decide⟩, fun _ => rfl, fun q => absurd q (by decide), fun q => absurd q (by decide), fun q => absurd q (by decide), fun q => absurd q (by decide), fun q => absurd q (by decide)⟩
theorem cc_M_comparison : codeChk Y_M_comparison.2.1 Y_M_comparison.2.2.1 c_M_comparison = true := by decide +kernel
theorem me_M_comparison : MeOk 364 ⟨Y_M_comparison, c_M_comparison, 13, (1, (40, (1, (1, 0))))⟩ := ⟨cc_M_comparison, rfl, by decide +kernel, ⟨⟨by decide, by decide⟩, ⟨fun _ => ⟨rfl, rfl⟩, fun q => absurd q (by decide)⟩, rfl, rfl⟩, ⟨rfl, by decide⟩, fun q => absurd q (by decide), fun _ => rfl, fun q => absurd q (by decide), fun q => absurd q (by decide), fun q => absurd q (by decide), fun q => absurd q (by decide)⟩
theorem cc_M_reckoning : codeChk Y_M_reckoning.2.1 Y_M_reckoning.2.2.1 c_M_reckoning = true := by decide +kernel
theorem me_M_reckoning : MeOk 365 ⟨Y_M_reckoning, c_M_reckoning, 13, (1, (40, (1, (1, 0))))⟩ := ⟨cc_M_reckoning, rfl, by decide +kernel, ⟨⟨by decide, by decide⟩, ⟨fun _ => ⟨rfl, rfl⟩, fun q => absurd q (by decide)⟩, rfl, rfl⟩, ⟨rfl, by decide⟩, fun q => absurd q (by decide), fun _ => rfl, fun q => absurd q (by decide), fun q => absurd q (by decide), fun q => absurd q (by decide), fun q => absurd q (by decide)⟩
theorem cc_M_closes : codeChk Y_M_closes.2.1 Y_M_closes.2.2.1 c_M_closes = true := by decide +kernel
theorem me_M_closes : MeOk 366 ⟨Y_M_closes, c_M_closes, 13, (1, (40, (1, (2, 110))))⟩ := ⟨cc_M_closes, rfl, by decide +kernel, ⟨⟨by decide, by decide⟩, ⟨fun _ => ⟨rfl, rfl⟩, fun q => absurd q (by decide)⟩, rfl, rfl⟩, ⟨rfl, by decide⟩, fun q => absurd q (by decide), fun q => absurd q (by decide), fun _ => rfl, fun q => absurd q (by decide), fun q => absurd q (by decide), fun q => absurd q (by decide)⟩
theorem cc_M_closed : codeChk Y_M_closed.2.1 Y_M_closed.2.2.1 c_M_closed = true := by decide +kernel
theorem me_M_closed : MeOk 367 ⟨Y_M_closed, c_M_closed, 13, (4, (104, (2, (0, 110))))⟩ := ⟨cc_M_closed, rfl, by decide +kernel, ⟨⟨by decide, by decide⟩, ⟨fun _ => ⟨rfl, rfl⟩, fun q => absurd q (by decide)⟩, rfl, rfl⟩, ⟨rfl, by decide⟩, fun _ => rfl, fun q => absurd q (by decide), fun q => absurd q (by decide), fun q => absurd q (by decide), fun q => absurd q (by decide), fun q => absurd q (by decide)⟩
theorem cc_M_goesOn : codeChk Y_M_goesOn.2.1 Y_M_goesOn.2.2.1 c_M_goesOn = true := by decide +kernel
theorem me_M_goesOn : MeOk 368 ⟨Y_M_goesOn, c_M_goesOn, 13, (8, (220, (4, (2, 110))))⟩ := ⟨cc_M_goesOn, rfl, by decide +kernel, ⟨⟨by decide, by decide⟩, ⟨fun _ => ⟨rfl, rfl⟩, fun q => absurd q (by decide)⟩, rfl, rfl⟩, ⟨rfl, by decide⟩, fun q => absurd q (by decide), fun q => absurd q (by decide), fun _ => rfl, fun q => absurd q (by decide), fun q => absurd q (by decide), fun q => absurd q (by decide)⟩
theorem cc_M_condition : codeChk Y_M_condition.2.1 Y_M_condition.2.2.1 c_M_condition = true := by decide +kernel
theorem me_M_condition : MeOk 369 ⟨Y_M_condition, c_M_condition, 13, (9, (243, (2, (0, 110))))⟩ := ⟨cc_M_condition, rfl, by decide +kernel, ⟨⟨by decide, by decide⟩, ⟨fun _ => ⟨rfl, rfl⟩, fun q => absurd q (by decide)⟩, rfl, rfl⟩, ⟨rfl, by decide⟩, fun _ => rfl, fun q => absurd q (by decide), fun q => absurd q (by decide), fun q => absurd q (by decide), fun q => absurd q (by decide), fun q => absurd q (by decide)⟩
theorem cc_M_fails : codeChk Y_M_fails.2.1 Y_M_fails.2.2.1 c_M_fails = true := by decide +kernel
theorem me_M_fails : MeOk 370 ⟨Y_M_fails, c_M_fails, 13, (1, (40, (1, (2, 110))))⟩ := ⟨cc_M_fails, rfl, by decide +kernel, ⟨⟨by decide, by decide⟩, ⟨fun _ => ⟨rfl, rfl⟩, fun q => absurd q (by decide)⟩, rfl, rfl⟩, ⟨rfl, by decide⟩, fun q => absurd q (by decide), fun q => absurd q (by decide), fun _ => rfl, fun q => absurd q (by decide), fun q => absurd q (by decide), fun q => absurd q (by decide)⟩
theorem cc_M_isEffect : codeChk Y_M_isEffect.2.1 Y_M_isEffect.2.2.1 c_M_isEffect = true := by decide +kernel
theorem me_M_isEffect : MeOk 371 ⟨Y_M_isEffect, c_M_isEffect, 13, (2, (67, (2, (2, 110))))⟩ := ⟨cc_M_isEffect, rfl, by decide +kernel, ⟨⟨by decide, by decide⟩, ⟨fun _ => ⟨rfl, rfl⟩, fun q => absurd q (by decide)⟩, rfl, rfl⟩, ⟨rfl, by decide⟩, fun q => absurd q (by decide), fun q => absurd q (by decide), fun _ => rfl, fun q => absurd q (by decide), fun q => absurd q (by decide), fun q => absurd q (by decide)⟩
theorem cc_M_isWho : codeChk Y_M_isWho.2.1 Y_M_isWho.2.2.1 c_M_isWho = true := by decide +kernel
theorem me_M_isWho : MeOk 372 ⟨Y_M_isWho, c_M_isWho, 13, (3, (86, (4, (2, 110))))⟩ := ⟨cc_M_isWho, rfl, by decide +kernel, ⟨⟨by decide, by decide⟩, ⟨fun _ => ⟨rfl, rfl⟩, fun q => absurd q (by decide)⟩, rfl, rfl⟩, ⟨rfl, by decide⟩, fun q => absurd q (by decide), fun q => absurd q (by decide), fun _ => rfl, fun q => absurd q (by decide), fun q => absurd q (by decide), fun q => absurd q (by decide)⟩
theorem cc_M_isAct : codeChk Y_M_isAct.2.1 Y_M_isAct.2.2.1 c_M_isAct = true := by decide +kernel
theorem me_M_isAct : MeOk 373 ⟨Y_M_isAct, c_M_isAct, 13, (2, (67, (2, (2, 110))))⟩ := ⟨cc_M_isAct, rfl, by decide +kernel, ⟨⟨by decide, by decide⟩, ⟨fun _ => ⟨rfl, rfl⟩, fun q => absurd q (by decide)⟩, rfl, rfl⟩, ⟨rfl, by decide⟩, fun q => absurd q (by decide), fun q => absurd q (by decide), fun _ => rfl, fun q => absurd q (by decide), fun q => absurd q (by decide), fun q => absurd q (by decide)⟩
theorem cc_M_isRuleThing : codeChk Y_M_isRuleThing.2.1 Y_M_isRuleThing.2.2.1 c_M_isRuleThing = true := by decide +kernel
theorem me_M_isRuleThing : MeOk 374 ⟨Y_M_isRuleThing, c_M_isRuleThing, 13, (7, (199, (3, (2, 110))))⟩ := ⟨cc_M_isRuleThing, rfl, by decide +kernel, ⟨⟨by decide, by decide⟩, ⟨fun _ => ⟨rfl, rfl⟩, fun q => absurd q (by decide)⟩, rfl, rfl⟩, ⟨rfl, by decide⟩, fun q => absurd q (by decide), fun q => absurd q (by decide), fun _ => rfl, fun q => absurd q (by decide), fun q => absurd q (by decide), fun q => absurd q (by decide)⟩
theorem cc_M_isRule : codeChk Y_M_isRule.2.1 Y_M_isRule.2.2.1 c_M_isRule = true := by decide +kernel
theorem me_M_isRule : MeOk 375 ⟨Y_M_isRule, c_M_isRule, 13, (10, (264, (2, (2, 110))))⟩ := ⟨cc_M_isRule, rfl, by decide +kernel, ⟨⟨by decide, by decide⟩, ⟨fun _ => ⟨rfl, rfl⟩, fun q => absurd q (by decide)⟩, rfl, rfl⟩, ⟨rfl, by decide⟩, fun q => absurd q (by decide), fun q => absurd q (by decide), fun _ => rfl, fun q => absurd q (by decide), fun q => absurd q (by decide), fun q => absurd q (by decide)⟩
theorem cc_M_policy : codeChk Y_M_policy.2.1 Y_M_policy.2.2.1 c_M_policy = true := by decide +kernel
theorem me_M_policy : MeOk 376 ⟨Y_M_policy, c_M_policy, 13, (11, (285, (4, (1, 110))))⟩ := ⟨cc_M_policy, rfl, by decide +kernel, ⟨⟨by decide, by decide⟩, ⟨fun _ => ⟨rfl, rfl⟩, fun q => absurd q (by decide)⟩, rfl, rfl⟩, ⟨rfl, by decide⟩, fun q => absurd q (by decide), fun _ => rfl, fun q => absurd q (by decide), fun q => absurd q (by decide), fun q => absurd q (by decide), fun q => absurd q (by decide)⟩
theorem cc_M_isPolicy : codeChk Y_M_isPolicy.2.1 Y_M_isPolicy.2.2.1 c_M_isPolicy = true := by decide +kernel
theorem me_M_isPolicy : MeOk 377 ⟨Y_M_isPolicy, c_M_isPolicy, 13, (2, (65, (2, (2, 110))))⟩ := ⟨cc_M_isPolicy, rfl, by decide +kernel, ⟨⟨by decide, by decide⟩, ⟨fun _ => ⟨rfl, rfl⟩, fun q => absurd q (by decide)⟩, rfl, rfl⟩, ⟨rfl, by decide⟩, fun q => absurd q (by decide), fun q => absurd q (by decide), fun _ => rfl, fun q => absurd q (by decide), fun q => absurd q (by decide), fun q => absurd q (by decide)⟩
theorem cc_M_rules : codeChk Y_M_rules.2.1 Y_M_rules.2.2.1 c_M_rules = true := by decide +kernel
theorem me_M_rules : MeOk 378 ⟨Y_M_rules, c_M_rules, 13, (3, (86, (2, (1, 110))))⟩ := ⟨cc_M_rules, rfl, by decide +kernel, ⟨⟨by decide, by decide⟩, ⟨fun _ => ⟨rfl, rfl⟩, fun q => absurd q (by decide)⟩, rfl, rfl⟩, ⟨rfl, by decide⟩, fun q => absurd q (by decide), fun _ => rfl, fun q => absurd q (by decide), fun q => absurd q (by decide), fun q => absurd q (by decide), fun q => absurd q (by decide)⟩
theorem cc_M_push : codeChk Y_M_push.2.1 Y_M_push.2.2.1 c_M_push = true := by decide +kernel
theorem me_M_push : MeOk 379 ⟨Y_M_push, c_M_push, 13, (1, (40, (4, (0, 110))))⟩ := ⟨cc_M_push, rfl, by decide +kernel, ⟨⟨by decide, by decide⟩, ⟨fun _ => ⟨rfl, rfl⟩, fun q => absurd q (by decide)⟩, rfl, rfl⟩, ⟨rfl, by decide⟩, fun _ => rfl, fun q => absurd q (by decide), fun q => absurd q (by decide), fun q => absurd q (by decide), fun q => absurd q (by decide), fun q => absurd q (by decide)⟩
theorem cc_M_pushItem : codeChk Y_M_pushItem.2.1 Y_M_pushItem.2.2.1 c_M_pushItem = true := by decide +kernel
theorem me_M_pushItem : MeOk 380 ⟨Y_M_pushItem, c_M_pushItem, 13, (2, (65, (3, (0, 110))))⟩ := ⟨cc_M_pushItem, rfl, by decide +kernel, ⟨⟨by decide, by decide⟩, ⟨fun _ => ⟨rfl, rfl⟩, fun q => absurd q (by decide)⟩, rfl, rfl⟩, ⟨rfl, by decide⟩, fun _ => rfl, fun q => absurd q (by decide), fun q => absurd q (by decide), fun q => absurd q (by decide), fun q => absurd q (by decide), fun q => absurd q (by decide)⟩
theorem cc_M_pushAt : codeChk Y_M_pushAt.2.1 Y_M_pushAt.2.2.1 c_M_pushAt = true := by decide +kernel
theorem me_M_pushAt : MeOk 381 ⟨Y_M_pushAt, c_M_pushAt, 13, (3, (87, (5, (0, 110))))⟩ := ⟨cc_M_pushAt, rfl, by decide +kernel, ⟨⟨by decide, by decide⟩, ⟨fun _ => ⟨rfl, rfl⟩, fun q => absurd q (by decide)⟩, rfl, rfl⟩, ⟨rfl, by decide⟩, fun _ => rfl, fun q => absurd q (by decide), fun q => absurd q (by decide), fun q => absurd q (by decide), fun q => absurd q (by decide), fun q => absurd q (by decide)⟩
theorem cc_M_pushIn : codeChk Y_M_pushIn.2.1 Y_M_pushIn.2.2.1 c_M_pushIn = true := by decide +kernel
theorem me_M_pushIn : MeOk 382 ⟨Y_M_pushIn, c_M_pushIn, 13, (2, (63, (7, (0, 110))))⟩ := ⟨cc_M_pushIn, rfl, by decide +kernel, ⟨⟨by decide, by decide⟩, ⟨fun _ => ⟨rfl, rfl⟩, fun q => absurd q (by decide)⟩, rfl, rfl⟩, ⟨rfl, by decide⟩, fun _ => rfl, fun q => absurd q (by decide), fun q => absurd q (by decide), fun q => absurd q (by decide), fun q => absurd q (by decide), fun q => absurd q (by decide)⟩
theorem cc_M_holdsFor : codeChk Y_M_holdsFor.2.1 Y_M_holdsFor.2.2.1 c_M_holdsFor = true := by decide +kernel
theorem me_M_holdsFor : MeOk 383 ⟨Y_M_holdsFor, c_M_holdsFor, 13, (1, (40, (2, (2, 0))))⟩ := ⟨cc_M_holdsFor, rfl, by decide +kernel, ⟨⟨by decide, by decide⟩, ⟨fun _ => ⟨rfl, rfl⟩, fun q => absurd q (by decide)⟩, rfl, rfl⟩, ⟨rfl, by decide⟩, fun q => absurd q (by decide), fun q => absurd q (by decide), fun _ => rfl, fun q => absurd q (by decide), fun q => absurd q (by decide), fun q => absurd q (by decide)⟩
theorem cc_M_pushOf : codeChk Y_M_pushOf.2.1 Y_M_pushOf.2.2.1 c_M_pushOf = true := by decide +kernel
theorem me_M_pushOf : MeOk 384 ⟨Y_M_pushOf, c_M_pushOf, 13, (5, (163, (10, (0, 110))))⟩ := ⟨cc_M_pushOf, rfl, by decide +kernel, ⟨⟨by decide, by decide⟩, ⟨fun _ => ⟨rfl, rfl⟩, fun q => absurd q (by decide)⟩, rfl, rfl⟩, ⟨rfl, by decide⟩, fun _ => rfl, fun q => absurd q (by decide), fun q => absurd q (by decide), fun q => absurd q (by decide), fun q => absurd q (by decide), fun q => absurd q (by decide)⟩
theorem cc_M_pushJoined : codeChk Y_M_pushJoined.2.1 Y_M_pushJoined.2.2.1 c_M_pushJoined = true := by decide +kernel
theorem me_M_pushJoined : MeOk 385 ⟨Y_M_pushJoined, c_M_pushJoined, 13, (2, (63, (4, (0, 110))))⟩ := ⟨cc_M_pushJoined, rfl, by decide +kernel, ⟨⟨by decide, by decide⟩, ⟨fun _ => ⟨rfl, rfl⟩, fun q => absurd q (by decide)⟩, rfl, rfl⟩, ⟨rfl, by decide⟩, fun _ => rfl, fun q => absurd q (by decide), fun q => absurd q (by decide), fun q => absurd q (by decide), fun q => absurd q (by decide), fun q => absurd q (by decide)⟩
theorem cc_M_evaluate : codeChk Y_M_evaluate.2.1 Y_M_evaluate.2.2.1 c_M_evaluate = true := by decide +kernel
theorem me_M_evaluate : MeOk 386 ⟨Y_M_evaluate, c_M_evaluate, 13, (6, (192, (10, (0, 110))))⟩ := ⟨cc_M_evaluate, rfl, by decide +kernel, ⟨⟨by decide, by decide⟩, ⟨fun _ => ⟨rfl, rfl⟩, fun q => absurd q (by decide)⟩, rfl, rfl⟩, ⟨rfl, by decide⟩, fun _ => rfl, fun q => absurd q (by decide), fun q => absurd q (by decide), fun q => absurd q (by decide), fun q => absurd q (by decide), fun q => absurd q (by decide)⟩
theorem cc_M_says : codeChk Y_M_says.2.1 Y_M_says.2.2.1 c_M_says = true := by decide +kernel
theorem me_M_says : MeOk 387 ⟨Y_M_says, c_M_says, 13, (7, (221, (7, (1, 110))))⟩ := ⟨cc_M_says, rfl, by decide +kernel, ⟨⟨by decide, by decide⟩, ⟨fun _ => ⟨rfl, rfl⟩, fun q => absurd q (by decide)⟩, rfl, rfl⟩, ⟨rfl, by decide⟩, fun q => absurd q (by decide), fun _ => rfl, fun q => absurd q (by decide), fun q => absurd q (by decide), fun q => absurd q (by decide), fun q => absurd q (by decide)⟩
theorem cc_M_placeOf : codeChk Y_M_placeOf.2.1 Y_M_placeOf.2.2.1 c_M_placeOf = true := by decide +kernel
theorem me_M_placeOf : MeOk 388 ⟨Y_M_placeOf, c_M_placeOf, 13, (2, (63, (6, (1, 110))))⟩ := ⟨cc_M_placeOf, rfl, by decide +kernel, ⟨⟨by decide, by decide⟩, ⟨fun _ => ⟨rfl, rfl⟩, fun q => absurd q (by decide)⟩, rfl, rfl⟩, ⟨rfl, by decide⟩, fun q => absurd q (by decide), fun _ => rfl, fun q => absurd q (by decide), fun q => absurd q (by decide), fun q => absurd q (by decide), fun q => absurd q (by decide)⟩
theorem cc_M_judge : codeChk Y_M_judge.2.1 Y_M_judge.2.2.1 c_M_judge = true := by decide +kernel
theorem me_M_judge : MeOk 389 ⟨Y_M_judge, c_M_judge, 13, (8, (247, (11, (0, 110))))⟩ := ⟨cc_M_judge, rfl, by decide +kernel, ⟨⟨by decide, by decide⟩, ⟨fun _ => ⟨rfl, rfl⟩, fun q => absurd q (by decide)⟩, rfl, rfl⟩, ⟨rfl, by decide⟩, fun _ => rfl, fun q => absurd q (by decide), fun q => absurd q (by decide), fun q => absurd q (by decide), fun q => absurd q (by decide), fun q => absurd q (by decide)⟩
theorem cc_M_keeps : codeChk Y_M_keeps.2.1 Y_M_keeps.2.2.1 c_M_keeps = true := by decide +kernel
theorem me_M_keeps : MeOk 390 ⟨Y_M_keeps, c_M_keeps, 13, (1, (40, (2, (1, 110))))⟩ := ⟨cc_M_keeps, rfl, by decide +kernel, ⟨⟨by decide, by decide⟩, ⟨fun _ => ⟨rfl, rfl⟩, fun q => absurd q (by decide)⟩, rfl, rfl⟩, ⟨rfl, by decide⟩, fun q => absurd q (by decide), fun _ => rfl, fun q => absurd q (by decide), fun q => absurd q (by decide), fun q => absurd q (by decide), fun q => absurd q (by decide)⟩
theorem cc_M_forceAt : codeChk Y_M_forceAt.2.1 Y_M_forceAt.2.2.1 c_M_forceAt = true := by decide +kernel
theorem me_M_forceAt : MeOk 391 ⟨Y_M_forceAt, c_M_forceAt, 13, (1, (40, (4, (1, 110))))⟩ := ⟨cc_M_forceAt, rfl, by decide +kernel, ⟨⟨by decide, by decide⟩, ⟨fun _ => ⟨rfl, rfl⟩, fun q => absurd q (by decide)⟩, rfl, rfl⟩, ⟨rfl, by decide⟩, fun q => absurd q (by decide), fun _ => rfl, fun q => absurd q (by decide), fun q => absurd q (by decide), fun q => absurd q (by decide), fun q => absurd q (by decide)⟩
theorem cc_M_inForce : codeChk Y_M_inForce.2.1 Y_M_inForce.2.2.1 c_M_inForce = true := by decide +kernel
theorem me_M_inForce : MeOk 392 ⟨Y_M_inForce, c_M_inForce, 13, (4, (111, (2, (1, 110))))⟩ := ⟨cc_M_inForce, rfl, by decide +kernel, ⟨⟨by decide, by decide⟩, ⟨fun _ => ⟨rfl, rfl⟩, fun q => absurd q (by decide)⟩, rfl, rfl⟩, ⟨rfl, by decide⟩, fun q => absurd q (by decide), fun _ => rfl, fun q => absurd q (by decide), fun q => absurd q (by decide), fun q => absurd q (by decide), fun q => absurd q (by decide)⟩
theorem cc_M_ask : codeChk Y_M_ask.2.1 Y_M_ask.2.2.1 c_M_ask = true := by decide +kernel
theorem me_M_ask : MeOk 393 ⟨Y_M_ask, c_M_ask, 13, (9, (277, (6, (1, 110))))⟩ := ⟨cc_M_ask, rfl, by decide +kernel, ⟨⟨by decide, by decide⟩, ⟨fun _ => ⟨rfl, rfl⟩, fun q => absurd q (by decide)⟩, rfl, rfl⟩, ⟨rfl, by decide⟩, fun q => absurd q (by decide), fun _ => rfl, fun q => absurd q (by decide), fun q => absurd q (by decide), fun q => absurd q (by decide), fun q => absurd q (by decide)⟩
theorem cc_M_asked : codeChk Y_M_asked.2.1 Y_M_asked.2.2.1 c_M_asked = true := by decide +kernel
theorem me_M_asked : MeOk 394 ⟨Y_M_asked, c_M_asked, 13, (9, (277, (6, (1, 110))))⟩ := ⟨cc_M_asked, rfl, by decide +kernel, ⟨⟨by decide, by decide⟩, ⟨fun _ => ⟨rfl, rfl⟩, fun q => absurd q (by decide)⟩, rfl, rfl⟩, ⟨rfl, by decide⟩, fun q => absurd q (by decide), fun _ => rfl, fun q => absurd q (by decide), fun q => absurd q (by decide), fun q => absurd q (by decide), fun q => absurd q (by decide)⟩
theorem cc_M_made : codeChk Y_M_made.2.1 Y_M_made.2.2.1 c_M_made = true := by decide +kernel
theorem me_M_made : MeOk 395 ⟨Y_M_made, c_M_made, 13, (2, (65, (2, (1, 110))))⟩ := ⟨cc_M_made, rfl, by decide +kernel, ⟨⟨by decide, by decide⟩, ⟨fun _ => ⟨rfl, rfl⟩, fun q => absurd q (by decide)⟩, rfl, rfl⟩, ⟨rfl, by decide⟩, fun q => absurd q (by decide), fun _ => rfl, fun q => absurd q (by decide), fun q => absurd q (by decide), fun q => absurd q (by decide), fun q => absurd q (by decide)⟩
theorem cc_M_may : codeChk Y_M_may.2.1 Y_M_may.2.2.1 c_M_may = true := by decide +kernel
theorem me_M_may : MeOk 396 ⟨Y_M_may, c_M_may, 13, (9, (277, (7, (1, 110))))⟩ := ⟨cc_M_may, rfl, by decide +kernel, ⟨⟨by decide, by decide⟩, ⟨fun _ => ⟨rfl, rfl⟩, fun q => absurd q (by decide)⟩, rfl, rfl⟩, ⟨rfl, by decide⟩, fun q => absurd q (by decide), fun _ => rfl, fun q => absurd q (by decide), fun q => absurd q (by decide), fun q => absurd q (by decide), fun q => absurd q (by decide)⟩
theorem cc_M_whoAt : codeChk Y_M_whoAt.2.1 Y_M_whoAt.2.2.1 c_M_whoAt = true := by decide +kernel
theorem me_M_whoAt : MeOk 397 ⟨Y_M_whoAt, c_M_whoAt, 13, (9, (277, (8, (1, 110))))⟩ := ⟨cc_M_whoAt, rfl, by decide +kernel, ⟨⟨by decide, by decide⟩, ⟨fun _ => ⟨rfl, rfl⟩, fun q => absurd q (by decide)⟩, rfl, rfl⟩, ⟨rfl, by decide⟩, fun q => absurd q (by decide), fun _ => rfl, fun q => absurd q (by decide), fun q => absurd q (by decide), fun q => absurd q (by decide), fun q => absurd q (by decide)⟩
theorem cc_M_who : codeChk Y_M_who.2.1 Y_M_who.2.2.1 c_M_who = true := by decide +kernel
theorem me_M_who : MeOk 398 ⟨Y_M_who, c_M_who, 13, (10, (304, (5, (1, 110))))⟩ := ⟨cc_M_who, rfl, by decide +kernel, ⟨⟨by decide, by decide⟩, ⟨fun _ => ⟨rfl, rfl⟩, fun q => absurd q (by decide)⟩, rfl, rfl⟩, ⟨rfl, by decide⟩, fun q => absurd q (by decide), fun _ => rfl, fun q => absurd q (by decide), fun q => absurd q (by decide), fun q => absurd q (by decide), fun q => absurd q (by decide)⟩
theorem cc_M_could : codeChk Y_M_could.2.1 Y_M_could.2.2.1 c_M_could = true := by decide +kernel
theorem me_M_could : MeOk 399 ⟨Y_M_could, c_M_could, 13, (10, (304, (5, (1, 110))))⟩ := ⟨cc_M_could, rfl, by decide +kernel, ⟨⟨by decide, by decide⟩, ⟨fun _ => ⟨rfl, rfl⟩, fun q => absurd q (by decide)⟩, rfl, rfl⟩, ⟨rfl, by decide⟩, fun q => absurd q (by decide), fun _ => rfl, fun q => absurd q (by decide), fun q => absurd q (by decide), fun q => absurd q (by decide), fun q => absurd q (by decide)⟩
theorem cc_M_compare : codeChk Y_M_compare.2.1 Y_M_compare.2.2.1 c_M_compare = true := by decide +kernel
theorem me_M_compare : MeOk 400 ⟨Y_M_compare, c_M_compare, 13, (9, (277, (8, (1, 110))))⟩ := ⟨cc_M_compare, rfl, by decide +kernel, ⟨⟨by decide, by decide⟩, ⟨fun _ => ⟨rfl, rfl⟩, fun q => absurd q (by decide)⟩, rfl, rfl⟩, ⟨rfl, by decide⟩, fun q => absurd q (by decide), fun _ => rfl, fun q => absurd q (by decide), fun q => absurd q (by decide), fun q => absurd q (by decide), fun q => absurd q (by decide)⟩
theorem cc_M_compared : codeChk Y_M_compared.2.1 Y_M_compared.2.2.1 c_M_compared = true := by decide +kernel
theorem me_M_compared : MeOk 401 ⟨Y_M_compared, c_M_compared, 13, (2, (65, (2, (1, 110))))⟩ := ⟨cc_M_compared, rfl, by decide +kernel, ⟨⟨by decide, by decide⟩, ⟨fun _ => ⟨rfl, rfl⟩, fun q => absurd q (by decide)⟩, rfl, rfl⟩, ⟨rfl, by decide⟩, fun q => absurd q (by decide), fun _ => rfl, fun q => absurd q (by decide), fun q => absurd q (by decide), fun q => absurd q (by decide), fun q => absurd q (by decide)⟩
theorem cc_M_decides : codeChk Y_M_decides.2.1 Y_M_decides.2.2.1 c_M_decides = true := by decide +kernel
theorem me_M_decides : MeOk 402 ⟨Y_M_decides, c_M_decides, 13, (9, (277, (7, (1, 110))))⟩ := ⟨cc_M_decides, rfl, by decide +kernel, ⟨⟨by decide, by decide⟩, ⟨fun _ => ⟨rfl, rfl⟩, fun q => absurd q (by decide)⟩, rfl, rfl⟩, ⟨rfl, by decide⟩, fun q => absurd q (by decide), fun _ => rfl, fun q => absurd q (by decide), fun q => absurd q (by decide), fun q => absurd q (by decide), fun q => absurd q (by decide)⟩
theorem cc_M_law : codeChk Y_M_law.2.1 Y_M_law.2.2.1 c_M_law = true := by decide +kernel
theorem me_M_law : MeOk 403 ⟨Y_M_law, c_M_law, 13, (3, (86, (4, (1, 110))))⟩ := ⟨cc_M_law, rfl, by decide +kernel, ⟨⟨by decide, by decide⟩, ⟨fun _ => ⟨rfl, rfl⟩, fun q => absurd q (by decide)⟩, rfl, rfl⟩, ⟨rfl, by decide⟩, fun q => absurd q (by decide), fun _ => rfl, fun q => absurd q (by decide), fun q => absurd q (by decide), fun q => absurd q (by decide), fun q => absurd q (by decide)⟩
theorem cc_M_keepsLaw : codeChk Y_M_keepsLaw.2.1 Y_M_keepsLaw.2.2.1 c_M_keepsLaw = true := by decide +kernel
theorem me_M_keepsLaw : MeOk 404 ⟨Y_M_keepsLaw, c_M_keepsLaw, 13, (4, (111, (7, (2, 110))))⟩ := ⟨cc_M_keepsLaw, rfl, by decide +kernel, ⟨⟨by decide, by decide⟩, ⟨fun _ => ⟨rfl, rfl⟩, fun q => absurd q (by decide)⟩, rfl, rfl⟩, ⟨rfl, by decide⟩, fun q => absurd q (by decide), fun q => absurd q (by decide), fun _ => rfl, fun q => absurd q (by decide), fun q => absurd q (by decide), fun q => absurd q (by decide)⟩
theorem cc_M_giverLaw : codeChk Y_M_giverLaw.2.1 Y_M_giverLaw.2.2.1 c_M_giverLaw = true := by decide +kernel
theorem me_M_giverLaw : MeOk 405 ⟨Y_M_giverLaw, c_M_giverLaw, 13, (5, (133, (5, (1, 110))))⟩ := ⟨cc_M_giverLaw, rfl, by decide +kernel, ⟨⟨by decide, by decide⟩, ⟨fun _ => ⟨rfl, rfl⟩, fun q => absurd q (by decide)⟩, rfl, rfl⟩, ⟨rfl, by decide⟩, fun q => absurd q (by decide), fun _ => rfl, fun q => absurd q (by decide), fun q => absurd q (by decide), fun q => absurd q (by decide), fun q => absurd q (by decide)⟩
theorem cc_M_give : codeChk Y_M_give.2.1 Y_M_give.2.2.1 c_M_give = true := by decide +kernel
theorem me_M_give : MeOk 406 ⟨Y_M_give, c_M_give, 13, (6, (157, (7, (1, 110))))⟩ := ⟨cc_M_give, rfl, by decide +kernel, ⟨⟨by decide, by decide⟩, ⟨fun _ => ⟨rfl, rfl⟩, fun q => absurd q (by decide)⟩, rfl, rfl⟩, ⟨rfl, by decide⟩, fun q => absurd q (by decide), fun _ => rfl, fun q => absurd q (by decide), fun q => absurd q (by decide), fun q => absurd q (by decide), fun q => absurd q (by decide)⟩
theorem cc_M_take : codeChk Y_M_take.2.1 Y_M_take.2.2.1 c_M_take = true := by decide +kernel
theorem me_M_take : MeOk 407 ⟨Y_M_take, c_M_take, 13, (6, (157, (6, (1, 110))))⟩ := ⟨cc_M_take, rfl, by decide +kernel, ⟨⟨by decide, by decide⟩, ⟨fun _ => ⟨rfl, rfl⟩, fun q => absurd q (by decide)⟩, rfl, rfl⟩, ⟨rfl, by decide⟩, fun q => absurd q (by decide), fun _ => rfl, fun q => absurd q (by decide), fun q => absurd q (by decide), fun q => absurd q (by decide), fun q => absurd q (by decide)⟩
theorem cc_M_broken : codeChk Y_M_broken.2.1 Y_M_broken.2.2.1 c_M_broken = true := by decide +kernel
theorem me_M_broken : MeOk 408 ⟨Y_M_broken, c_M_broken, 13, (1, (40, (1, (1, 110))))⟩ := ⟨cc_M_broken, rfl, by decide +kernel, ⟨⟨by decide, by decide⟩, ⟨fun _ => ⟨rfl, rfl⟩, fun q => absurd q (by decide)⟩, rfl, rfl⟩, ⟨rfl, by decide⟩, fun q => absurd q (by decide), fun _ => rfl, fun q => absurd q (by decide), fun q => absurd q (by decide), fun q => absurd q (by decide), fun q => absurd q (by decide)⟩
theorem cc_M_breach : codeChk Y_M_breach.2.1 Y_M_breach.2.2.1 c_M_breach = true := by decide +kernel
theorem me_M_breach : MeOk 409 ⟨Y_M_breach, c_M_breach, 13, (5, (137, (3, (1, 110))))⟩ := ⟨cc_M_breach, rfl, by decide +kernel, ⟨⟨by decide, by decide⟩, ⟨fun _ => ⟨rfl, rfl⟩, fun q => absurd q (by decide)⟩, rfl, rfl⟩, ⟨rfl, by decide⟩, fun q => absurd q (by decide), fun _ => rfl, fun q => absurd q (by decide), fun q => absurd q (by decide), fun q => absurd q (by decide), fun q => absurd q (by decide)⟩
theorem cc_M_session : codeChk Y_M_session.2.1 Y_M_session.2.2.1 c_M_session = true := by decide +kernel
theorem me_M_session : MeOk 410 ⟨Y_M_session, c_M_session, 13, (3, (86, (2, (1, 110))))⟩ := ⟨cc_M_session, rfl, by decide +kernel, ⟨⟨by decide, by decide⟩, ⟨fun _ => ⟨rfl, rfl⟩, fun q => absurd q (by decide)⟩, rfl, rfl⟩, ⟨rfl, by decide⟩, fun q => absurd q (by decide), fun _ => rfl, fun q => absurd q (by decide), fun q => absurd q (by decide), fun q => absurd q (by decide), fun q => absurd q (by decide)⟩
theorem cc_M_switchOn : codeChk Y_M_switchOn.2.1 Y_M_switchOn.2.2.1 c_M_switchOn = true := by decide +kernel
theorem me_M_switchOn : MeOk 411 ⟨Y_M_switchOn, c_M_switchOn, 13, (5, (133, (6, (1, 110))))⟩ := ⟨cc_M_switchOn, rfl, by decide +kernel, ⟨⟨by decide, by decide⟩, ⟨fun _ => ⟨rfl, rfl⟩, fun q => absurd q (by decide)⟩, rfl, rfl⟩, ⟨rfl, by decide⟩, fun q => absurd q (by decide), fun _ => rfl, fun q => absurd q (by decide), fun q => absurd q (by decide), fun q => absurd q (by decide), fun q => absurd q (by decide)⟩
theorem cc_M_switchOff : codeChk Y_M_switchOff.2.1 Y_M_switchOff.2.2.1 c_M_switchOff = true := by decide +kernel
theorem me_M_switchOff : MeOk 412 ⟨Y_M_switchOff, c_M_switchOff, 13, (3, (86, (4, (1, 110))))⟩ := ⟨cc_M_switchOff, rfl, by decide +kernel, ⟨⟨by decide, by decide⟩, ⟨fun _ => ⟨rfl, rfl⟩, fun q => absurd q (by decide)⟩, rfl, rfl⟩, ⟨rfl, by decide⟩, fun q => absurd q (by decide), fun _ => rfl, fun q => absurd q (by decide), fun q => absurd q (by decide), fun q => absurd q (by decide), fun q => absurd q (by decide)⟩
theorem cc_M_askIn : codeChk Y_M_askIn.2.1 Y_M_askIn.2.2.1 c_M_askIn = true := by decide +kernel
theorem me_M_askIn : MeOk 413 ⟨Y_M_askIn, c_M_askIn, 13, (9, (277, (6, (1, 110))))⟩ := ⟨cc_M_askIn, rfl, by decide +kernel, ⟨⟨by decide, by decide⟩, ⟨fun _ => ⟨rfl, rfl⟩, fun q => absurd q (by decide)⟩, rfl, rfl⟩, ⟨rfl, by decide⟩, fun q => absurd q (by decide), fun _ => rfl, fun q => absurd q (by decide), fun q => absurd q (by decide), fun q => absurd q (by decide), fun q => absurd q (by decide)⟩
theorem cc_M_work : codeChk Y_M_work.2.1 Y_M_work.2.2.1 c_M_work = true := by decide +kernel
theorem me_M_work : MeOk 414 ⟨Y_M_work, c_M_work, 13, (1, (40, (1, (1, 110))))⟩ := ⟨cc_M_work, rfl, by decide +kernel, ⟨⟨by decide, by decide⟩, ⟨fun _ => ⟨rfl, rfl⟩, fun q => absurd q (by decide)⟩, rfl, rfl⟩, ⟨rfl, by decide⟩, fun q => absurd q (by decide), fun _ => rfl, fun q => absurd q (by decide), fun q => absurd q (by decide), fun q => absurd q (by decide), fun q => absurd q (by decide)⟩
theorem cc_M_isWork : codeChk Y_M_isWork.2.1 Y_M_isWork.2.2.1 c_M_isWork = true := by decide +kernel
theorem me_M_isWork : MeOk 415 ⟨Y_M_isWork, c_M_isWork, 13, (2, (65, (2, (2, 110))))⟩ := ⟨cc_M_isWork, rfl, by decide +kernel, ⟨⟨by decide, by decide⟩, ⟨fun _ => ⟨rfl, rfl⟩, fun q => absurd q (by decide)⟩, rfl, rfl⟩, ⟨rfl, by decide⟩, fun q => absurd q (by decide), fun q => absurd q (by decide), fun _ => rfl, fun q => absurd q (by decide), fun q => absurd q (by decide), fun q => absurd q (by decide)⟩
theorem cc_M_isStep : codeChk Y_M_isStep.2.1 Y_M_isStep.2.2.1 c_M_isStep = true := by decide +kernel
theorem me_M_isStep : MeOk 416 ⟨Y_M_isStep, c_M_isStep, 13, (3, (86, (3, (2, 110))))⟩ := ⟨cc_M_isStep, rfl, by decide +kernel, ⟨⟨by decide, by decide⟩, ⟨fun _ => ⟨rfl, rfl⟩, fun q => absurd q (by decide)⟩, rfl, rfl⟩, ⟨rfl, by decide⟩, fun q => absurd q (by decide), fun q => absurd q (by decide), fun _ => rfl, fun q => absurd q (by decide), fun q => absurd q (by decide), fun q => absurd q (by decide)⟩
theorem cc_M_step : codeChk Y_M_step.2.1 Y_M_step.2.2.1 c_M_step = true := by decide +kernel
theorem me_M_step : MeOk 417 ⟨Y_M_step, c_M_step, 13, (3, (86, (4, (1, 110))))⟩ := ⟨cc_M_step, rfl, by decide +kernel, ⟨⟨by decide, by decide⟩, ⟨fun _ => ⟨rfl, rfl⟩, fun q => absurd q (by decide)⟩, rfl, rfl⟩, ⟨rfl, by decide⟩, fun q => absurd q (by decide), fun _ => rfl, fun q => absurd q (by decide), fun q => absurd q (by decide), fun q => absurd q (by decide), fun q => absurd q (by decide)⟩
theorem cc_M_tie : codeChk Y_M_tie.2.1 Y_M_tie.2.2.1 c_M_tie = true := by decide +kernel
theorem me_M_tie : MeOk 418 ⟨Y_M_tie, c_M_tie, 13, (4, (108, (6, (1, 110))))⟩ := ⟨cc_M_tie, rfl, by decide +kernel, ⟨⟨by decide, by decide⟩, ⟨fun _ => ⟨rfl, rfl⟩, fun q => absurd q (by decide)⟩, rfl, rfl⟩, ⟨rfl, by decide⟩, fun q => absurd q (by decide), fun _ => rfl, fun q => absurd q (by decide), fun q => absurd q (by decide), fun q => absurd q (by decide), fun q => absurd q (by decide)⟩
theorem cc_M_keepsTies : codeChk Y_M_keepsTies.2.1 Y_M_keepsTies.2.2.1 c_M_keepsTies = true := by decide +kernel
theorem me_M_keepsTies : MeOk 419 ⟨Y_M_keepsTies, c_M_keepsTies, 13, (1, (40, (8, (2, 110))))⟩ := ⟨cc_M_keepsTies, rfl, by decide +kernel, ⟨⟨by decide, by decide⟩, ⟨fun _ => ⟨rfl, rfl⟩, fun q => absurd q (by decide)⟩, rfl, rfl⟩, ⟨rfl, by decide⟩, fun q => absurd q (by decide), fun q => absurd q (by decide), fun _ => rfl, fun q => absurd q (by decide), fun q => absurd q (by decide), fun q => absurd q (by decide)⟩
theorem cc_M_searches : codeChk Y_M_searches.2.1 Y_M_searches.2.2.1 c_M_searches = true := by decide +kernel
theorem me_M_searches : MeOk 420 ⟨Y_M_searches, c_M_searches, 13, (5, (133, (11, (1, 110))))⟩ := ⟨cc_M_searches, rfl, by decide +kernel, ⟨⟨by decide, by decide⟩, ⟨fun _ => ⟨rfl, rfl⟩, fun q => absurd q (by decide)⟩, rfl, rfl⟩, ⟨rfl, by decide⟩, fun q => absurd q (by decide), fun _ => rfl, fun q => absurd q (by decide), fun q => absurd q (by decide), fun q => absurd q (by decide), fun q => absurd q (by decide)⟩
theorem cc_M_setDone : codeChk Y_M_setDone.2.1 Y_M_setDone.2.2.1 c_M_setDone = true := by decide +kernel
theorem me_M_setDone : MeOk 421 ⟨Y_M_setDone, c_M_setDone, 13, (1, (40, (3, (0, 110))))⟩ := ⟨cc_M_setDone, rfl, by decide +kernel, ⟨⟨by decide, by decide⟩, ⟨fun _ => ⟨rfl, rfl⟩, fun q => absurd q (by decide)⟩, rfl, rfl⟩, ⟨rfl, by decide⟩, fun _ => rfl, fun q => absurd q (by decide), fun q => absurd q (by decide), fun q => absurd q (by decide), fun q => absurd q (by decide), fun q => absurd q (by decide)⟩
theorem cc_M_fill : codeChk Y_M_fill.2.1 Y_M_fill.2.2.1 c_M_fill = true := by decide +kernel
theorem me_M_fill : MeOk 422 ⟨Y_M_fill, c_M_fill, 13, (6, (163, (5, (1, 110))))⟩ := ⟨cc_M_fill, rfl, by decide +kernel, ⟨⟨by decide, by decide⟩, ⟨fun _ => ⟨rfl, rfl⟩, fun q => absurd q (by decide)⟩, rfl, rfl⟩, ⟨rfl, by decide⟩, fun q => absurd q (by decide), fun _ => rfl, fun q => absurd q (by decide), fun q => absurd q (by decide), fun q => absurd q (by decide), fun q => absurd q (by decide)⟩
theorem cc_M_filled : codeChk Y_M_filled.2.1 Y_M_filled.2.2.1 c_M_filled = true := by decide +kernel
theorem me_M_filled : MeOk 423 ⟨Y_M_filled, c_M_filled, 13, (4, (108, (3, (1, 110))))⟩ := ⟨cc_M_filled, rfl, by decide +kernel, ⟨⟨by decide, by decide⟩, ⟨fun _ => ⟨rfl, rfl⟩, fun q => absurd q (by decide)⟩, rfl, rfl⟩, ⟨rfl, by decide⟩, fun q => absurd q (by decide), fun _ => rfl, fun q => absurd q (by decide), fun q => absurd q (by decide), fun q => absurd q (by decide), fun q => absurd q (by decide)⟩
theorem cc_M_nextOf : codeChk Y_M_nextOf.2.1 Y_M_nextOf.2.2.1 c_M_nextOf = true := by decide +kernel
theorem me_M_nextOf : MeOk 424 ⟨Y_M_nextOf, c_M_nextOf, 13, (6, (163, (5, (1, 110))))⟩ := ⟨cc_M_nextOf, rfl, by decide +kernel, ⟨⟨by decide, by decide⟩, ⟨fun _ => ⟨rfl, rfl⟩, fun q => absurd q (by decide)⟩, rfl, rfl⟩, ⟨rfl, by decide⟩, fun q => absurd q (by decide), fun _ => rfl, fun q => absurd q (by decide), fun q => absurd q (by decide), fun q => absurd q (by decide), fun q => absurd q (by decide)⟩
theorem cc_M_next : codeChk Y_M_next.2.1 Y_M_next.2.2.1 c_M_next = true := by decide +kernel
theorem me_M_next : MeOk 425 ⟨Y_M_next, c_M_next, 13, (7, (187, (5, (1, 110))))⟩ := ⟨cc_M_next, rfl, by decide +kernel, ⟨⟨by decide, by decide⟩, ⟨fun _ => ⟨rfl, rfl⟩, fun q => absurd q (by decide)⟩, rfl, rfl⟩, ⟨rfl, by decide⟩, fun q => absurd q (by decide), fun _ => rfl, fun q => absurd q (by decide), fun q => absurd q (by decide), fun q => absurd q (by decide), fun q => absurd q (by decide)⟩
theorem cc_M_perform : codeChk Y_M_perform.2.1 Y_M_perform.2.2.1 c_M_perform = true := by decide +kernel
theorem me_M_perform : MeOk 426 ⟨Y_M_perform, c_M_perform, 13, (7, (187, (6, (1, 110))))⟩ := ⟨cc_M_perform, rfl, by decide +kernel, ⟨⟨by decide, by decide⟩, ⟨fun _ => ⟨rfl, rfl⟩, fun q => absurd q (by decide)⟩, rfl, rfl⟩, ⟨rfl, by decide⟩, fun q => absurd q (by decide), fun _ => rfl, fun q => absurd q (by decide), fun q => absurd q (by decide), fun q => absurd q (by decide), fun q => absurd q (by decide)⟩
theorem cc_M_needed : codeChk Y_M_needed.2.1 Y_M_needed.2.2.1 c_M_needed = true := by decide +kernel
theorem me_M_needed : MeOk 427 ⟨Y_M_needed, c_M_needed, 13, (6, (163, (7, (1, 110))))⟩ := ⟨cc_M_needed, rfl, by decide +kernel, ⟨⟨by decide, by decide⟩, ⟨fun _ => ⟨rfl, rfl⟩, fun q => absurd q (by decide)⟩, rfl, rfl⟩, ⟨rfl, by decide⟩, fun q => absurd q (by decide), fun _ => rfl, fun q => absurd q (by decide), fun q => absurd q (by decide), fun q => absurd q (by decide), fun q => absurd q (by decide)⟩
theorem cc_M_tries : codeChk Y_M_tries.2.1 Y_M_tries.2.2.1 c_M_tries = true := by decide +kernel
theorem me_M_tries : MeOk 428 ⟨Y_M_tries, c_M_tries, 13, (1, (40, (1, (1, 110))))⟩ := ⟨cc_M_tries, rfl, by decide +kernel, ⟨⟨by decide, by decide⟩, ⟨fun _ => ⟨rfl, rfl⟩, fun q => absurd q (by decide)⟩, rfl, rfl⟩, ⟨rfl, by decide⟩, fun q => absurd q (by decide), fun _ => rfl, fun q => absurd q (by decide), fun q => absurd q (by decide), fun q => absurd q (by decide), fun q => absurd q (by decide)⟩
theorem cc_M_fits : codeChk Y_M_fits.2.1 Y_M_fits.2.2.1 c_M_fits = true := by decide +kernel
theorem me_M_fits : MeOk 429 ⟨Y_M_fits, c_M_fits, 13, (4, (108, (6, (2, 110))))⟩ := ⟨cc_M_fits, rfl, by decide +kernel, ⟨⟨by decide, by decide⟩, ⟨fun _ => ⟨rfl, rfl⟩, fun q => absurd q (by decide)⟩, rfl, rfl⟩, ⟨rfl, by decide⟩, fun q => absurd q (by decide), fun q => absurd q (by decide), fun _ => rfl, fun q => absurd q (by decide), fun q => absurd q (by decide), fun q => absurd q (by decide)⟩
theorem cc_M_lookAt : codeChk Y_M_lookAt.2.1 Y_M_lookAt.2.2.1 c_M_lookAt = true := by decide +kernel
theorem me_M_lookAt : MeOk 430 ⟨Y_M_lookAt, c_M_lookAt, 13, (5, (133, (7, (0, 110))))⟩ := ⟨cc_M_lookAt, rfl, by decide +kernel, ⟨⟨by decide, by decide⟩, ⟨fun _ => ⟨rfl, rfl⟩, fun q => absurd q (by decide)⟩, rfl, rfl⟩, ⟨rfl, by decide⟩, fun _ => rfl, fun q => absurd q (by decide), fun q => absurd q (by decide), fun q => absurd q (by decide), fun q => absurd q (by decide), fun q => absurd q (by decide)⟩
theorem cc_M_isStanding : codeChk Y_M_isStanding.2.1 Y_M_isStanding.2.2.1 c_M_isStanding = true := by decide +kernel
theorem me_M_isStanding : MeOk 431 ⟨Y_M_isStanding, c_M_isStanding, 13, (6, (159, (11, (2, 110))))⟩ := ⟨cc_M_isStanding, rfl, by decide +kernel, ⟨⟨by decide, by decide⟩, ⟨fun _ => ⟨rfl, rfl⟩, fun q => absurd q (by decide)⟩, rfl, rfl⟩, ⟨rfl, by decide⟩, fun q => absurd q (by decide), fun q => absurd q (by decide), fun _ => rfl, fun q => absurd q (by decide), fun q => absurd q (by decide), fun q => absurd q (by decide)⟩
theorem cc_M_keepChain : codeChk Y_M_keepChain.2.1 Y_M_keepChain.2.2.1 c_M_keepChain = true := by decide +kernel
theorem me_M_keepChain : MeOk 432 ⟨Y_M_keepChain, c_M_keepChain, 13, (1, (40, (2, (0, 110))))⟩ := ⟨cc_M_keepChain, rfl, by decide +kernel, ⟨⟨by decide, by decide⟩, ⟨fun _ => ⟨rfl, rfl⟩, fun q => absurd q (by decide)⟩, rfl, rfl⟩, ⟨rfl, by decide⟩, fun _ => rfl, fun q => absurd q (by decide), fun q => absurd q (by decide), fun q => absurd q (by decide), fun q => absurd q (by decide), fun q => absurd q (by decide)⟩
theorem cc_M_lend : codeChk Y_M_lend.2.1 Y_M_lend.2.2.1 c_M_lend = true := by decide +kernel
theorem me_M_lend : MeOk 433 ⟨Y_M_lend, c_M_lend, 13, (7, (189, (8, (1, 110))))⟩ := ⟨cc_M_lend, rfl, by decide +kernel, ⟨⟨by decide, by decide⟩, ⟨fun _ => ⟨rfl, rfl⟩, fun q => absurd q (by decide)⟩, rfl, rfl⟩, ⟨rfl, by decide⟩, fun q => absurd q (by decide), fun _ => rfl, fun q => absurd q (by decide), fun q => absurd q (by decide), fun q => absurd q (by decide), fun q => absurd q (by decide)⟩
theorem cc_M_endLend : codeChk Y_M_endLend.2.1 Y_M_endLend.2.2.1 c_M_endLend = true := by decide +kernel
theorem me_M_endLend : MeOk 434 ⟨Y_M_endLend, c_M_endLend, 13, (3, (86, (3, (1, 110))))⟩ := ⟨cc_M_endLend, rfl, by decide +kernel, ⟨⟨by decide, by decide⟩, ⟨fun _ => ⟨rfl, rfl⟩, fun q => absurd q (by decide)⟩, rfl, rfl⟩, ⟨rfl, by decide⟩, fun q => absurd q (by decide), fun _ => rfl, fun q => absurd q (by decide), fun q => absurd q (by decide), fun q => absurd q (by decide), fun q => absurd q (by decide)⟩
theorem cc_M_stands : codeChk Y_M_stands.2.1 Y_M_stands.2.2.1 c_M_stands = true := by decide +kernel
theorem me_M_stands : MeOk 435 ⟨Y_M_stands, c_M_stands, 13, (7, (189, (6, (1, 110))))⟩ := ⟨cc_M_stands, rfl, by decide +kernel, ⟨⟨by decide, by decide⟩, ⟨fun _ => ⟨rfl, rfl⟩, fun q => absurd q (by decide)⟩, rfl, rfl⟩, ⟨rfl, by decide⟩, fun q => absurd q (by decide), fun _ => rfl, fun q => absurd q (by decide), fun q => absurd q (by decide), fun q => absurd q (by decide), fun q => absurd q (by decide)⟩
theorem cc_M_chain : codeChk Y_M_chain.2.1 Y_M_chain.2.2.1 c_M_chain = true := by decide +kernel
theorem me_M_chain : MeOk 436 ⟨Y_M_chain, c_M_chain, 13, (2, (65, (2, (1, 110))))⟩ := ⟨cc_M_chain, rfl, by decide +kernel, ⟨⟨by decide, by decide⟩, ⟨fun _ => ⟨rfl, rfl⟩, fun q => absurd q (by decide)⟩, rfl, rfl⟩, ⟨rfl, by decide⟩, fun q => absurd q (by decide), fun _ => rfl, fun q => absurd q (by decide), fun q => absurd q (by decide), fun q => absurd q (by decide), fun q => absurd q (by decide)⟩
theorem cc_M_useRight : codeChk Y_M_useRight.2.1 Y_M_useRight.2.2.1 c_M_useRight = true := by decide +kernel
theorem me_M_useRight : MeOk 437 ⟨Y_M_useRight, c_M_useRight, 13, (7, (189, (6, (1, 110))))⟩ := ⟨cc_M_useRight, rfl, by decide +kernel, ⟨⟨by decide, by decide⟩, ⟨fun _ => ⟨rfl, rfl⟩, fun q => absurd q (by decide)⟩, rfl, rfl⟩, ⟨rfl, by decide⟩, fun q => absurd q (by decide), fun _ => rfl, fun q => absurd q (by decide), fun q => absurd q (by decide), fun q => absurd q (by decide), fun q => absurd q (by decide)⟩
theorem cc_M_lendOf : codeChk Y_M_lendOf.2.1 Y_M_lendOf.2.2.1 c_M_lendOf = true := by decide +kernel
theorem me_M_lendOf : MeOk 438 ⟨Y_M_lendOf, c_M_lendOf, 13, (2, (65, (3, (1, 110))))⟩ := ⟨cc_M_lendOf, rfl, by decide +kernel, ⟨⟨by decide, by decide⟩, ⟨fun _ => ⟨rfl, rfl⟩, fun q => absurd q (by decide)⟩, rfl, rfl⟩, ⟨rfl, by decide⟩, fun q => absurd q (by decide), fun _ => rfl, fun q => absurd q (by decide), fun q => absurd q (by decide), fun q => absurd q (by decide), fun q => absurd q (by decide)⟩
theorem cc_M_gets : codeChk Y_M_gets.2.1 Y_M_gets.2.2.1 c_M_gets = true := by decide +kernel
theorem me_M_gets : MeOk 439 ⟨Y_M_gets, c_M_gets, 13, (1, (40, (5, (0, 110))))⟩ := ⟨cc_M_gets, rfl, by decide +kernel, ⟨⟨by decide, by decide⟩, ⟨fun _ => ⟨rfl, rfl⟩, fun q => absurd q (by decide)⟩, rfl, rfl⟩, ⟨rfl, by decide⟩, fun _ => rfl, fun q => absurd q (by decide), fun q => absurd q (by decide), fun q => absurd q (by decide), fun q => absurd q (by decide), fun q => absurd q (by decide)⟩
theorem cc_M_grow : codeChk Y_M_grow.2.1 Y_M_grow.2.2.1 c_M_grow = true := by decide +kernel
theorem me_M_grow : MeOk 440 ⟨Y_M_grow, c_M_grow, 13, (2, (64, (5, (0, 110))))⟩ := ⟨cc_M_grow, rfl, by decide +kernel, ⟨⟨by decide, by decide⟩, ⟨fun _ => ⟨rfl, rfl⟩, fun q => absurd q (by decide)⟩, rfl, rfl⟩, ⟨rfl, by decide⟩, fun _ => rfl, fun q => absurd q (by decide), fun q => absurd q (by decide), fun q => absurd q (by decide), fun q => absurd q (by decide), fun q => absurd q (by decide)⟩
theorem cc_M_key : codeChk Y_M_key.2.1 Y_M_key.2.2.1 c_M_key = true := by decide +kernel
theorem me_M_key : MeOk 441 ⟨Y_M_key, c_M_key, 13, (2, (65, (5, (1, 110))))⟩ := ⟨cc_M_key, rfl, by decide +kernel, ⟨⟨by decide, by decide⟩, ⟨fun _ => ⟨rfl, rfl⟩, fun q => absurd q (by decide)⟩, rfl, rfl⟩, ⟨rfl, by decide⟩, fun q => absurd q (by decide), fun _ => rfl, fun q => absurd q (by decide), fun q => absurd q (by decide), fun q => absurd q (by decide), fun q => absurd q (by decide)⟩
theorem cc_M_ever : codeChk Y_M_ever.2.1 Y_M_ever.2.2.1 c_M_ever = true := by decide +kernel
theorem me_M_ever : MeOk 442 ⟨Y_M_ever, c_M_ever, 13, (3, (88, (6, (1, 110))))⟩ := ⟨cc_M_ever, rfl, by decide +kernel, ⟨⟨by decide, by decide⟩, ⟨fun _ => ⟨rfl, rfl⟩, fun q => absurd q (by decide)⟩, rfl, rfl⟩, ⟨rfl, by decide⟩, fun q => absurd q (by decide), fun _ => rfl, fun q => absurd q (by decide), fun q => absurd q (by decide), fun q => absurd q (by decide), fun q => absurd q (by decide)⟩
theorem cc_M_gain : codeChk Y_M_gain.2.1 Y_M_gain.2.2.1 c_M_gain = true := by decide +kernel
theorem me_M_gain : MeOk 443 ⟨Y_M_gain, c_M_gain, 13, (3, (88, (3, (1, 110))))⟩ := ⟨cc_M_gain, rfl, by decide +kernel, ⟨⟨by decide, by decide⟩, ⟨fun _ => ⟨rfl, rfl⟩, fun q => absurd q (by decide)⟩, rfl, rfl⟩, ⟨rfl, by decide⟩, fun q => absurd q (by decide), fun _ => rfl, fun q => absurd q (by decide), fun q => absurd q (by decide), fun q => absurd q (by decide), fun q => absurd q (by decide)⟩
theorem cc_M_labelled : codeChk Y_M_labelled.2.1 Y_M_labelled.2.2.1 c_M_labelled = true := by decide +kernel
theorem me_M_labelled : MeOk 444 ⟨Y_M_labelled, c_M_labelled, 13, (1, (40, (2, (0, 110))))⟩ := ⟨cc_M_labelled, rfl, by decide +kernel, ⟨⟨by decide, by decide⟩, ⟨fun _ => ⟨rfl, rfl⟩, fun q => absurd q (by decide)⟩, rfl, rfl⟩, ⟨rfl, by decide⟩, fun _ => rfl, fun q => absurd q (by decide), fun q => absurd q (by decide), fun q => absurd q (by decide), fun q => absurd q (by decide), fun q => absurd q (by decide)⟩
theorem cc_M_label : codeChk Y_M_label.2.1 Y_M_label.2.2.1 c_M_label = true := by decide +kernel
theorem me_M_label : MeOk 445 ⟨Y_M_label, c_M_label, 13, (2, (65, (4, (1, 110))))⟩ := ⟨cc_M_label, rfl, by decide +kernel, ⟨⟨by decide, by decide⟩, ⟨fun _ => ⟨rfl, rfl⟩, fun q => absurd q (by decide)⟩, rfl, rfl⟩, ⟨rfl, by decide⟩, fun q => absurd q (by decide), fun _ => rfl, fun q => absurd q (by decide), fun q => absurd q (by decide), fun q => absurd q (by decide), fun q => absurd q (by decide)⟩
theorem cc_M_isBlock : codeChk Y_M_isBlock.2.1 Y_M_isBlock.2.2.1 c_M_isBlock = true := by decide +kernel
theorem me_M_isBlock : MeOk 446 ⟨Y_M_isBlock, c_M_isBlock, 13, (1, (40, (2, (2, 110))))⟩ := ⟨cc_M_isBlock, rfl, by decide +kernel, ⟨⟨by decide, by decide⟩, ⟨fun _ => ⟨rfl, rfl⟩, fun q => absurd q (by decide)⟩, rfl, rfl⟩, ⟨rfl, by decide⟩, fun q => absurd q (by decide), fun q => absurd q (by decide), fun _ => rfl, fun q => absurd q (by decide), fun q => absurd q (by decide), fun q => absurd q (by decide)⟩
theorem cc_M_endOf : codeChk Y_M_endOf.2.1 Y_M_endOf.2.2.1 c_M_endOf = true := by decide +kernel
theorem me_M_endOf : MeOk 447 ⟨Y_M_endOf, c_M_endOf, 13, (1, (40, (2, (1, 110))))⟩ := ⟨cc_M_endOf, rfl, by decide +kernel, ⟨⟨by decide, by decide⟩, ⟨fun _ => ⟨rfl, rfl⟩, fun q => absurd q (by decide)⟩, rfl, rfl⟩, ⟨rfl, by decide⟩, fun q => absurd q (by decide), fun _ => rfl, fun q => absurd q (by decide), fun q => absurd q (by decide), fun q => absurd q (by decide), fun q => absurd q (by decide)⟩
theorem cc_M_statement : codeChk Y_M_statement.2.1 Y_M_statement.2.2.1 c_M_statement = true := by decide +kernel
theorem me_M_statement : MeOk 448 ⟨Y_M_statement, c_M_statement, 13, (2, (65, (8, (1, 110))))⟩ := ⟨cc_M_statement, rfl, by decide +kernel, ⟨⟨by decide, by decide⟩, ⟨fun _ => ⟨rfl, rfl⟩, fun q => absurd q (by decide)⟩, rfl, rfl⟩, ⟨rfl, by decide⟩, fun q => absurd q (by decide), fun _ => rfl, fun q => absurd q (by decide), fun q => absurd q (by decide), fun q => absurd q (by decide), fun q => absurd q (by decide)⟩
theorem cc_M_erase : codeChk Y_M_erase.2.1 Y_M_erase.2.2.1 c_M_erase = true := by decide +kernel
theorem me_M_erase : MeOk 449 ⟨Y_M_erase, c_M_erase, 13, (1, (40, (2, (1, 110))))⟩ := ⟨cc_M_erase, rfl, by decide +kernel, ⟨⟨by decide, by decide⟩, ⟨fun _ => ⟨rfl, rfl⟩, fun q => absurd q (by decide)⟩, rfl, rfl⟩, ⟨rfl, by decide⟩, fun q => absurd q (by decide), fun _ => rfl, fun q => absurd q (by decide), fun q => absurd q (by decide), fun q => absurd q (by decide), fun q => absurd q (by decide)⟩
theorem cc_M_tight : codeChk Y_M_tight.2.1 Y_M_tight.2.2.1 c_M_tight = true := by decide +kernel
theorem me_M_tight : MeOk 450 ⟨Y_M_tight, c_M_tight, 13, (2, (61, (6, (1, 110))))⟩ := ⟨cc_M_tight, rfl, by decide +kernel, ⟨⟨by decide, by decide⟩, ⟨fun _ => ⟨rfl, rfl⟩, fun q => absurd q (by decide)⟩, rfl, rfl⟩, ⟨rfl, by decide⟩, fun q => absurd q (by decide), fun _ => rfl, fun q => absurd q (by decide), fun q => absurd q (by decide), fun q => absurd q (by decide), fun q => absurd q (by decide)⟩
theorem cc_M_lowered : codeChk Y_M_lowered.2.1 Y_M_lowered.2.2.1 c_M_lowered = true := by decide +kernel
theorem me_M_lowered : MeOk 451 ⟨Y_M_lowered, c_M_lowered, 13, (1, (40, (3, (1, 110))))⟩ := ⟨cc_M_lowered, rfl, by decide +kernel, ⟨⟨by decide, by decide⟩, ⟨fun _ => ⟨rfl, rfl⟩, fun q => absurd q (by decide)⟩, rfl, rfl⟩, ⟨rfl, by decide⟩, fun q => absurd q (by decide), fun _ => rfl, fun q => absurd q (by decide), fun q => absurd q (by decide), fun q => absurd q (by decide), fun q => absurd q (by decide)⟩
theorem cc_M_given : codeChk Y_M_given.2.1 Y_M_given.2.2.1 c_M_given = true := by decide +kernel
theorem me_M_given : MeOk 452 ⟨Y_M_given, c_M_given, 13, (2, (65, (4, (1, 110))))⟩ := ⟨cc_M_given, rfl, by decide +kernel, ⟨⟨by decide, by decide⟩, ⟨fun _ => ⟨rfl, rfl⟩, fun q => absurd q (by decide)⟩, rfl, rfl⟩, ⟨rfl, by decide⟩, fun q => absurd q (by decide), fun _ => rfl, fun q => absurd q (by decide), fun q => absurd q (by decide), fun q => absurd q (by decide), fun q => absurd q (by decide)⟩
theorem cc_M_cutEnd : codeChk Y_M_cutEnd.2.1 Y_M_cutEnd.2.2.1 c_M_cutEnd = true := by decide +kernel
theorem me_M_cutEnd : MeOk 453 ⟨Y_M_cutEnd, c_M_cutEnd, 13, (2, (61, (2, (1, 110))))⟩ := ⟨cc_M_cutEnd, rfl, by decide +kernel, ⟨⟨by decide, by decide⟩, ⟨fun _ => ⟨rfl, rfl⟩, fun q => absurd q (by decide)⟩, rfl, rfl⟩, ⟨rfl, by decide⟩, fun q => absurd q (by decide), fun _ => rfl, fun q => absurd q (by decide), fun q => absurd q (by decide), fun q => absurd q (by decide), fun q => absurd q (by decide)⟩
theorem cc_M_flow : codeChk Y_M_flow.2.1 Y_M_flow.2.2.1 c_M_flow = true := by decide +kernel
theorem me_M_flow : MeOk 454 ⟨Y_M_flow, c_M_flow, 13, (3, (82, (9, (1, 110))))⟩ := ⟨cc_M_flow, rfl, by decide +kernel, ⟨⟨by decide, by decide⟩, ⟨fun _ => ⟨rfl, rfl⟩, fun q => absurd q (by decide)⟩, rfl, rfl⟩, ⟨rfl, by decide⟩, fun q => absurd q (by decide), fun _ => rfl, fun q => absurd q (by decide), fun q => absurd q (by decide), fun q => absurd q (by decide), fun q => absurd q (by decide)⟩
theorem cc_M_said : codeChk Y_M_said.2.1 Y_M_said.2.2.1 c_M_said = true := by decide +kernel
theorem me_M_said : MeOk 455 ⟨Y_M_said, c_M_said, 13, (2, (65, (4, (1, 110))))⟩ := ⟨cc_M_said, rfl, by decide +kernel, ⟨⟨by decide, by decide⟩, ⟨fun _ => ⟨rfl, rfl⟩, fun q => absurd q (by decide)⟩, rfl, rfl⟩, ⟨rfl, by decide⟩, fun q => absurd q (by decide), fun _ => rfl, fun q => absurd q (by decide), fun q => absurd q (by decide), fun q => absurd q (by decide), fun q => absurd q (by decide)⟩
theorem cc_M_variable : codeChk Y_M_variable.2.1 Y_M_variable.2.2.1 c_M_variable = true := by decide +kernel
theorem me_M_variable : MeOk 456 ⟨Y_M_variable, c_M_variable, 13, (2, (65, (2, (1, 110))))⟩ := ⟨cc_M_variable, rfl, by decide +kernel, ⟨⟨by decide, by decide⟩, ⟨fun _ => ⟨rfl, rfl⟩, fun q => absurd q (by decide)⟩, rfl, rfl⟩, ⟨rfl, by decide⟩, fun q => absurd q (by decide), fun _ => rfl, fun q => absurd q (by decide), fun q => absurd q (by decide), fun q => absurd q (by decide), fun q => absurd q (by decide)⟩
theorem cc_M_guarded : codeChk Y_M_guarded.2.1 Y_M_guarded.2.2.1 c_M_guarded = true := by decide +kernel
theorem me_M_guarded : MeOk 457 ⟨Y_M_guarded, c_M_guarded, 13, (3, (86, (6, (3, 110))))⟩ := ⟨cc_M_guarded, rfl, by decide +kernel, ⟨⟨by decide, by decide⟩, ⟨fun _ => ⟨rfl, rfl⟩, fun q => absurd q (by decide)⟩, rfl, rfl⟩, ⟨rfl, by decide⟩, fun q => absurd q (by decide), fun q => absurd q (by decide), fun q => absurd q (by decide), fun _ => rfl, fun q => absurd q (by decide), fun q => absurd q (by decide)⟩
theorem cc_M_know : codeChk Y_M_know.2.1 Y_M_know.2.2.1 c_M_know = true := by decide +kernel
theorem me_M_know : MeOk 458 ⟨Y_M_know, c_M_know, 13, (1, (40, (4, (0, 110))))⟩ := ⟨cc_M_know, rfl, by decide +kernel, ⟨⟨by decide, by decide⟩, ⟨fun _ => ⟨rfl, rfl⟩, fun q => absurd q (by decide)⟩, rfl, rfl⟩, ⟨rfl, by decide⟩, fun _ => rfl, fun q => absurd q (by decide), fun q => absurd q (by decide), fun q => absurd q (by decide), fun q => absurd q (by decide), fun q => absurd q (by decide)⟩
theorem cc_M_gather : codeChk Y_M_gather.2.1 Y_M_gather.2.2.1 c_M_gather = true := by decide +kernel
theorem me_M_gather : MeOk 459 ⟨Y_M_gather, c_M_gather, 13, (2, (63, (4, (0, 110))))⟩ := ⟨cc_M_gather, rfl, by decide +kernel, ⟨⟨by decide, by decide⟩, ⟨fun _ => ⟨rfl, rfl⟩, fun q => absurd q (by decide)⟩, rfl, rfl⟩, ⟨rfl, by decide⟩, fun _ => rfl, fun q => absurd q (by decide), fun q => absurd q (by decide), fun q => absurd q (by decide), fun q => absurd q (by decide), fun q => absurd q (by decide)⟩
theorem cc_M_link : codeChk Y_M_link.2.1 Y_M_link.2.2.1 c_M_link = true := by decide +kernel
theorem me_M_link : MeOk 460 ⟨Y_M_link, c_M_link, 13, (3, (86, (4, (0, 110))))⟩ := ⟨cc_M_link, rfl, by decide +kernel, ⟨⟨by decide, by decide⟩, ⟨fun _ => ⟨rfl, rfl⟩, fun q => absurd q (by decide)⟩, rfl, rfl⟩, ⟨rfl, by decide⟩, fun _ => rfl, fun q => absurd q (by decide), fun q => absurd q (by decide), fun q => absurd q (by decide), fun q => absurd q (by decide), fun q => absurd q (by decide)⟩
theorem cc_M_power : codeChk Y_M_power.2.1 Y_M_power.2.2.1 c_M_power = true := by decide +kernel
theorem me_M_power : MeOk 461 ⟨Y_M_power, c_M_power, 13, (1, (40, (10, (3, 0))))⟩ := ⟨cc_M_power, rfl, by decide +kernel, ⟨⟨by decide, by decide⟩, ⟨fun _ => ⟨rfl, rfl⟩, fun q => absurd q (by decide)⟩, rfl, rfl⟩, ⟨rfl, by decide⟩, fun q => absurd q (by decide), fun q => absurd q (by decide), fun q => absurd q (by decide), fun _ => rfl, fun q => absurd q (by decide), fun q => absurd q (by decide)⟩
theorem cc_M_rankWith : codeChk Y_M_rankWith.2.1 Y_M_rankWith.2.2.1 c_M_rankWith = true := by decide +kernel
theorem me_M_rankWith : MeOk 462 ⟨Y_M_rankWith, c_M_rankWith, 13, (2, (69, (12, (1, 110))))⟩ := ⟨cc_M_rankWith, rfl, by decide +kernel, ⟨⟨by decide, by decide⟩, ⟨fun _ => ⟨rfl, rfl⟩, fun q => absurd q (by decide)⟩, rfl, rfl⟩, ⟨rfl, by decide⟩, fun q => absurd q (by decide), fun _ => rfl, fun q => absurd q (by decide), fun q => absurd q (by decide), fun q => absurd q (by decide), fun q => absurd q (by decide)⟩
theorem cc_M_tellsOne : codeChk Y_M_tellsOne.2.1 Y_M_tellsOne.2.2.1 c_M_tellsOne = true := by decide +kernel
theorem me_M_tellsOne : MeOk 463 ⟨Y_M_tellsOne, c_M_tellsOne, 13, (3, (100, (4, (2, 110))))⟩ := ⟨cc_M_tellsOne, rfl, by decide +kernel, ⟨⟨by decide, by decide⟩, ⟨fun _ => ⟨rfl, rfl⟩, fun q => absurd q (by decide)⟩, rfl, rfl⟩, ⟨rfl, by decide⟩, fun q => absurd q (by decide), fun q => absurd q (by decide), fun _ => rfl, fun q => absurd q (by decide), fun q => absurd q (by decide), fun q => absurd q (by decide)⟩
theorem cc_M_added : codeChk Y_M_added.2.1 Y_M_added.2.2.1 c_M_added = true := by decide +kernel
theorem me_M_added : MeOk 464 ⟨Y_M_added, c_M_added, 13, (1, (40, (5, (3, 110))))⟩ := ⟨cc_M_added, rfl, by decide +kernel, ⟨⟨by decide, by decide⟩, ⟨fun _ => ⟨rfl, rfl⟩, fun q => absurd q (by decide)⟩, rfl, rfl⟩, ⟨rfl, by decide⟩, fun q => absurd q (by decide), fun q => absurd q (by decide), fun q => absurd q (by decide), fun _ => rfl, fun q => absurd q (by decide), fun q => absurd q (by decide)⟩
theorem cc_M_sum : codeChk Y_M_sum.2.1 Y_M_sum.2.2.1 c_M_sum = true := by decide +kernel
theorem me_M_sum : MeOk 465 ⟨Y_M_sum, c_M_sum, 13, (4, (123, (6, (3, 110))))⟩ := ⟨cc_M_sum, rfl, by decide +kernel, ⟨⟨by decide, by decide⟩, ⟨fun _ => ⟨rfl, rfl⟩, fun q => absurd q (by decide)⟩, rfl, rfl⟩, ⟨rfl, by decide⟩, fun q => absurd q (by decide), fun q => absurd q (by decide), fun q => absurd q (by decide), fun _ => rfl, fun q => absurd q (by decide), fun q => absurd q (by decide)⟩
theorem cc_M_share : codeChk Y_M_share.2.1 Y_M_share.2.2.1 c_M_share = true := by decide +kernel
theorem me_M_share : MeOk 466 ⟨Y_M_share, c_M_share, 13, (4, (123, (3, (1, 110))))⟩ := ⟨cc_M_share, rfl, by decide +kernel, ⟨⟨by decide, by decide⟩, ⟨fun _ => ⟨rfl, rfl⟩, fun q => absurd q (by decide)⟩, rfl, rfl⟩, ⟨rfl, by decide⟩, fun q => absurd q (by decide), fun _ => rfl, fun q => absurd q (by decide), fun q => absurd q (by decide), fun q => absurd q (by decide), fun q => absurd q (by decide)⟩
theorem cc_M_knows : codeChk Y_M_knows.2.1 Y_M_knows.2.2.1 c_M_knows = true := by decide +kernel
theorem me_M_knows : MeOk 467 ⟨Y_M_knows, c_M_knows, 13, (4, (109, (3, (1, 110))))⟩ := ⟨cc_M_knows, rfl, by decide +kernel, ⟨⟨by decide, by decide⟩, ⟨fun _ => ⟨rfl, rfl⟩, fun q => absurd q (by decide)⟩, rfl, rfl⟩, ⟨rfl, by decide⟩, fun q => absurd q (by decide), fun _ => rfl, fun q => absurd q (by decide), fun q => absurd q (by decide), fun q => absurd q (by decide), fun q => absurd q (by decide)⟩
theorem cc_M_room : codeChk Y_M_room.2.1 Y_M_room.2.2.1 c_M_room = true := by decide +kernel
theorem me_M_room : MeOk 468 ⟨Y_M_room, c_M_room, 13, (2, (65, (2, (1, 110))))⟩ := ⟨cc_M_room, rfl, by decide +kernel, ⟨⟨by decide, by decide⟩, ⟨fun _ => ⟨rfl, rfl⟩, fun q => absurd q (by decide)⟩, rfl, rfl⟩, ⟨rfl, by decide⟩, fun q => absurd q (by decide), fun _ => rfl, fun q => absurd q (by decide), fun q => absurd q (by decide), fun q => absurd q (by decide), fun q => absurd q (by decide)⟩
theorem cc_M_method : codeChk Y_M_method.2.1 Y_M_method.2.2.1 c_M_method = true := by decide +kernel
theorem me_M_method : MeOk 469 ⟨Y_M_method, c_M_method, 13, (2, (65, (2, (1, 110))))⟩ := ⟨cc_M_method, rfl, by decide +kernel, ⟨⟨by decide, by decide⟩, ⟨fun _ => ⟨rfl, rfl⟩, fun q => absurd q (by decide)⟩, rfl, rfl⟩, ⟨rfl, by decide⟩, fun q => absurd q (by decide), fun _ => rfl, fun q => absurd q (by decide), fun q => absurd q (by decide), fun q => absurd q (by decide), fun q => absurd q (by decide)⟩
theorem cc_M_op : codeChk Y_M_op.2.1 Y_M_op.2.2.1 c_M_op = true := by decide +kernel
theorem me_M_op : MeOk 470 ⟨Y_M_op, c_M_op, 13, (2, (65, (7, (1, 110))))⟩ := ⟨cc_M_op, rfl, by decide +kernel, ⟨⟨by decide, by decide⟩, ⟨fun _ => ⟨rfl, rfl⟩, fun q => absurd q (by decide)⟩, rfl, rfl⟩, ⟨rfl, by decide⟩, fun q => absurd q (by decide), fun _ => rfl, fun q => absurd q (by decide), fun q => absurd q (by decide), fun q => absurd q (by decide), fun q => absurd q (by decide)⟩
theorem cc_M_begin : codeChk Y_M_begin.2.1 Y_M_begin.2.2.1 c_M_begin = true := by decide +kernel
theorem me_M_begin : MeOk 471 ⟨Y_M_begin, c_M_begin, 13, (1, (40, (4, (0, 110))))⟩ := ⟨cc_M_begin, rfl, by decide +kernel, ⟨⟨by decide, by decide⟩, ⟨fun _ => ⟨rfl, rfl⟩, fun q => absurd q (by decide)⟩, rfl, rfl⟩, ⟨rfl, by decide⟩, fun _ => rfl, fun q => absurd q (by decide), fun q => absurd q (by decide), fun q => absurd q (by decide), fun q => absurd q (by decide), fun q => absurd q (by decide)⟩
theorem cc_M_lacking : codeChk Y_M_lacking.2.1 Y_M_lacking.2.2.1 c_M_lacking = true := by decide +kernel
theorem me_M_lacking : MeOk 472 ⟨Y_M_lacking, c_M_lacking, 13, (1, (40, (4, (1, 110))))⟩ := ⟨cc_M_lacking, rfl, by decide +kernel, ⟨⟨by decide, by decide⟩, ⟨fun _ => ⟨rfl, rfl⟩, fun q => absurd q (by decide)⟩, rfl, rfl⟩, ⟨rfl, by decide⟩, fun q => absurd q (by decide), fun _ => rfl, fun q => absurd q (by decide), fun q => absurd q (by decide), fun q => absurd q (by decide), fun q => absurd q (by decide)⟩
theorem cc_M_isCaught : codeChk Y_M_isCaught.2.1 Y_M_isCaught.2.2.1 c_M_isCaught = true := by decide +kernel
theorem me_M_isCaught : MeOk 473 ⟨Y_M_isCaught, c_M_isCaught, 13, (1, (40, (4, (2, 110))))⟩ := ⟨cc_M_isCaught, rfl, by decide +kernel, ⟨⟨by decide, by decide⟩, ⟨fun _ => ⟨rfl, rfl⟩, fun q => absurd q (by decide)⟩, rfl, rfl⟩, ⟨rfl, by decide⟩, fun q => absurd q (by decide), fun q => absurd q (by decide), fun _ => rfl, fun q => absurd q (by decide), fun q => absurd q (by decide), fun q => absurd q (by decide)⟩
theorem cc_M_enter : codeChk Y_M_enter.2.1 Y_M_enter.2.2.1 c_M_enter = true := by decide +kernel
theorem me_M_enter : MeOk 474 ⟨Y_M_enter, c_M_enter, 13, (2, (65, (8, (1, 110))))⟩ := ⟨cc_M_enter, rfl, by decide +kernel, ⟨⟨by decide, by decide⟩, ⟨fun _ => ⟨rfl, rfl⟩, fun q => absurd q (by decide)⟩, rfl, rfl⟩, ⟨rfl, by decide⟩, fun q => absurd q (by decide), fun _ => rfl, fun q => absurd q (by decide), fun q => absurd q (by decide), fun q => absurd q (by decide), fun q => absurd q (by decide)⟩
theorem cc_M_entered : codeChk Y_M_entered.2.1 Y_M_entered.2.2.1 c_M_entered = true := by decide +kernel
theorem me_M_entered : MeOk 475 ⟨Y_M_entered, c_M_entered, 13, (2, (65, (2, (1, 110))))⟩ := ⟨cc_M_entered, rfl, by decide +kernel, ⟨⟨by decide, by decide⟩, ⟨fun _ => ⟨rfl, rfl⟩, fun q => absurd q (by decide)⟩, rfl, rfl⟩, ⟨rfl, by decide⟩, fun q => absurd q (by decide), fun _ => rfl, fun q => absurd q (by decide), fun q => absurd q (by decide), fun q => absurd q (by decide), fun q => absurd q (by decide)⟩
theorem cc_M_fourAt : codeChk Y_M_fourAt.2.1 Y_M_fourAt.2.2.1 c_M_fourAt = true := by decide +kernel
theorem me_M_fourAt : MeOk 476 ⟨Y_M_fourAt, c_M_fourAt, 13, (1, (40, (2, (3, 110))))⟩ := ⟨cc_M_fourAt, rfl, by decide +kernel, ⟨⟨by decide, by decide⟩, ⟨fun _ => ⟨rfl, rfl⟩, fun q => absurd q (by decide)⟩, rfl, rfl⟩, ⟨rfl, by decide⟩, fun q => absurd q (by decide), fun q => absurd q (by decide), fun q => absurd q (by decide), fun _ => rfl, fun q => absurd q (by decide), fun q => absurd q (by decide)⟩
theorem cc_M_half : codeChk Y_M_half.2.1 Y_M_half.2.2.1 c_M_half = true := by decide +kernel
theorem me_M_half : MeOk 477 ⟨Y_M_half, c_M_half, 13, (2, (65, (8, (1, 110))))⟩ := ⟨cc_M_half, rfl, by decide +kernel, ⟨⟨by decide, by decide⟩, ⟨fun _ => ⟨rfl, rfl⟩, fun q => absurd q (by decide)⟩, rfl, rfl⟩, ⟨rfl, by decide⟩, fun q => absurd q (by decide), fun _ => rfl, fun q => absurd q (by decide), fun q => absurd q (by decide), fun q => absurd q (by decide), fun q => absurd q (by decide)⟩
theorem cc_M_joined : codeChk Y_M_joined.2.1 Y_M_joined.2.2.1 c_M_joined = true := by decide +kernel
theorem me_M_joined : MeOk 478 ⟨Y_M_joined, c_M_joined, 13, (2, (69, (9, (1, 110))))⟩ := ⟨cc_M_joined, rfl, by decide +kernel, ⟨⟨by decide, by decide⟩, ⟨fun _ => ⟨rfl, rfl⟩, fun q => absurd q (by decide)⟩, rfl, rfl⟩, ⟨rfl, by decide⟩, fun q => absurd q (by decide), fun _ => rfl, fun q => absurd q (by decide), fun q => absurd q (by decide), fun q => absurd q (by decide), fun q => absurd q (by decide)⟩
theorem MT_ok : MT.AllP MeOk := ⟨⟨me_H_feed, me_H_cut, me_H_tick, me_H_isMoment, me_H_isAct, me_H_isAmong, me_H_person, me_H_group, me_Wh_isPerson, me_Wh_isGroup, me_Wh_isMember, me_Wh_isFromAmong, me_Wh_isLasting, me_Wh_counts, me_Wh_reachedFrom, me_Wh_wouldRing, me_Wh_addRow, me_H_put, me_Wh_endRow, me_H_back, me_Wh_groupsOf, trivial⟩, ⟨me_H_belongs, me_H_rowOf, me_Wh_slotOfPerson, me_Th_isThere, me_Wh_slotOfThing, me_H_slotOf, me_Wh_setFeature, me_H_feature, me_Re_isNoNumber, me_Wh_setItem, me_H_item, me_H_itemOf, me_Wh_hasItems, me_H_copy, me_Th_add, me_H_thing, me_Th_isInside, me_H_move, me_H_cutOff, me_Th_bearsAny, me_H_drop, trivial⟩, ⟨me_Th_depthOf, me_H_thingOf, me_Th_isUnder, me_H_under, me_Th_closeHolds, me_Th_tellHolds, me_H_holds, me_Th_actHolds, me_H_doesHold, me_Po_isFigure, me_Po_addToken, me_Re_packed, me_Re_ofWhole, me_Re_isEndless, me_Re_isZero, me_Re_mantissa, me_Re_shortage, me_Re_exponent, me_Re_over, me_Po_splitNumber, me_Po_isLetter, trivial⟩, ⟨me_JS_isLatin1, me_JS_coder, me_JS_length, me_JL_canEncode, me_JM_max, me_JM_min, me_JL_indexOfChar, me_JL_indexOf, me_JS_indexOf_1, me_JS_indexOf_0, me_Po_splitSign, me_Po_splitOff, me_Po_split, me_Po_ruleAt, me_JS_checkIndex, me_JL_charAt, me_JS_charAt, me_Po_isWord, me_Po_fail, me_Po_readEffect, me_Po_numberBehind, trivial⟩, ⟨me_Po_readWho, me_Po_oneLetter, me_Po_readAct, me_Po_isSign, me_Po_readThing, me_Po_emit, me_Po_readFeature, me_Po_passes, me_Po_readItem, me_Po_readNested, me_Po_readTerm, me_Po_readProduct, me_Po_readSum, me_Po_comparisonHere, me_Po_readComparison, me_Po_aimHere, me_Po_readBothWays, me_Po_readSuch, me_Po_readPart, me_Po_readCondition, me_Po_readRule, trivial⟩, ⟨me_Po_read, me_H_policy, me_H_rules, me_H_sumAhead, me_H_sumBehind, me_H_writeLog, me_H_inForce, me_H_policyInForce, me_H_isRequest, me_Ju_setMoment, me_Ju_setPerson, me_Ju_fitsWho, me_Ju_fitsAct, me_Ju_fitsThing, me_Ju_behindSkip, me_Ju_slotOf, me_Ju_pushTruth, me_Ju_combine, me_Ju_pushValue, me_Ju_failBy, me_Ju_loadItem, trivial⟩, ⟨me_Ju_load, me_Re_negated, me_Ju_calculateWholes, me_Re_plus, me_Re_times, me_Re_rest, me_Ju_calculate, me_Wh_hasMark, me_Ju_weighAmong, me_Re_order, me_Ju_isSo, me_Ju_weigh, me_Ju_endOfComparison, me_Ju_truthOf, me_Ju_spoken, me_Ju_weightOf, me_Ju_answer, me_Ju_answerKept, me_H_ask, me_H_asked, me_H_made, trivial⟩, ⟨me_Ju_thingAllowed, me_H_may, me_Ju_personAllowed, me_H_who, me_Ju_noteDifference, me_Ju_differences, me_H_compare, me_H_compared, me_Ju_decidedBy, me_H_decides, me_Ro_addLaw, me_H_law, me_Ro_refusingGiver, me_Ro_isBothOn, me_Ro_doesLawHold, me_Ro_firstNotHolding, me_Ro_giveRow, me_H_give, me_Wh_endRows, me_H_take, me_H_broken, trivial⟩, ⟨me_H_breach, me_Ro_addSession, me_H_session, me_Ro_turnOn, me_H_switchOn, me_H_switchOff, me_Ro_groupsIn, me_H_askIn, me_H_work, me_Wo_addStep, me_H_step, me_Wo_addTie, me_H_tie, me_H_isSearch, me_Wo_prepare, me_Wo_hasAnybodyMoreThan, me_Wo_doTiesHold, me_Wo_searchFrom, me_Wo_search, me_Wo_keep, me_H_fill, trivial⟩, ⟨me_H_filled, me_Wo_searchWith, me_H_next, me_H_perform, me_Wo_hasDone, me_H_needed, me_H_tries, me_Le_lendGiving, me_Le_hasRight, me_Le_weighAll, me_Le_add, me_H_lend, me_H_endLend, me_Le_keepChain, me_H_stands, me_H_chain, me_Le_spendChain, me_H_useRight, me_H_lendOf, me_H_isHolder, me_Le_setKey, trivial⟩, ⟨me_H_key, me_Le_pass, me_Le_goRound, me_Le_countGains, me_Le_gainsUntil, me_H_ever, me_H_gain, me_H_label, me_Fl_isVariable, me_Fl_isStatement, me_Fl_isBlock, me_Fl_isWithin, me_Fl_reachesOut, me_Fl_addStatement, me_H_statement, me_H_erase, me_Fl_doesFlow, me_Fl_isTight, me_Fl_firstLoose, me_H_tight, me_Fl_countLowers, trivial⟩, ⟨me_H_lowered, me_H_given, me_Fl_behindBlock, me_Fl_sayOn, me_Fl_runBlock, me_Fl_runOne, me_Fl_run, me_H_flow, me_H_said, me_H_variable, me_H_isAsker, me_H_guarded, me_Gu_wasTold, me_Gu_total, me_Gu_reduce, me_Gu_addRow, me_Gu_rankOf, me_Gu_wouldReveal, me_Gu_tell, me_H_sum, me_Gu_join, trivial⟩, ⟨me_H_share, me_Gu_wasToldToAny, me_Gu_countSets, me_H_knows, me_Ga_areRights, me_Ga_addRoom, me_H_room, me_Ga_addMethod, me_H_method, me_Ga_isOp, me_Ga_addOp, me_H_op, me_Ga_push, me_Ga_lackingIn, me_Ga_lackingOf, me_Ga_throwOut, me_Ga_callBy, me_Ga_goOn, me_Ga_run, me_H_enter, me_H_entered, trivial⟩, ⟨me_H_tapeNumber, me_H_half, me_H_areHalves, me_H_inverse, me_H_weightOf, me_H_joined, me_H_logged, me_H_forge, me_H_wrong, me_H_sealed, me_H_could, me_M_in, me_M_isMoment, me_M_isNan, me_M_isInfinite, me_M_isZero, me_M_mantissa, me_M_exponent, me_M_length, me_M_signed, me_M_pack, trivial⟩, ⟨me_M_fit, me_M_ofWhole, me_M_times, me_M_plus, me_M_other, me_M_over, me_M_left, me_M_rank, me_M_feed, me_M_cut, me_M_tick, me_M_mixed, me_M_sumOf, me_M_log, me_M_logged, me_M_forge, me_M_wrong, me_M_sealed, me_M_person, me_M_group, me_M_isPerson, trivial⟩, ⟨me_M_isGroup, me_M_standsAt, me_M_spreads, me_M_reaches, me_M_isIn, me_M_rowPut, me_M_put, me_M_back, me_M_belongs, me_M_rowOf, me_M_isThing, me_M_rowFor, me_M_feature, me_M_item, me_M_itemOf, me_M_copy, me_M_begins, me_M_isHere, me_M_thing, me_M_move, me_M_cutOff, trivial⟩, ⟨me_M_drop, me_M_depthOf, me_M_thingOf, me_M_isUnder, me_M_under, me_M_holds, me_M_heldBy, me_M_isHeld, me_M_doesHold, me_M_byteAt, me_M_isFigure, me_M_isLetter, me_M_number, me_M_sign, me_M_token, me_M_isSign, me_M_isWord, me_M_numbered, me_M_emit, me_M_reduce, me_M_holdBack, trivial⟩, ⟨me_M_deeper, me_M_opens, me_M_isFeature, me_M_valueDone, me_M_featureDone, me_M_wanted, me_M_comparison, me_M_reckoning, me_M_closes, me_M_closed, me_M_goesOn, me_M_condition, me_M_fails, me_M_isEffect, me_M_isWho, me_M_isAct, me_M_isRuleThing, me_M_isRule, me_M_policy, me_M_isPolicy, me_M_rules, trivial⟩, ⟨me_M_push, me_M_pushItem, me_M_pushAt, me_M_pushIn, me_M_holdsFor, me_M_pushOf, me_M_pushJoined, me_M_evaluate, me_M_says, me_M_placeOf, me_M_judge, me_M_keeps, me_M_forceAt, me_M_inForce, me_M_ask, me_M_asked, me_M_made, me_M_may, me_M_whoAt, me_M_who, me_M_could, trivial⟩, ⟨me_M_compare, me_M_compared, me_M_decides, me_M_law, me_M_keepsLaw, me_M_giverLaw, me_M_give, me_M_take, me_M_broken, me_M_breach, me_M_session, me_M_switchOn, me_M_switchOff, me_M_askIn, me_M_work, me_M_isWork, me_M_isStep, me_M_step, me_M_tie, me_M_keepsTies, me_M_searches, trivial⟩, ⟨me_M_setDone, me_M_fill, me_M_filled, me_M_nextOf, me_M_next, me_M_perform, me_M_needed, me_M_tries, me_M_fits, me_M_lookAt, me_M_isStanding, me_M_keepChain, me_M_lend, me_M_endLend, me_M_stands, me_M_chain, me_M_useRight, me_M_lendOf, me_M_gets, me_M_grow, me_M_key, trivial⟩, ⟨me_M_ever, me_M_gain, me_M_labelled, me_M_label, me_M_isBlock, me_M_endOf, me_M_statement, me_M_erase, me_M_tight, me_M_lowered, me_M_given, me_M_cutEnd, me_M_flow, me_M_said, me_M_variable, me_M_guarded, me_M_know, me_M_gather, me_M_link, me_M_power, me_M_rankWith, trivial⟩, ⟨me_M_tellsOne, me_M_added, me_M_sum, me_M_share, me_M_knows, me_M_room, me_M_method, me_M_op, me_M_begin, me_M_lacking, me_M_isCaught, me_M_enter, me_M_entered, me_M_fourAt, me_M_half, me_M_joined, trivial⟩, trivial⟩
theorem cst_ok : t_cst.AllP (fun x n => ∃ v : Int32, v.toInt = n ∧ Cond.constant (cname (x / 4096)) (x % 4096) v ∈ TBg) := ⟨⟨⟨1000000, by decide, k_3_124⟩, ⟨1000000000, by decide, k_3_125⟩, ⟨2147483647, by decide, k_8_124⟩, trivial⟩, ⟨⟨2147483645, by decide, k_8_146⟩, ⟨1664525, by decide, k_5_167⟩, ⟨1013904223, by decide, k_5_168⟩, trivial⟩, ⟨⟨65535, by decide, k_8_59⟩, ⟨1000000000, by decide, k_10_165⟩, ⟨1664525, by decide, k_10_187⟩, trivial⟩, ⟨⟨1013904223, by decide, k_10_188⟩, trivial⟩, trivial⟩
theorem cstl_ok : t_cstl.AllP (fun x n => ∃ v : Int64, v.toInt = n ∧ Cond.constantLong (cname (x / 4096)) (x % 4096) v ∈ TBg) := ⟨⟨⟨(-1), by decide, k_4_3⟩, ⟨(-11), by decide, k_4_4⟩, ⟨(-14), by decide, k_4_5⟩, ⟨(-12), by decide, k_4_6⟩, ⟨(-3), by decide, k_8_8⟩, ⟨(-2), by decide, k_8_25⟩, ⟨2147483647, by decide, k_8_129⟩, ⟨1000, by decide, k_8_138⟩, trivial⟩, ⟨⟨10, by decide, k_4_106⟩, ⟨48, by decide, k_4_107⟩, ⟨9223372036854775807, by decide, k_3_236⟩, ⟨9218868437227405312, by decide, k_3_237⟩, ⟨9221120237041090560, by decide, k_4_131⟩, ⟨(-9223372036854775808), by decide, k_4_115⟩, ⟨4503599627370495, by decide, k_4_135⟩, ⟨4503599627370496, by decide, k_4_136⟩, trivial⟩, ⟨⟨4611686018427387904, by decide, k_4_120⟩, ⟨(-4332462841530417152), by decide, k_4_116⟩, ⟨134217727, by decide, k_6_33⟩, ⟨35184372088831, by decide, k_6_34⟩, ⟨9221120237041090560, by decide, k_3_238⟩, ⟨1000000000, by decide, k_10_216⟩, ⟨9223372036854775807, by decide, k_11_26⟩, ⟨9218868437227405312, by decide, k_11_27⟩, trivial⟩, ⟨⟨4503599627370495, by decide, k_11_139⟩, ⟨2047, by decide, k_11_152⟩, ⟨4503599627370496, by decide, k_11_153⟩, ⟨(-9223372036854775808), by decide, k_11_135⟩, ⟨3, by decide, k_11_18⟩, ⟨9221120237041090560, by decide, k_11_28⟩, ⟨134217727, by decide, k_12_86⟩, ⟨18014398509481983, by decide, k_12_87⟩, trivial⟩, ⟨⟨2, by decide, k_12_61⟩, ⟨(-1), by decide, k_11_33⟩, ⟨8, by decide, k_10_151⟩, ⟨255, by decide, k_10_155⟩, ⟨1000000, by decide, k_10_164⟩, ⟨6, by decide, k_10_170⟩, ⟨5, by decide, k_10_175⟩, ⟨7, by decide, k_11_17⟩, trivial⟩, ⟨⟨(-11), by decide, k_11_34⟩, ⟨(-14), by decide, k_11_35⟩, ⟨(-12), by decide, k_11_36⟩, ⟨4, by decide, k_11_69⟩, ⟨256, by decide, k_11_116⟩, ⟨10, by decide, k_11_121⟩, ⟨48, by decide, k_11_122⟩, ⟨97, by decide, k_11_217⟩, trivial⟩, ⟨⟨104, by decide, k_11_218⟩, ⟨19, by decide, k_12_66⟩, ⟨24, by decide, k_12_147⟩, ⟨20000, by decide, k_12_216⟩, ⟨20, by decide, k_13_17⟩, ⟨11, by decide, k_13_58⟩, ⟨15, by decide, k_13_59⟩, ⟨13, by decide, k_13_84⟩, trivial⟩, ⟨⟨9, by decide, k_13_89⟩, ⟨2000, by decide, k_13_118⟩, ⟨2147483647, by decide, k_13_168⟩, ⟨2147483645, by decide, k_13_164⟩, ⟨(-3), by decide, k_13_143⟩, ⟨(-2), by decide, k_13_169⟩, ⟨65535, by decide, k_13_182⟩, ⟨1000, by decide, k_13_195⟩, trivial⟩, trivial⟩
theorem fld_ok : t_fld.AllP (fun x e => e.2.1 < 1024 ∧ ∃ ty fin, xFl (cname (x / 4096)) (x % 4096) e.1 e.2.1 ty fin ∧ (e.2.2 = 0 → ty = .int ∧ fin = false) ∧ (e.2.2 = 1 → ty = .boolean ∧ fin = false) ∧ (e.2.2 = 2 → ty = .long ∧ fin = false)) := ⟨⟨⟨by decide, _, _, fl_H_9, fun q => absurd q (by decide), fun q => absurd q (by decide), fun q => absurd q (by decide)⟩, ⟨by decide, _, _, fl_H_13, fun q => absurd q (by decide), fun q => absurd q (by decide), fun q => absurd q (by decide)⟩, ⟨by decide, _, _, fl_H_16, fun q => absurd q (by decide), fun q => absurd q (by decide), fun q => absurd q (by decide)⟩, ⟨by decide, _, _, fl_H_19, fun q => absurd q (by decide), fun q => absurd q (by decide), fun q => absurd q (by decide)⟩, ⟨by decide, _, _, fl_H_25, fun q => absurd q (by decide), fun q => absurd q (by decide), fun q => absurd q (by decide)⟩, ⟨by decide, _, _, fl_H_32, fun q => absurd q (by decide), fun q => absurd q (by decide), fun q => absurd q (by decide)⟩, ⟨by decide, _, _, fl_H_41, fun q => absurd q (by decide), fun q => absurd q (by decide), fun q => absurd q (by decide)⟩, ⟨by decide, _, _, fl_H_50, fun q => absurd q (by decide), fun q => absurd q (by decide), fun q => absurd q (by decide)⟩, ⟨by decide, _, _, fl_H_59, fun q => absurd q (by decide), fun q => absurd q (by decide), fun q => absurd q (by decide)⟩, ⟨by decide, _, _, fl_H_66, fun q => absurd q (by decide), fun q => absurd q (by decide), fun q => absurd q (by decide)⟩, ⟨by decide, _, _, fl_H_75, fun q => absurd q (by decide), fun q => absurd q (by decide), fun q => absurd q (by decide)⟩, ⟨by decide, _, _, fl_H_82, fun q => absurd q (by decide), fun q => absurd q (by decide), fun q => absurd q (by decide)⟩, ⟨by decide, _, _, fl_H_89, fun q => absurd q (by decide), fun q => absurd q (by decide), fun q => absurd q (by decide)⟩, ⟨by decide, _, _, fl_H_96, fun q => absurd q (by decide), fun q => absurd q (by decide), fun q => absurd q (by decide)⟩, ⟨by decide, _, _, fl_H_100, fun _ => ⟨rfl, rfl⟩, fun q => absurd q (by decide), fun q => absurd q (by decide)⟩, ⟨by decide, _, _, fl_H_105, fun _ => ⟨rfl, rfl⟩, fun q => absurd q (by decide), fun q => absurd q (by decide)⟩, ⟨by decide, _, _, fl_H_109, fun _ => ⟨rfl, rfl⟩, fun q => absurd q (by decide), fun q => absurd q (by decide)⟩, ⟨by decide, _, _, fl_H_112, fun _ => ⟨rfl, rfl⟩, fun q => absurd q (by decide), fun q => absurd q (by decide)⟩, trivial⟩, ⟨⟨by decide, _, _, fl_H_129, fun _ => ⟨rfl, rfl⟩, fun q => absurd q (by decide), fun q => absurd q (by decide)⟩, ⟨by decide, _, _, fl_H_153, fun q => absurd q (by decide), fun q => absurd q (by decide), fun q => absurd q (by decide)⟩, ⟨by decide, _, _, fl_H_173, fun q => absurd q (by decide), fun q => absurd q (by decide), fun q => absurd q (by decide)⟩, ⟨by decide, _, _, fl_H_176, fun q => absurd q (by decide), fun q => absurd q (by decide), fun q => absurd q (by decide)⟩, ⟨by decide, _, _, fl_H_191, fun q => absurd q (by decide), fun q => absurd q (by decide), fun q => absurd q (by decide)⟩, ⟨by decide, _, _, fl_H_205, fun _ => ⟨rfl, rfl⟩, fun q => absurd q (by decide), fun q => absurd q (by decide)⟩, ⟨by decide, _, _, fl_H_213, fun q => absurd q (by decide), fun q => absurd q (by decide), fun q => absurd q (by decide)⟩, ⟨by decide, _, _, fl_H_216, fun q => absurd q (by decide), fun q => absurd q (by decide), fun q => absurd q (by decide)⟩, ⟨by decide, _, _, fl_H_223, fun q => absurd q (by decide), fun q => absurd q (by decide), fun q => absurd q (by decide)⟩, ⟨by decide, _, _, fl_H_226, fun q => absurd q (by decide), fun q => absurd q (by decide), fun q => absurd q (by decide)⟩, ⟨by decide, _, _, fl_H_246, fun _ => ⟨rfl, rfl⟩, fun q => absurd q (by decide), fun q => absurd q (by decide)⟩, ⟨by decide, _, _, fl_H_252, fun q => absurd q (by decide), fun q => absurd q (by decide), fun q => absurd q (by decide)⟩, ⟨by decide, _, _, fl_H_255, fun _ => ⟨rfl, rfl⟩, fun q => absurd q (by decide), fun q => absurd q (by decide)⟩, ⟨by decide, _, _, fl_H_277, fun q => absurd q (by decide), fun _ => ⟨rfl, rfl⟩, fun q => absurd q (by decide)⟩, ⟨by decide, _, _, fl_H_281, fun q => absurd q (by decide), fun q => absurd q (by decide), fun q => absurd q (by decide)⟩, ⟨by decide, _, _, fl_H_291, fun _ => ⟨rfl, rfl⟩, fun q => absurd q (by decide), fun q => absurd q (by decide)⟩, ⟨by decide, _, _, fl_H_297, fun q => absurd q (by decide), fun _ => ⟨rfl, rfl⟩, fun q => absurd q (by decide)⟩, ⟨by decide, _, _, fl_H_300, fun q => absurd q (by decide), fun q => absurd q (by decide), fun q => absurd q (by decide)⟩, trivial⟩, ⟨⟨by decide, _, _, fl_H_306, fun _ => ⟨rfl, rfl⟩, fun q => absurd q (by decide), fun q => absurd q (by decide)⟩, ⟨by decide, _, _, fl_H_321, fun _ => ⟨rfl, rfl⟩, fun q => absurd q (by decide), fun q => absurd q (by decide)⟩, ⟨by decide, _, _, fl_H_327, fun _ => ⟨rfl, rfl⟩, fun q => absurd q (by decide), fun q => absurd q (by decide)⟩, ⟨by decide, _, _, fl_H_336, fun q => absurd q (by decide), fun q => absurd q (by decide), fun q => absurd q (by decide)⟩, ⟨by decide, _, _, fl_H_339, fun q => absurd q (by decide), fun q => absurd q (by decide), fun q => absurd q (by decide)⟩, ⟨by decide, _, _, fl_H_345, fun _ => ⟨rfl, rfl⟩, fun q => absurd q (by decide), fun q => absurd q (by decide)⟩, ⟨by decide, _, _, fl_H_347, fun q => absurd q (by decide), fun q => absurd q (by decide), fun q => absurd q (by decide)⟩, ⟨by decide, _, _, fl_H_353, fun q => absurd q (by decide), fun q => absurd q (by decide), fun q => absurd q (by decide)⟩, ⟨by decide, _, _, fl_H_371, fun q => absurd q (by decide), fun q => absurd q (by decide), fun q => absurd q (by decide)⟩, ⟨by decide, _, _, fl_H_374, fun q => absurd q (by decide), fun q => absurd q (by decide), fun q => absurd q (by decide)⟩, ⟨by decide, _, _, fl_H_386, fun _ => ⟨rfl, rfl⟩, fun q => absurd q (by decide), fun q => absurd q (by decide)⟩, ⟨by decide, _, _, fl_H_397, fun _ => ⟨rfl, rfl⟩, fun q => absurd q (by decide), fun q => absurd q (by decide)⟩, ⟨by decide, _, _, fl_H_402, fun q => absurd q (by decide), fun q => absurd q (by decide), fun q => absurd q (by decide)⟩, ⟨by decide, _, _, fl_H_408, fun _ => ⟨rfl, rfl⟩, fun q => absurd q (by decide), fun q => absurd q (by decide)⟩, ⟨by decide, _, _, fl_H_411, fun q => absurd q (by decide), fun q => absurd q (by decide), fun q => absurd q (by decide)⟩, ⟨by decide, _, _, fl_H_430, fun q => absurd q (by decide), fun q => absurd q (by decide), fun q => absurd q (by decide)⟩, ⟨by decide, _, _, fl_H_433, fun q => absurd q (by decide), fun q => absurd q (by decide), fun q => absurd q (by decide)⟩, ⟨by decide, _, _, fl_H_442, fun _ => ⟨rfl, rfl⟩, fun q => absurd q (by decide), fun q => absurd q (by decide)⟩, trivial⟩, ⟨⟨by decide, _, _, fl_H_454, fun q => absurd q (by decide), fun q => absurd q (by decide), fun q => absurd q (by decide)⟩, ⟨by decide, _, _, fl_H_460, fun q => absurd q (by decide), fun q => absurd q (by decide), fun q => absurd q (by decide)⟩, ⟨by decide, _, _, fl_H_463, fun q => absurd q (by decide), fun q => absurd q (by decide), fun q => absurd q (by decide)⟩, ⟨by decide, _, _, fl_H_466, fun q => absurd q (by decide), fun q => absurd q (by decide), fun q => absurd q (by decide)⟩, ⟨by decide, _, _, fl_H_469, fun q => absurd q (by decide), fun q => absurd q (by decide), fun q => absurd q (by decide)⟩, ⟨by decide, _, _, fl_H_482, fun q => absurd q (by decide), fun q => absurd q (by decide), fun q => absurd q (by decide)⟩, ⟨by decide, _, _, fl_H_487, fun q => absurd q (by decide), fun q => absurd q (by decide), fun q => absurd q (by decide)⟩, ⟨by decide, _, _, fl_H_510, fun _ => ⟨rfl, rfl⟩, fun q => absurd q (by decide), fun q => absurd q (by decide)⟩, ⟨by decide, _, _, fl_H_516, fun _ => ⟨rfl, rfl⟩, fun q => absurd q (by decide), fun q => absurd q (by decide)⟩, ⟨by decide, _, _, fl_H_525, fun q => absurd q (by decide), fun q => absurd q (by decide), fun q => absurd q (by decide)⟩, ⟨by decide, _, _, fl_H_533, fun q => absurd q (by decide), fun q => absurd q (by decide), fun q => absurd q (by decide)⟩, ⟨by decide, _, _, fl_H_556, fun _ => ⟨rfl, rfl⟩, fun q => absurd q (by decide), fun q => absurd q (by decide)⟩, ⟨by decide, _, _, fl_Fl_11, fun q => absurd q (by decide), fun q => absurd q (by decide), fun q => absurd q (by decide)⟩, ⟨by decide, _, _, fl_Fl_15, fun q => absurd q (by decide), fun q => absurd q (by decide), fun q => absurd q (by decide)⟩, ⟨by decide, _, _, fl_Fl_18, fun q => absurd q (by decide), fun q => absurd q (by decide), fun q => absurd q (by decide)⟩, ⟨by decide, _, _, fl_Fl_21, fun q => absurd q (by decide), fun q => absurd q (by decide), fun q => absurd q (by decide)⟩, ⟨by decide, _, _, fl_Fl_24, fun q => absurd q (by decide), fun q => absurd q (by decide), fun q => absurd q (by decide)⟩, ⟨by decide, _, _, fl_Fl_27, fun q => absurd q (by decide), fun q => absurd q (by decide), fun q => absurd q (by decide)⟩, trivial⟩, ⟨⟨by decide, _, _, fl_Fl_30, fun q => absurd q (by decide), fun q => absurd q (by decide), fun q => absurd q (by decide)⟩, ⟨by decide, _, _, fl_Fl_33, fun q => absurd q (by decide), fun q => absurd q (by decide), fun q => absurd q (by decide)⟩, ⟨by decide, _, _, fl_Fl_36, fun q => absurd q (by decide), fun q => absurd q (by decide), fun q => absurd q (by decide)⟩, ⟨by decide, _, _, fl_Fl_39, fun q => absurd q (by decide), fun q => absurd q (by decide), fun q => absurd q (by decide)⟩, ⟨by decide, _, _, fl_Fl_49, fun _ => ⟨rfl, rfl⟩, fun q => absurd q (by decide), fun q => absurd q (by decide)⟩, ⟨by decide, _, _, fl_Fl_63, fun _ => ⟨rfl, rfl⟩, fun q => absurd q (by decide), fun q => absurd q (by decide)⟩, ⟨by decide, _, _, fl_Ga_11, fun q => absurd q (by decide), fun q => absurd q (by decide), fun q => absurd q (by decide)⟩, ⟨by decide, _, _, fl_Ga_15, fun q => absurd q (by decide), fun q => absurd q (by decide), fun q => absurd q (by decide)⟩, ⟨by decide, _, _, fl_Ga_18, fun q => absurd q (by decide), fun q => absurd q (by decide), fun q => absurd q (by decide)⟩, ⟨by decide, _, _, fl_Ga_21, fun q => absurd q (by decide), fun q => absurd q (by decide), fun q => absurd q (by decide)⟩, ⟨by decide, _, _, fl_Ga_24, fun q => absurd q (by decide), fun q => absurd q (by decide), fun q => absurd q (by decide)⟩, ⟨by decide, _, _, fl_Ga_27, fun q => absurd q (by decide), fun q => absurd q (by decide), fun q => absurd q (by decide)⟩, ⟨by decide, _, _, fl_Ga_30, fun q => absurd q (by decide), fun q => absurd q (by decide), fun q => absurd q (by decide)⟩, ⟨by decide, _, _, fl_Ga_33, fun q => absurd q (by decide), fun q => absurd q (by decide), fun q => absurd q (by decide)⟩, ⟨by decide, _, _, fl_Ga_36, fun q => absurd q (by decide), fun q => absurd q (by decide), fun q => absurd q (by decide)⟩, ⟨by decide, _, _, fl_Ga_39, fun q => absurd q (by decide), fun q => absurd q (by decide), fun q => absurd q (by decide)⟩, ⟨by decide, _, _, fl_Ga_42, fun q => absurd q (by decide), fun q => absurd q (by decide), fun q => absurd q (by decide)⟩, ⟨by decide, _, _, fl_Ga_50, fun _ => ⟨rfl, rfl⟩, fun q => absurd q (by decide), fun q => absurd q (by decide)⟩, trivial⟩, ⟨⟨by decide, _, _, fl_Ga_54, fun _ => ⟨rfl, rfl⟩, fun q => absurd q (by decide), fun q => absurd q (by decide)⟩, ⟨by decide, _, _, fl_Ga_57, fun _ => ⟨rfl, rfl⟩, fun q => absurd q (by decide), fun q => absurd q (by decide)⟩, ⟨by decide, _, _, fl_Gu_13, fun q => absurd q (by decide), fun q => absurd q (by decide), fun q => absurd q (by decide)⟩, ⟨by decide, _, _, fl_Gu_17, fun q => absurd q (by decide), fun q => absurd q (by decide), fun q => absurd q (by decide)⟩, ⟨by decide, _, _, fl_Gu_21, fun q => absurd q (by decide), fun q => absurd q (by decide), fun q => absurd q (by decide)⟩, ⟨by decide, _, _, fl_Gu_24, fun q => absurd q (by decide), fun q => absurd q (by decide), fun q => absurd q (by decide)⟩, ⟨by decide, _, _, fl_Gu_29, fun q => absurd q (by decide), fun q => absurd q (by decide), fun q => absurd q (by decide)⟩, ⟨by decide, _, _, fl_Gu_32, fun q => absurd q (by decide), fun q => absurd q (by decide), fun q => absurd q (by decide)⟩, ⟨by decide, _, _, fl_Gu_35, fun q => absurd q (by decide), fun q => absurd q (by decide), fun q => absurd q (by decide)⟩, ⟨by decide, _, _, fl_Gu_45, fun _ => ⟨rfl, rfl⟩, fun q => absurd q (by decide), fun q => absurd q (by decide)⟩, ⟨by decide, _, _, fl_Gu_49, fun q => absurd q (by decide), fun q => absurd q (by decide), fun _ => ⟨rfl, rfl⟩⟩, ⟨by decide, _, _, fl_Ju_9, fun q => absurd q (by decide), fun q => absurd q (by decide), fun q => absurd q (by decide)⟩, ⟨by decide, _, _, fl_Ju_15, fun q => absurd q (by decide), fun q => absurd q (by decide), fun q => absurd q (by decide)⟩, ⟨by decide, _, _, fl_Ju_19, fun q => absurd q (by decide), fun q => absurd q (by decide), fun q => absurd q (by decide)⟩, ⟨by decide, _, _, fl_Ju_23, fun q => absurd q (by decide), fun q => absurd q (by decide), fun q => absurd q (by decide)⟩, ⟨by decide, _, _, fl_Ju_27, fun q => absurd q (by decide), fun q => absurd q (by decide), fun q => absurd q (by decide)⟩, ⟨by decide, _, _, fl_Ju_31, fun q => absurd q (by decide), fun q => absurd q (by decide), fun q => absurd q (by decide)⟩, ⟨by decide, _, _, fl_Ju_35, fun q => absurd q (by decide), fun q => absurd q (by decide), fun q => absurd q (by decide)⟩, trivial⟩, ⟨⟨by decide, _, _, fl_Ju_38, fun q => absurd q (by decide), fun q => absurd q (by decide), fun q => absurd q (by decide)⟩, ⟨by decide, _, _, fl_Ju_41, fun q => absurd q (by decide), fun q => absurd q (by decide), fun q => absurd q (by decide)⟩, ⟨by decide, _, _, fl_Ju_44, fun _ => ⟨rfl, rfl⟩, fun q => absurd q (by decide), fun q => absurd q (by decide)⟩, ⟨by decide, _, _, fl_Ju_48, fun _ => ⟨rfl, rfl⟩, fun q => absurd q (by decide), fun q => absurd q (by decide)⟩, ⟨by decide, _, _, fl_Ju_51, fun _ => ⟨rfl, rfl⟩, fun q => absurd q (by decide), fun q => absurd q (by decide)⟩, ⟨by decide, _, _, fl_Ju_54, fun _ => ⟨rfl, rfl⟩, fun q => absurd q (by decide), fun q => absurd q (by decide)⟩, ⟨by decide, _, _, fl_Ju_67, fun q => absurd q (by decide), fun _ => ⟨rfl, rfl⟩, fun q => absurd q (by decide)⟩, ⟨by decide, _, _, fl_Ju_71, fun _ => ⟨rfl, rfl⟩, fun q => absurd q (by decide), fun q => absurd q (by decide)⟩, ⟨by decide, _, _, fl_Ju_74, fun q => absurd q (by decide), fun q => absurd q (by decide), fun q => absurd q (by decide)⟩, ⟨by decide, _, _, fl_Ju_86, fun q => absurd q (by decide), fun q => absurd q (by decide), fun q => absurd q (by decide)⟩, ⟨by decide, _, _, fl_Ju_92, fun q => absurd q (by decide), fun q => absurd q (by decide), fun q => absurd q (by decide)⟩, ⟨by decide, _, _, fl_Ju_95, fun _ => ⟨rfl, rfl⟩, fun q => absurd q (by decide), fun q => absurd q (by decide)⟩, ⟨by decide, _, _, fl_Ju_121, fun q => absurd q (by decide), fun q => absurd q (by decide), fun q => absurd q (by decide)⟩, ⟨by decide, _, _, fl_Ju_130, fun _ => ⟨rfl, rfl⟩, fun q => absurd q (by decide), fun q => absurd q (by decide)⟩, ⟨by decide, _, _, fl_Ju_133, fun _ => ⟨rfl, rfl⟩, fun q => absurd q (by decide), fun q => absurd q (by decide)⟩, ⟨by decide, _, _, fl_Ju_136, fun q => absurd q (by decide), fun q => absurd q (by decide), fun q => absurd q (by decide)⟩, ⟨by decide, _, _, fl_Ju_142, fun q => absurd q (by decide), fun q => absurd q (by decide), fun q => absurd q (by decide)⟩, ⟨by decide, _, _, fl_Ju_187, fun q => absurd q (by decide), fun q => absurd q (by decide), fun q => absurd q (by decide)⟩, trivial⟩, ⟨⟨by decide, _, _, fl_Ju_190, fun q => absurd q (by decide), fun q => absurd q (by decide), fun q => absurd q (by decide)⟩, ⟨by decide, _, _, fl_Ju_199, fun q => absurd q (by decide), fun q => absurd q (by decide), fun q => absurd q (by decide)⟩, ⟨by decide, _, _, fl_Ju_247, fun _ => ⟨rfl, rfl⟩, fun q => absurd q (by decide), fun q => absurd q (by decide)⟩, ⟨by decide, _, _, fl_Ju_252, fun _ => ⟨rfl, rfl⟩, fun q => absurd q (by decide), fun q => absurd q (by decide)⟩, ⟨by decide, _, _, fl_Ju_262, fun _ => ⟨rfl, rfl⟩, fun q => absurd q (by decide), fun q => absurd q (by decide)⟩, ⟨by decide, _, _, fl_Ju_265, fun q => absurd q (by decide), fun _ => ⟨rfl, rfl⟩, fun q => absurd q (by decide)⟩, ⟨by decide, _, _, fl_Le_11, fun q => absurd q (by decide), fun q => absurd q (by decide), fun q => absurd q (by decide)⟩, ⟨by decide, _, _, fl_Le_15, fun q => absurd q (by decide), fun q => absurd q (by decide), fun q => absurd q (by decide)⟩, ⟨by decide, _, _, fl_Le_19, fun q => absurd q (by decide), fun q => absurd q (by decide), fun q => absurd q (by decide)⟩, ⟨by decide, _, _, fl_Le_23, fun q => absurd q (by decide), fun q => absurd q (by decide), fun q => absurd q (by decide)⟩, ⟨by decide, _, _, fl_Le_26, fun q => absurd q (by decide), fun q => absurd q (by decide), fun q => absurd q (by decide)⟩, ⟨by decide, _, _, fl_Le_29, fun q => absurd q (by decide), fun q => absurd q (by decide), fun q => absurd q (by decide)⟩, ⟨by decide, _, _, fl_Le_32, fun q => absurd q (by decide), fun q => absurd q (by decide), fun q => absurd q (by decide)⟩, ⟨by decide, _, _, fl_Le_35, fun _ => ⟨rfl, rfl⟩, fun q => absurd q (by decide), fun q => absurd q (by decide)⟩, ⟨by decide, _, _, fl_Le_43, fun q => absurd q (by decide), fun q => absurd q (by decide), fun q => absurd q (by decide)⟩, ⟨by decide, _, _, fl_Le_59, fun _ => ⟨rfl, rfl⟩, fun q => absurd q (by decide), fun q => absurd q (by decide)⟩, ⟨by decide, _, _, fl_Le_62, fun q => absurd q (by decide), fun _ => ⟨rfl, rfl⟩, fun q => absurd q (by decide)⟩, ⟨by decide, _, _, fl_Le_66, fun _ => ⟨rfl, rfl⟩, fun q => absurd q (by decide), fun q => absurd q (by decide)⟩, trivial⟩, ⟨⟨by decide, _, _, fl_Po_11, fun q => absurd q (by decide), fun q => absurd q (by decide), fun q => absurd q (by decide)⟩, ⟨by decide, _, _, fl_Po_17, fun q => absurd q (by decide), fun q => absurd q (by decide), fun q => absurd q (by decide)⟩, ⟨by decide, _, _, fl_Po_21, fun q => absurd q (by decide), fun q => absurd q (by decide), fun q => absurd q (by decide)⟩, ⟨by decide, _, _, fl_Po_25, fun q => absurd q (by decide), fun q => absurd q (by decide), fun q => absurd q (by decide)⟩, ⟨by decide, _, _, fl_Po_28, fun q => absurd q (by decide), fun q => absurd q (by decide), fun q => absurd q (by decide)⟩, ⟨by decide, _, _, fl_Po_31, fun q => absurd q (by decide), fun q => absurd q (by decide), fun q => absurd q (by decide)⟩, ⟨by decide, _, _, fl_Po_34, fun q => absurd q (by decide), fun q => absurd q (by decide), fun q => absurd q (by decide)⟩, ⟨by decide, _, _, fl_Po_38, fun q => absurd q (by decide), fun q => absurd q (by decide), fun q => absurd q (by decide)⟩, ⟨by decide, _, _, fl_Po_41, fun q => absurd q (by decide), fun q => absurd q (by decide), fun q => absurd q (by decide)⟩, ⟨by decide, _, _, fl_Po_44, fun q => absurd q (by decide), fun q => absurd q (by decide), fun q => absurd q (by decide)⟩, ⟨by decide, _, _, fl_Po_47, fun q => absurd q (by decide), fun q => absurd q (by decide), fun q => absurd q (by decide)⟩, ⟨by decide, _, _, fl_Po_56, fun _ => ⟨rfl, rfl⟩, fun q => absurd q (by decide), fun q => absurd q (by decide)⟩, ⟨by decide, _, _, fl_Po_63, fun _ => ⟨rfl, rfl⟩, fun q => absurd q (by decide), fun q => absurd q (by decide)⟩, ⟨by decide, _, _, fl_Po_66, fun _ => ⟨rfl, rfl⟩, fun q => absurd q (by decide), fun q => absurd q (by decide)⟩, ⟨by decide, _, _, fl_Po_69, fun _ => ⟨rfl, rfl⟩, fun q => absurd q (by decide), fun q => absurd q (by decide)⟩, ⟨by decide, _, _, fl_Po_80, fun _ => ⟨rfl, rfl⟩, fun q => absurd q (by decide), fun q => absurd q (by decide)⟩, ⟨by decide, _, _, fl_Po_86, fun _ => ⟨rfl, rfl⟩, fun q => absurd q (by decide), fun q => absurd q (by decide)⟩, ⟨by decide, _, _, fl_Ro_11, fun q => absurd q (by decide), fun q => absurd q (by decide), fun q => absurd q (by decide)⟩, trivial⟩, ⟨⟨by decide, _, _, fl_Ro_15, fun q => absurd q (by decide), fun q => absurd q (by decide), fun q => absurd q (by decide)⟩, ⟨by decide, _, _, fl_Ro_19, fun q => absurd q (by decide), fun q => absurd q (by decide), fun q => absurd q (by decide)⟩, ⟨by decide, _, _, fl_Ro_22, fun q => absurd q (by decide), fun q => absurd q (by decide), fun q => absurd q (by decide)⟩, ⟨by decide, _, _, fl_Ro_25, fun q => absurd q (by decide), fun q => absurd q (by decide), fun q => absurd q (by decide)⟩, ⟨by decide, _, _, fl_Ro_28, fun q => absurd q (by decide), fun q => absurd q (by decide), fun q => absurd q (by decide)⟩, ⟨by decide, _, _, fl_Ro_33, fun q => absurd q (by decide), fun q => absurd q (by decide), fun q => absurd q (by decide)⟩, ⟨by decide, _, _, fl_Ro_36, fun _ => ⟨rfl, rfl⟩, fun q => absurd q (by decide), fun q => absurd q (by decide)⟩, ⟨by decide, _, _, fl_Ro_40, fun _ => ⟨rfl, rfl⟩, fun q => absurd q (by decide), fun q => absurd q (by decide)⟩, ⟨by decide, _, _, fl_Ro_43, fun _ => ⟨rfl, rfl⟩, fun q => absurd q (by decide), fun q => absurd q (by decide)⟩, ⟨by decide, _, _, fl_Ro_60, fun _ => ⟨rfl, rfl⟩, fun q => absurd q (by decide), fun q => absurd q (by decide)⟩, ⟨by decide, _, _, fl_Ro_63, fun _ => ⟨rfl, rfl⟩, fun q => absurd q (by decide), fun q => absurd q (by decide)⟩, ⟨by decide, _, _, fl_Th_11, fun q => absurd q (by decide), fun q => absurd q (by decide), fun q => absurd q (by decide)⟩, ⟨by decide, _, _, fl_Th_15, fun q => absurd q (by decide), fun q => absurd q (by decide), fun q => absurd q (by decide)⟩, ⟨by decide, _, _, fl_Th_18, fun q => absurd q (by decide), fun q => absurd q (by decide), fun q => absurd q (by decide)⟩, ⟨by decide, _, _, fl_Th_22, fun q => absurd q (by decide), fun q => absurd q (by decide), fun q => absurd q (by decide)⟩, ⟨by decide, _, _, fl_Th_25, fun q => absurd q (by decide), fun q => absurd q (by decide), fun q => absurd q (by decide)⟩, ⟨by decide, _, _, fl_Th_28, fun q => absurd q (by decide), fun q => absurd q (by decide), fun q => absurd q (by decide)⟩, ⟨by decide, _, _, fl_Th_31, fun _ => ⟨rfl, rfl⟩, fun q => absurd q (by decide), fun q => absurd q (by decide)⟩, trivial⟩, ⟨⟨by decide, _, _, fl_Wh_13, fun q => absurd q (by decide), fun q => absurd q (by decide), fun q => absurd q (by decide)⟩, ⟨by decide, _, _, fl_Wh_17, fun q => absurd q (by decide), fun q => absurd q (by decide), fun q => absurd q (by decide)⟩, ⟨by decide, _, _, fl_Wh_20, fun q => absurd q (by decide), fun q => absurd q (by decide), fun q => absurd q (by decide)⟩, ⟨by decide, _, _, fl_Wh_23, fun q => absurd q (by decide), fun q => absurd q (by decide), fun q => absurd q (by decide)⟩, ⟨by decide, _, _, fl_Wh_27, fun _ => ⟨rfl, rfl⟩, fun q => absurd q (by decide), fun q => absurd q (by decide)⟩, ⟨by decide, _, _, fl_Wh_31, fun _ => ⟨rfl, rfl⟩, fun q => absurd q (by decide), fun q => absurd q (by decide)⟩, ⟨by decide, _, _, fl_Wh_41, fun _ => ⟨rfl, rfl⟩, fun q => absurd q (by decide), fun q => absurd q (by decide)⟩, ⟨by decide, _, _, fl_Wo_9, fun q => absurd q (by decide), fun q => absurd q (by decide), fun q => absurd q (by decide)⟩, ⟨by decide, _, _, fl_Wo_15, fun q => absurd q (by decide), fun q => absurd q (by decide), fun q => absurd q (by decide)⟩, ⟨by decide, _, _, fl_Wo_19, fun q => absurd q (by decide), fun q => absurd q (by decide), fun q => absurd q (by decide)⟩, ⟨by decide, _, _, fl_Wo_22, fun q => absurd q (by decide), fun q => absurd q (by decide), fun q => absurd q (by decide)⟩, ⟨by decide, _, _, fl_Wo_25, fun q => absurd q (by decide), fun q => absurd q (by decide), fun q => absurd q (by decide)⟩, ⟨by decide, _, _, fl_Wo_28, fun q => absurd q (by decide), fun q => absurd q (by decide), fun q => absurd q (by decide)⟩, ⟨by decide, _, _, fl_Wo_31, fun q => absurd q (by decide), fun q => absurd q (by decide), fun q => absurd q (by decide)⟩, ⟨by decide, _, _, fl_Wo_34, fun q => absurd q (by decide), fun q => absurd q (by decide), fun q => absurd q (by decide)⟩, ⟨by decide, _, _, fl_Wo_37, fun q => absurd q (by decide), fun q => absurd q (by decide), fun q => absurd q (by decide)⟩, ⟨by decide, _, _, fl_Wo_40, fun q => absurd q (by decide), fun q => absurd q (by decide), fun q => absurd q (by decide)⟩, ⟨by decide, _, _, fl_Wo_43, fun q => absurd q (by decide), fun q => absurd q (by decide), fun q => absurd q (by decide)⟩, trivial⟩, ⟨⟨by decide, _, _, fl_Wo_46, fun _ => ⟨rfl, rfl⟩, fun q => absurd q (by decide), fun q => absurd q (by decide)⟩, ⟨by decide, _, _, fl_Wo_50, fun _ => ⟨rfl, rfl⟩, fun q => absurd q (by decide), fun q => absurd q (by decide)⟩, ⟨by decide, _, _, fl_Wo_59, fun _ => ⟨rfl, rfl⟩, fun q => absurd q (by decide), fun q => absurd q (by decide)⟩, ⟨by decide, _, _, fl_Wo_62, fun _ => ⟨rfl, rfl⟩, fun q => absurd q (by decide), fun q => absurd q (by decide)⟩, ⟨by decide, _, _, fl_M_7, fun q => absurd q (by decide), fun q => absurd q (by decide), fun q => absurd q (by decide)⟩, ⟨by decide, _, _, fl_M_13, fun q => absurd q (by decide), fun q => absurd q (by decide), fun q => absurd q (by decide)⟩, ⟨by decide, _, _, fl_M_16, fun q => absurd q (by decide), fun q => absurd q (by decide), fun q => absurd q (by decide)⟩, ⟨by decide, _, _, fl_M_19, fun q => absurd q (by decide), fun q => absurd q (by decide), fun q => absurd q (by decide)⟩, ⟨by decide, _, _, fl_M_22, fun q => absurd q (by decide), fun q => absurd q (by decide), fun q => absurd q (by decide)⟩, ⟨by decide, _, _, fl_M_25, fun q => absurd q (by decide), fun q => absurd q (by decide), fun q => absurd q (by decide)⟩, ⟨by decide, _, _, fl_M_28, fun q => absurd q (by decide), fun q => absurd q (by decide), fun q => absurd q (by decide)⟩, ⟨by decide, _, _, fl_M_31, fun q => absurd q (by decide), fun q => absurd q (by decide), fun q => absurd q (by decide)⟩, ⟨by decide, _, _, fl_M_34, fun q => absurd q (by decide), fun q => absurd q (by decide), fun q => absurd q (by decide)⟩, ⟨by decide, _, _, fl_M_37, fun q => absurd q (by decide), fun q => absurd q (by decide), fun q => absurd q (by decide)⟩, ⟨by decide, _, _, fl_M_41, fun q => absurd q (by decide), fun q => absurd q (by decide), fun q => absurd q (by decide)⟩, ⟨by decide, _, _, fl_M_44, fun q => absurd q (by decide), fun q => absurd q (by decide), fun q => absurd q (by decide)⟩, ⟨by decide, _, _, fl_M_47, fun q => absurd q (by decide), fun q => absurd q (by decide), fun q => absurd q (by decide)⟩, ⟨by decide, _, _, fl_M_51, fun q => absurd q (by decide), fun q => absurd q (by decide), fun q => absurd q (by decide)⟩, trivial⟩, ⟨⟨by decide, _, _, fl_M_54, fun _ => ⟨rfl, rfl⟩, fun q => absurd q (by decide), fun q => absurd q (by decide)⟩, ⟨by decide, _, _, fl_M_58, fun q => absurd q (by decide), fun q => absurd q (by decide), fun q => absurd q (by decide)⟩, ⟨by decide, _, _, fl_M_61, fun q => absurd q (by decide), fun q => absurd q (by decide), fun q => absurd q (by decide)⟩, ⟨by decide, _, _, fl_M_64, fun q => absurd q (by decide), fun q => absurd q (by decide), fun q => absurd q (by decide)⟩, ⟨by decide, _, _, fl_M_67, fun q => absurd q (by decide), fun q => absurd q (by decide), fun q => absurd q (by decide)⟩, ⟨by decide, _, _, fl_M_70, fun q => absurd q (by decide), fun q => absurd q (by decide), fun q => absurd q (by decide)⟩, ⟨by decide, _, _, fl_M_73, fun q => absurd q (by decide), fun q => absurd q (by decide), fun q => absurd q (by decide)⟩, ⟨by decide, _, _, fl_M_76, fun q => absurd q (by decide), fun q => absurd q (by decide), fun q => absurd q (by decide)⟩, ⟨by decide, _, _, fl_M_79, fun q => absurd q (by decide), fun q => absurd q (by decide), fun q => absurd q (by decide)⟩, ⟨by decide, _, _, fl_M_82, fun q => absurd q (by decide), fun q => absurd q (by decide), fun q => absurd q (by decide)⟩, ⟨by decide, _, _, fl_M_85, fun q => absurd q (by decide), fun q => absurd q (by decide), fun q => absurd q (by decide)⟩, ⟨by decide, _, _, fl_M_88, fun q => absurd q (by decide), fun q => absurd q (by decide), fun q => absurd q (by decide)⟩, ⟨by decide, _, _, fl_M_91, fun q => absurd q (by decide), fun q => absurd q (by decide), fun q => absurd q (by decide)⟩, ⟨by decide, _, _, fl_M_94, fun q => absurd q (by decide), fun q => absurd q (by decide), fun q => absurd q (by decide)⟩, ⟨by decide, _, _, fl_M_97, fun q => absurd q (by decide), fun q => absurd q (by decide), fun q => absurd q (by decide)⟩, ⟨by decide, _, _, fl_M_100, fun q => absurd q (by decide), fun q => absurd q (by decide), fun q => absurd q (by decide)⟩, ⟨by decide, _, _, fl_M_103, fun q => absurd q (by decide), fun q => absurd q (by decide), fun q => absurd q (by decide)⟩, ⟨by decide, _, _, fl_M_106, fun q => absurd q (by decide), fun q => absurd q (by decide), fun q => absurd q (by decide)⟩, trivial⟩, ⟨⟨by decide, _, _, fl_M_109, fun q => absurd q (by decide), fun q => absurd q (by decide), fun q => absurd q (by decide)⟩, ⟨by decide, _, _, fl_M_112, fun q => absurd q (by decide), fun q => absurd q (by decide), fun q => absurd q (by decide)⟩, ⟨by decide, _, _, fl_M_115, fun q => absurd q (by decide), fun q => absurd q (by decide), fun q => absurd q (by decide)⟩, ⟨by decide, _, _, fl_M_118, fun q => absurd q (by decide), fun q => absurd q (by decide), fun q => absurd q (by decide)⟩, ⟨by decide, _, _, fl_M_121, fun q => absurd q (by decide), fun q => absurd q (by decide), fun q => absurd q (by decide)⟩, ⟨by decide, _, _, fl_M_124, fun q => absurd q (by decide), fun q => absurd q (by decide), fun q => absurd q (by decide)⟩, ⟨by decide, _, _, fl_M_127, fun q => absurd q (by decide), fun q => absurd q (by decide), fun q => absurd q (by decide)⟩, ⟨by decide, _, _, fl_M_130, fun q => absurd q (by decide), fun q => absurd q (by decide), fun q => absurd q (by decide)⟩, ⟨by decide, _, _, fl_M_133, fun q => absurd q (by decide), fun q => absurd q (by decide), fun q => absurd q (by decide)⟩, ⟨by decide, _, _, fl_M_136, fun q => absurd q (by decide), fun q => absurd q (by decide), fun q => absurd q (by decide)⟩, ⟨by decide, _, _, fl_M_139, fun q => absurd q (by decide), fun q => absurd q (by decide), fun q => absurd q (by decide)⟩, ⟨by decide, _, _, fl_M_142, fun q => absurd q (by decide), fun q => absurd q (by decide), fun q => absurd q (by decide)⟩, ⟨by decide, _, _, fl_M_145, fun q => absurd q (by decide), fun q => absurd q (by decide), fun q => absurd q (by decide)⟩, ⟨by decide, _, _, fl_M_148, fun q => absurd q (by decide), fun q => absurd q (by decide), fun q => absurd q (by decide)⟩, ⟨by decide, _, _, fl_M_151, fun q => absurd q (by decide), fun q => absurd q (by decide), fun q => absurd q (by decide)⟩, ⟨by decide, _, _, fl_M_154, fun q => absurd q (by decide), fun q => absurd q (by decide), fun q => absurd q (by decide)⟩, ⟨by decide, _, _, fl_M_157, fun q => absurd q (by decide), fun q => absurd q (by decide), fun q => absurd q (by decide)⟩, ⟨by decide, _, _, fl_M_160, fun q => absurd q (by decide), fun q => absurd q (by decide), fun q => absurd q (by decide)⟩, trivial⟩, ⟨⟨by decide, _, _, fl_M_163, fun _ => ⟨rfl, rfl⟩, fun q => absurd q (by decide), fun q => absurd q (by decide)⟩, ⟨by decide, _, _, fl_M_166, fun q => absurd q (by decide), fun q => absurd q (by decide), fun q => absurd q (by decide)⟩, ⟨by decide, _, _, fl_M_169, fun q => absurd q (by decide), fun q => absurd q (by decide), fun q => absurd q (by decide)⟩, ⟨by decide, _, _, fl_M_172, fun q => absurd q (by decide), fun q => absurd q (by decide), fun q => absurd q (by decide)⟩, ⟨by decide, _, _, fl_M_175, fun q => absurd q (by decide), fun q => absurd q (by decide), fun q => absurd q (by decide)⟩, ⟨by decide, _, _, fl_M_178, fun q => absurd q (by decide), fun q => absurd q (by decide), fun q => absurd q (by decide)⟩, ⟨by decide, _, _, fl_M_181, fun q => absurd q (by decide), fun q => absurd q (by decide), fun q => absurd q (by decide)⟩, ⟨by decide, _, _, fl_M_184, fun q => absurd q (by decide), fun q => absurd q (by decide), fun q => absurd q (by decide)⟩, ⟨by decide, _, _, fl_M_187, fun q => absurd q (by decide), fun q => absurd q (by decide), fun q => absurd q (by decide)⟩, ⟨by decide, _, _, fl_M_190, fun q => absurd q (by decide), fun q => absurd q (by decide), fun q => absurd q (by decide)⟩, ⟨by decide, _, _, fl_M_193, fun q => absurd q (by decide), fun q => absurd q (by decide), fun q => absurd q (by decide)⟩, ⟨by decide, _, _, fl_M_196, fun q => absurd q (by decide), fun q => absurd q (by decide), fun q => absurd q (by decide)⟩, ⟨by decide, _, _, fl_M_199, fun q => absurd q (by decide), fun q => absurd q (by decide), fun q => absurd q (by decide)⟩, ⟨by decide, _, _, fl_M_202, fun q => absurd q (by decide), fun q => absurd q (by decide), fun q => absurd q (by decide)⟩, ⟨by decide, _, _, fl_M_205, fun q => absurd q (by decide), fun q => absurd q (by decide), fun q => absurd q (by decide)⟩, ⟨by decide, _, _, fl_M_208, fun q => absurd q (by decide), fun q => absurd q (by decide), fun q => absurd q (by decide)⟩, ⟨by decide, _, _, fl_M_211, fun q => absurd q (by decide), fun q => absurd q (by decide), fun q => absurd q (by decide)⟩, ⟨by decide, _, _, fl_M_214, fun q => absurd q (by decide), fun q => absurd q (by decide), fun q => absurd q (by decide)⟩, trivial⟩, ⟨⟨by decide, _, _, fl_M_217, fun q => absurd q (by decide), fun q => absurd q (by decide), fun q => absurd q (by decide)⟩, ⟨by decide, _, _, fl_M_220, fun q => absurd q (by decide), fun q => absurd q (by decide), fun q => absurd q (by decide)⟩, ⟨by decide, _, _, fl_M_223, fun q => absurd q (by decide), fun q => absurd q (by decide), fun q => absurd q (by decide)⟩, ⟨by decide, _, _, fl_M_226, fun q => absurd q (by decide), fun q => absurd q (by decide), fun q => absurd q (by decide)⟩, ⟨by decide, _, _, fl_M_229, fun q => absurd q (by decide), fun q => absurd q (by decide), fun q => absurd q (by decide)⟩, ⟨by decide, _, _, fl_M_232, fun q => absurd q (by decide), fun q => absurd q (by decide), fun q => absurd q (by decide)⟩, ⟨by decide, _, _, fl_M_235, fun q => absurd q (by decide), fun q => absurd q (by decide), fun q => absurd q (by decide)⟩, ⟨by decide, _, _, fl_M_238, fun q => absurd q (by decide), fun q => absurd q (by decide), fun q => absurd q (by decide)⟩, ⟨by decide, _, _, fl_M_241, fun q => absurd q (by decide), fun q => absurd q (by decide), fun q => absurd q (by decide)⟩, ⟨by decide, _, _, fl_M_244, fun q => absurd q (by decide), fun q => absurd q (by decide), fun q => absurd q (by decide)⟩, ⟨by decide, _, _, fl_M_247, fun q => absurd q (by decide), fun q => absurd q (by decide), fun q => absurd q (by decide)⟩, ⟨by decide, _, _, fl_M_250, fun q => absurd q (by decide), fun q => absurd q (by decide), fun q => absurd q (by decide)⟩, ⟨by decide, _, _, fl_M_253, fun q => absurd q (by decide), fun q => absurd q (by decide), fun q => absurd q (by decide)⟩, ⟨by decide, _, _, fl_M_256, fun q => absurd q (by decide), fun q => absurd q (by decide), fun q => absurd q (by decide)⟩, ⟨by decide, _, _, fl_M_259, fun q => absurd q (by decide), fun q => absurd q (by decide), fun q => absurd q (by decide)⟩, ⟨by decide, _, _, fl_M_262, fun q => absurd q (by decide), fun q => absurd q (by decide), fun q => absurd q (by decide)⟩, ⟨by decide, _, _, fl_M_265, fun q => absurd q (by decide), fun q => absurd q (by decide), fun q => absurd q (by decide)⟩, ⟨by decide, _, _, fl_M_268, fun q => absurd q (by decide), fun q => absurd q (by decide), fun q => absurd q (by decide)⟩, trivial⟩, ⟨⟨by decide, _, _, fl_M_271, fun q => absurd q (by decide), fun q => absurd q (by decide), fun q => absurd q (by decide)⟩, ⟨by decide, _, _, fl_M_274, fun q => absurd q (by decide), fun q => absurd q (by decide), fun q => absurd q (by decide)⟩, ⟨by decide, _, _, fl_M_277, fun q => absurd q (by decide), fun q => absurd q (by decide), fun q => absurd q (by decide)⟩, ⟨by decide, _, _, fl_M_280, fun q => absurd q (by decide), fun q => absurd q (by decide), fun q => absurd q (by decide)⟩, ⟨by decide, _, _, fl_M_283, fun q => absurd q (by decide), fun q => absurd q (by decide), fun q => absurd q (by decide)⟩, ⟨by decide, _, _, fl_M_286, fun q => absurd q (by decide), fun q => absurd q (by decide), fun q => absurd q (by decide)⟩, ⟨by decide, _, _, fl_M_289, fun q => absurd q (by decide), fun q => absurd q (by decide), fun q => absurd q (by decide)⟩, ⟨by decide, _, _, fl_M_292, fun q => absurd q (by decide), fun q => absurd q (by decide), fun q => absurd q (by decide)⟩, ⟨by decide, _, _, fl_M_295, fun q => absurd q (by decide), fun q => absurd q (by decide), fun q => absurd q (by decide)⟩, ⟨by decide, _, _, fl_M_298, fun q => absurd q (by decide), fun q => absurd q (by decide), fun q => absurd q (by decide)⟩, ⟨by decide, _, _, fl_M_301, fun q => absurd q (by decide), fun q => absurd q (by decide), fun q => absurd q (by decide)⟩, ⟨by decide, _, _, fl_M_304, fun q => absurd q (by decide), fun q => absurd q (by decide), fun q => absurd q (by decide)⟩, ⟨by decide, _, _, fl_M_307, fun q => absurd q (by decide), fun q => absurd q (by decide), fun q => absurd q (by decide)⟩, ⟨by decide, _, _, fl_M_310, fun q => absurd q (by decide), fun q => absurd q (by decide), fun q => absurd q (by decide)⟩, ⟨by decide, _, _, fl_M_313, fun q => absurd q (by decide), fun q => absurd q (by decide), fun q => absurd q (by decide)⟩, ⟨by decide, _, _, fl_M_316, fun q => absurd q (by decide), fun q => absurd q (by decide), fun q => absurd q (by decide)⟩, ⟨by decide, _, _, fl_M_319, fun q => absurd q (by decide), fun q => absurd q (by decide), fun q => absurd q (by decide)⟩, ⟨by decide, _, _, fl_M_322, fun q => absurd q (by decide), fun q => absurd q (by decide), fun q => absurd q (by decide)⟩, trivial⟩, ⟨⟨by decide, _, _, fl_M_325, fun q => absurd q (by decide), fun q => absurd q (by decide), fun q => absurd q (by decide)⟩, ⟨by decide, _, _, fl_M_328, fun q => absurd q (by decide), fun q => absurd q (by decide), fun q => absurd q (by decide)⟩, ⟨by decide, _, _, fl_M_396, fun _ => ⟨rfl, rfl⟩, fun q => absurd q (by decide), fun q => absurd q (by decide)⟩, ⟨by decide, _, _, fl_M_403, fun _ => ⟨rfl, rfl⟩, fun q => absurd q (by decide), fun q => absurd q (by decide)⟩, ⟨by decide, _, _, fl_M_413, fun _ => ⟨rfl, rfl⟩, fun q => absurd q (by decide), fun q => absurd q (by decide)⟩, ⟨by decide, _, _, fl_M_423, fun _ => ⟨rfl, rfl⟩, fun q => absurd q (by decide), fun q => absurd q (by decide)⟩, ⟨by decide, _, _, fl_M_426, fun _ => ⟨rfl, rfl⟩, fun q => absurd q (by decide), fun q => absurd q (by decide)⟩, ⟨by decide, _, _, fl_M_429, fun _ => ⟨rfl, rfl⟩, fun q => absurd q (by decide), fun q => absurd q (by decide)⟩, ⟨by decide, _, _, fl_M_472, fun q => absurd q (by decide), fun _ => ⟨rfl, rfl⟩, fun q => absurd q (by decide)⟩, ⟨by decide, _, _, fl_M_498, fun _ => ⟨rfl, rfl⟩, fun q => absurd q (by decide), fun q => absurd q (by decide)⟩, ⟨by decide, _, _, fl_M_504, fun _ => ⟨rfl, rfl⟩, fun q => absurd q (by decide), fun q => absurd q (by decide)⟩, ⟨by decide, _, _, fl_M_507, fun q => absurd q (by decide), fun q => absurd q (by decide), fun _ => ⟨rfl, rfl⟩⟩, ⟨by decide, _, _, fl_M_511, fun _ => ⟨rfl, rfl⟩, fun q => absurd q (by decide), fun q => absurd q (by decide)⟩, ⟨by decide, _, _, fl_M_540, fun _ => ⟨rfl, rfl⟩, fun q => absurd q (by decide), fun q => absurd q (by decide)⟩, ⟨by decide, _, _, fl_M_543, fun _ => ⟨rfl, rfl⟩, fun q => absurd q (by decide), fun q => absurd q (by decide)⟩, ⟨by decide, _, _, fl_M_546, fun _ => ⟨rfl, rfl⟩, fun q => absurd q (by decide), fun q => absurd q (by decide)⟩, ⟨by decide, _, _, fl_M_549, fun _ => ⟨rfl, rfl⟩, fun q => absurd q (by decide), fun q => absurd q (by decide)⟩, ⟨by decide, _, _, fl_M_556, fun _ => ⟨rfl, rfl⟩, fun q => absurd q (by decide), fun q => absurd q (by decide)⟩, trivial⟩, ⟨⟨by decide, _, _, fl_M_559, fun _ => ⟨rfl, rfl⟩, fun q => absurd q (by decide), fun q => absurd q (by decide)⟩, ⟨by decide, _, _, fl_M_576, fun _ => ⟨rfl, rfl⟩, fun q => absurd q (by decide), fun q => absurd q (by decide)⟩, ⟨by decide, _, _, fl_M_582, fun q => absurd q (by decide), fun _ => ⟨rfl, rfl⟩, fun q => absurd q (by decide)⟩, ⟨by decide, _, _, fl_M_585, fun q => absurd q (by decide), fun _ => ⟨rfl, rfl⟩, fun q => absurd q (by decide)⟩, ⟨by decide, _, _, fl_M_646, fun _ => ⟨rfl, rfl⟩, fun q => absurd q (by decide), fun q => absurd q (by decide)⟩, ⟨by decide, _, _, fl_M_655, fun _ => ⟨rfl, rfl⟩, fun q => absurd q (by decide), fun q => absurd q (by decide)⟩, ⟨by decide, _, _, fl_M_701, fun _ => ⟨rfl, rfl⟩, fun q => absurd q (by decide), fun q => absurd q (by decide)⟩, ⟨by decide, _, _, fl_M_704, fun _ => ⟨rfl, rfl⟩, fun q => absurd q (by decide), fun q => absurd q (by decide)⟩, ⟨by decide, _, _, fl_M_707, fun _ => ⟨rfl, rfl⟩, fun q => absurd q (by decide), fun q => absurd q (by decide)⟩, ⟨by decide, _, _, fl_M_710, fun _ => ⟨rfl, rfl⟩, fun q => absurd q (by decide), fun q => absurd q (by decide)⟩, ⟨by decide, _, _, fl_M_721, fun q => absurd q (by decide), fun _ => ⟨rfl, rfl⟩, fun q => absurd q (by decide)⟩, ⟨by decide, _, _, fl_M_724, fun _ => ⟨rfl, rfl⟩, fun q => absurd q (by decide), fun q => absurd q (by decide)⟩, ⟨by decide, _, _, fl_M_742, fun _ => ⟨rfl, rfl⟩, fun q => absurd q (by decide), fun q => absurd q (by decide)⟩, ⟨by decide, _, _, fl_M_745, fun q => absurd q (by decide), fun _ => ⟨rfl, rfl⟩, fun q => absurd q (by decide)⟩, ⟨by decide, _, _, fl_M_750, fun _ => ⟨rfl, rfl⟩, fun q => absurd q (by decide), fun q => absurd q (by decide)⟩, ⟨by decide, _, _, fl_M_753, fun _ => ⟨rfl, rfl⟩, fun q => absurd q (by decide), fun q => absurd q (by decide)⟩, ⟨by decide, _, _, fl_M_765, fun _ => ⟨rfl, rfl⟩, fun q => absurd q (by decide), fun q => absurd q (by decide)⟩, ⟨by decide, _, _, fl_M_774, fun _ => ⟨rfl, rfl⟩, fun q => absurd q (by decide), fun q => absurd q (by decide)⟩, trivial⟩, ⟨⟨by decide, _, _, fl_M_791, fun _ => ⟨rfl, rfl⟩, fun q => absurd q (by decide), fun q => absurd q (by decide)⟩, ⟨by decide, _, _, fl_M_800, fun _ => ⟨rfl, rfl⟩, fun q => absurd q (by decide), fun q => absurd q (by decide)⟩, ⟨by decide, _, _, fl_M_803, fun _ => ⟨rfl, rfl⟩, fun q => absurd q (by decide), fun q => absurd q (by decide)⟩, ⟨by decide, _, _, fl_M_814, fun _ => ⟨rfl, rfl⟩, fun q => absurd q (by decide), fun q => absurd q (by decide)⟩, ⟨by decide, _, _, fl_M_827, fun q => absurd q (by decide), fun _ => ⟨rfl, rfl⟩, fun q => absurd q (by decide)⟩, ⟨by decide, _, _, fl_M_837, fun _ => ⟨rfl, rfl⟩, fun q => absurd q (by decide), fun q => absurd q (by decide)⟩, ⟨by decide, _, _, fl_M_851, fun _ => ⟨rfl, rfl⟩, fun q => absurd q (by decide), fun q => absurd q (by decide)⟩, ⟨by decide, _, _, fl_M_886, fun _ => ⟨rfl, rfl⟩, fun q => absurd q (by decide), fun q => absurd q (by decide)⟩, ⟨by decide, _, _, fl_M_889, fun _ => ⟨rfl, rfl⟩, fun q => absurd q (by decide), fun q => absurd q (by decide)⟩, ⟨by decide, _, _, fl_M_892, fun _ => ⟨rfl, rfl⟩, fun q => absurd q (by decide), fun q => absurd q (by decide)⟩, ⟨by decide, _, _, fl_M_897, fun q => absurd q (by decide), fun _ => ⟨rfl, rfl⟩, fun q => absurd q (by decide)⟩, trivial⟩, trivial⟩
theorem kf_chk : t_kf.all (fun x e => (Nat.blt (x / 1024) 215 && Nat.blt e.1 100) && (Nat.beq (KD (x / 1024)).1 e.1 && ((match (KD (x / 1024)).2[x % 1024]? with
  | some q => Nat.beq q e.2.1
  | none => false) && ((!(Nat.beq e.2.1 2) || Nat.beq (RF (x / 1024) (x % 1024)) (e.2.2 + 1)) && (match t_ka.get (x / 1024) with
  | some _ => false
  | none => true))))) = true := by decide +kernel
theorem ka_chk : t_ka.all (fun k e => (Nat.blt k 215 && Nat.ble e.2 100000) && (Nat.beq (KD k).1 e.1 && (match (KD k).2 with
  | [z] => Nat.beq z e.2
  | _ => false))) = true := by decide +kernel
def rfIn (k b n : Nat) : Nat → Bool
  | 0 => true
  | i + 1 => (Nat.ble (b + 1) (RF k i) && Nat.ble (RF k i) (b + n)) && rfIn k b n i
theorem kr_chk : t_kr.all (fun k e => match t_ka.get k with
  | some (kd, z) => Nat.beq kd 103 && rfIn k e.1 e.2 z
  | none => false) = true := by decide +kernel
theorem room_big : t_room.all (fun _ e => Nat.ble 1 e.1 && Nat.ble 40 e.2.1) = true := by decide +kernel
theorem room_in : t_room.all (fun m _ => match MT.get m with
  | some _ => true
  | none => false) = true := by decide +kernel
theorem low_none {α : Type} {t : BT α} (h : t.all (fun k _ => Nat.ble 4096 k) = true) {x : Nat} (hx : x < 4096) : t.get x = none := by
  cases hg : t.get x with
  | none => rfl
  | some v =>
    have := (BT.all_P h).at hg
    have := Nat.le_of_ble_eq_true this
    omega
theorem low_cst : t_cst.all (fun k _ => Nat.ble 4096 k) = true := by decide +kernel
theorem low_cstl : t_cstl.all (fun k _ => Nat.ble 4096 k) = true := by decide +kernel
theorem low_fld : t_fld.all (fun k _ => Nat.ble 4096 k) = true := by decide +kernel
theorem low_call : t_call.all (fun k _ => Nat.ble 4096 k) = true := by decide +kernel
theorem low_lib : t_lib.all (fun k _ => Nat.ble 4096 k) = true := by decide +kernel
def CallOk (x : Nat) (e : Nat × (Nat × Bool)) : Prop := xM (cname (x / 4096)) (x % 4096) (Yf e.1) e.2.1 ∧ (e.2.2 = true → Cond.static (Yf e.1).1 ∈ TBg) ∧ (e.2.2 = false → (Cond.instanceMethod (Yf e.1).1 ∈ TBg ∧ Cond.selects (Yf e.1).1.cls (Yf e.1).1 (Yf e.1).1 ∈ TBg) ∧ ∀ fr lo nl t q, t_room.get e.1 = some (fr, (lo, (nl, (t, q)))) → (q < 215 ∧ ∃ ci l, KD q = (ci, l) ∧ ci < 100 ∧ (cls[ci]?.map fun q => q.1) = some (Yf e.1).1.cls) ∨ (q = 1000 ∧ (Yf e.1).1.cls = "java/lang/String"))
theorem cl_1_115 : CallOk 4211 (11, (1, false)) := ⟨(show xM "RightsHouse" 115 Y_Wh_isMember 1 from ⟨k_3_138, k_1_2, k_3_141, by decide, by decide, by decide +kernel⟩), ⟨fun q => absurd q (by decide), fun _ => ⟨⟨k_3_139, k_3_140⟩, fun fr lo nl t q h => by
  have e : t_room.get 11 = some (2, (61, (2, (2, 5)))) := by decide +kernel
  rw [e] at h
  cases h
  exact Or.inl ⟨by decide, 8, _, rfl, by decide, rfl⟩⟩⟩⟩
theorem cl_1_119 : CallOk 4215 (10, (1, false)) := ⟨(show xM "RightsHouse" 119 Y_Wh_isGroup 1 from ⟨k_3_150, k_1_2, k_3_149, by decide, by decide, by decide +kernel⟩), ⟨fun q => absurd q (by decide), fun _ => ⟨⟨k_3_147, k_3_148⟩, fun fr lo nl t q h => by
  have e : t_room.get 10 = some (1, (40, (2, (2, 5)))) := by decide +kernel
  rw [e] at h
  cases h
  exact Or.inl ⟨by decide, 8, _, rfl, by decide, rfl⟩⟩⟩⟩
theorem cl_1_122 : CallOk 4218 (4, (1, true)) := ⟨(show xM "RightsHouse" 122 Y_H_isMoment 1 from ⟨k_3_151, k_1_1, k_3_153, by decide, by decide, by decide +kernel⟩), ⟨fun _ => k_3_152, fun q => absurd q (by decide)⟩⟩
theorem cl_1_125 : CallOk 4221 (16, (2, false)) := ⟨(show xM "RightsHouse" 125 Y_Wh_wouldRing 2 from ⟨k_3_154, k_1_2, k_3_157, by decide, by decide, by decide +kernel⟩), ⟨fun q => absurd q (by decide), fun _ => ⟨⟨k_3_155, k_3_156⟩, fun fr lo nl t q h => by
  have e : t_room.get 16 = some (4, (113, (3, (2, 5)))) := by decide +kernel
  rw [e] at h
  cases h
  exact Or.inl ⟨by decide, 8, _, rfl, by decide, rfl⟩⟩⟩⟩
theorem cl_1_132 : CallOk 4228 (17, (5, false)) := ⟨(show xM "RightsHouse" 132 Y_Wh_addRow 5 from ⟨k_3_174, k_1_2, k_3_177, by decide, by decide, by decide +kernel⟩), ⟨fun q => absurd q (by decide), fun _ => ⟨⟨k_3_175, k_3_176⟩, fun fr lo nl t q h => by
  have e : t_room.get 17 = some (1, (40, (7, (1, 5)))) := by decide +kernel
  rw [e] at h
  cases h
  exact Or.inl ⟨by decide, 8, _, rfl, by decide, rfl⟩⟩⟩⟩
theorem cl_1_136 : CallOk 4232 (6, (2, true)) := ⟨(show xM "RightsHouse" 136 Y_H_isAmong 2 from ⟨k_3_182, k_1_1, k_3_184, by decide, by decide, by decide +kernel⟩), ⟨fun _ => k_3_183, fun q => absurd q (by decide)⟩⟩
theorem cl_1_139 : CallOk 4235 (13, (1, false)) := ⟨(show xM "RightsHouse" 139 Y_Wh_isLasting 1 from ⟨k_3_185, k_1_2, k_3_173, by decide, by decide, by decide +kernel⟩), ⟨fun q => absurd q (by decide), fun _ => ⟨⟨k_3_171, k_3_172⟩, fun fr lo nl t q h => by
  have e : t_room.get 13 = some (1, (40, (2, (2, 5)))) := by decide +kernel
  rw [e] at h
  cases h
  exact Or.inl ⟨by decide, 8, _, rfl, by decide, rfl⟩⟩⟩⟩
theorem cl_1_142 : CallOk 4238 (19, (2, false)) := ⟨(show xM "RightsHouse" 142 Y_Wh_endRow 2 from ⟨k_3_186, k_1_2, k_3_189, by decide, by decide, by decide +kernel⟩), ⟨fun q => absurd q (by decide), fun _ => ⟨⟨k_3_187, k_3_188⟩, fun fr lo nl t q h => by
  have e : t_room.get 19 = some (1, (40, (3, (0, 5)))) := by decide +kernel
  rw [e] at h
  cases h
  exact Or.inl ⟨by decide, 8, _, rfl, by decide, rfl⟩⟩⟩⟩
theorem cl_1_146 : CallOk 4242 (9, (1, false)) := ⟨(show xM "RightsHouse" 146 Y_Wh_isPerson 1 from ⟨k_3_194, k_1_2, k_3_145, by decide, by decide, by decide +kernel⟩), ⟨fun q => absurd q (by decide), fun _ => ⟨⟨k_3_143, k_3_144⟩, fun fr lo nl t q h => by
  have e : t_room.get 9 = some (1, (40, (2, (2, 5)))) := by decide +kernel
  rw [e] at h
  cases h
  exact Or.inl ⟨by decide, 8, _, rfl, by decide, rfl⟩⟩⟩⟩
theorem cl_1_149 : CallOk 4245 (21, (3, false)) := ⟨(show xM "RightsHouse" 149 Y_Wh_groupsOf 3 from ⟨k_3_195, k_1_2, k_3_198, by decide, by decide, by decide +kernel⟩), ⟨fun q => absurd q (by decide), fun _ => ⟨⟨k_3_196, k_3_197⟩, fun fr lo nl t q h => by
  have e : t_room.get 21 = some (4, (113, (6, (1, 5)))) := by decide +kernel
  rw [e] at h
  cases h
  exact Or.inl ⟨by decide, 8, _, rfl, by decide, rfl⟩⟩⟩⟩
theorem cl_1_156 : CallOk 4252 (24, (2, true)) := ⟨(show xM "RightsHouse" 156 Y_Wh_slotOfPerson 2 from ⟨k_3_211, k_1_2, k_3_213, by decide, by decide, by decide +kernel⟩), ⟨fun _ => k_3_212, fun q => absurd q (by decide)⟩⟩
theorem cl_1_160 : CallOk 4256 (25, (1, false)) := ⟨(show xM "RightsHouse" 160 Y_Th_isThere 1 from ⟨k_3_214, k_1_3, k_3_217, by decide, by decide, by decide +kernel⟩), ⟨fun q => absurd q (by decide), fun _ => ⟨⟨k_3_215, k_3_216⟩, fun fr lo nl t q h => by
  have e : t_room.get 25 = some (1, (40, (2, (2, 10)))) := by decide +kernel
  rw [e] at h
  cases h
  exact Or.inl ⟨by decide, 7, _, rfl, by decide, rfl⟩⟩⟩⟩
theorem cl_1_163 : CallOk 4259 (26, (2, true)) := ⟨(show xM "RightsHouse" 163 Y_Wh_slotOfThing 2 from ⟨k_3_218, k_1_2, k_3_220, by decide, by decide, by decide +kernel⟩), ⟨fun _ => k_3_219, fun q => absurd q (by decide)⟩⟩
theorem cl_1_166 : CallOk 4262 (27, (2, false)) := ⟨(show xM "RightsHouse" 166 Y_H_slotOf 2 from ⟨k_3_207, k_1_1, k_3_210, by decide, by decide, by decide +kernel⟩), ⟨fun q => absurd q (by decide), fun _ => ⟨⟨k_3_209, (tb_s (q := (⟨"RightsHouse", "slotOf", "(II)I"⟩, 18)) (by decide +kernel))⟩, fun fr lo nl t q h => by
  have e : t_room.get 27 = some (2, (61, (3, (1, 0)))) := by decide +kernel
  rw [e] at h
  cases h
  exact Or.inl ⟨by decide, 10, _, rfl, by decide, rfl⟩⟩⟩⟩
theorem cl_1_169 : CallOk 4265 (28, (3, false)) := ⟨(show xM "RightsHouse" 169 Y_Wh_setFeature 3 from ⟨k_3_221, k_1_2, k_3_224, by decide, by decide, by decide +kernel⟩), ⟨fun q => absurd q (by decide), fun _ => ⟨⟨k_3_222, k_3_223⟩, fun fr lo nl t q h => by
  have e : t_room.get 28 = some (1, (40, (5, (0, 5)))) := by decide +kernel
  rw [e] at h
  cases h
  exact Or.inl ⟨by decide, 8, _, rfl, by decide, rfl⟩⟩⟩⟩
theorem cl_1_179 : CallOk 4275 (31, (3, false)) := ⟨(show xM "RightsHouse" 179 Y_Wh_setItem 3 from ⟨k_3_229, k_1_2, k_3_232, by decide, by decide, by decide +kernel⟩), ⟨fun q => absurd q (by decide), fun _ => ⟨⟨k_3_230, k_3_231⟩, fun fr lo nl t q h => by
  have e : t_room.get 31 = some (2, (61, (7, (0, 5)))) := by decide +kernel
  rw [e] at h
  cases h
  exact Or.inl ⟨by decide, 8, _, rfl, by decide, rfl⟩⟩⟩⟩
theorem cl_1_195 : CallOk 4291 (34, (3, false)) := ⟨(show xM "RightsHouse" 195 Y_Wh_hasItems 3 from ⟨k_4_11, k_1_2, k_4_14, by decide, by decide, by decide +kernel⟩), ⟨fun q => absurd q (by decide), fun _ => ⟨⟨k_4_12, k_4_13⟩, fun fr lo nl t q h => by
  have e : t_room.get 34 = some (1, (40, (4, (2, 5)))) := by decide +kernel
  rw [e] at h
  cases h
  exact Or.inl ⟨by decide, 8, _, rfl, by decide, rfl⟩⟩⟩⟩
theorem cl_1_207 : CallOk 4303 (36, (2, false)) := ⟨(show xM "RightsHouse" 207 Y_Th_add 2 from ⟨k_4_22, k_1_3, k_4_25, by decide, by decide, by decide +kernel⟩), ⟨fun q => absurd q (by decide), fun _ => ⟨⟨k_4_23, k_4_24⟩, fun fr lo nl t q h => by
  have e : t_room.get 36 = some (1, (40, (3, (1, 10)))) := by decide +kernel
  rw [e] at h
  cases h
  exact Or.inl ⟨by decide, 7, _, rfl, by decide, rfl⟩⟩⟩⟩
theorem cl_1_210 : CallOk 4306 (38, (2, false)) := ⟨(show xM "RightsHouse" 210 Y_Th_isInside 2 from ⟨k_4_30, k_1_3, k_4_33, by decide, by decide, by decide +kernel⟩), ⟨fun q => absurd q (by decide), fun _ => ⟨⟨k_4_31, k_4_32⟩, fun fr lo nl t q h => by
  have e : t_room.get 38 = some (1, (40, (5, (2, 10)))) := by decide +kernel
  rw [e] at h
  cases h
  exact Or.inl ⟨by decide, 7, _, rfl, by decide, rfl⟩⟩⟩⟩
theorem cl_1_220 : CallOk 4316 (41, (1, false)) := ⟨(show xM "RightsHouse" 220 Y_Th_bearsAny 1 from ⟨k_4_42, k_1_3, k_4_45, by decide, by decide, by decide +kernel⟩), ⟨fun q => absurd q (by decide), fun _ => ⟨⟨k_4_43, k_4_44⟩, fun fr lo nl t q h => by
  have e : t_room.get 41 = some (1, (40, (3, (2, 10)))) := by decide +kernel
  rw [e] at h
  cases h
  exact Or.inl ⟨by decide, 7, _, rfl, by decide, rfl⟩⟩⟩⟩
theorem cl_1_229 : CallOk 4325 (43, (1, false)) := ⟨(show xM "RightsHouse" 229 Y_Th_depthOf 1 from ⟨k_4_50, k_1_3, k_4_53, by decide, by decide, by decide +kernel⟩), ⟨fun q => absurd q (by decide), fun _ => ⟨⟨k_4_51, k_4_52⟩, fun fr lo nl t q h => by
  have e : t_room.get 43 = some (1, (40, (5, (1, 10)))) := by decide +kernel
  rw [e] at h
  cases h
  exact Or.inl ⟨by decide, 7, _, rfl, by decide, rfl⟩⟩⟩⟩
theorem cl_1_233 : CallOk 4329 (45, (2, false)) := ⟨(show xM "RightsHouse" 233 Y_Th_isUnder 2 from ⟨k_4_58, k_1_3, k_4_61, by decide, by decide, by decide +kernel⟩), ⟨fun q => absurd q (by decide), fun _ => ⟨⟨k_4_59, k_4_60⟩, fun fr lo nl t q h => by
  have e : t_room.get 45 = some (1, (40, (5, (2, 10)))) := by decide +kernel
  rw [e] at h
  cases h
  exact Or.inl ⟨by decide, 7, _, rfl, by decide, rfl⟩⟩⟩⟩
theorem cl_1_236 : CallOk 4332 (5, (1, true)) := ⟨(show xM "RightsHouse" 236 Y_H_isAct 1 from ⟨k_4_66, k_1_1, k_4_68, by decide, by decide, by decide +kernel⟩), ⟨fun _ => k_4_67, fun q => absurd q (by decide)⟩⟩
theorem cl_1_239 : CallOk 4335 (48, (3, false)) := ⟨(show xM "RightsHouse" 239 Y_Th_tellHolds 3 from ⟨k_4_69, k_1_3, k_4_72, by decide, by decide, by decide +kernel⟩), ⟨fun q => absurd q (by decide), fun _ => ⟨⟨k_4_70, k_4_71⟩, fun fr lo nl t q h => by
  have e : t_room.get 48 = some (2, (62, (5, (2, 10)))) := by decide +kernel
  rw [e] at h
  cases h
  exact Or.inl ⟨by decide, 7, _, rfl, by decide, rfl⟩⟩⟩⟩
theorem cl_1_243 : CallOk 4339 (50, (2, false)) := ⟨(show xM "RightsHouse" 243 Y_Th_actHolds 2 from ⟨k_4_77, k_1_3, k_4_80, by decide, by decide, by decide +kernel⟩), ⟨fun q => absurd q (by decide), fun _ => ⟨⟨k_4_78, k_4_79⟩, fun fr lo nl t q h => by
  have e : t_room.get 50 = some (1, (40, (3, (2, 10)))) := by decide +kernel
  rw [e] at h
  cases h
  exact Or.inl ⟨by decide, 7, _, rfl, by decide, rfl⟩⟩⟩⟩
theorem cl_1_248 : CallOk 4344 (106, (3, false)) := ⟨(show xM "RightsHouse" 248 Y_Po_read 3 from ⟨k_4_85, k_1_4, k_4_88, by decide, by decide, by decide +kernel⟩), ⟨fun q => absurd q (by decide), fun _ => ⟨⟨k_4_86, k_4_87⟩, fun fr lo nl t q h => by
  have e : t_room.get 106 = some (602, (20044, (5, (1, 17)))) := by decide +kernel
  rw [e] at h
  cases h
  exact Or.inl ⟨by decide, 5, _, rfl, by decide, rfl⟩⟩⟩⟩
theorem cl_1_258 : CallOk 4354 (111, (5, false)) := ⟨(show xM "RightsHouse" 258 Y_H_writeLog 5 from ⟨k_5_155, k_1_1, k_5_158, by decide, by decide, by decide +kernel⟩), ⟨fun q => absurd q (by decide), fun _ => ⟨⟨k_5_157, (tb_s (q := (⟨"RightsHouse", "writeLog", "(IIIII)V"⟩, 18)) (by decide +kernel))⟩, fun fr lo nl t q h => by
  have e : t_room.get 111 = some (2, (64, (7, (0, 0)))) := by decide +kernel
  rw [e] at h
  cases h
  exact Or.inl ⟨by decide, 10, _, rfl, by decide, rfl⟩⟩⟩⟩
theorem cl_1_262 : CallOk 4358 (114, (3, false)) := ⟨(show xM "RightsHouse" 262 Y_H_isRequest 3 from ⟨k_5_173, k_1_1, k_5_176, by decide, by decide, by decide +kernel⟩), ⟨fun q => absurd q (by decide), fun _ => ⟨⟨k_5_175, (tb_s (q := (⟨"RightsHouse", "isRequest", "(III)Z"⟩, 18)) (by decide +kernel))⟩, fun fr lo nl t q h => by
  have e : t_room.get 114 = some (2, (61, (4, (2, 0)))) := by decide +kernel
  rw [e] at h
  cases h
  exact Or.inl ⟨by decide, 10, _, rfl, by decide, rfl⟩⟩⟩⟩
theorem cl_1_265 : CallOk 4361 (115, (2, false)) := ⟨(show xM "RightsHouse" 265 Y_Ju_setMoment 2 from ⟨k_5_177, k_1_5, k_5_180, by decide, by decide, by decide +kernel⟩), ⟨fun q => absurd q (by decide), fun _ => ⟨⟨k_5_178, k_5_179⟩, fun fr lo nl t q h => by
  have e : t_room.get 115 = some (1, (40, (3, (0, 27)))) := by decide +kernel
  rw [e] at h
  cases h
  exact Or.inl ⟨by decide, 3, _, rfl, by decide, rfl⟩⟩⟩⟩
theorem cl_1_268 : CallOk 4364 (116, (2, false)) := ⟨(show xM "RightsHouse" 268 Y_Ju_setPerson 2 from ⟨k_5_181, k_1_5, k_5_184, by decide, by decide, by decide +kernel⟩), ⟨fun q => absurd q (by decide), fun _ => ⟨⟨k_5_182, k_5_183⟩, fun fr lo nl t q h => by
  have e : t_room.get 116 = some (1, (40, (3, (0, 27)))) := by decide +kernel
  rw [e] at h
  cases h
  exact Or.inl ⟨by decide, 3, _, rfl, by decide, rfl⟩⟩⟩⟩
theorem cl_1_271 : CallOk 4367 (113, (1, false)) := ⟨(show xM "RightsHouse" 271 Y_H_policyInForce 1 from ⟨k_5_185, k_1_1, k_5_188, by decide, by decide, by decide +kernel⟩), ⟨fun q => absurd q (by decide), fun _ => ⟨⟨k_5_187, (tb_s (q := (⟨"RightsHouse", "policyInForce", "(I)I"⟩, 18)) (by decide +kernel))⟩, fun fr lo nl t q h => by
  have e : t_room.get 113 = some (1, (40, (3, (1, 0)))) := by decide +kernel
  rw [e] at h
  cases h
  exact Or.inl ⟨by decide, 10, _, rfl, by decide, rfl⟩⟩⟩⟩
theorem cl_1_274 : CallOk 4370 (144, (3, false)) := ⟨(show xM "RightsHouse" 274 Y_Ju_answerKept 3 from ⟨k_5_189, k_1_5, k_5_192, by decide, by decide, by decide +kernel⟩), ⟨fun q => absurd q (by decide), fun _ => ⟨⟨k_5_190, k_5_191⟩, fun fr lo nl t q h => by
  have e : t_room.get 144 = some (25, (734, (5, (1, 27)))) := by decide +kernel
  rw [e] at h
  cases h
  exact Or.inl ⟨by decide, 3, _, rfl, by decide, rfl⟩⟩⟩⟩
theorem cl_1_284 : CallOk 4380 (148, (3, false)) := ⟨(show xM "RightsHouse" 284 Y_Ju_thingAllowed 3 from ⟨k_6_85, k_1_5, k_6_88, by decide, by decide, by decide +kernel⟩), ⟨fun q => absurd q (by decide), fun _ => ⟨⟨k_6_86, k_6_87⟩, fun fr lo nl t q h => by
  have e : t_room.get 148 = some (25, (734, (6, (1, 27)))) := by decide +kernel
  rw [e] at h
  cases h
  exact Or.inl ⟨by decide, 3, _, rfl, by decide, rfl⟩⟩⟩⟩
theorem cl_1_287 : CallOk 4383 (150, (4, false)) := ⟨(show xM "RightsHouse" 287 Y_Ju_personAllowed 4 from ⟨k_6_94, k_1_5, k_6_97, by decide, by decide, by decide +kernel⟩), ⟨fun q => absurd q (by decide), fun _ => ⟨⟨k_6_95, k_6_96⟩, fun fr lo nl t q h => by
  have e : t_room.get 150 = some (25, (734, (7, (1, 27)))) := by decide +kernel
  rw [e] at h
  cases h
  exact Or.inl ⟨by decide, 3, _, rfl, by decide, rfl⟩⟩⟩⟩
theorem cl_1_294 : CallOk 4390 (153, (2, false)) := ⟨(show xM "RightsHouse" 294 Y_Ju_differences 2 from ⟨k_6_104, k_1_5, k_6_107, by decide, by decide, by decide +kernel⟩), ⟨fun q => absurd q (by decide), fun _ => ⟨⟨k_6_105, k_6_106⟩, fun fr lo nl t q h => by
  have e : t_room.get 153 = some (25, (734, (9, (1, 27)))) := by decide +kernel
  rw [e] at h
  cases h
  exact Or.inl ⟨by decide, 3, _, rfl, by decide, rfl⟩⟩⟩⟩
theorem cl_1_303 : CallOk 4399 (156, (2, false)) := ⟨(show xM "RightsHouse" 303 Y_Ju_decidedBy 2 from ⟨k_6_120, k_1_5, k_6_123, by decide, by decide, by decide +kernel⟩), ⟨fun q => absurd q (by decide), fun _ => ⟨⟨k_6_121, k_6_122⟩, fun fr lo nl t q h => by
  have e : t_room.get 156 = some (25, (734, (7, (1, 27)))) := by decide +kernel
  rw [e] at h
  cases h
  exact Or.inl ⟨by decide, 3, _, rfl, by decide, rfl⟩⟩⟩⟩
theorem cl_1_309 : CallOk 4405 (158, (3, false)) := ⟨(show xM "RightsHouse" 309 Y_Ro_addLaw 3 from ⟨k_6_128, k_1_6, k_6_131, by decide, by decide, by decide +kernel⟩), ⟨fun q => absurd q (by decide), fun _ => ⟨⟨k_6_129, k_6_130⟩, fun fr lo nl t q h => by
  have e : t_room.get 158 = some (1, (40, (4, (1, 34)))) := by decide +kernel
  rw [e] at h
  cases h
  exact Or.inl ⟨by decide, 6, _, rfl, by decide, rfl⟩⟩⟩⟩
theorem cl_1_312 : CallOk 4408 (164, (5, false)) := ⟨(show xM "RightsHouse" 312 Y_Ro_giveRow 5 from ⟨k_6_136, k_1_6, k_6_139, by decide, by decide, by decide +kernel⟩), ⟨fun q => absurd q (by decide), fun _ => ⟨⟨k_6_137, k_6_138⟩, fun fr lo nl t q h => by
  have e : t_room.get 164 = some (6, (164, (7, (1, 34)))) := by decide +kernel
  rw [e] at h
  cases h
  exact Or.inl ⟨by decide, 6, _, rfl, by decide, rfl⟩⟩⟩⟩
theorem cl_1_315 : CallOk 4411 (160, (3, false)) := ⟨(show xM "RightsHouse" 315 Y_Ro_refusingGiver 3 from ⟨k_6_162, k_1_6, k_6_143, by decide, by decide, by decide +kernel⟩), ⟨fun q => absurd q (by decide), fun _ => ⟨⟨k_6_141, k_6_142⟩, fun fr lo nl t q h => by
  have e : t_room.get 160 = some (5, (138, (7, (1, 34)))) := by decide +kernel
  rw [e] at h
  cases h
  exact Or.inl ⟨by decide, 6, _, rfl, by decide, rfl⟩⟩⟩⟩
theorem cl_1_318 : CallOk 4414 (166, (3, false)) := ⟨(show xM "RightsHouse" 318 Y_Wh_endRows 3 from ⟨k_6_163, k_1_2, k_6_166, by decide, by decide, by decide +kernel⟩), ⟨fun q => absurd q (by decide), fun _ => ⟨⟨k_6_164, k_6_165⟩, fun fr lo nl t q h => by
  have e : t_room.get 166 = some (2, (62, (7, (1, 5)))) := by decide +kernel
  rw [e] at h
  cases h
  exact Or.inl ⟨by decide, 8, _, rfl, by decide, rfl⟩⟩⟩⟩
theorem cl_1_324 : CallOk 4420 (163, (3, false)) := ⟨(show xM "RightsHouse" 324 Y_Ro_firstNotHolding 3 from ⟨k_6_176, k_1_6, k_6_149, by decide, by decide, by decide +kernel⟩), ⟨fun q => absurd q (by decide), fun _ => ⟨⟨k_6_147, k_6_148⟩, fun fr lo nl t q h => by
  have e : t_room.get 163 = some (5, (138, (5, (1, 34)))) := by decide +kernel
  rw [e] at h
  cases h
  exact Or.inl ⟨by decide, 6, _, rfl, by decide, rfl⟩⟩⟩⟩
theorem cl_1_330 : CallOk 4426 (170, (1, false)) := ⟨(show xM "RightsHouse" 330 Y_Ro_addSession 1 from ⟨k_6_181, k_1_6, k_6_184, by decide, by decide, by decide +kernel⟩), ⟨fun q => absurd q (by decide), fun _ => ⟨⟨k_6_182, k_6_183⟩, fun fr lo nl t q h => by
  have e : t_room.get 170 = some (1, (40, (2, (1, 34)))) := by decide +kernel
  rw [e] at h
  cases h
  exact Or.inl ⟨by decide, 6, _, rfl, by decide, rfl⟩⟩⟩⟩
theorem cl_1_333 : CallOk 4429 (172, (3, false)) := ⟨(show xM "RightsHouse" 333 Y_Ro_turnOn 3 from ⟨k_6_189, k_1_6, k_6_192, by decide, by decide, by decide +kernel⟩), ⟨fun q => absurd q (by decide), fun _ => ⟨⟨k_6_190, k_6_191⟩, fun fr lo nl t q h => by
  have e : t_room.get 172 = some (6, (162, (4, (1, 34)))) := by decide +kernel
  rw [e] at h
  cases h
  exact Or.inl ⟨by decide, 6, _, rfl, by decide, rfl⟩⟩⟩⟩
theorem cl_1_342 : CallOk 4438 (175, (2, false)) := ⟨(show xM "RightsHouse" 342 Y_Ro_groupsIn 2 from ⟨k_6_201, k_1_6, k_6_204, by decide, by decide, by decide +kernel⟩), ⟨fun q => absurd q (by decide), fun _ => ⟨⟨k_6_202, k_6_203⟩, fun fr lo nl t q h => by
  have e : t_room.get 175 = some (5, (138, (4, (1, 34)))) := by decide +kernel
  rw [e] at h
  cases h
  exact Or.inl ⟨by decide, 6, _, rfl, by decide, rfl⟩⟩⟩⟩
theorem cl_1_350 : CallOk 4446 (178, (2, false)) := ⟨(show xM "RightsHouse" 350 Y_Wo_addStep 2 from ⟨k_6_214, k_1_7, k_6_217, by decide, by decide, by decide +kernel⟩), ⟨fun q => absurd q (by decide), fun _ => ⟨⟨k_6_215, k_6_216⟩, fun fr lo nl t q h => by
  have e : t_room.get 178 = some (1, (40, (3, (1, 41)))) := by decide +kernel
  rw [e] at h
  cases h
  exact Or.inl ⟨by decide, 9, _, rfl, by decide, rfl⟩⟩⟩⟩
theorem cl_1_356 : CallOk 4452 (180, (4, false)) := ⟨(show xM "RightsHouse" 356 Y_Wo_addTie 4 from ⟨k_6_222, k_1_7, k_6_225, by decide, by decide, by decide +kernel⟩), ⟨fun q => absurd q (by decide), fun _ => ⟨⟨k_6_223, k_6_224⟩, fun fr lo nl t q h => by
  have e : t_room.get 180 = some (1, (40, (6, (1, 41)))) := by decide +kernel
  rw [e] at h
  cases h
  exact Or.inl ⟨by decide, 9, _, rfl, by decide, rfl⟩⟩⟩⟩
theorem cl_1_359 : CallOk 4455 (182, (2, false)) := ⟨(show xM "RightsHouse" 359 Y_H_isSearch 2 from ⟨k_6_230, k_1_1, k_6_233, by decide, by decide, by decide +kernel⟩), ⟨fun q => absurd q (by decide), fun _ => ⟨⟨k_6_232, (tb_s (q := (⟨"RightsHouse", "isSearch", "(II)Z"⟩, 18)) (by decide +kernel))⟩, fun fr lo nl t q h => by
  have e : t_room.get 182 = some (2, (61, (3, (2, 0)))) := by decide +kernel
  rw [e] at h
  cases h
  exact Or.inl ⟨by decide, 10, _, rfl, by decide, rfl⟩⟩⟩⟩
theorem cl_1_362 : CallOk 4458 (183, (3, false)) := ⟨(show xM "RightsHouse" 362 Y_Wo_prepare 3 from ⟨k_6_234, k_1_7, k_6_237, by decide, by decide, by decide +kernel⟩), ⟨fun q => absurd q (by decide), fun _ => ⟨⟨k_6_235, k_6_236⟩, fun fr lo nl t q h => by
  have e : t_room.get 183 = some (5, (138, (7, (0, 41)))) := by decide +kernel
  rw [e] at h
  cases h
  exact Or.inl ⟨by decide, 9, _, rfl, by decide, rfl⟩⟩⟩⟩
theorem cl_1_365 : CallOk 4461 (187, (1, false)) := ⟨(show xM "RightsHouse" 365 Y_Wo_search 1 from ⟨k_6_239, k_1_7, k_7_2, by decide, by decide, by decide +kernel⟩), ⟨fun q => absurd q (by decide), fun _ => ⟨⟨k_7_0, k_7_1⟩, fun fr lo nl t q h => by
  have e : t_room.get 187 = some (601, (20023, (2, (1, 41)))) := by decide +kernel
  rw [e] at h
  cases h
  exact Or.inl ⟨by decide, 9, _, rfl, by decide, rfl⟩⟩⟩⟩
theorem cl_1_368 : CallOk 4464 (188, (0, false)) := ⟨(show xM "RightsHouse" 368 Y_Wo_keep 0 from ⟨k_7_16, k_1_7, k_7_19, by decide, by decide, by decide +kernel⟩), ⟨fun q => absurd q (by decide), fun _ => ⟨⟨k_7_17, k_7_18⟩, fun fr lo nl t q h => by
  have e : t_room.get 188 = some (1, (40, (2, (0, 41)))) := by decide +kernel
  rw [e] at h
  cases h
  exact Or.inl ⟨by decide, 9, _, rfl, by decide, rfl⟩⟩⟩⟩
theorem cl_1_377 : CallOk 4473 (191, (3, false)) := ⟨(show xM "RightsHouse" 377 Y_Wo_searchWith 3 from ⟨k_7_28, k_1_7, k_7_31, by decide, by decide, by decide +kernel⟩), ⟨fun q => absurd q (by decide), fun _ => ⟨⟨k_7_29, k_7_30⟩, fun fr lo nl t q h => by
  have e : t_room.get 191 = some (602, (20044, (4, (1, 41)))) := by decide +kernel
  rw [e] at h
  cases h
  exact Or.inl ⟨by decide, 9, _, rfl, by decide, rfl⟩⟩⟩⟩
theorem cl_1_380 : CallOk 4476 (192, (4, false)) := ⟨(show xM "RightsHouse" 380 Y_H_next 4 from ⟨k_7_37, k_1_1, k_7_27, by decide, by decide, by decide +kernel⟩), ⟨fun q => absurd q (by decide), fun _ => ⟨⟨k_7_25, k_7_26⟩, fun fr lo nl t q h => by
  have e : t_room.get 192 = some (603, (20067, (5, (1, 0)))) := by decide +kernel
  rw [e] at h
  cases h
  exact Or.inl ⟨by decide, 10, _, rfl, by decide, rfl⟩⟩⟩⟩
theorem cl_1_383 : CallOk 4479 (194, (2, false)) := ⟨(show xM "RightsHouse" 383 Y_Wo_hasDone 2 from ⟨k_7_42, k_1_7, k_7_45, by decide, by decide, by decide +kernel⟩), ⟨fun q => absurd q (by decide), fun _ => ⟨⟨k_7_43, k_7_44⟩, fun fr lo nl t q h => by
  have e : t_room.get 194 = some (1, (40, (4, (2, 41)))) := by decide +kernel
  rw [e] at h
  cases h
  exact Or.inl ⟨by decide, 9, _, rfl, by decide, rfl⟩⟩⟩⟩
theorem cl_1_389 : CallOk 4485 (199, (1, false)) := ⟨(show xM "RightsHouse" 389 Y_Le_weighAll 1 from ⟨k_7_54, k_1_8, k_7_57, by decide, by decide, by decide +kernel⟩), ⟨fun q => absurd q (by decide), fun _ => ⟨⟨k_7_55, k_7_56⟩, fun fr lo nl t q h => by
  have e : t_room.get 199 = some (4, (114, (6, (0, 52)))) := by decide +kernel
  rw [e] at h
  cases h
  exact Or.inl ⟨by decide, 4, _, rfl, by decide, rfl⟩⟩⟩⟩
theorem cl_1_393 : CallOk 4489 (198, (4, false)) := ⟨(show xM "RightsHouse" 393 Y_Le_hasRight 4 from ⟨k_7_68, k_1_8, k_7_61, by decide, by decide, by decide +kernel⟩), ⟨fun q => absurd q (by decide), fun _ => ⟨⟨k_7_59, k_7_60⟩, fun fr lo nl t q h => by
  have e : t_room.get 198 = some (3, (90, (5, (2, 52)))) := by decide +kernel
  rw [e] at h
  cases h
  exact Or.inl ⟨by decide, 4, _, rfl, by decide, rfl⟩⟩⟩⟩
theorem cl_1_399 : CallOk 4495 (200, (7, false)) := ⟨(show xM "RightsHouse" 399 Y_Le_add 7 from ⟨k_7_69, k_1_8, k_7_72, by decide, by decide, by decide +kernel⟩), ⟨fun q => absurd q (by decide), fun _ => ⟨⟨k_7_70, k_7_71⟩, fun fr lo nl t q h => by
  have e : t_room.get 200 = some (1, (40, (9, (1, 52)))) := by decide +kernel
  rw [e] at h
  cases h
  exact Or.inl ⟨by decide, 4, _, rfl, by decide, rfl⟩⟩⟩⟩
theorem cl_1_405 : CallOk 4501 (203, (3, false)) := ⟨(show xM "RightsHouse" 405 Y_Le_keepChain 3 from ⟨k_7_81, k_1_8, k_7_84, by decide, by decide, by decide +kernel⟩), ⟨fun q => absurd q (by decide), fun _ => ⟨⟨k_7_82, k_7_83⟩, fun fr lo nl t q h => by
  have e : t_room.get 203 = some (4, (114, (10, (2, 52)))) := by decide +kernel
  rw [e] at h
  cases h
  exact Or.inl ⟨by decide, 4, _, rfl, by decide, rfl⟩⟩⟩⟩
theorem cl_1_414 : CallOk 4510 (206, (0, false)) := ⟨(show xM "RightsHouse" 414 Y_Le_spendChain 0 from ⟨k_7_93, k_1_8, k_7_96, by decide, by decide, by decide +kernel⟩), ⟨fun q => absurd q (by decide), fun _ => ⟨⟨k_7_94, k_7_95⟩, fun fr lo nl t q h => by
  have e : t_room.get 206 = some (1, (40, (3, (0, 52)))) := by decide +kernel
  rw [e] at h
  cases h
  exact Or.inl ⟨by decide, 4, _, rfl, by decide, rfl⟩⟩⟩⟩
theorem cl_1_417 : CallOk 4513 (209, (1, true)) := ⟨(show xM "RightsHouse" 417 Y_H_isHolder 1 from ⟨k_7_105, k_1_1, k_7_107, by decide, by decide, by decide +kernel⟩), ⟨fun _ => k_7_106, fun q => absurd q (by decide)⟩⟩
theorem cl_1_420 : CallOk 4516 (210, (3, false)) := ⟨(show xM "RightsHouse" 420 Y_Le_setKey 3 from ⟨k_7_108, k_1_8, k_7_111, by decide, by decide, by decide +kernel⟩), ⟨fun q => absurd q (by decide), fun _ => ⟨⟨k_7_109, k_7_110⟩, fun fr lo nl t q h => by
  have e : t_room.get 210 = some (1, (40, (5, (1, 52)))) := by decide +kernel
  rw [e] at h
  cases h
  exact Or.inl ⟨by decide, 4, _, rfl, by decide, rfl⟩⟩⟩⟩
theorem cl_1_423 : CallOk 4519 (215, (3, false)) := ⟨(show xM "RightsHouse" 423 Y_Le_gainsUntil 3 from ⟨k_7_116, k_1_8, k_7_119, by decide, by decide, by decide +kernel⟩), ⟨fun q => absurd q (by decide), fun _ => ⟨⟨k_7_117, k_7_118⟩, fun fr lo nl t q h => by
  have e : t_room.get 215 = some (4, (109, (8, (1, 52)))) := by decide +kernel
  rw [e] at h
  cases h
  exact Or.inl ⟨by decide, 4, _, rfl, by decide, rfl⟩⟩⟩⟩
theorem cl_1_426 : CallOk 4522 (214, (0, false)) := ⟨(show xM "RightsHouse" 426 Y_Le_countGains 0 from ⟨k_7_136, k_1_8, k_7_123, by decide, by decide, by decide +kernel⟩), ⟨fun q => absurd q (by decide), fun _ => ⟨⟨k_7_121, k_7_122⟩, fun fr lo nl t q h => by
  have e : t_room.get 214 = some (3, (87, (3, (1, 52)))) := by decide +kernel
  rw [e] at h
  cases h
  exact Or.inl ⟨by decide, 4, _, rfl, by decide, rfl⟩⟩⟩⟩
theorem cl_1_436 : CallOk 4532 (220, (4, true)) := ⟨(show xM "RightsHouse" 436 Y_Fl_isStatement 4 from ⟨k_7_145, k_1_9, k_7_147, by decide, by decide, by decide +kernel⟩), ⟨fun _ => k_7_146, fun q => absurd q (by decide)⟩⟩
theorem cl_1_439 : CallOk 4535 (223, (2, false)) := ⟨(show xM "RightsHouse" 439 Y_Fl_reachesOut 2 from ⟨k_7_151, k_1_9, k_7_154, by decide, by decide, by decide +kernel⟩), ⟨fun q => absurd q (by decide), fun _ => ⟨⟨k_7_152, k_7_153⟩, fun fr lo nl t q h => by
  have e : t_room.get 223 = some (3, (82, (5, (2, 59)))) := by decide +kernel
  rw [e] at h
  cases h
  exact Or.inl ⟨by decide, 0, _, rfl, by decide, rfl⟩⟩⟩⟩
theorem cl_1_445 : CallOk 4541 (224, (4, false)) := ⟨(show xM "RightsHouse" 445 Y_Fl_addStatement 4 from ⟨k_7_162, k_1_9, k_7_165, by decide, by decide, by decide +kernel⟩), ⟨fun q => absurd q (by decide), fun _ => ⟨⟨k_7_163, k_7_164⟩, fun fr lo nl t q h => by
  have e : t_room.get 224 = some (1, (40, (5, (1, 59)))) := by decide +kernel
  rw [e] at h
  cases h
  exact Or.inl ⟨by decide, 0, _, rfl, by decide, rfl⟩⟩⟩⟩
theorem cl_1_448 : CallOk 4544 (229, (0, false)) := ⟨(show xM "RightsHouse" 448 Y_Fl_firstLoose 0 from ⟨k_7_174, k_1_9, k_7_177, by decide, by decide, by decide +kernel⟩), ⟨fun q => absurd q (by decide), fun _ => ⟨⟨k_7_175, k_7_176⟩, fun fr lo nl t q h => by
  have e : t_room.get 229 = some (4, (105, (2, (1, 59)))) := by decide +kernel
  rw [e] at h
  cases h
  exact Or.inl ⟨by decide, 0, _, rfl, by decide, rfl⟩⟩⟩⟩
theorem cl_1_451 : CallOk 4547 (231, (0, false)) := ⟨(show xM "RightsHouse" 451 Y_Fl_countLowers 0 from ⟨k_7_189, k_1_9, k_7_192, by decide, by decide, by decide +kernel⟩), ⟨fun q => absurd q (by decide), fun _ => ⟨⟨k_7_190, k_7_191⟩, fun fr lo nl t q h => by
  have e : t_room.get 231 = some (1, (40, (3, (1, 59)))) := by decide +kernel
  rw [e] at h
  cases h
  exact Or.inl ⟨by decide, 0, _, rfl, by decide, rfl⟩⟩⟩⟩
theorem cl_1_457 : CallOk 4553 (238, (1, false)) := ⟨(show xM "RightsHouse" 457 Y_Fl_run 1 from ⟨k_7_201, k_1_9, k_7_204, by decide, by decide, by decide +kernel⟩), ⟨fun q => absurd q (by decide), fun _ => ⟨⟨k_7_202, k_7_203⟩, fun fr lo nl t q h => by
  have e : t_room.get 238 = some (3, (83, (4, (1, 59)))) := by decide +kernel
  rw [e] at h
  cases h
  exact Or.inl ⟨by decide, 0, _, rfl, by decide, rfl⟩⟩⟩⟩
theorem cl_1_472 : CallOk 4568 (242, (1, true)) := ⟨(show xM "RightsHouse" 472 Y_H_isAsker 1 from ⟨k_7_237, k_1_1, k_7_239, by decide, by decide, by decide +kernel⟩), ⟨fun _ => k_7_238, fun q => absurd q (by decide)⟩⟩
theorem cl_1_475 : CallOk 4571 (244, (2, false)) := ⟨(show xM "RightsHouse" 475 Y_Gu_wasTold 2 from ⟨k_8_0, k_1_10, k_8_3, by decide, by decide, by decide +kernel⟩), ⟨fun q => absurd q (by decide), fun _ => ⟨⟨k_8_1, k_8_2⟩, fun fr lo nl t q h => by
  have e : t_room.get 244 = some (1, (40, (4, (2, 70)))) := by decide +kernel
  rw [e] at h
  cases h
  exact Or.inl ⟨by decide, 2, _, rfl, by decide, rfl⟩⟩⟩⟩
theorem cl_1_478 : CallOk 4574 (245, (1, false)) := ⟨(show xM "RightsHouse" 478 Y_Gu_total 1 from ⟨k_8_4, k_1_10, k_8_7, by decide, by decide, by decide +kernel⟩), ⟨fun q => absurd q (by decide), fun _ => ⟨⟨k_8_5, k_8_6⟩, fun fr lo nl t q h => by
  have e : t_room.get 245 = some (1, (40, (5, (3, 70)))) := by decide +kernel
  rw [e] at h
  cases h
  exact Or.inl ⟨by decide, 2, _, rfl, by decide, rfl⟩⟩⟩⟩
theorem cl_1_490 : CallOk 4586 (249, (2, false)) := ⟨(show xM "RightsHouse" 490 Y_Gu_wouldReveal 2 from ⟨k_8_9, k_1_10, k_8_12, by decide, by decide, by decide +kernel⟩), ⟨fun q => absurd q (by decide), fun _ => ⟨⟨k_8_10, k_8_11⟩, fun fr lo nl t q h => by
  have e : t_room.get 249 = some (4, (115, (6, (2, 70)))) := by decide +kernel
  rw [e] at h
  cases h
  exact Or.inl ⟨by decide, 2, _, rfl, by decide, rfl⟩⟩⟩⟩
theorem cl_1_495 : CallOk 4591 (250, (2, false)) := ⟨(show xM "RightsHouse" 495 Y_Gu_tell 2 from ⟨k_8_26, k_1_10, k_8_29, by decide, by decide, by decide +kernel⟩), ⟨fun q => absurd q (by decide), fun _ => ⟨⟨k_8_27, k_8_28⟩, fun fr lo nl t q h => by
  have e : t_room.get 250 = some (1, (40, (3, (0, 70)))) := by decide +kernel
  rw [e] at h
  cases h
  exact Or.inl ⟨by decide, 2, _, rfl, by decide, rfl⟩⟩⟩⟩
theorem cl_1_498 : CallOk 4594 (252, (1, false)) := ⟨(show xM "RightsHouse" 498 Y_Gu_join 1 from ⟨k_8_34, k_1_10, k_8_37, by decide, by decide, by decide +kernel⟩), ⟨fun q => absurd q (by decide), fun _ => ⟨⟨k_8_35, k_8_36⟩, fun fr lo nl t q h => by
  have e : t_room.get 252 = some (1, (40, (3, (0, 70)))) := by decide +kernel
  rw [e] at h
  cases h
  exact Or.inl ⟨by decide, 2, _, rfl, by decide, rfl⟩⟩⟩⟩
theorem cl_1_501 : CallOk 4597 (255, (1, false)) := ⟨(show xM "RightsHouse" 501 Y_Gu_countSets 1 from ⟨k_8_42, k_1_10, k_8_45, by decide, by decide, by decide +kernel⟩), ⟨fun q => absurd q (by decide), fun _ => ⟨⟨k_8_43, k_8_44⟩, fun fr lo nl t q h => by
  have e : t_room.get 255 = some (3, (86, (6, (1, 70)))) := by decide +kernel
  rw [e] at h
  cases h
  exact Or.inl ⟨by decide, 2, _, rfl, by decide, rfl⟩⟩⟩⟩
theorem cl_1_504 : CallOk 4600 (248, (1, false)) := ⟨(show xM "RightsHouse" 504 Y_Gu_rankOf 1 from ⟨k_8_51, k_1_10, k_8_16, by decide, by decide, by decide +kernel⟩), ⟨fun q => absurd q (by decide), fun _ => ⟨⟨k_8_14, k_8_15⟩, fun fr lo nl t q h => by
  have e : t_room.get 248 = some (3, (92, (4, (1, 70)))) := by decide +kernel
  rw [e] at h
  cases h
  exact Or.inl ⟨by decide, 2, _, rfl, by decide, rfl⟩⟩⟩⟩
theorem cl_1_507 : CallOk 4603 (257, (1, true)) := ⟨(show xM "RightsHouse" 507 Y_Ga_areRights 1 from ⟨k_8_56, k_1_11, k_8_58, by decide, by decide, by decide +kernel⟩), ⟨fun _ => k_8_57, fun q => absurd q (by decide)⟩⟩
theorem cl_1_513 : CallOk 4609 (258, (1, false)) := ⟨(show xM "RightsHouse" 513 Y_Ga_addRoom 1 from ⟨k_8_60, k_1_11, k_8_63, by decide, by decide, by decide +kernel⟩), ⟨fun q => absurd q (by decide), fun _ => ⟨⟨k_8_61, k_8_62⟩, fun fr lo nl t q h => by
  have e : t_room.get 258 = some (1, (40, (2, (1, 98)))) := by decide +kernel
  rw [e] at h
  cases h
  exact Or.inl ⟨by decide, 1, _, rfl, by decide, rfl⟩⟩⟩⟩
theorem cl_1_519 : CallOk 4615 (260, (1, false)) := ⟨(show xM "RightsHouse" 519 Y_Ga_addMethod 1 from ⟨k_8_68, k_1_11, k_8_71, by decide, by decide, by decide +kernel⟩), ⟨fun q => absurd q (by decide), fun _ => ⟨⟨k_8_69, k_8_70⟩, fun fr lo nl t q h => by
  have e : t_room.get 260 = some (1, (40, (2, (1, 98)))) := by decide +kernel
  rw [e] at h
  cases h
  exact Or.inl ⟨by decide, 1, _, rfl, by decide, rfl⟩⟩⟩⟩
theorem cl_1_522 : CallOk 4618 (262, (3, true)) := ⟨(show xM "RightsHouse" 522 Y_Ga_isOp 3 from ⟨k_8_76, k_1_11, k_8_78, by decide, by decide, by decide +kernel⟩), ⟨fun _ => k_8_77, fun q => absurd q (by decide)⟩⟩
theorem cl_1_528 : CallOk 4624 (263, (4, false)) := ⟨(show xM "RightsHouse" 528 Y_Ga_addOp 4 from ⟨k_8_80, k_1_11, k_8_83, by decide, by decide, by decide +kernel⟩), ⟨fun q => absurd q (by decide), fun _ => ⟨⟨k_8_81, k_8_82⟩, fun fr lo nl t q h => by
  have e : t_room.get 263 = some (1, (40, (6, (1, 98)))) := by decide +kernel
  rw [e] at h
  cases h
  exact Or.inl ⟨by decide, 1, _, rfl, by decide, rfl⟩⟩⟩⟩
theorem cl_1_531 : CallOk 4627 (271, (2, false)) := ⟨(show xM "RightsHouse" 531 Y_Ga_run 2 from ⟨k_8_88, k_1_11, k_8_91, by decide, by decide, by decide +kernel⟩), ⟨fun q => absurd q (by decide), fun _ => ⟨⟨k_8_89, k_8_90⟩, fun fr lo nl t q h => by
  have e : t_room.get 271 = some (4, (113, (5, (1, 98)))) := by decide +kernel
  rw [e] at h
  cases h
  exact Or.inl ⟨by decide, 1, _, rfl, by decide, rfl⟩⟩⟩⟩
theorem cl_1_537 : CallOk 4633 (274, (1, false)) := ⟨(show xM "RightsHouse" 537 Y_H_tapeNumber 1 from ⟨k_8_125, k_1_1, k_8_128, by decide, by decide, by decide +kernel⟩), ⟨fun q => absurd q (by decide), fun _ => ⟨⟨k_8_127, (tb_s (q := (⟨"RightsHouse", "tapeNumber", "(I)J"⟩, 18)) (by decide +kernel))⟩, fun fr lo nl t q h => by
  have e : t_room.get 274 = some (1, (40, (5, (3, 0)))) := by decide +kernel
  rw [e] at h
  cases h
  exact Or.inl ⟨by decide, 10, _, rfl, by decide, rfl⟩⟩⟩⟩
theorem cl_1_542 : CallOk 4638 (276, (0, false)) := ⟨(show xM "RightsHouse" 542 Y_H_areHalves 0 from ⟨k_8_134, k_1_1, k_8_137, by decide, by decide, by decide +kernel⟩), ⟨fun q => absurd q (by decide), fun _ => ⟨⟨k_8_136, (tb_s (q := (⟨"RightsHouse", "areHalves", "()Z"⟩, 18)) (by decide +kernel))⟩, fun fr lo nl t q h => by
  have e : t_room.get 276 = some (2, (64, (5, (2, 0)))) := by decide +kernel
  rw [e] at h
  cases h
  exact Or.inl ⟨by decide, 10, _, rfl, by decide, rfl⟩⟩⟩⟩
theorem cl_1_546 : CallOk 4642 (278, (1, false)) := ⟨(show xM "RightsHouse" 546 Y_H_weightOf 1 from ⟨k_8_139, k_1_1, k_8_142, by decide, by decide, by decide +kernel⟩), ⟨fun q => absurd q (by decide), fun _ => ⟨⟨k_8_141, (tb_s (q := (⟨"RightsHouse", "weightOf", "(I)J"⟩, 18)) (by decide +kernel))⟩, fun fr lo nl t q h => by
  have e : t_room.get 278 = some (2, (67, (11, (3, 0)))) := by decide +kernel
  rw [e] at h
  cases h
  exact Or.inl ⟨by decide, 10, _, rfl, by decide, rfl⟩⟩⟩⟩
theorem cl_1_551 : CallOk 4647 (277, (1, true)) := ⟨(show xM "RightsHouse" 551 Y_H_inverse 1 from ⟨k_8_143, k_1_1, k_8_145, by decide, by decide, by decide +kernel⟩), ⟨fun _ => k_8_144, fun q => absurd q (by decide)⟩⟩
theorem cl_1_559 : CallOk 4655 (109, (1, false)) := ⟨(show xM "RightsHouse" 559 Y_H_sumAhead 1 from ⟨k_5_159, k_1_1, k_5_162, by decide, by decide, by decide +kernel⟩), ⟨fun q => absurd q (by decide), fun _ => ⟨⟨k_5_161, (tb_s (q := (⟨"RightsHouse", "sumAhead", "(I)I"⟩, 18)) (by decide +kernel))⟩, fun fr lo nl t q h => by
  have e : t_room.get 109 = some (1, (40, (2, (1, 0)))) := by decide +kernel
  rw [e] at h
  cases h
  exact Or.inl ⟨by decide, 10, _, rfl, by decide, rfl⟩⟩⟩⟩
theorem cl_1_562 : CallOk 4658 (110, (2, false)) := ⟨(show xM "RightsHouse" 562 Y_H_sumBehind 2 from ⟨k_5_163, k_1_1, k_5_166, by decide, by decide, by decide +kernel⟩), ⟨fun q => absurd q (by decide), fun _ => ⟨⟨k_5_165, (tb_s (q := (⟨"RightsHouse", "sumBehind", "(II)I"⟩, 18)) (by decide +kernel))⟩, fun fr lo nl t q h => by
  have e : t_room.get 110 = some (1, (40, (5, (1, 0)))) := by decide +kernel
  rw [e] at h
  cases h
  exact Or.inl ⟨by decide, 10, _, rfl, by decide, rfl⟩⟩⟩⟩
theorem cl_2_42 : CallOk 8234 (219, (1, true)) := ⟨(show xM "RightsHouse$Flows" 42 Y_Fl_isVariable 1 from ⟨k_7_148, k_1_9, k_7_150, by decide, by decide, by decide +kernel⟩), ⟨fun _ => k_7_149, fun q => absurd q (by decide)⟩⟩
theorem cl_2_46 : CallOk 8238 (221, (1, true)) := ⟨(show xM "RightsHouse$Flows" 46 Y_Fl_isBlock 1 from ⟨k_7_155, k_1_9, k_7_157, by decide, by decide, by decide +kernel⟩), ⟨fun _ => k_7_156, fun q => absurd q (by decide)⟩⟩
theorem cl_2_53 : CallOk 8245 (222, (2, false)) := ⟨(show xM "RightsHouse$Flows" 53 Y_Fl_isWithin 2 from ⟨k_7_158, k_1_9, k_7_161, by decide, by decide, by decide +kernel⟩), ⟨fun q => absurd q (by decide), fun _ => ⟨⟨k_7_160, (tb_s (q := (⟨"RightsHouse$Flows", "isWithin", "(II)Z"⟩, 12)) (by decide +kernel))⟩, fun fr lo nl t q h => by
  have e : t_room.get 222 = some (2, (60, (3, (2, 59)))) := by decide +kernel
  rw [e] at h
  cases h
  exact Or.inl ⟨by decide, 0, _, rfl, by decide, rfl⟩⟩⟩⟩
theorem cl_2_57 : CallOk 8249 (228, (1, false)) := ⟨(show xM "RightsHouse$Flows" 57 Y_Fl_isTight 1 from ⟨k_7_178, k_1_9, k_7_181, by decide, by decide, by decide +kernel⟩), ⟨fun q => absurd q (by decide), fun _ => ⟨⟨k_7_180, (tb_s (q := (⟨"RightsHouse$Flows", "isTight", "(I)Z"⟩, 12)) (by decide +kernel))⟩, fun fr lo nl t q h => by
  have e : t_room.get 228 = some (3, (82, (4, (2, 59)))) := by decide +kernel
  rw [e] at h
  cases h
  exact Or.inl ⟨by decide, 0, _, rfl, by decide, rfl⟩⟩⟩⟩
theorem cl_2_60 : CallOk 8252 (227, (2, true)) := ⟨(show xM "RightsHouse$Flows" 60 Y_Fl_doesFlow 2 from ⟨k_7_182, k_1_9, k_7_184, by decide, by decide, by decide +kernel⟩), ⟨fun _ => k_7_183, fun q => absurd q (by decide)⟩⟩
theorem cl_2_66 : CallOk 8258 (234, (1, false)) := ⟨(show xM "RightsHouse$Flows" 66 Y_Fl_behindBlock 1 from ⟨k_7_205, k_1_9, k_7_208, by decide, by decide, by decide +kernel⟩), ⟨fun q => absurd q (by decide), fun _ => ⟨⟨k_7_207, (tb_s (q := (⟨"RightsHouse$Flows", "behindBlock", "(I)I"⟩, 12)) (by decide +kernel))⟩, fun fr lo nl t q h => by
  have e : t_room.get 234 = some (1, (40, (3, (1, 59)))) := by decide +kernel
  rw [e] at h
  cases h
  exact Or.inl ⟨by decide, 0, _, rfl, by decide, rfl⟩⟩⟩⟩
theorem cl_2_70 : CallOk 8262 (237, (1, false)) := ⟨(show xM "RightsHouse$Flows" 70 Y_Fl_runOne 1 from ⟨k_7_209, k_1_9, k_7_212, by decide, by decide, by decide +kernel⟩), ⟨fun q => absurd q (by decide), fun _ => ⟨⟨k_7_211, (tb_s (q := (⟨"RightsHouse$Flows", "runOne", "(I)I"⟩, 12)) (by decide +kernel))⟩, fun fr lo nl t q h => by
  have e : t_room.get 237 = some (2, (62, (2, (1, 59)))) := by decide +kernel
  rw [e] at h
  cases h
  exact Or.inl ⟨by decide, 0, _, rfl, by decide, rfl⟩⟩⟩⟩
theorem cl_2_73 : CallOk 8265 (235, (2, false)) := ⟨(show xM "RightsHouse$Flows" 73 Y_Fl_sayOn 2 from ⟨k_7_213, k_1_9, k_7_216, by decide, by decide, by decide +kernel⟩), ⟨fun q => absurd q (by decide), fun _ => ⟨⟨k_7_215, (tb_s (q := (⟨"RightsHouse$Flows", "sayOn", "(II)V"⟩, 12)) (by decide +kernel))⟩, fun fr lo nl t q h => by
  have e : t_room.get 235 = some (1, (40, (3, (0, 59)))) := by decide +kernel
  rw [e] at h
  cases h
  exact Or.inl ⟨by decide, 0, _, rfl, by decide, rfl⟩⟩⟩⟩
theorem cl_2_77 : CallOk 8269 (236, (1, false)) := ⟨(show xM "RightsHouse$Flows" 77 Y_Fl_runBlock 1 from ⟨k_7_217, k_1_9, k_7_220, by decide, by decide, by decide +kernel⟩), ⟨fun q => absurd q (by decide), fun _ => ⟨⟨k_7_219, (tb_s (q := (⟨"RightsHouse$Flows", "runBlock", "(I)I"⟩, 12)) (by decide +kernel))⟩, fun fr lo nl t q h => by
  have e : t_room.get 236 = some (1, (40, (2, (1, 59)))) := by decide +kernel
  rw [e] at h
  cases h
  exact Or.inl ⟨by decide, 0, _, rfl, by decide, rfl⟩⟩⟩⟩
theorem cl_3_46 : CallOk 12334 (257, (1, true)) := ⟨(show xM "RightsHouse$Gates" 46 Y_Ga_areRights 1 from ⟨k_8_79, k_1_11, k_8_58, by decide, by decide, by decide +kernel⟩), ⟨fun _ => k_8_57, fun q => absurd q (by decide)⟩⟩
theorem cl_3_60 : CallOk 12348 (265, (3, false)) := ⟨(show xM "RightsHouse$Gates" 60 Y_Ga_push 3 from ⟨k_8_92, k_1_11, k_8_95, by decide, by decide, by decide +kernel⟩), ⟨fun q => absurd q (by decide), fun _ => ⟨⟨k_8_94, (tb_s (q := (⟨"RightsHouse$Gates", "push", "(III)V"⟩, 14)) (by decide +kernel))⟩, fun fr lo nl t q h => by
  have e : t_room.get 265 = some (1, (40, (4, (0, 98)))) := by decide +kernel
  rw [e] at h
  cases h
  exact Or.inl ⟨by decide, 1, _, rfl, by decide, rfl⟩⟩⟩⟩
theorem cl_3_64 : CallOk 12352 (270, (1, false)) := ⟨(show xM "RightsHouse$Gates" 64 Y_Ga_goOn 1 from ⟨k_8_96, k_1_11, k_8_99, by decide, by decide, by decide +kernel⟩), ⟨fun q => absurd q (by decide), fun _ => ⟨⟨k_8_98, (tb_s (q := (⟨"RightsHouse$Gates", "goOn", "(I)I"⟩, 14)) (by decide +kernel))⟩, fun fr lo nl t q h => by
  have e : t_room.get 270 = some (3, (87, (7, (1, 98)))) := by decide +kernel
  rw [e] at h
  cases h
  exact Or.inl ⟨by decide, 1, _, rfl, by decide, rfl⟩⟩⟩⟩
theorem cl_3_68 : CallOk 12356 (267, (1, false)) := ⟨(show xM "RightsHouse$Gates" 68 Y_Ga_lackingOf 1 from ⟨k_8_100, k_1_11, k_8_103, by decide, by decide, by decide +kernel⟩), ⟨fun q => absurd q (by decide), fun _ => ⟨⟨k_8_102, (tb_s (q := (⟨"RightsHouse$Gates", "lackingOf", "(I)I"⟩, 14)) (by decide +kernel))⟩, fun fr lo nl t q h => by
  have e : t_room.get 267 = some (2, (62, (5, (1, 98)))) := by decide +kernel
  rw [e] at h
  cases h
  exact Or.inl ⟨by decide, 1, _, rfl, by decide, rfl⟩⟩⟩⟩
theorem cl_3_71 : CallOk 12359 (268, (3, false)) := ⟨(show xM "RightsHouse$Gates" 71 Y_Ga_throwOut 3 from ⟨k_8_108, k_1_11, k_8_111, by decide, by decide, by decide +kernel⟩), ⟨fun q => absurd q (by decide), fun _ => ⟨⟨k_8_110, (tb_s (q := (⟨"RightsHouse$Gates", "throwOut", "(IIZ)I"⟩, 14)) (by decide +kernel))⟩, fun fr lo nl t q h => by
  have e : t_room.get 268 = some (1, (40, (7, (1, 98)))) := by decide +kernel
  rw [e] at h
  cases h
  exact Or.inl ⟨by decide, 1, _, rfl, by decide, rfl⟩⟩⟩⟩
theorem cl_3_75 : CallOk 12363 (269, (1, false)) := ⟨(show xM "RightsHouse$Gates" 75 Y_Ga_callBy 1 from ⟨k_8_112, k_1_11, k_8_115, by decide, by decide, by decide +kernel⟩), ⟨fun q => absurd q (by decide), fun _ => ⟨⟨k_8_114, (tb_s (q := (⟨"RightsHouse$Gates", "callBy", "(I)I"⟩, 14)) (by decide +kernel))⟩, fun fr lo nl t q h => by
  have e : t_room.get 269 = some (2, (66, (2, (1, 98)))) := by decide +kernel
  rw [e] at h
  cases h
  exact Or.inl ⟨by decide, 1, _, rfl, by decide, rfl⟩⟩⟩⟩
theorem cl_3_78 : CallOk 12366 (266, (2, false)) := ⟨(show xM "RightsHouse$Gates" 78 Y_Ga_lackingIn 2 from ⟨k_8_104, k_1_11, k_8_107, by decide, by decide, by decide +kernel⟩), ⟨fun q => absurd q (by decide), fun _ => ⟨⟨k_8_106, (tb_s (q := (⟨"RightsHouse$Gates", "lackingIn", "(II)I"⟩, 14)) (by decide +kernel))⟩, fun fr lo nl t q h => by
  have e : t_room.get 266 = some (1, (40, (3, (1, 98)))) := by decide +kernel
  rw [e] at h
  cases h
  exact Or.inl ⟨by decide, 1, _, rfl, by decide, rfl⟩⟩⟩⟩
theorem cl_4_38 : CallOk 16422 (254, (2, false)) := ⟨(show xM "RightsHouse$Guard" 38 Y_Gu_wasToldToAny 2 from ⟨k_8_46, k_1_10, k_8_49, by decide, by decide, by decide +kernel⟩), ⟨fun q => absurd q (by decide), fun _ => ⟨⟨k_8_48, (tb_s (q := (⟨"RightsHouse$Guard", "wasToldToAny", "(II)Z"⟩, 9)) (by decide +kernel))⟩, fun fr lo nl t q h => by
  have e : t_room.get 254 = some (2, (63, (4, (2, 70)))) := by decide +kernel
  rw [e] at h
  cases h
  exact Or.inl ⟨by decide, 2, _, rfl, by decide, rfl⟩⟩⟩⟩
theorem cl_4_42 : CallOk 16426 (244, (2, false)) := ⟨(show xM "RightsHouse$Guard" 42 Y_Gu_wasTold 2 from ⟨k_8_50, k_1_10, k_8_3, by decide, by decide, by decide +kernel⟩), ⟨fun q => absurd q (by decide), fun _ => ⟨⟨k_8_1, k_8_2⟩, fun fr lo nl t q h => by
  have e : t_room.get 244 = some (1, (40, (4, (2, 70)))) := by decide +kernel
  rw [e] at h
  cases h
  exact Or.inl ⟨by decide, 2, _, rfl, by decide, rfl⟩⟩⟩⟩
theorem cl_4_53 : CallOk 16437 (247, (1, false)) := ⟨(show xM "RightsHouse$Guard" 53 Y_Gu_addRow 1 from ⟨k_8_17, k_1_10, k_8_20, by decide, by decide, by decide +kernel⟩), ⟨fun q => absurd q (by decide), fun _ => ⟨⟨k_8_19, (tb_s (q := (⟨"RightsHouse$Guard", "addRow", "(I)V"⟩, 9)) (by decide +kernel))⟩, fun fr lo nl t q h => by
  have e : t_room.get 247 = some (2, (66, (7, (0, 70)))) := by decide +kernel
  rw [e] at h
  cases h
  exact Or.inl ⟨by decide, 2, _, rfl, by decide, rfl⟩⟩⟩⟩
theorem cl_4_57 : CallOk 16441 (248, (1, false)) := ⟨(show xM "RightsHouse$Guard" 57 Y_Gu_rankOf 1 from ⟨k_8_13, k_1_10, k_8_16, by decide, by decide, by decide +kernel⟩), ⟨fun q => absurd q (by decide), fun _ => ⟨⟨k_8_14, k_8_15⟩, fun fr lo nl t q h => by
  have e : t_room.get 248 = some (3, (92, (4, (1, 70)))) := by decide +kernel
  rw [e] at h
  cases h
  exact Or.inl ⟨by decide, 2, _, rfl, by decide, rfl⟩⟩⟩⟩
theorem cl_4_61 : CallOk 16445 (246, (1, false)) := ⟨(show xM "RightsHouse$Guard" 61 Y_Gu_reduce 1 from ⟨k_8_21, k_1_10, k_8_24, by decide, by decide, by decide +kernel⟩), ⟨fun q => absurd q (by decide), fun _ => ⟨⟨k_8_23, (tb_s (q := (⟨"RightsHouse$Guard", "reduce", "(I)I"⟩, 9)) (by decide +kernel))⟩, fun fr lo nl t q h => by
  have e : t_room.get 246 = some (1, (40, (7, (1, 70)))) := by decide +kernel
  rw [e] at h
  cases h
  exact Or.inl ⟨by decide, 2, _, rfl, by decide, rfl⟩⟩⟩⟩
theorem cl_5_57 : CallOk 20537 (143, (3, false)) := ⟨(show xM "RightsHouse$Judge" 57 Y_Ju_answer 3 from ⟨k_5_193, k_1_5, k_5_196, by decide, by decide, by decide +kernel⟩), ⟨fun q => absurd q (by decide), fun _ => ⟨⟨k_5_195, (tb_s (q := (⟨"RightsHouse$Judge", "answer", "(III)I"⟩, 20)) (by decide +kernel))⟩, fun fr lo nl t q h => by
  have e : t_room.get 143 = some (24, (704, (11, (1, 27)))) := by decide +kernel
  rw [e] at h
  cases h
  exact Or.inl ⟨by decide, 3, _, rfl, by decide, rfl⟩⟩⟩⟩
theorem cl_5_79 : CallOk 20559 (77, (2, true)) := ⟨(show xM "RightsHouse$Judge" 79 Y_Po_ruleAt 2 from ⟨k_5_197, k_1_4, k_5_0, by decide, by decide, by decide +kernel⟩), ⟨fun _ => k_4_239, fun q => absurd q (by decide)⟩⟩
theorem cl_5_83 : CallOk 20563 (141, (2, false)) := ⟨(show xM "RightsHouse$Judge" 83 Y_Ju_spoken 2 from ⟨k_5_198, k_1_5, k_5_201, by decide, by decide, by decide +kernel⟩), ⟨fun q => absurd q (by decide), fun _ => ⟨⟨k_5_200, (tb_s (q := (⟨"RightsHouse$Judge", "spoken", "(II)I"⟩, 20)) (by decide +kernel))⟩, fun fr lo nl t q h => by
  have e : t_room.get 141 = some (23, (680, (5, (1, 27)))) := by decide +kernel
  rw [e] at h
  cases h
  exact Or.inl ⟨by decide, 3, _, rfl, by decide, rfl⟩⟩⟩⟩
theorem cl_5_89 : CallOk 20569 (142, (3, false)) := ⟨(show xM "RightsHouse$Judge" 89 Y_Ju_weightOf 3 from ⟨k_6_65, k_1_5, k_6_68, by decide, by decide, by decide +kernel⟩), ⟨fun q => absurd q (by decide), fun _ => ⟨⟨k_6_67, (tb_s (q := (⟨"RightsHouse$Judge", "weightOf", "(III)I"⟩, 20)) (by decide +kernel))⟩, fun fr lo nl t q h => by
  have e : t_room.get 142 = some (2, (64, (6, (1, 27)))) := by decide +kernel
  rw [e] at h
  cases h
  exact Or.inl ⟨by decide, 3, _, rfl, by decide, rfl⟩⟩⟩⟩
theorem cl_5_98 : CallOk 20578 (43, (1, false)) := ⟨(show xM "RightsHouse$Judge" 98 Y_Th_depthOf 1 from ⟨k_6_69, k_1_3, k_4_53, by decide, by decide, by decide +kernel⟩), ⟨fun q => absurd q (by decide), fun _ => ⟨⟨k_4_51, k_4_52⟩, fun fr lo nl t q h => by
  have e : t_room.get 43 = some (1, (40, (5, (1, 10)))) := by decide +kernel
  rw [e] at h
  cases h
  exact Or.inl ⟨by decide, 7, _, rfl, by decide, rfl⟩⟩⟩⟩
theorem cl_5_107 : CallOk 20587 (117, (1, false)) := ⟨(show xM "RightsHouse$Judge" 107 Y_Ju_fitsWho 1 from ⟨k_5_202, k_1_5, k_5_205, by decide, by decide, by decide +kernel⟩), ⟨fun q => absurd q (by decide), fun _ => ⟨⟨k_5_204, (tb_s (q := (⟨"RightsHouse$Judge", "fitsWho", "(I)Z"⟩, 20)) (by decide +kernel))⟩, fun fr lo nl t q h => by
  have e : t_room.get 117 = some (1, (40, (3, (2, 27)))) := by decide +kernel
  rw [e] at h
  cases h
  exact Or.inl ⟨by decide, 3, _, rfl, by decide, rfl⟩⟩⟩⟩
theorem cl_5_111 : CallOk 20591 (118, (2, false)) := ⟨(show xM "RightsHouse$Judge" 111 Y_Ju_fitsAct 2 from ⟨k_5_206, k_1_5, k_5_209, by decide, by decide, by decide +kernel⟩), ⟨fun q => absurd q (by decide), fun _ => ⟨⟨k_5_208, (tb_s (q := (⟨"RightsHouse$Judge", "fitsAct", "(II)Z"⟩, 20)) (by decide +kernel))⟩, fun fr lo nl t q h => by
  have e : t_room.get 118 = some (2, (62, (5, (2, 27)))) := by decide +kernel
  rw [e] at h
  cases h
  exact Or.inl ⟨by decide, 3, _, rfl, by decide, rfl⟩⟩⟩⟩
theorem cl_5_115 : CallOk 20595 (119, (1, false)) := ⟨(show xM "RightsHouse$Judge" 115 Y_Ju_fitsThing 1 from ⟨k_5_211, k_1_5, k_5_214, by decide, by decide, by decide +kernel⟩), ⟨fun q => absurd q (by decide), fun _ => ⟨⟨k_5_213, (tb_s (q := (⟨"RightsHouse$Judge", "fitsThing", "(I)Z"⟩, 20)) (by decide +kernel))⟩, fun fr lo nl t q h => by
  have e : t_room.get 119 = some (2, (64, (3, (2, 27)))) := by decide +kernel
  rw [e] at h
  cases h
  exact Or.inl ⟨by decide, 3, _, rfl, by decide, rfl⟩⟩⟩⟩
theorem cl_5_118 : CallOk 20598 (140, (2, false)) := ⟨(show xM "RightsHouse$Judge" 118 Y_Ju_truthOf 2 from ⟨k_5_216, k_1_5, k_5_219, by decide, by decide, by decide +kernel⟩), ⟨fun q => absurd q (by decide), fun _ => ⟨⟨k_5_218, (tb_s (q := (⟨"RightsHouse$Judge", "truthOf", "(II)I"⟩, 20)) (by decide +kernel))⟩, fun fr lo nl t q h => by
  have e : t_room.get 140 = some (22, (655, (6, (1, 27)))) := by decide +kernel
  rw [e] at h
  cases h
  exact Or.inl ⟨by decide, 3, _, rfl, by decide, rfl⟩⟩⟩⟩
theorem cl_5_124 : CallOk 20604 (50, (2, false)) := ⟨(show xM "RightsHouse$Judge" 124 Y_Th_actHolds 2 from ⟨k_5_210, k_1_3, k_4_80, by decide, by decide, by decide +kernel⟩), ⟨fun q => absurd q (by decide), fun _ => ⟨⟨k_4_78, k_4_79⟩, fun fr lo nl t q h => by
  have e : t_room.get 50 = some (1, (40, (3, (2, 10)))) := by decide +kernel
  rw [e] at h
  cases h
  exact Or.inl ⟨by decide, 7, _, rfl, by decide, rfl⟩⟩⟩⟩
theorem cl_5_127 : CallOk 20607 (45, (2, false)) := ⟨(show xM "RightsHouse$Judge" 127 Y_Th_isUnder 2 from ⟨k_5_215, k_1_3, k_4_61, by decide, by decide, by decide +kernel⟩), ⟨fun q => absurd q (by decide), fun _ => ⟨⟨k_4_59, k_4_60⟩, fun fr lo nl t q h => by
  have e : t_room.get 45 = some (1, (40, (5, (2, 10)))) := by decide +kernel
  rw [e] at h
  cases h
  exact Or.inl ⟨by decide, 7, _, rfl, by decide, rfl⟩⟩⟩⟩
theorem cl_5_139 : CallOk 20619 (120, (2, false)) := ⟨(show xM "RightsHouse$Judge" 139 Y_Ju_behindSkip 2 from ⟨k_5_220, k_1_5, k_5_223, by decide, by decide, by decide +kernel⟩), ⟨fun q => absurd q (by decide), fun _ => ⟨⟨k_5_222, (tb_s (q := (⟨"RightsHouse$Judge", "behindSkip", "(II)I"⟩, 20)) (by decide +kernel))⟩, fun fr lo nl t q h => by
  have e : t_room.get 120 = some (20, (600, (5, (1, 27)))) := by decide +kernel
  rw [e] at h
  cases h
  exact Or.inl ⟨by decide, 3, _, rfl, by decide, rfl⟩⟩⟩⟩
theorem cl_5_145 : CallOk 20625 (123, (2, false)) := ⟨(show xM "RightsHouse$Judge" 145 Y_Ju_combine 2 from ⟨k_5_225, k_1_5, k_5_228, by decide, by decide, by decide +kernel⟩), ⟨fun q => absurd q (by decide), fun _ => ⟨⟨k_5_227, (tb_s (q := (⟨"RightsHouse$Judge", "combine", "(IJ)V"⟩, 20)) (by decide +kernel))⟩, fun fr lo nl t q h => by
  have e : t_room.get 123 = some (3, (84, (7, (0, 27)))) := by decide +kernel
  rw [e] at h
  cases h
  exact Or.inl ⟨by decide, 3, _, rfl, by decide, rfl⟩⟩⟩⟩
theorem cl_5_149 : CallOk 20629 (127, (2, false)) := ⟨(show xM "RightsHouse$Judge" 149 Y_Ju_load 2 from ⟨k_5_239, k_1_5, k_6_2, by decide, by decide, by decide +kernel⟩), ⟨fun q => absurd q (by decide), fun _ => ⟨⟨k_6_1, (tb_s (q := (⟨"RightsHouse$Judge", "load", "(IJ)I"⟩, 20)) (by decide +kernel))⟩, fun fr lo nl t q h => by
  have e : t_room.get 127 = some (3, (86, (5, (1, 27)))) := by decide +kernel
  rw [e] at h
  cases h
  exact Or.inl ⟨by decide, 3, _, rfl, by decide, rfl⟩⟩⟩⟩
theorem cl_5_153 : CallOk 20633 (133, (1, false)) := ⟨(show xM "RightsHouse$Judge" 153 Y_Ju_calculate 1 from ⟨k_6_15, k_1_5, k_6_18, by decide, by decide, by decide +kernel⟩), ⟨fun q => absurd q (by decide), fun _ => ⟨⟨k_6_17, (tb_s (q := (⟨"RightsHouse$Judge", "calculate", "(I)I"⟩, 20)) (by decide +kernel))⟩, fun fr lo nl t q h => by
  have e : t_room.get 133 = some (3, (116, (6, (1, 27)))) := by decide +kernel
  rw [e] at h
  cases h
  exact Or.inl ⟨by decide, 3, _, rfl, by decide, rfl⟩⟩⟩⟩
theorem cl_5_156 : CallOk 20636 (138, (2, false)) := ⟨(show xM "RightsHouse$Judge" 156 Y_Ju_weigh 2 from ⟨k_6_39, k_1_5, k_6_42, by decide, by decide, by decide +kernel⟩), ⟨fun q => absurd q (by decide), fun _ => ⟨⟨k_6_41, (tb_s (q := (⟨"RightsHouse$Judge", "weigh", "(IJ)I"⟩, 20)) (by decide +kernel))⟩, fun fr lo nl t q h => by
  have e : t_room.get 138 = some (21, (627, (9, (1, 27)))) := by decide +kernel
  rw [e] at h
  cases h
  exact Or.inl ⟨by decide, 3, _, rfl, by decide, rfl⟩⟩⟩⟩
theorem cl_5_159 : CallOk 20639 (139, (2, false)) := ⟨(show xM "RightsHouse$Judge" 159 Y_Ju_endOfComparison 2 from ⟨k_6_61, k_1_5, k_6_64, by decide, by decide, by decide +kernel⟩), ⟨fun q => absurd q (by decide), fun _ => ⟨⟨k_6_63, (tb_s (q := (⟨"RightsHouse$Judge", "endOfComparison", "(II)I"⟩, 20)) (by decide +kernel))⟩, fun fr lo nl t q h => by
  have e : t_room.get 139 = some (1, (40, (4, (1, 27)))) := by decide +kernel
  rw [e] at h
  cases h
  exact Or.inl ⟨by decide, 3, _, rfl, by decide, rfl⟩⟩⟩⟩
theorem cl_5_162 : CallOk 20642 (122, (1, false)) := ⟨(show xM "RightsHouse$Judge" 162 Y_Ju_pushTruth 1 from ⟨k_5_235, k_1_5, k_5_238, by decide, by decide, by decide +kernel⟩), ⟨fun q => absurd q (by decide), fun _ => ⟨⟨k_5_237, (tb_s (q := (⟨"RightsHouse$Judge", "pushTruth", "(I)V"⟩, 20)) (by decide +kernel))⟩, fun fr lo nl t q h => by
  have e : t_room.get 122 = some (1, (40, (2, (0, 27)))) := by decide +kernel
  rw [e] at h
  cases h
  exact Or.inl ⟨by decide, 3, _, rfl, by decide, rfl⟩⟩⟩⟩
theorem cl_5_166 : CallOk 20646 (68, (2, true)) := ⟨(show xM "RightsHouse$Judge" 166 Y_JM_max 2 from ⟨k_5_224, k_1_17, k_4_182, by decide, by decide, by decide +kernel⟩), ⟨fun _ => k_4_181, fun q => absurd q (by decide)⟩⟩
theorem cl_5_173 : CallOk 20653 (24, (2, true)) := ⟨(show xM "RightsHouse$Judge" 173 Y_Wh_slotOfPerson 2 from ⟨k_5_233, k_1_2, k_3_213, by decide, by decide, by decide +kernel⟩), ⟨fun _ => k_3_212, fun q => absurd q (by decide)⟩⟩
theorem cl_5_176 : CallOk 20656 (26, (2, true)) := ⟨(show xM "RightsHouse$Judge" 176 Y_Wh_slotOfThing 2 from ⟨k_5_234, k_1_2, k_3_220, by decide, by decide, by decide +kernel⟩), ⟨fun _ => k_3_219, fun q => absurd q (by decide)⟩⟩
theorem cl_5_179 : CallOk 20659 (124, (2, false)) := ⟨(show xM "RightsHouse$Judge" 179 Y_Ju_pushValue 2 from ⟨k_6_3, k_1_5, k_6_6, by decide, by decide, by decide +kernel⟩), ⟨fun q => absurd q (by decide), fun _ => ⟨⟨k_6_5, (tb_s (q := (⟨"RightsHouse$Judge", "pushValue", "(ZJ)I"⟩, 20)) (by decide +kernel))⟩, fun fr lo nl t q h => by
  have e : t_room.get 124 = some (1, (40, (4, (1, 27)))) := by decide +kernel
  rw [e] at h
  cases h
  exact Or.inl ⟨by decide, 3, _, rfl, by decide, rfl⟩⟩⟩⟩
theorem cl_5_183 : CallOk 20663 (121, (1, false)) := ⟨(show xM "RightsHouse$Judge" 183 Y_Ju_slotOf 1 from ⟨k_5_229, k_1_5, k_5_232, by decide, by decide, by decide +kernel⟩), ⟨fun q => absurd q (by decide), fun _ => ⟨⟨k_5_231, (tb_s (q := (⟨"RightsHouse$Judge", "slotOf", "(J)I"⟩, 20)) (by decide +kernel))⟩, fun fr lo nl t q h => by
  have e : t_room.get 121 = some (2, (61, (4, (1, 27)))) := by decide +kernel
  rw [e] at h
  cases h
  exact Or.inl ⟨by decide, 3, _, rfl, by decide, rfl⟩⟩⟩⟩
theorem cl_5_193 : CallOk 20673 (126, (2, false)) := ⟨(show xM "RightsHouse$Judge" 193 Y_Ju_loadItem 2 from ⟨k_6_7, k_1_5, k_6_10, by decide, by decide, by decide +kernel⟩), ⟨fun q => absurd q (by decide), fun _ => ⟨⟨k_6_9, (tb_s (q := (⟨"RightsHouse$Judge", "loadItem", "(IJ)I"⟩, 20)) (by decide +kernel))⟩, fun fr lo nl t q h => by
  have e : t_room.get 126 = some (2, (63, (4, (1, 27)))) := by decide +kernel
  rw [e] at h
  cases h
  exact Or.inl ⟨by decide, 3, _, rfl, by decide, rfl⟩⟩⟩⟩
theorem cl_5_196 : CallOk 20676 (125, (1, false)) := ⟨(show xM "RightsHouse$Judge" 196 Y_Ju_failBy 1 from ⟨k_6_11, k_1_5, k_6_14, by decide, by decide, by decide +kernel⟩), ⟨fun q => absurd q (by decide), fun _ => ⟨⟨k_6_13, (tb_s (q := (⟨"RightsHouse$Judge", "failBy", "(I)I"⟩, 20)) (by decide +kernel))⟩, fun fr lo nl t q h => by
  have e : t_room.get 125 = some (1, (40, (2, (1, 27)))) := by decide +kernel
  rw [e] at h
  cases h
  exact Or.inl ⟨by decide, 3, _, rfl, by decide, rfl⟩⟩⟩⟩
theorem cl_5_202 : CallOk 20682 (128, (1, true)) := ⟨(show xM "RightsHouse$Judge" 202 Y_Re_negated 1 from ⟨k_6_19, k_1_13, k_6_21, by decide, by decide, by decide +kernel⟩), ⟨fun _ => k_6_20, fun q => absurd q (by decide)⟩⟩
theorem cl_5_208 : CallOk 20688 (129, (3, false)) := ⟨(show xM "RightsHouse$Judge" 208 Y_Ju_calculateWholes 3 from ⟨k_6_22, k_1_5, k_6_25, by decide, by decide, by decide +kernel⟩), ⟨fun q => absurd q (by decide), fun _ => ⟨⟨k_6_24, (tb_s (q := (⟨"RightsHouse$Judge", "calculateWholes", "(IJJ)I"⟩, 20)) (by decide +kernel))⟩, fun fr lo nl t q h => by
  have e : t_room.get 129 = some (2, (63, (6, (1, 27)))) := by decide +kernel
  rw [e] at h
  cases h
  exact Or.inl ⟨by decide, 3, _, rfl, by decide, rfl⟩⟩⟩⟩
theorem cl_5_212 : CallOk 20692 (55, (1, true)) := ⟨(show xM "RightsHouse$Judge" 212 Y_Re_ofWhole 1 from ⟨k_6_26, k_1_13, k_4_114, by decide, by decide, by decide +kernel⟩), ⟨fun _ => k_4_113, fun q => absurd q (by decide)⟩⟩
theorem cl_5_215 : CallOk 20695 (130, (2, true)) := ⟨(show xM "RightsHouse$Judge" 215 Y_Re_plus 2 from ⟨k_6_27, k_1_13, k_6_29, by decide, by decide, by decide +kernel⟩), ⟨fun _ => k_6_28, fun q => absurd q (by decide)⟩⟩
theorem cl_5_219 : CallOk 20699 (131, (2, true)) := ⟨(show xM "RightsHouse$Judge" 219 Y_Re_times 2 from ⟨k_6_30, k_1_13, k_6_32, by decide, by decide, by decide +kernel⟩), ⟨fun _ => k_6_31, fun q => absurd q (by decide)⟩⟩
theorem cl_5_222 : CallOk 20702 (61, (2, true)) := ⟨(show xM "RightsHouse$Judge" 222 Y_Re_over 2 from ⟨k_6_35, k_1_13, k_4_123, by decide, by decide, by decide +kernel⟩), ⟨fun _ => k_4_122, fun q => absurd q (by decide)⟩⟩
theorem cl_5_225 : CallOk 20705 (132, (2, true)) := ⟨(show xM "RightsHouse$Judge" 225 Y_Re_rest 2 from ⟨k_6_36, k_1_13, k_6_38, by decide, by decide, by decide +kernel⟩), ⟨fun _ => k_6_37, fun q => absurd q (by decide)⟩⟩
theorem cl_5_228 : CallOk 20708 (135, (1, false)) := ⟨(show xM "RightsHouse$Judge" 228 Y_Ju_weighAmong 1 from ⟨k_6_43, k_1_5, k_6_46, by decide, by decide, by decide +kernel⟩), ⟨fun q => absurd q (by decide), fun _ => ⟨⟨k_6_45, (tb_s (q := (⟨"RightsHouse$Judge", "weighAmong", "(I)I"⟩, 20)) (by decide +kernel))⟩, fun fr lo nl t q h => by
  have e : t_room.get 135 = some (2, (64, (2, (1, 27)))) := by decide +kernel
  rw [e] at h
  cases h
  exact Or.inl ⟨by decide, 3, _, rfl, by decide, rfl⟩⟩⟩⟩
theorem cl_5_237 : CallOk 20717 (136, (2, true)) := ⟨(show xM "RightsHouse$Judge" 237 Y_Re_order 2 from ⟨k_6_54, k_1_13, k_6_56, by decide, by decide, by decide +kernel⟩), ⟨fun _ => k_6_55, fun q => absurd q (by decide)⟩⟩
theorem cl_5_240 : CallOk 20720 (137, (2, true)) := ⟨(show xM "RightsHouse$Judge" 240 Y_Ju_isSo 2 from ⟨k_6_58, k_1_5, k_6_60, by decide, by decide, by decide +kernel⟩), ⟨fun _ => k_6_59, fun q => absurd q (by decide)⟩⟩
theorem cl_5_243 : CallOk 20723 (134, (2, false)) := ⟨(show xM "RightsHouse$Judge" 243 Y_Wh_hasMark 2 from ⟨k_6_47, k_1_2, k_6_50, by decide, by decide, by decide +kernel⟩), ⟨fun q => absurd q (by decide), fun _ => ⟨⟨k_6_48, k_6_49⟩, fun fr lo nl t q h => by
  have e : t_room.get 134 = some (1, (40, (5, (2, 5)))) := by decide +kernel
  rw [e] at h
  cases h
  exact Or.inl ⟨by decide, 8, _, rfl, by decide, rfl⟩⟩⟩⟩
theorem cl_5_249 : CallOk 20729 (25, (1, false)) := ⟨(show xM "RightsHouse$Judge" 249 Y_Th_isThere 1 from ⟨k_6_89, k_1_3, k_3_217, by decide, by decide, by decide +kernel⟩), ⟨fun q => absurd q (by decide), fun _ => ⟨⟨k_3_215, k_3_216⟩, fun fr lo nl t q h => by
  have e : t_room.get 25 = some (1, (40, (2, (2, 10)))) := by decide +kernel
  rw [e] at h
  cases h
  exact Or.inl ⟨by decide, 7, _, rfl, by decide, rfl⟩⟩⟩⟩
theorem cl_5_255 : CallOk 20735 (21, (3, false)) := ⟨(show xM "RightsHouse$Judge" 255 Y_Wh_groupsOf 3 from ⟨k_6_98, k_1_2, k_3_198, by decide, by decide, by decide +kernel⟩), ⟨fun q => absurd q (by decide), fun _ => ⟨⟨k_3_196, k_3_197⟩, fun fr lo nl t q h => by
  have e : t_room.get 21 = some (4, (113, (6, (1, 5)))) := by decide +kernel
  rw [e] at h
  cases h
  exact Or.inl ⟨by decide, 8, _, rfl, by decide, rfl⟩⟩⟩⟩
theorem cl_5_258 : CallOk 20738 (116, (2, false)) := ⟨(show xM "RightsHouse$Judge" 258 Y_Ju_setPerson 2 from ⟨k_6_99, k_1_5, k_5_184, by decide, by decide, by decide +kernel⟩), ⟨fun q => absurd q (by decide), fun _ => ⟨⟨k_5_182, k_5_183⟩, fun fr lo nl t q h => by
  have e : t_room.get 116 = some (1, (40, (3, (0, 27)))) := by decide +kernel
  rw [e] at h
  cases h
  exact Or.inl ⟨by decide, 3, _, rfl, by decide, rfl⟩⟩⟩⟩
theorem cl_5_268 : CallOk 20748 (152, (4, false)) := ⟨(show xM "RightsHouse$Judge" 268 Y_Ju_noteDifference 4 from ⟨k_6_108, k_1_5, k_6_111, by decide, by decide, by decide +kernel⟩), ⟨fun q => absurd q (by decide), fun _ => ⟨⟨k_6_110, (tb_s (q := (⟨"RightsHouse$Judge", "noteDifference", "(IIII)V"⟩, 20)) (by decide +kernel))⟩, fun fr lo nl t q h => by
  have e : t_room.get 152 = some (1, (40, (5, (0, 27)))) := by decide +kernel
  rw [e] at h
  cases h
  exact Or.inl ⟨by decide, 3, _, rfl, by decide, rfl⟩⟩⟩⟩
theorem cl_6_39 : CallOk 24615 (198, (4, false)) := ⟨(show xM "RightsHouse$Lends" 39 Y_Le_hasRight 4 from ⟨k_7_58, k_1_8, k_7_61, by decide, by decide, by decide +kernel⟩), ⟨fun q => absurd q (by decide), fun _ => ⟨⟨k_7_59, k_7_60⟩, fun fr lo nl t q h => by
  have e : t_room.get 198 = some (3, (90, (5, (2, 52)))) := by decide +kernel
  rw [e] at h
  cases h
  exact Or.inl ⟨by decide, 4, _, rfl, by decide, rfl⟩⟩⟩⟩
theorem cl_6_48 : CallOk 24624 (197, (4, false)) := ⟨(show xM "RightsHouse$Lends" 48 Y_Le_lendGiving 4 from ⟨k_7_62, k_1_8, k_7_65, by decide, by decide, by decide +kernel⟩), ⟨fun q => absurd q (by decide), fun _ => ⟨⟨k_7_64, (tb_s (q := (⟨"RightsHouse$Lends", "lendGiving", "(IIII)I"⟩, 11)) (by decide +kernel))⟩, fun fr lo nl t q h => by
  have e : t_room.get 197 = some (2, (64, (7, (1, 52)))) := by decide +kernel
  rw [e] at h
  cases h
  exact Or.inl ⟨by decide, 4, _, rfl, by decide, rfl⟩⟩⟩⟩
theorem cl_6_52 : CallOk 24628 (50, (2, false)) := ⟨(show xM "RightsHouse$Lends" 52 Y_Th_actHolds 2 from ⟨k_7_66, k_1_3, k_4_80, by decide, by decide, by decide +kernel⟩), ⟨fun q => absurd q (by decide), fun _ => ⟨⟨k_4_78, k_4_79⟩, fun fr lo nl t q h => by
  have e : t_room.get 50 = some (1, (40, (3, (2, 10)))) := by decide +kernel
  rw [e] at h
  cases h
  exact Or.inl ⟨by decide, 7, _, rfl, by decide, rfl⟩⟩⟩⟩
theorem cl_6_56 : CallOk 24632 (45, (2, false)) := ⟨(show xM "RightsHouse$Lends" 56 Y_Th_isUnder 2 from ⟨k_7_67, k_1_3, k_4_61, by decide, by decide, by decide +kernel⟩), ⟨fun q => absurd q (by decide), fun _ => ⟨⟨k_4_59, k_4_60⟩, fun fr lo nl t q h => by
  have e : t_room.get 45 = some (1, (40, (5, (2, 10)))) := by decide +kernel
  rw [e] at h
  cases h
  exact Or.inl ⟨by decide, 7, _, rfl, by decide, rfl⟩⟩⟩⟩
theorem cl_6_69 : CallOk 24645 (213, (0, false)) := ⟨(show xM "RightsHouse$Lends" 69 Y_Le_goRound 0 from ⟨k_7_124, k_1_8, k_7_127, by decide, by decide, by decide +kernel⟩), ⟨fun q => absurd q (by decide), fun _ => ⟨⟨k_7_126, (tb_s (q := (⟨"RightsHouse$Lends", "goRound", "()V"⟩, 11)) (by decide +kernel))⟩, fun fr lo nl t q h => by
  have e : t_room.get 213 = some (2, (64, (4, (0, 52)))) := by decide +kernel
  rw [e] at h
  cases h
  exact Or.inl ⟨by decide, 4, _, rfl, by decide, rfl⟩⟩⟩⟩
theorem cl_6_72 : CallOk 24648 (212, (3, false)) := ⟨(show xM "RightsHouse$Lends" 72 Y_Le_pass 3 from ⟨k_7_128, k_1_8, k_7_131, by decide, by decide, by decide +kernel⟩), ⟨fun q => absurd q (by decide), fun _ => ⟨⟨k_7_130, (tb_s (q := (⟨"RightsHouse$Lends", "pass", "(III)V"⟩, 11)) (by decide +kernel))⟩, fun fr lo nl t q h => by
  have e : t_room.get 212 = some (1, (40, (5, (0, 52)))) := by decide +kernel
  rw [e] at h
  cases h
  exact Or.inl ⟨by decide, 4, _, rfl, by decide, rfl⟩⟩⟩⟩
theorem cl_6_76 : CallOk 24652 (214, (0, false)) := ⟨(show xM "RightsHouse$Lends" 76 Y_Le_countGains 0 from ⟨k_7_120, k_1_8, k_7_123, by decide, by decide, by decide +kernel⟩), ⟨fun q => absurd q (by decide), fun _ => ⟨⟨k_7_121, k_7_122⟩, fun fr lo nl t q h => by
  have e : t_room.get 214 = some (3, (87, (3, (1, 52)))) := by decide +kernel
  rw [e] at h
  cases h
  exact Or.inl ⟨by decide, 4, _, rfl, by decide, rfl⟩⟩⟩⟩
theorem cl_7_60 : CallOk 28732 (76, (0, false)) := ⟨(show xM "RightsHouse$Policies" 60 Y_Po_split 0 from ⟨k_4_90, k_1_4, k_4_93, by decide, by decide, by decide +kernel⟩), ⟨fun q => absurd q (by decide), fun _ => ⟨⟨k_4_92, (tb_s (q := (⟨"RightsHouse$Policies", "split", "()V"⟩, 17)) (by decide +kernel))⟩, fun fr lo nl t q h => by
  have e : t_room.get 76 = some (22, (647, (3, (0, 17)))) := by decide +kernel
  rw [e] at h
  cases h
  exact Or.inl ⟨by decide, 5, _, rfl, by decide, rfl⟩⟩⟩⟩
theorem cl_7_72 : CallOk 28744 (77, (2, true)) := ⟨(show xM "RightsHouse$Policies" 72 Y_Po_ruleAt 2 from ⟨k_4_238, k_1_4, k_5_0, by decide, by decide, by decide +kernel⟩), ⟨fun _ => k_4_239, fun q => absurd q (by decide)⟩⟩
theorem cl_7_76 : CallOk 28748 (105, (1, false)) := ⟨(show xM "RightsHouse$Policies" 76 Y_Po_readRule 1 from ⟨k_5_1, k_1_4, k_5_4, by decide, by decide, by decide +kernel⟩), ⟨fun q => absurd q (by decide), fun _ => ⟨⟨k_5_3, (tb_s (q := (⟨"RightsHouse$Policies", "readRule", "(I)Z"⟩, 17)) (by decide +kernel))⟩, fun fr lo nl t q h => by
  have e : t_room.get 105 = some (601, (20023, (2, (2, 17)))) := by decide +kernel
  rw [e] at h
  cases h
  exact Or.inl ⟨by decide, 5, _, rfl, by decide, rfl⟩⟩⟩⟩
theorem cl_7_83 : CallOk 28755 (92, (1, false)) := ⟨(show xM "RightsHouse$Policies" 83 Y_Po_passes 1 from ⟨k_5_103, k_1_4, k_5_106, by decide, by decide, by decide +kernel⟩), ⟨fun q => absurd q (by decide), fun _ => ⟨⟨k_5_105, (tb_s (q := (⟨"RightsHouse$Policies", "passes", "(I)Z"⟩, 17)) (by decide +kernel))⟩, fun fr lo nl t q h => by
  have e : t_room.get 92 = some (2, (61, (2, (2, 17)))) := by decide +kernel
  rw [e] at h
  cases h
  exact Or.inl ⟨by decide, 5, _, rfl, by decide, rfl⟩⟩⟩⟩
theorem cl_7_89 : CallOk 28761 (75, (1, false)) := ⟨(show xM "RightsHouse$Policies" 89 Y_Po_splitOff 1 from ⟨k_4_94, k_1_4, k_4_97, by decide, by decide, by decide +kernel⟩), ⟨fun q => absurd q (by decide), fun _ => ⟨⟨k_4_96, (tb_s (q := (⟨"RightsHouse$Policies", "splitOff", "(I)I"⟩, 17)) (by decide +kernel))⟩, fun fr lo nl t q h => by
  have e : t_room.get 75 = some (21, (624, (4, (1, 17)))) := by decide +kernel
  rw [e] at h
  cases h
  exact Or.inl ⟨by decide, 5, _, rfl, by decide, rfl⟩⟩⟩⟩
theorem cl_7_93 : CallOk 28765 (53, (3, false)) := ⟨(show xM "RightsHouse$Policies" 93 Y_Po_addToken 3 from ⟨k_4_108, k_1_4, k_4_111, by decide, by decide, by decide +kernel⟩), ⟨fun q => absurd q (by decide), fun _ => ⟨⟨k_4_110, (tb_s (q := (⟨"RightsHouse$Policies", "addToken", "(IIJ)V"⟩, 17)) (by decide +kernel))⟩, fun fr lo nl t q h => by
  have e : t_room.get 53 = some (1, (40, (5, (0, 17)))) := by decide +kernel
  rw [e] at h
  cases h
  exact Or.inl ⟨by decide, 5, _, rfl, by decide, rfl⟩⟩⟩⟩
theorem cl_7_97 : CallOk 28769 (52, (1, false)) := ⟨(show xM "RightsHouse$Policies" 97 Y_Po_isFigure 1 from ⟨k_4_98, k_1_4, k_4_101, by decide, by decide, by decide +kernel⟩), ⟨fun q => absurd q (by decide), fun _ => ⟨⟨k_4_100, (tb_s (q := (⟨"RightsHouse$Policies", "isFigure", "(I)Z"⟩, 17)) (by decide +kernel))⟩, fun fr lo nl t q h => by
  have e : t_room.get 52 = some (1, (40, (2, (2, 17)))) := by decide +kernel
  rw [e] at h
  cases h
  exact Or.inl ⟨by decide, 5, _, rfl, by decide, rfl⟩⟩⟩⟩
theorem cl_7_100 : CallOk 28772 (62, (1, false)) := ⟨(show xM "RightsHouse$Policies" 100 Y_Po_splitNumber 1 from ⟨k_4_102, k_1_4, k_4_105, by decide, by decide, by decide +kernel⟩), ⟨fun q => absurd q (by decide), fun _ => ⟨⟨k_4_104, (tb_s (q := (⟨"RightsHouse$Policies", "splitNumber", "(I)I"⟩, 17)) (by decide +kernel))⟩, fun fr lo nl t q h => by
  have e : t_room.get 62 = some (3, (109, (10, (1, 17)))) := by decide +kernel
  rw [e] at h
  cases h
  exact Or.inl ⟨by decide, 5, _, rfl, by decide, rfl⟩⟩⟩⟩
theorem cl_7_103 : CallOk 28775 (63, (1, false)) := ⟨(show xM "RightsHouse$Policies" 103 Y_Po_isLetter 1 from ⟨k_4_143, k_1_4, k_4_146, by decide, by decide, by decide +kernel⟩), ⟨fun q => absurd q (by decide), fun _ => ⟨⟨k_4_145, (tb_s (q := (⟨"RightsHouse$Policies", "isLetter", "(I)Z"⟩, 17)) (by decide +kernel))⟩, fun fr lo nl t q h => by
  have e : t_room.get 63 = some (1, (40, (2, (2, 17)))) := by decide +kernel
  rw [e] at h
  cases h
  exact Or.inl ⟨by decide, 5, _, rfl, by decide, rfl⟩⟩⟩⟩
theorem cl_7_106 : CallOk 28778 (74, (1, false)) := ⟨(show xM "RightsHouse$Policies" 106 Y_Po_splitSign 1 from ⟨k_4_147, k_1_4, k_4_150, by decide, by decide, by decide +kernel⟩), ⟨fun q => absurd q (by decide), fun _ => ⟨⟨k_4_149, (tb_s (q := (⟨"RightsHouse$Policies", "splitSign", "(I)I"⟩, 17)) (by decide +kernel))⟩, fun fr lo nl t q h => by
  have e : t_room.get 74 = some (20, (600, (5, (1, 17)))) := by decide +kernel
  rw [e] at h
  cases h
  exact Or.inl ⟨by decide, 5, _, rfl, by decide, rfl⟩⟩⟩⟩
theorem cl_7_111 : CallOk 28783 (73, (1, false)) := ⟨(show xM "RightsHouse$Policies" 111 Y_JS_indexOf_0 1 from ⟨k_4_152, k_1_15, k_4_155, by decide, by decide, by decide +kernel⟩), ⟨fun q => absurd q (by decide), fun _ => ⟨⟨k_4_153, k_4_154⟩, fun fr lo nl t q h => by
  have e : t_room.get 73 = some (4, (110, (2, (1, 1000)))) := by decide +kernel
  rw [e] at h
  cases h
  exact Or.inr ⟨rfl, rfl⟩⟩⟩⟩
theorem cl_7_120 : CallOk 28792 (55, (1, true)) := ⟨(show xM "RightsHouse$Policies" 120 Y_Re_ofWhole 1 from ⟨k_4_112, k_1_13, k_4_114, by decide, by decide, by decide +kernel⟩), ⟨fun _ => k_4_113, fun q => absurd q (by decide)⟩⟩
theorem cl_7_126 : CallOk 28798 (61, (2, true)) := ⟨(show xM "RightsHouse$Policies" 126 Y_Re_over 2 from ⟨k_4_121, k_1_13, k_4_123, by decide, by decide, by decide +kernel⟩), ⟨fun _ => k_4_122, fun q => absurd q (by decide)⟩⟩
theorem cl_7_130 : CallOk 28802 (66, (0, false)) := ⟨(show xM "RightsHouse$Policies" 130 Y_JS_length 0 from ⟨k_5_14, k_1_15, k_4_169, by decide, by decide, by decide +kernel⟩), ⟨fun q => absurd q (by decide), fun _ => ⟨⟨k_4_167, k_4_168⟩, fun fr lo nl t q h => by
  have e : t_room.get 66 = some (2, (60, (1, (1, 1000)))) := by decide +kernel
  rw [e] at h
  cases h
  exact Or.inr ⟨rfl, rfl⟩⟩⟩⟩
theorem cl_7_133 : CallOk 28805 (80, (1, false)) := ⟨(show xM "RightsHouse$Policies" 133 Y_JS_charAt 1 from ⟨k_5_15, k_1_15, k_5_18, by decide, by decide, by decide +kernel⟩), ⟨fun q => absurd q (by decide), fun _ => ⟨⟨k_5_16, k_5_17⟩, fun fr lo nl t q h => by
  have e : t_room.get 80 = some (4, (104, (2, (4, 1000)))) := by decide +kernel
  rw [e] at h
  cases h
  exact Or.inr ⟨rfl, rfl⟩⟩⟩⟩
theorem cl_7_137 : CallOk 28809 (88, (1, false)) := ⟨(show xM "RightsHouse$Policies" 137 Y_Po_isSign 1 from ⟨k_5_69, k_1_4, k_5_72, by decide, by decide, by decide +kernel⟩), ⟨fun q => absurd q (by decide), fun _ => ⟨⟨k_5_71, (tb_s (q := (⟨"RightsHouse$Policies", "isSign", "(I)Z"⟩, 17)) (by decide +kernel))⟩, fun fr lo nl t q h => by
  have e : t_room.get 88 = some (1, (40, (2, (2, 17)))) := by decide +kernel
  rw [e] at h
  cases h
  exact Or.inl ⟨by decide, 5, _, rfl, by decide, rfl⟩⟩⟩⟩
theorem cl_7_140 : CallOk 28812 (82, (0, false)) := ⟨(show xM "RightsHouse$Policies" 140 Y_Po_fail 0 from ⟨k_5_37, k_1_4, k_5_40, by decide, by decide, by decide +kernel⟩), ⟨fun q => absurd q (by decide), fun _ => ⟨⟨k_5_39, (tb_s (q := (⟨"RightsHouse$Policies", "fail", "()Z"⟩, 17)) (by decide +kernel))⟩, fun fr lo nl t q h => by
  have e : t_room.get 82 = some (1, (40, (1, (2, 17)))) := by decide +kernel
  rw [e] at h
  cases h
  exact Or.inl ⟨by decide, 5, _, rfl, by decide, rfl⟩⟩⟩⟩
theorem cl_7_144 : CallOk 28816 (83, (1, false)) := ⟨(show xM "RightsHouse$Policies" 144 Y_Po_readEffect 1 from ⟨k_5_5, k_1_4, k_5_8, by decide, by decide, by decide +kernel⟩), ⟨fun q => absurd q (by decide), fun _ => ⟨⟨k_5_7, (tb_s (q := (⟨"RightsHouse$Policies", "readEffect", "(I)Z"⟩, 17)) (by decide +kernel))⟩, fun fr lo nl t q h => by
  have e : t_room.get 83 = some (21, (622, (2, (2, 17)))) := by decide +kernel
  rw [e] at h
  cases h
  exact Or.inl ⟨by decide, 5, _, rfl, by decide, rfl⟩⟩⟩⟩
theorem cl_7_147 : CallOk 28819 (85, (1, false)) := ⟨(show xM "RightsHouse$Policies" 147 Y_Po_readWho 1 from ⟨k_5_41, k_1_4, k_5_44, by decide, by decide, by decide +kernel⟩), ⟨fun q => absurd q (by decide), fun _ => ⟨⟨k_5_43, (tb_s (q := (⟨"RightsHouse$Policies", "readWho", "(I)Z"⟩, 17)) (by decide +kernel))⟩, fun fr lo nl t q h => by
  have e : t_room.get 85 = some (21, (622, (4, (2, 17)))) := by decide +kernel
  rw [e] at h
  cases h
  exact Or.inl ⟨by decide, 5, _, rfl, by decide, rfl⟩⟩⟩⟩
theorem cl_7_150 : CallOk 28822 (87, (1, false)) := ⟨(show xM "RightsHouse$Policies" 150 Y_Po_readAct 1 from ⟨k_5_54, k_1_4, k_5_57, by decide, by decide, by decide +kernel⟩), ⟨fun q => absurd q (by decide), fun _ => ⟨⟨k_5_56, (tb_s (q := (⟨"RightsHouse$Policies", "readAct", "(I)Z"⟩, 17)) (by decide +kernel))⟩, fun fr lo nl t q h => by
  have e : t_room.get 87 = some (21, (622, (3, (2, 17)))) := by decide +kernel
  rw [e] at h
  cases h
  exact Or.inl ⟨by decide, 5, _, rfl, by decide, rfl⟩⟩⟩⟩
theorem cl_7_153 : CallOk 28825 (89, (1, false)) := ⟨(show xM "RightsHouse$Policies" 153 Y_Po_readThing 1 from ⟨k_5_64, k_1_4, k_5_67, by decide, by decide, by decide +kernel⟩), ⟨fun q => absurd q (by decide), fun _ => ⟨⟨k_5_66, (tb_s (q := (⟨"RightsHouse$Policies", "readThing", "(I)Z"⟩, 17)) (by decide +kernel))⟩, fun fr lo nl t q h => by
  have e : t_room.get 89 = some (21, (622, (3, (2, 17)))) := by decide +kernel
  rw [e] at h
  cases h
  exact Or.inl ⟨by decide, 5, _, rfl, by decide, rfl⟩⟩⟩⟩
theorem cl_7_158 : CallOk 28830 (81, (1, false)) := ⟨(show xM "RightsHouse$Policies" 158 Y_Po_isWord 1 from ⟨k_5_10, k_1_4, k_5_13, by decide, by decide, by decide +kernel⟩), ⟨fun q => absurd q (by decide), fun _ => ⟨⟨k_5_12, (tb_s (q := (⟨"RightsHouse$Policies", "isWord", "(Ljava/lang/String;)Z"⟩, 17)) (by decide +kernel))⟩, fun fr lo nl t q h => by
  have e : t_room.get 81 = some (20, (600, (3, (2, 17)))) := by decide +kernel
  rw [e] at h
  cases h
  exact Or.inl ⟨by decide, 5, _, rfl, by decide, rfl⟩⟩⟩⟩
theorem cl_7_162 : CallOk 28834 (104, (1, false)) := ⟨(show xM "RightsHouse$Policies" 162 Y_Po_readCondition 1 from ⟨k_5_74, k_1_4, k_5_77, by decide, by decide, by decide +kernel⟩), ⟨fun q => absurd q (by decide), fun _ => ⟨⟨k_5_76, (tb_s (q := (⟨"RightsHouse$Policies", "readCondition", "(I)Z"⟩, 17)) (by decide +kernel))⟩, fun fr lo nl t q h => by
  have e : t_room.get 104 = some (200, (4000, (4, (2, 17)))) := by decide +kernel
  rw [e] at h
  cases h
  exact Or.inl ⟨by decide, 5, _, rfl, by decide, rfl⟩⟩⟩⟩
theorem cl_7_175 : CallOk 28847 (84, (1, false)) := ⟨(show xM "RightsHouse$Policies" 175 Y_Po_numberBehind 1 from ⟨k_5_45, k_1_4, k_5_48, by decide, by decide, by decide +kernel⟩), ⟨fun q => absurd q (by decide), fun _ => ⟨⟨k_5_47, (tb_s (q := (⟨"RightsHouse$Policies", "numberBehind", "(I)I"⟩, 17)) (by decide +kernel))⟩, fun fr lo nl t q h => by
  have e : t_room.get 84 = some (2, (61, (6, (1, 17)))) := by decide +kernel
  rw [e] at h
  cases h
  exact Or.inl ⟨by decide, 5, _, rfl, by decide, rfl⟩⟩⟩⟩
theorem cl_7_178 : CallOk 28850 (68, (2, true)) := ⟨(show xM "RightsHouse$Policies" 178 Y_JM_max 2 from ⟨k_5_49, k_1_17, k_4_182, by decide, by decide, by decide +kernel⟩), ⟨fun _ => k_4_181, fun q => absurd q (by decide)⟩⟩
theorem cl_7_187 : CallOk 28859 (9, (1, false)) := ⟨(show xM "RightsHouse$Policies" 187 Y_Wh_isPerson 1 from ⟨k_5_52, k_1_2, k_3_145, by decide, by decide, by decide +kernel⟩), ⟨fun q => absurd q (by decide), fun _ => ⟨⟨k_3_143, k_3_144⟩, fun fr lo nl t q h => by
  have e : t_room.get 9 = some (1, (40, (2, (2, 5)))) := by decide +kernel
  rw [e] at h
  cases h
  exact Or.inl ⟨by decide, 8, _, rfl, by decide, rfl⟩⟩⟩⟩
theorem cl_7_192 : CallOk 28864 (10, (1, false)) := ⟨(show xM "RightsHouse$Policies" 192 Y_Wh_isGroup 1 from ⟨k_5_53, k_1_2, k_3_149, by decide, by decide, by decide +kernel⟩), ⟨fun q => absurd q (by decide), fun _ => ⟨⟨k_3_147, k_3_148⟩, fun fr lo nl t q h => by
  have e : t_room.get 10 = some (1, (40, (2, (2, 5)))) := by decide +kernel
  rw [e] at h
  cases h
  exact Or.inl ⟨by decide, 8, _, rfl, by decide, rfl⟩⟩⟩⟩
theorem cl_7_199 : CallOk 28871 (86, (0, false)) := ⟨(show xM "RightsHouse$Policies" 199 Y_Po_oneLetter 0 from ⟨k_5_60, k_1_4, k_5_63, by decide, by decide, by decide +kernel⟩), ⟨fun q => absurd q (by decide), fun _ => ⟨⟨k_5_62, (tb_s (q := (⟨"RightsHouse$Policies", "oneLetter", "()C"⟩, 17)) (by decide +kernel))⟩, fun fr lo nl t q h => by
  have e : t_room.get 86 = some (1, (40, (2, (4, 17)))) := by decide +kernel
  rw [e] at h
  cases h
  exact Or.inl ⟨by decide, 5, _, rfl, by decide, rfl⟩⟩⟩⟩
theorem cl_7_203 : CallOk 28875 (25, (1, false)) := ⟨(show xM "RightsHouse$Policies" 203 Y_Th_isThere 1 from ⟨k_5_68, k_1_3, k_3_217, by decide, by decide, by decide +kernel⟩), ⟨fun q => absurd q (by decide), fun _ => ⟨⟨k_3_215, k_3_216⟩, fun fr lo nl t q h => by
  have e : t_room.get 25 = some (1, (40, (2, (2, 10)))) := by decide +kernel
  rw [e] at h
  cases h
  exact Or.inl ⟨by decide, 7, _, rfl, by decide, rfl⟩⟩⟩⟩
theorem cl_7_206 : CallOk 28878 (103, (1, false)) := ⟨(show xM "RightsHouse$Policies" 206 Y_Po_readPart 1 from ⟨k_5_78, k_1_4, k_5_81, by decide, by decide, by decide +kernel⟩), ⟨fun q => absurd q (by decide), fun _ => ⟨⟨k_5_80, (tb_s (q := (⟨"RightsHouse$Policies", "readPart", "(I)Z"⟩, 17)) (by decide +kernel))⟩, fun fr lo nl t q h => by
  have e : t_room.get 103 = some (200, (4000, (4, (2, 17)))) := by decide +kernel
  rw [e] at h
  cases h
  exact Or.inl ⟨by decide, 5, _, rfl, by decide, rfl⟩⟩⟩⟩
theorem cl_7_211 : CallOk 28883 (90, (2, false)) := ⟨(show xM "RightsHouse$Policies" 211 Y_Po_emit 2 from ⟨k_5_87, k_1_4, k_5_90, by decide, by decide, by decide +kernel⟩), ⟨fun q => absurd q (by decide), fun _ => ⟨⟨k_5_89, (tb_s (q := (⟨"RightsHouse$Policies", "emit", "(IJ)V"⟩, 17)) (by decide +kernel))⟩, fun fr lo nl t q h => by
  have e : t_room.get 90 = some (1, (40, (4, (0, 17)))) := by decide +kernel
  rw [e] at h
  cases h
  exact Or.inl ⟨by decide, 5, _, rfl, by decide, rfl⟩⟩⟩⟩
theorem cl_7_215 : CallOk 28887 (100, (1, false)) := ⟨(show xM "RightsHouse$Policies" 215 Y_Po_aimHere 1 from ⟨k_5_140, k_1_4, k_5_143, by decide, by decide, by decide +kernel⟩), ⟨fun q => absurd q (by decide), fun _ => ⟨⟨k_5_142, (tb_s (q := (⟨"RightsHouse$Policies", "aimHere", "(I)V"⟩, 17)) (by decide +kernel))⟩, fun fr lo nl t q h => by
  have e : t_room.get 100 = some (1, (40, (2, (0, 17)))) := by decide +kernel
  rw [e] at h
  cases h
  exact Or.inl ⟨by decide, 5, _, rfl, by decide, rfl⟩⟩⟩⟩
theorem cl_7_219 : CallOk 28891 (102, (1, false)) := ⟨(show xM "RightsHouse$Policies" 219 Y_Po_readSuch 1 from ⟨k_5_82, k_1_4, k_5_85, by decide, by decide, by decide +kernel⟩), ⟨fun q => absurd q (by decide), fun _ => ⟨⟨k_5_84, (tb_s (q := (⟨"RightsHouse$Policies", "readSuch", "(I)Z"⟩, 17)) (by decide +kernel))⟩, fun fr lo nl t q h => by
  have e : t_room.get 102 = some (200, (4000, (2, (2, 17)))) := by decide +kernel
  rw [e] at h
  cases h
  exact Or.inl ⟨by decide, 5, _, rfl, by decide, rfl⟩⟩⟩⟩
theorem cl_7_228 : CallOk 28900 (91, (1, false)) := ⟨(show xM "RightsHouse$Policies" 228 Y_Po_readFeature 1 from ⟨k_5_92, k_1_4, k_5_95, by decide, by decide, by decide +kernel⟩), ⟨fun q => absurd q (by decide), fun _ => ⟨⟨k_5_94, (tb_s (q := (⟨"RightsHouse$Policies", "readFeature", "(I)Z"⟩, 17)) (by decide +kernel))⟩, fun fr lo nl t q h => by
  have e : t_room.get 91 = some (21, (622, (4, (2, 17)))) := by decide +kernel
  rw [e] at h
  cases h
  exact Or.inl ⟨by decide, 5, _, rfl, by decide, rfl⟩⟩⟩⟩
theorem cl_7_231 : CallOk 28903 (101, (1, false)) := ⟨(show xM "RightsHouse$Policies" 231 Y_Po_readBothWays 1 from ⟨k_5_99, k_1_4, k_5_102, by decide, by decide, by decide +kernel⟩), ⟨fun q => absurd q (by decide), fun _ => ⟨⟨k_5_101, (tb_s (q := (⟨"RightsHouse$Policies", "readBothWays", "(I)Z"⟩, 17)) (by decide +kernel))⟩, fun fr lo nl t q h => by
  have e : t_room.get 101 = some (200, (4000, (5, (2, 17)))) := by decide +kernel
  rw [e] at h
  cases h
  exact Or.inl ⟨by decide, 5, _, rfl, by decide, rfl⟩⟩⟩⟩
theorem cl_7_234 : CallOk 28906 (99, (1, false)) := ⟨(show xM "RightsHouse$Policies" 234 Y_Po_readComparison 1 from ⟨k_5_107, k_1_4, k_5_110, by decide, by decide, by decide +kernel⟩), ⟨fun q => absurd q (by decide), fun _ => ⟨⟨k_5_109, (tb_s (q := (⟨"RightsHouse$Policies", "readComparison", "(I)Z"⟩, 17)) (by decide +kernel))⟩, fun fr lo nl t q h => by
  have e : t_room.get 99 = some (601, (20023, (3, (2, 17)))) := by decide +kernel
  rw [e] at h
  cases h
  exact Or.inl ⟨by decide, 5, _, rfl, by decide, rfl⟩⟩⟩⟩
theorem cl_7_237 : CallOk 28909 (97, (1, false)) := ⟨(show xM "RightsHouse$Policies" 237 Y_Po_readSum 1 from ⟨k_5_111, k_1_4, k_5_114, by decide, by decide, by decide +kernel⟩), ⟨fun q => absurd q (by decide), fun _ => ⟨⟨k_5_113, (tb_s (q := (⟨"RightsHouse$Policies", "readSum", "(I)Z"⟩, 17)) (by decide +kernel))⟩, fun fr lo nl t q h => by
  have e : t_room.get 97 = some (200, (4000, (4, (2, 17)))) := by decide +kernel
  rw [e] at h
  cases h
  exact Or.inl ⟨by decide, 5, _, rfl, by decide, rfl⟩⟩⟩⟩
theorem cl_7_242 : CallOk 28914 (98, (0, false)) := ⟨(show xM "RightsHouse$Policies" 242 Y_Po_comparisonHere 0 from ⟨k_5_135, k_1_4, k_5_138, by decide, by decide, by decide +kernel⟩), ⟨fun q => absurd q (by decide), fun _ => ⟨⟨k_5_137, (tb_s (q := (⟨"RightsHouse$Policies", "comparisonHere", "()I"⟩, 17)) (by decide +kernel))⟩, fun fr lo nl t q h => by
  have e : t_room.get 98 = some (1, (40, (1, (1, 17)))) := by decide +kernel
  rw [e] at h
  cases h
  exact Or.inl ⟨by decide, 5, _, rfl, by decide, rfl⟩⟩⟩⟩
theorem cl_7_245 : CallOk 28917 (96, (1, false)) := ⟨(show xM "RightsHouse$Policies" 245 Y_Po_readProduct 1 from ⟨k_5_115, k_1_4, k_5_118, by decide, by decide, by decide +kernel⟩), ⟨fun q => absurd q (by decide), fun _ => ⟨⟨k_5_117, (tb_s (q := (⟨"RightsHouse$Policies", "readProduct", "(I)Z"⟩, 17)) (by decide +kernel))⟩, fun fr lo nl t q h => by
  have e : t_room.get 96 = some (200, (4000, (4, (2, 17)))) := by decide +kernel
  rw [e] at h
  cases h
  exact Or.inl ⟨by decide, 5, _, rfl, by decide, rfl⟩⟩⟩⟩
theorem cl_7_248 : CallOk 28920 (95, (1, false)) := ⟨(show xM "RightsHouse$Policies" 248 Y_Po_readTerm 1 from ⟨k_5_119, k_1_4, k_5_122, by decide, by decide, by decide +kernel⟩), ⟨fun q => absurd q (by decide), fun _ => ⟨⟨k_5_121, (tb_s (q := (⟨"RightsHouse$Policies", "readTerm", "(I)Z"⟩, 17)) (by decide +kernel))⟩, fun fr lo nl t q h => by
  have e : t_room.get 95 = some (200, (4000, (2, (2, 17)))) := by decide +kernel
  rw [e] at h
  cases h
  exact Or.inl ⟨by decide, 5, _, rfl, by decide, rfl⟩⟩⟩⟩
theorem cl_7_251 : CallOk 28923 (94, (1, false)) := ⟨(show xM "RightsHouse$Policies" 251 Y_Po_readNested 1 from ⟨k_5_123, k_1_4, k_5_126, by decide, by decide, by decide +kernel⟩), ⟨fun q => absurd q (by decide), fun _ => ⟨⟨k_5_125, (tb_s (q := (⟨"RightsHouse$Policies", "readNested", "(I)Z"⟩, 17)) (by decide +kernel))⟩, fun fr lo nl t q h => by
  have e : t_room.get 94 = some (200, (4000, (3, (2, 17)))) := by decide +kernel
  rw [e] at h
  cases h
  exact Or.inl ⟨by decide, 5, _, rfl, by decide, rfl⟩⟩⟩⟩
theorem cl_7_260 : CallOk 28932 (93, (1, false)) := ⟨(show xM "RightsHouse$Policies" 260 Y_Po_readItem 1 from ⟨k_5_130, k_1_4, k_5_133, by decide, by decide, by decide +kernel⟩), ⟨fun q => absurd q (by decide), fun _ => ⟨⟨k_5_132, (tb_s (q := (⟨"RightsHouse$Policies", "readItem", "(I)Z"⟩, 17)) (by decide +kernel))⟩, fun fr lo nl t q h => by
  have e : t_room.get 93 = some (200, (4000, (5, (2, 17)))) := by decide +kernel
  rw [e] at h
  cases h
  exact Or.inl ⟨by decide, 5, _, rfl, by decide, rfl⟩⟩⟩⟩
theorem cl_8_13 : CallOk 32781 (30, (1, true)) := ⟨(show xM "RightsHouse$Reals" 13 Y_Re_isNoNumber 1 from ⟨k_4_124, k_1_13, k_3_235, by decide, by decide, by decide +kernel⟩), ⟨fun _ => k_3_234, fun q => absurd q (by decide)⟩⟩
theorem cl_8_31 : CallOk 32799 (54, (3, true)) := ⟨(show xM "RightsHouse$Reals" 31 Y_Re_packed 3 from ⟨k_4_117, k_1_13, k_4_119, by decide, by decide, by decide +kernel⟩), ⟨fun _ => k_4_118, fun q => absurd q (by decide)⟩⟩
theorem cl_8_35 : CallOk 32803 (56, (1, true)) := ⟨(show xM "RightsHouse$Reals" 35 Y_Re_isEndless 1 from ⟨k_4_125, k_1_13, k_4_127, by decide, by decide, by decide +kernel⟩), ⟨fun _ => k_4_126, fun q => absurd q (by decide)⟩⟩
theorem cl_8_38 : CallOk 32806 (60, (1, true)) := ⟨(show xM "RightsHouse$Reals" 38 Y_Re_exponent 1 from ⟨k_4_140, k_1_13, k_4_142, by decide, by decide, by decide +kernel⟩), ⟨fun _ => k_4_141, fun q => absurd q (by decide)⟩⟩
theorem cl_8_42 : CallOk 32810 (58, (1, true)) := ⟨(show xM "RightsHouse$Reals" 42 Y_Re_mantissa 1 from ⟨k_4_132, k_1_13, k_4_134, by decide, by decide, by decide +kernel⟩), ⟨fun _ => k_4_133, fun q => absurd q (by decide)⟩⟩
theorem cl_8_46 : CallOk 32814 (57, (1, true)) := ⟨(show xM "RightsHouse$Reals" 46 Y_Re_isZero 1 from ⟨k_4_128, k_1_13, k_4_130, by decide, by decide, by decide +kernel⟩), ⟨fun _ => k_4_129, fun q => absurd q (by decide)⟩⟩
theorem cl_8_49 : CallOk 32817 (59, (1, true)) := ⟨(show xM "RightsHouse$Reals" 49 Y_Re_shortage 1 from ⟨k_4_137, k_1_13, k_4_139, by decide, by decide, by decide +kernel⟩), ⟨fun _ => k_4_138, fun q => absurd q (by decide)⟩⟩
theorem cl_9_46 : CallOk 36910 (21, (3, false)) := ⟨(show xM "RightsHouse$Roles" 46 Y_Wh_groupsOf 3 from ⟨k_6_144, k_1_2, k_3_198, by decide, by decide, by decide +kernel⟩), ⟨fun q => absurd q (by decide), fun _ => ⟨⟨k_3_196, k_3_197⟩, fun fr lo nl t q h => by
  have e : t_room.get 21 = some (4, (113, (6, (1, 5)))) := by decide +kernel
  rw [e] at h
  cases h
  exact Or.inl ⟨by decide, 8, _, rfl, by decide, rfl⟩⟩⟩⟩
theorem cl_9_50 : CallOk 36914 (160, (3, false)) := ⟨(show xM "RightsHouse$Roles" 50 Y_Ro_refusingGiver 3 from ⟨k_6_140, k_1_6, k_6_143, by decide, by decide, by decide +kernel⟩), ⟨fun q => absurd q (by decide), fun _ => ⟨⟨k_6_141, k_6_142⟩, fun fr lo nl t q h => by
  have e : t_room.get 160 = some (5, (138, (7, (1, 34)))) := by decide +kernel
  rw [e] at h
  cases h
  exact Or.inl ⟨by decide, 6, _, rfl, by decide, rfl⟩⟩⟩⟩
theorem cl_9_53 : CallOk 36917 (17, (5, false)) := ⟨(show xM "RightsHouse$Roles" 53 Y_Wh_addRow 5 from ⟨k_6_145, k_1_2, k_3_177, by decide, by decide, by decide +kernel⟩), ⟨fun q => absurd q (by decide), fun _ => ⟨⟨k_3_175, k_3_176⟩, fun fr lo nl t q h => by
  have e : t_room.get 17 = some (1, (40, (7, (1, 5)))) := by decide +kernel
  rw [e] at h
  cases h
  exact Or.inl ⟨by decide, 8, _, rfl, by decide, rfl⟩⟩⟩⟩
theorem cl_9_57 : CallOk 36921 (163, (3, false)) := ⟨(show xM "RightsHouse$Roles" 57 Y_Ro_firstNotHolding 3 from ⟨k_6_146, k_1_6, k_6_149, by decide, by decide, by decide +kernel⟩), ⟨fun q => absurd q (by decide), fun _ => ⟨⟨k_6_147, k_6_148⟩, fun fr lo nl t q h => by
  have e : t_room.get 163 = some (5, (138, (5, (1, 34)))) := by decide +kernel
  rw [e] at h
  cases h
  exact Or.inl ⟨by decide, 6, _, rfl, by decide, rfl⟩⟩⟩⟩
theorem cl_9_66 : CallOk 36930 (162, (1, false)) := ⟨(show xM "RightsHouse$Roles" 66 Y_Ro_doesLawHold 1 from ⟨k_6_150, k_1_6, k_6_153, by decide, by decide, by decide +kernel⟩), ⟨fun q => absurd q (by decide), fun _ => ⟨⟨k_6_152, (tb_s (q := (⟨"RightsHouse$Roles", "doesLawHold", "(I)Z"⟩, 10)) (by decide +kernel))⟩, fun fr lo nl t q h => by
  have e : t_room.get 162 = some (2, (63, (6, (2, 34)))) := by decide +kernel
  rw [e] at h
  cases h
  exact Or.inl ⟨by decide, 6, _, rfl, by decide, rfl⟩⟩⟩⟩
theorem cl_9_70 : CallOk 36934 (161, (2, false)) := ⟨(show xM "RightsHouse$Roles" 70 Y_Ro_isBothOn 2 from ⟨k_6_154, k_1_6, k_6_157, by decide, by decide, by decide +kernel⟩), ⟨fun q => absurd q (by decide), fun _ => ⟨⟨k_6_156, (tb_s (q := (⟨"RightsHouse$Roles", "isBothOn", "(II)Z"⟩, 10)) (by decide +kernel))⟩, fun fr lo nl t q h => by
  have e : t_room.get 161 = some (1, (40, (4, (2, 34)))) := by decide +kernel
  rw [e] at h
  cases h
  exact Or.inl ⟨by decide, 6, _, rfl, by decide, rfl⟩⟩⟩⟩
theorem cl_9_74 : CallOk 36938 (15, (3, false)) := ⟨(show xM "RightsHouse$Roles" 74 Y_Wh_reachedFrom 3 from ⟨k_6_205, k_1_2, k_3_161, by decide, by decide, by decide +kernel⟩), ⟨fun q => absurd q (by decide), fun _ => ⟨⟨k_3_159, k_3_160⟩, fun fr lo nl t q h => by
  have e : t_room.get 15 = some (3, (86, (8, (1, 5)))) := by decide +kernel
  rw [e] at h
  cases h
  exact Or.inl ⟨by decide, 8, _, rfl, by decide, rfl⟩⟩⟩⟩
theorem cl_10_35 : CallOk 40995 (47, (0, false)) := ⟨(show xM "RightsHouse$Things" 35 Y_Th_closeHolds 0 from ⟨k_1_80, k_1_3, k_1_83, by decide, by decide, by decide +kernel⟩), ⟨fun q => absurd q (by decide), fun _ => ⟨⟨k_1_82, (tb_s (q := (⟨"RightsHouse$Things", "closeHolds", "()V"⟩, 7)) (by decide +kernel))⟩, fun fr lo nl t q h => by
  have e : t_room.get 47 = some (1, (40, (3, (0, 10)))) := by decide +kernel
  rw [e] at h
  cases h
  exact Or.inl ⟨by decide, 7, _, rfl, by decide, rfl⟩⟩⟩⟩
theorem cl_11_34 : CallOk 45090 (9, (1, false)) := ⟨(show xM "RightsHouse$Who" 34 Y_Wh_isPerson 1 from ⟨k_3_142, k_1_2, k_3_145, by decide, by decide, by decide +kernel⟩), ⟨fun q => absurd q (by decide), fun _ => ⟨⟨k_3_143, k_3_144⟩, fun fr lo nl t q h => by
  have e : t_room.get 9 = some (1, (40, (2, (2, 5)))) := by decide +kernel
  rw [e] at h
  cases h
  exact Or.inl ⟨by decide, 8, _, rfl, by decide, rfl⟩⟩⟩⟩
theorem cl_11_38 : CallOk 45094 (10, (1, false)) := ⟨(show xM "RightsHouse$Who" 38 Y_Wh_isGroup 1 from ⟨k_3_146, k_1_2, k_3_149, by decide, by decide, by decide +kernel⟩), ⟨fun q => absurd q (by decide), fun _ => ⟨⟨k_3_147, k_3_148⟩, fun fr lo nl t q h => by
  have e : t_room.get 10 = some (1, (40, (2, (2, 5)))) := by decide +kernel
  rw [e] at h
  cases h
  exact Or.inl ⟨by decide, 8, _, rfl, by decide, rfl⟩⟩⟩⟩
theorem cl_11_44 : CallOk 45100 (13, (1, false)) := ⟨(show xM "RightsHouse$Who" 44 Y_Wh_isLasting 1 from ⟨k_3_170, k_1_2, k_3_173, by decide, by decide, by decide +kernel⟩), ⟨fun q => absurd q (by decide), fun _ => ⟨⟨k_3_171, k_3_172⟩, fun fr lo nl t q h => by
  have e : t_room.get 13 = some (1, (40, (2, (2, 5)))) := by decide +kernel
  rw [e] at h
  cases h
  exact Or.inl ⟨by decide, 8, _, rfl, by decide, rfl⟩⟩⟩⟩
theorem cl_11_47 : CallOk 45103 (19, (2, false)) := ⟨(show xM "RightsHouse$Who" 47 Y_Wh_endRow 2 from ⟨k_6_167, k_1_2, k_3_189, by decide, by decide, by decide +kernel⟩), ⟨fun q => absurd q (by decide), fun _ => ⟨⟨k_3_187, k_3_188⟩, fun fr lo nl t q h => by
  have e : t_room.get 19 = some (1, (40, (3, (0, 5)))) := by decide +kernel
  rw [e] at h
  cases h
  exact Or.inl ⟨by decide, 8, _, rfl, by decide, rfl⟩⟩⟩⟩
theorem cl_11_51 : CallOk 45107 (14, (3, false)) := ⟨(show xM "RightsHouse$Who" 51 Y_Wh_counts 3 from ⟨k_3_166, k_1_2, k_3_169, by decide, by decide, by decide +kernel⟩), ⟨fun q => absurd q (by decide), fun _ => ⟨⟨k_3_168, (tb_s (q := (⟨"RightsHouse$Who", "counts", "(III)Z"⟩, 7)) (by decide +kernel))⟩, fun fr lo nl t q h => by
  have e : t_room.get 14 = some (2, (61, (6, (2, 5)))) := by decide +kernel
  rw [e] at h
  cases h
  exact Or.inl ⟨by decide, 8, _, rfl, by decide, rfl⟩⟩⟩⟩
theorem cl_11_55 : CallOk 45111 (15, (3, false)) := ⟨(show xM "RightsHouse$Who" 55 Y_Wh_reachedFrom 3 from ⟨k_3_158, k_1_2, k_3_161, by decide, by decide, by decide +kernel⟩), ⟨fun q => absurd q (by decide), fun _ => ⟨⟨k_3_159, k_3_160⟩, fun fr lo nl t q h => by
  have e : t_room.get 15 = some (3, (86, (8, (1, 5)))) := by decide +kernel
  rw [e] at h
  cases h
  exact Or.inl ⟨by decide, 8, _, rfl, by decide, rfl⟩⟩⟩⟩
theorem cl_11_59 : CallOk 45115 (12, (2, false)) := ⟨(show xM "RightsHouse$Who" 59 Y_Wh_isFromAmong 2 from ⟨k_3_162, k_1_2, k_3_165, by decide, by decide, by decide +kernel⟩), ⟨fun q => absurd q (by decide), fun _ => ⟨⟨k_3_164, (tb_s (q := (⟨"RightsHouse$Who", "isFromAmong", "(II)Z"⟩, 7)) (by decide +kernel))⟩, fun fr lo nl t q h => by
  have e : t_room.get 12 = some (1, (40, (4, (2, 5)))) := by decide +kernel
  rw [e] at h
  cases h
  exact Or.inl ⟨by decide, 8, _, rfl, by decide, rfl⟩⟩⟩⟩
theorem cl_11_63 : CallOk 45119 (30, (1, true)) := ⟨(show xM "RightsHouse$Who" 63 Y_Re_isNoNumber 1 from ⟨k_3_233, k_1_13, k_3_235, by decide, by decide, by decide +kernel⟩), ⟨fun _ => k_3_234, fun q => absurd q (by decide)⟩⟩
theorem cl_12_55 : CallOk 49207 (21, (3, false)) := ⟨(show xM "RightsHouse$Works" 55 Y_Wh_groupsOf 3 from ⟨k_6_238, k_1_2, k_3_198, by decide, by decide, by decide +kernel⟩), ⟨fun q => absurd q (by decide), fun _ => ⟨⟨k_3_196, k_3_197⟩, fun fr lo nl t q h => by
  have e : t_room.get 21 = some (4, (113, (6, (1, 5)))) := by decide +kernel
  rw [e] at h
  cases h
  exact Or.inl ⟨by decide, 8, _, rfl, by decide, rfl⟩⟩⟩⟩
theorem cl_12_65 : CallOk 49217 (186, (1, false)) := ⟨(show xM "RightsHouse$Works" 65 Y_Wo_searchFrom 1 from ⟨k_7_3, k_1_7, k_7_6, by decide, by decide, by decide +kernel⟩), ⟨fun q => absurd q (by decide), fun _ => ⟨⟨k_7_5, (tb_s (q := (⟨"RightsHouse$Works", "searchFrom", "(I)I"⟩, 15)) (by decide +kernel))⟩, fun fr lo nl t q h => by
  have e : t_room.get 186 = some (200, (4000, (4, (1, 41)))) := by decide +kernel
  rw [e] at h
  cases h
  exact Or.inl ⟨by decide, 9, _, rfl, by decide, rfl⟩⟩⟩⟩
theorem cl_12_69 : CallOk 49221 (185, (0, false)) := ⟨(show xM "RightsHouse$Works" 69 Y_Wo_doTiesHold 0 from ⟨k_7_7, k_1_7, k_7_10, by decide, by decide, by decide +kernel⟩), ⟨fun q => absurd q (by decide), fun _ => ⟨⟨k_7_9, (tb_s (q := (⟨"RightsHouse$Works", "doTiesHold", "()Z"⟩, 15)) (by decide +kernel))⟩, fun fr lo nl t q h => by
  have e : t_room.get 185 = some (20, (600, (6, (2, 41)))) := by decide +kernel
  rw [e] at h
  cases h
  exact Or.inl ⟨by decide, 9, _, rfl, by decide, rfl⟩⟩⟩⟩
theorem cl_12_73 : CallOk 49225 (187, (1, false)) := ⟨(show xM "RightsHouse$Works" 73 Y_Wo_search 1 from ⟨k_7_32, k_1_7, k_7_2, by decide, by decide, by decide +kernel⟩), ⟨fun q => absurd q (by decide), fun _ => ⟨⟨k_7_0, k_7_1⟩, fun fr lo nl t q h => by
  have e : t_room.get 187 = some (601, (20023, (2, (1, 41)))) := by decide +kernel
  rw [e] at h
  cases h
  exact Or.inl ⟨by decide, 9, _, rfl, by decide, rfl⟩⟩⟩⟩
theorem cl_12_76 : CallOk 49228 (69, (2, true)) := ⟨(show xM "RightsHouse$Works" 76 Y_JM_min 2 from ⟨k_7_11, k_1_17, k_4_185, by decide, by decide, by decide +kernel⟩), ⟨fun _ => k_4_184, fun q => absurd q (by decide)⟩⟩
theorem cl_12_82 : CallOk 49234 (184, (1, false)) := ⟨(show xM "RightsHouse$Works" 82 Y_Wo_hasAnybodyMoreThan 1 from ⟨k_7_12, k_1_7, k_7_15, by decide, by decide, by decide +kernel⟩), ⟨fun q => absurd q (by decide), fun _ => ⟨⟨k_7_14, (tb_s (q := (⟨"RightsHouse$Works", "hasAnybodyMoreThan", "(I)Z"⟩, 15)) (by decide +kernel))⟩, fun fr lo nl t q h => by
  have e : t_room.get 184 = some (1, (40, (5, (2, 41)))) := by decide +kernel
  rw [e] at h
  cases h
  exact Or.inl ⟨by decide, 9, _, rfl, by decide, rfl⟩⟩⟩⟩
theorem cl_13_333 : CallOk 53581 (285, (3, true)) := ⟨(show xM "RightsHouseModel" 333 Y_M_in 3 from ⟨k_10_152, k_1_12, k_10_154, by decide, by decide, by decide +kernel⟩), ⟨fun _ => k_10_153, fun q => absurd q (by decide)⟩⟩
theorem cl_13_349 : CallOk 53597 (293, (2, true)) := ⟨(show xM "RightsHouseModel" 349 Y_M_signed 2 from ⟨k_11_132, k_1_12, k_11_134, by decide, by decide, by decide +kernel⟩), ⟨fun _ => k_11_133, fun q => absurd q (by decide)⟩⟩
theorem cl_13_353 : CallOk 53601 (292, (1, true)) := ⟨(show xM "RightsHouseModel" 353 Y_M_length 1 from ⟨k_11_126, k_1_12, k_11_128, by decide, by decide, by decide +kernel⟩), ⟨fun _ => k_11_127, fun q => absurd q (by decide)⟩⟩
theorem cl_13_357 : CallOk 53605 (294, (3, true)) := ⟨(show xM "RightsHouseModel" 357 Y_M_pack 3 from ⟨k_11_136, k_1_12, k_11_138, by decide, by decide, by decide +kernel⟩), ⟨fun _ => k_11_137, fun q => absurd q (by decide)⟩⟩
theorem cl_13_361 : CallOk 53609 (295, (4, true)) := ⟨(show xM "RightsHouseModel" 361 Y_M_fit 4 from ⟨k_11_129, k_1_12, k_11_131, by decide, by decide, by decide +kernel⟩), ⟨fun _ => k_11_130, fun q => absurd q (by decide)⟩⟩
theorem cl_13_367 : CallOk 53615 (287, (1, true)) := ⟨(show xM "RightsHouseModel" 367 Y_M_isNan 1 from ⟨k_11_23, k_1_12, k_11_25, by decide, by decide, by decide +kernel⟩), ⟨fun _ => k_11_24, fun q => absurd q (by decide)⟩⟩
theorem cl_13_371 : CallOk 53619 (288, (1, true)) := ⟨(show xM "RightsHouseModel" 371 Y_M_isInfinite 1 from ⟨k_11_143, k_1_12, k_11_145, by decide, by decide, by decide +kernel⟩), ⟨fun _ => k_11_144, fun q => absurd q (by decide)⟩⟩
theorem cl_13_374 : CallOk 53622 (289, (1, true)) := ⟨(show xM "RightsHouseModel" 374 Y_M_isZero 1 from ⟨k_11_146, k_1_12, k_11_148, by decide, by decide, by decide +kernel⟩), ⟨fun _ => k_11_147, fun q => absurd q (by decide)⟩⟩
theorem cl_13_381 : CallOk 53629 (290, (1, true)) := ⟨(show xM "RightsHouseModel" 381 Y_M_mantissa 1 from ⟨k_11_149, k_1_12, k_11_151, by decide, by decide, by decide +kernel⟩), ⟨fun _ => k_11_150, fun q => absurd q (by decide)⟩⟩
theorem cl_13_387 : CallOk 53635 (291, (1, true)) := ⟨(show xM "RightsHouseModel" 387 Y_M_exponent 1 from ⟨k_11_154, k_1_12, k_11_156, by decide, by decide, by decide +kernel⟩), ⟨fun _ => k_11_155, fun q => absurd q (by decide)⟩⟩
theorem cl_13_409 : CallOk 53657 (306, (2, true)) := ⟨(show xM "RightsHouseModel" 409 Y_M_mixed 2 from ⟨k_10_184, k_1_12, k_10_186, by decide, by decide, by decide +kernel⟩), ⟨fun _ => k_10_185, fun q => absurd q (by decide)⟩⟩
theorem cl_13_416 : CallOk 53664 (307, (2, false)) := ⟨(show xM "RightsHouseModel" 416 Y_M_sumOf 2 from ⟨k_10_180, k_1_12, k_10_183, by decide, by decide, by decide +kernel⟩), ⟨fun q => absurd q (by decide), fun _ => ⟨⟨k_10_182, (tb_s (q := (⟨"RightsHouseModel", "sumOf", "(II)I"⟩, 151)) (by decide +kernel))⟩, fun fr lo nl t q h => by
  have e : t_room.get 307 = some (2, (62, (5, (1, 110)))) := by decide +kernel
  rw [e] at h
  cases h
  exact Or.inl ⟨by decide, 11, _, rfl, by decide, rfl⟩⟩⟩⟩
theorem cl_13_432 : CallOk 53680 (317, (3, false)) := ⟨(show xM "RightsHouseModel" 432 Y_M_standsAt 3 from ⟨k_10_233, k_1_12, k_10_236, by decide, by decide, by decide +kernel⟩), ⟨fun q => absurd q (by decide), fun _ => ⟨⟨k_10_235, (tb_s (q := (⟨"RightsHouseModel", "standsAt", "(III)Z"⟩, 151)) (by decide +kernel))⟩, fun fr lo nl t q h => by
  have e : t_room.get 317 = some (1, (40, (4, (2, 110)))) := by decide +kernel
  rw [e] at h
  cases h
  exact Or.inl ⟨by decide, 11, _, rfl, by decide, rfl⟩⟩⟩⟩
theorem cl_13_436 : CallOk 53684 (318, (2, false)) := ⟨(show xM "RightsHouseModel" 436 Y_M_spreads 2 from ⟨k_10_237, k_1_12, k_11_0, by decide, by decide, by decide +kernel⟩), ⟨fun q => absurd q (by decide), fun _ => ⟨⟨k_10_239, (tb_s (q := (⟨"RightsHouseModel", "spreads", "(II)V"⟩, 151)) (by decide +kernel))⟩, fun fr lo nl t q h => by
  have e : t_room.get 318 = some (2, (63, (5, (0, 110)))) := by decide +kernel
  rw [e] at h
  cases h
  exact Or.inl ⟨by decide, 11, _, rfl, by decide, rfl⟩⟩⟩⟩
theorem cl_13_440 : CallOk 53688 (319, (3, false)) := ⟨(show xM "RightsHouseModel" 440 Y_M_reaches 3 from ⟨k_10_229, k_1_12, k_10_232, by decide, by decide, by decide +kernel⟩), ⟨fun q => absurd q (by decide), fun _ => ⟨⟨k_10_231, (tb_s (q := (⟨"RightsHouseModel", "reaches", "(III)V"⟩, 151)) (by decide +kernel))⟩, fun fr lo nl t q h => by
  have e : t_room.get 319 = some (3, (87, (5, (0, 110)))) := by decide +kernel
  rw [e] at h
  cases h
  exact Or.inl ⟨by decide, 11, _, rfl, by decide, rfl⟩⟩⟩⟩
theorem cl_13_444 : CallOk 53692 (315, (1, false)) := ⟨(show xM "RightsHouseModel" 444 Y_M_isPerson 1 from ⟨k_10_205, k_1_12, k_10_208, by decide, by decide, by decide +kernel⟩), ⟨fun q => absurd q (by decide), fun _ => ⟨⟨k_10_207, (tb_s (q := (⟨"RightsHouseModel", "isPerson", "(I)Z"⟩, 151)) (by decide +kernel))⟩, fun fr lo nl t q h => by
  have e : t_room.get 315 = some (2, (65, (2, (2, 110)))) := by decide +kernel
  rw [e] at h
  cases h
  exact Or.inl ⟨by decide, 11, _, rfl, by decide, rfl⟩⟩⟩⟩
theorem cl_13_448 : CallOk 53696 (316, (1, false)) := ⟨(show xM "RightsHouseModel" 448 Y_M_isGroup 1 from ⟨k_10_209, k_1_12, k_10_212, by decide, by decide, by decide +kernel⟩), ⟨fun q => absurd q (by decide), fun _ => ⟨⟨k_10_211, (tb_s (q := (⟨"RightsHouseModel", "isGroup", "(I)Z"⟩, 151)) (by decide +kernel))⟩, fun fr lo nl t q h => by
  have e : t_room.get 316 = some (2, (65, (2, (2, 110)))) := by decide +kernel
  rw [e] at h
  cases h
  exact Or.inl ⟨by decide, 11, _, rfl, by decide, rfl⟩⟩⟩⟩
theorem cl_13_451 : CallOk 53699 (286, (1, true)) := ⟨(show xM "RightsHouseModel" 451 Y_M_isMoment 1 from ⟨k_10_213, k_1_12, k_10_215, by decide, by decide, by decide +kernel⟩), ⟨fun _ => k_10_214, fun q => absurd q (by decide)⟩⟩
theorem cl_13_454 : CallOk 53702 (321, (4, false)) := ⟨(show xM "RightsHouseModel" 454 Y_M_rowPut 4 from ⟨k_10_217, k_1_12, k_10_220, by decide, by decide, by decide +kernel⟩), ⟨fun q => absurd q (by decide), fun _ => ⟨⟨k_10_219, (tb_s (q := (⟨"RightsHouseModel", "rowPut", "(IIII)I"⟩, 151)) (by decide +kernel))⟩, fun fr lo nl t q h => by
  have e : t_room.get 321 = some (1, (40, (5, (1, 110)))) := by decide +kernel
  rw [e] at h
  cases h
  exact Or.inl ⟨by decide, 11, _, rfl, by decide, rfl⟩⟩⟩⟩
theorem cl_13_458 : CallOk 53706 (326, (1, false)) := ⟨(show xM "RightsHouseModel" 458 Y_M_isThing 1 from ⟨k_11_13, k_1_12, k_11_16, by decide, by decide, by decide +kernel⟩), ⟨fun q => absurd q (by decide), fun _ => ⟨⟨k_11_15, (tb_s (q := (⟨"RightsHouseModel", "isThing", "(I)Z"⟩, 151)) (by decide +kernel))⟩, fun fr lo nl t q h => by
  have e : t_room.get 326 = some (2, (65, (2, (2, 110)))) := by decide +kernel
  rw [e] at h
  cases h
  exact Or.inl ⟨by decide, 11, _, rfl, by decide, rfl⟩⟩⟩⟩
theorem cl_13_463 : CallOk 53711 (327, (2, false)) := ⟨(show xM "RightsHouseModel" 463 Y_M_rowFor 2 from ⟨k_11_9, k_1_12, k_11_12, by decide, by decide, by decide +kernel⟩), ⟨fun q => absurd q (by decide), fun _ => ⟨⟨k_11_11, (tb_s (q := (⟨"RightsHouseModel", "rowFor", "(II)I"⟩, 151)) (by decide +kernel))⟩, fun fr lo nl t q h => by
  have e : t_room.get 327 = some (3, (86, (4, (1, 110)))) := by decide +kernel
  rw [e] at h
  cases h
  exact Or.inl ⟨by decide, 11, _, rfl, by decide, rfl⟩⟩⟩⟩
theorem cl_13_476 : CallOk 53724 (332, (0, false)) := ⟨(show xM "RightsHouseModel" 476 Y_M_begins 0 from ⟨k_11_45, k_1_12, k_11_48, by decide, by decide, by decide +kernel⟩), ⟨fun q => absurd q (by decide), fun _ => ⟨⟨k_11_47, (tb_s (q := (⟨"RightsHouseModel", "begins", "()V"⟩, 151)) (by decide +kernel))⟩, fun fr lo nl t q h => by
  have e : t_room.get 332 = some (1, (40, (2, (0, 110)))) := by decide +kernel
  rw [e] at h
  cases h
  exact Or.inl ⟨by decide, 11, _, rfl, by decide, rfl⟩⟩⟩⟩
theorem cl_13_479 : CallOk 53727 (333, (1, false)) := ⟨(show xM "RightsHouseModel" 479 Y_M_isHere 1 from ⟨k_11_49, k_1_12, k_11_52, by decide, by decide, by decide +kernel⟩), ⟨fun q => absurd q (by decide), fun _ => ⟨⟨k_11_51, (tb_s (q := (⟨"RightsHouseModel", "isHere", "(I)Z"⟩, 151)) (by decide +kernel))⟩, fun fr lo nl t q h => by
  have e : t_room.get 333 = some (3, (86, (2, (2, 110)))) := by decide +kernel
  rw [e] at h
  cases h
  exact Or.inl ⟨by decide, 11, _, rfl, by decide, rfl⟩⟩⟩⟩
theorem cl_13_484 : CallOk 53732 (338, (1, false)) := ⟨(show xM "RightsHouseModel" 484 Y_M_depthOf 1 from ⟨k_11_70, k_1_12, k_11_73, by decide, by decide, by decide +kernel⟩), ⟨fun q => absurd q (by decide), fun _ => ⟨⟨k_11_72, (tb_s (q := (⟨"RightsHouseModel", "depthOf", "(I)I"⟩, 151)) (by decide +kernel))⟩, fun fr lo nl t q h => by
  have e : t_room.get 338 = some (1, (40, (4, (1, 110)))) := by decide +kernel
  rw [e] at h
  cases h
  exact Or.inl ⟨by decide, 11, _, rfl, by decide, rfl⟩⟩⟩⟩
theorem cl_13_488 : CallOk 53736 (340, (2, false)) := ⟨(show xM "RightsHouseModel" 488 Y_M_isUnder 2 from ⟨k_11_78, k_1_12, k_11_81, by decide, by decide, by decide +kernel⟩), ⟨fun q => absurd q (by decide), fun _ => ⟨⟨k_11_80, (tb_s (q := (⟨"RightsHouseModel", "isUnder", "(II)Z"⟩, 151)) (by decide +kernel))⟩, fun fr lo nl t q h => by
  have e : t_room.get 340 = some (1, (40, (4, (2, 110)))) := by decide +kernel
  rw [e] at h
  cases h
  exact Or.inl ⟨by decide, 11, _, rfl, by decide, rfl⟩⟩⟩⟩
theorem cl_13_492 : CallOk 53740 (343, (1, false)) := ⟨(show xM "RightsHouseModel" 492 Y_M_heldBy 1 from ⟨k_11_94, k_1_12, k_11_97, by decide, by decide, by decide +kernel⟩), ⟨fun q => absurd q (by decide), fun _ => ⟨⟨k_11_96, (tb_s (q := (⟨"RightsHouseModel", "heldBy", "(I)I"⟩, 151)) (by decide +kernel))⟩, fun fr lo nl t q h => by
  have e : t_room.get 343 = some (2, (61, (6, (1, 110)))) := by decide +kernel
  rw [e] at h
  cases h
  exact Or.inl ⟨by decide, 11, _, rfl, by decide, rfl⟩⟩⟩⟩
theorem cl_13_495 : CallOk 53743 (344, (2, false)) := ⟨(show xM "RightsHouseModel" 495 Y_M_isHeld 2 from ⟨k_11_90, k_1_12, k_11_93, by decide, by decide, by decide +kernel⟩), ⟨fun q => absurd q (by decide), fun _ => ⟨⟨k_11_92, (tb_s (q := (⟨"RightsHouseModel", "isHeld", "(II)Z"⟩, 151)) (by decide +kernel))⟩, fun fr lo nl t q h => by
  have e : t_room.get 344 = some (3, (86, (3, (2, 110)))) := by decide +kernel
  rw [e] at h
  cases h
  exact Or.inl ⟨by decide, 11, _, rfl, by decide, rfl⟩⟩⟩⟩
theorem cl_13_501 : CallOk 53749 (346, (1, false)) := ⟨(show xM "RightsHouseModel" 501 Y_M_byteAt 1 from ⟨k_11_106, k_1_12, k_11_109, by decide, by decide, by decide +kernel⟩), ⟨fun q => absurd q (by decide), fun _ => ⟨⟨k_11_108, (tb_s (q := (⟨"RightsHouseModel", "byteAt", "(I)I"⟩, 151)) (by decide +kernel))⟩, fun fr lo nl t q h => by
  have e : t_room.get 346 = some (1, (40, (2, (1, 110)))) := by decide +kernel
  rw [e] at h
  cases h
  exact Or.inl ⟨by decide, 11, _, rfl, by decide, rfl⟩⟩⟩⟩
theorem cl_13_514 : CallOk 53762 (348, (1, true)) := ⟨(show xM "RightsHouseModel" 514 Y_M_isLetter 1 from ⟨k_11_110, k_1_12, k_11_112, by decide, by decide, by decide +kernel⟩), ⟨fun _ => k_11_111, fun q => absurd q (by decide)⟩⟩
theorem cl_13_517 : CallOk 53765 (347, (1, true)) := ⟨(show xM "RightsHouseModel" 517 Y_M_isFigure 1 from ⟨k_11_113, k_1_12, k_11_115, by decide, by decide, by decide +kernel⟩), ⟨fun _ => k_11_114, fun q => absurd q (by decide)⟩⟩
theorem cl_13_522 : CallOk 53770 (349, (0, false)) := ⟨(show xM "RightsHouseModel" 522 Y_M_number 0 from ⟨k_11_117, k_1_12, k_11_120, by decide, by decide, by decide +kernel⟩), ⟨fun q => absurd q (by decide), fun _ => ⟨⟨k_11_119, (tb_s (q := (⟨"RightsHouseModel", "number", "()V"⟩, 151)) (by decide +kernel))⟩, fun fr lo nl t q h => by
  have e : t_room.get 349 = some (5, (155, (4, (0, 110)))) := by decide +kernel
  rw [e] at h
  cases h
  exact Or.inl ⟨by decide, 11, _, rfl, by decide, rfl⟩⟩⟩⟩
theorem cl_13_525 : CallOk 53773 (350, (1, false)) := ⟨(show xM "RightsHouseModel" 525 Y_M_sign 1 from ⟨k_11_157, k_1_12, k_11_160, by decide, by decide, by decide +kernel⟩), ⟨fun q => absurd q (by decide), fun _ => ⟨⟨k_11_159, (tb_s (q := (⟨"RightsHouseModel", "sign", "(I)V"⟩, 151)) (by decide +kernel))⟩, fun fr lo nl t q h => by
  have e : t_room.get 350 = some (2, (61, (4, (0, 110)))) := by decide +kernel
  rw [e] at h
  cases h
  exact Or.inl ⟨by decide, 11, _, rfl, by decide, rfl⟩⟩⟩⟩
theorem cl_13_533 : CallOk 53781 (296, (1, true)) := ⟨(show xM "RightsHouseModel" 533 Y_M_ofWhole 1 from ⟨k_11_123, k_1_12, k_11_125, by decide, by decide, by decide +kernel⟩), ⟨fun _ => k_11_124, fun q => absurd q (by decide)⟩⟩
theorem cl_13_536 : CallOk 53784 (300, (2, true)) := ⟨(show xM "RightsHouseModel" 536 Y_M_over 2 from ⟨k_11_140, k_1_12, k_11_142, by decide, by decide, by decide +kernel⟩), ⟨fun _ => k_11_141, fun q => absurd q (by decide)⟩⟩
theorem cl_13_552 : CallOk 53800 (355, (2, false)) := ⟨(show xM "RightsHouseModel" 552 Y_M_emit 2 from ⟨k_11_219, k_1_12, k_11_222, by decide, by decide, by decide +kernel⟩), ⟨fun q => absurd q (by decide), fun _ => ⟨⟨k_11_221, (tb_s (q := (⟨"RightsHouseModel", "emit", "(IJ)V"⟩, 151)) (by decide +kernel))⟩, fun fr lo nl t q h => by
  have e : t_room.get 355 = some (1, (40, (4, (0, 110)))) := by decide +kernel
  rw [e] at h
  cases h
  exact Or.inl ⟨by decide, 11, _, rfl, by decide, rfl⟩⟩⟩⟩
theorem cl_13_562 : CallOk 53810 (353, (5, false)) := ⟨(show xM "RightsHouseModel" 562 Y_M_isWord 5 from ⟨k_11_169, k_1_12, k_11_172, by decide, by decide, by decide +kernel⟩), ⟨fun q => absurd q (by decide), fun _ => ⟨⟨k_11_171, (tb_s (q := (⟨"RightsHouseModel", "isWord", "(IIIII)Z"⟩, 151)) (by decide +kernel))⟩, fun fr lo nl t q h => by
  have e : t_room.get 353 = some (1, (40, (8, (2, 110)))) := by decide +kernel
  rw [e] at h
  cases h
  exact Or.inl ⟨by decide, 11, _, rfl, by decide, rfl⟩⟩⟩⟩
theorem cl_13_566 : CallOk 53814 (351, (0, false)) := ⟨(show xM "RightsHouseModel" 566 Y_M_token 0 from ⟨k_11_102, k_1_12, k_11_105, by decide, by decide, by decide +kernel⟩), ⟨fun q => absurd q (by decide), fun _ => ⟨⟨k_11_104, (tb_s (q := (⟨"RightsHouseModel", "token", "()V"⟩, 151)) (by decide +kernel))⟩, fun fr lo nl t q h => by
  have e : t_room.get 351 = some (6, (178, (2, (0, 110)))) := by decide +kernel
  rw [e] at h
  cases h
  exact Or.inl ⟨by decide, 11, _, rfl, by decide, rfl⟩⟩⟩⟩
theorem cl_13_569 : CallOk 53817 (352, (1, false)) := ⟨(show xM "RightsHouseModel" 569 Y_M_isSign 1 from ⟨k_11_193, k_1_12, k_11_196, by decide, by decide, by decide +kernel⟩), ⟨fun q => absurd q (by decide), fun _ => ⟨⟨k_11_195, (tb_s (q := (⟨"RightsHouseModel", "isSign", "(I)Z"⟩, 151)) (by decide +kernel))⟩, fun fr lo nl t q h => by
  have e : t_room.get 352 = some (1, (40, (2, (2, 110)))) := by decide +kernel
  rw [e] at h
  cases h
  exact Or.inl ⟨by decide, 11, _, rfl, by decide, rfl⟩⟩⟩⟩
theorem cl_13_579 : CallOk 53827 (356, (1, false)) := ⟨(show xM "RightsHouseModel" 579 Y_M_reduce 1 from ⟨k_11_231, k_1_12, k_11_234, by decide, by decide, by decide +kernel⟩), ⟨fun q => absurd q (by decide), fun _ => ⟨⟨k_11_233, (tb_s (q := (⟨"RightsHouseModel", "reduce", "(I)V"⟩, 151)) (by decide +kernel))⟩, fun fr lo nl t q h => by
  have e : t_room.get 356 = some (2, (63, (2, (0, 110)))) := by decide +kernel
  rw [e] at h
  cases h
  exact Or.inl ⟨by decide, 11, _, rfl, by decide, rfl⟩⟩⟩⟩
theorem cl_13_588 : CallOk 53836 (358, (0, false)) := ⟨(show xM "RightsHouseModel" 588 Y_M_deeper 0 from ⟨k_11_205, k_1_12, k_11_208, by decide, by decide, by decide +kernel⟩), ⟨fun q => absurd q (by decide), fun _ => ⟨⟨k_11_207, (tb_s (q := (⟨"RightsHouseModel", "deeper", "()Z"⟩, 151)) (by decide +kernel))⟩, fun fr lo nl t q h => by
  have e : t_room.get 358 = some (1, (40, (1, (2, 110)))) := by decide +kernel
  rw [e] at h
  cases h
  exact Or.inl ⟨by decide, 11, _, rfl, by decide, rfl⟩⟩⟩⟩
theorem cl_13_592 : CallOk 53840 (357, (3, false)) := ⟨(show xM "RightsHouseModel" 592 Y_M_holdBack 3 from ⟨k_11_209, k_1_12, k_11_212, by decide, by decide, by decide +kernel⟩), ⟨fun q => absurd q (by decide), fun _ => ⟨⟨k_11_211, (tb_s (q := (⟨"RightsHouseModel", "holdBack", "(III)V"⟩, 151)) (by decide +kernel))⟩, fun fr lo nl t q h => by
  have e : t_room.get 357 = some (1, (40, (4, (0, 110)))) := by decide +kernel
  rw [e] at h
  cases h
  exact Or.inl ⟨by decide, 11, _, rfl, by decide, rfl⟩⟩⟩⟩
theorem cl_13_595 : CallOk 53843 (360, (0, false)) := ⟨(show xM "RightsHouseModel" 595 Y_M_isFeature 0 from ⟨k_11_213, k_1_12, k_11_216, by decide, by decide, by decide +kernel⟩), ⟨fun q => absurd q (by decide), fun _ => ⟨⟨k_11_215, (tb_s (q := (⟨"RightsHouseModel", "isFeature", "()Z"⟩, 151)) (by decide +kernel))⟩, fun fr lo nl t q h => by
  have e : t_room.get 360 = some (7, (199, (2, (2, 110)))) := by decide +kernel
  rw [e] at h
  cases h
  exact Or.inl ⟨by decide, 11, _, rfl, by decide, rfl⟩⟩⟩⟩
theorem cl_13_598 : CallOk 53846 (359, (2, false)) := ⟨(show xM "RightsHouseModel" 598 Y_M_opens 2 from ⟨k_11_223, k_1_12, k_11_226, by decide, by decide, by decide +kernel⟩), ⟨fun q => absurd q (by decide), fun _ => ⟨⟨k_11_225, (tb_s (q := (⟨"RightsHouseModel", "opens", "(II)V"⟩, 151)) (by decide +kernel))⟩, fun fr lo nl t q h => by
  have e : t_room.get 359 = some (1, (40, (3, (0, 110)))) := by decide +kernel
  rw [e] at h
  cases h
  exact Or.inl ⟨by decide, 11, _, rfl, by decide, rfl⟩⟩⟩⟩
theorem cl_13_601 : CallOk 53849 (361, (0, false)) := ⟨(show xM "RightsHouseModel" 601 Y_M_valueDone 0 from ⟨k_11_227, k_1_12, k_11_230, by decide, by decide, by decide +kernel⟩), ⟨fun q => absurd q (by decide), fun _ => ⟨⟨k_11_229, (tb_s (q := (⟨"RightsHouseModel", "valueDone", "()V"⟩, 151)) (by decide +kernel))⟩, fun fr lo nl t q h => by
  have e : t_room.get 361 = some (3, (84, (1, (0, 110)))) := by decide +kernel
  rw [e] at h
  cases h
  exact Or.inl ⟨by decide, 11, _, rfl, by decide, rfl⟩⟩⟩⟩
theorem cl_13_604 : CallOk 53852 (362, (0, false)) := ⟨(show xM "RightsHouseModel" 604 Y_M_featureDone 0 from ⟨k_11_235, k_1_12, k_11_238, by decide, by decide, by decide +kernel⟩), ⟨fun q => absurd q (by decide), fun _ => ⟨⟨k_11_237, (tb_s (q := (⟨"RightsHouseModel", "featureDone", "()V"⟩, 151)) (by decide +kernel))⟩, fun fr lo nl t q h => by
  have e : t_room.get 362 = some (7, (199, (3, (0, 110)))) := by decide +kernel
  rw [e] at h
  cases h
  exact Or.inl ⟨by decide, 11, _, rfl, by decide, rfl⟩⟩⟩⟩
theorem cl_13_607 : CallOk 53855 (365, (1, true)) := ⟨(show xM "RightsHouseModel" 607 Y_M_reckoning 1 from ⟨k_12_3, k_1_12, k_12_5, by decide, by decide, by decide +kernel⟩), ⟨fun _ => k_12_4, fun q => absurd q (by decide)⟩⟩
theorem cl_13_610 : CallOk 53858 (364, (1, true)) := ⟨(show xM "RightsHouseModel" 610 Y_M_comparison 1 from ⟨k_12_6, k_1_12, k_12_8, by decide, by decide, by decide +kernel⟩), ⟨fun _ => k_12_7, fun q => absurd q (by decide)⟩⟩
theorem cl_13_613 : CallOk 53861 (366, (0, false)) := ⟨(show xM "RightsHouseModel" 613 Y_M_closes 0 from ⟨k_12_9, k_1_12, k_12_12, by decide, by decide, by decide +kernel⟩), ⟨fun q => absurd q (by decide), fun _ => ⟨⟨k_12_11, (tb_s (q := (⟨"RightsHouseModel", "closes", "()Z"⟩, 151)) (by decide +kernel))⟩, fun fr lo nl t q h => by
  have e : t_room.get 366 = some (1, (40, (1, (2, 110)))) := by decide +kernel
  rw [e] at h
  cases h
  exact Or.inl ⟨by decide, 11, _, rfl, by decide, rfl⟩⟩⟩⟩
theorem cl_13_616 : CallOk 53864 (367, (0, false)) := ⟨(show xM "RightsHouseModel" 616 Y_M_closed 0 from ⟨k_12_13, k_1_12, k_12_16, by decide, by decide, by decide +kernel⟩), ⟨fun q => absurd q (by decide), fun _ => ⟨⟨k_12_15, (tb_s (q := (⟨"RightsHouseModel", "closed", "()V"⟩, 151)) (by decide +kernel))⟩, fun fr lo nl t q h => by
  have e : t_room.get 367 = some (4, (104, (2, (0, 110)))) := by decide +kernel
  rw [e] at h
  cases h
  exact Or.inl ⟨by decide, 11, _, rfl, by decide, rfl⟩⟩⟩⟩
theorem cl_13_619 : CallOk 53867 (363, (0, false)) := ⟨(show xM "RightsHouseModel" 619 Y_M_wanted 0 from ⟨k_11_201, k_1_12, k_11_204, by decide, by decide, by decide +kernel⟩), ⟨fun q => absurd q (by decide), fun _ => ⟨⟨k_11_203, (tb_s (q := (⟨"RightsHouseModel", "wanted", "()V"⟩, 151)) (by decide +kernel))⟩, fun fr lo nl t q h => by
  have e : t_room.get 363 = some (8, (221, (1, (0, 110)))) := by decide +kernel
  rw [e] at h
  cases h
  exact Or.inl ⟨by decide, 11, _, rfl, by decide, rfl⟩⟩⟩⟩
theorem cl_13_622 : CallOk 53870 (368, (0, false)) := ⟨(show xM "RightsHouseModel" 622 Y_M_goesOn 0 from ⟨k_11_239, k_1_12, k_12_2, by decide, by decide, by decide +kernel⟩), ⟨fun q => absurd q (by decide), fun _ => ⟨⟨k_12_1, (tb_s (q := (⟨"RightsHouseModel", "goesOn", "()Z"⟩, 151)) (by decide +kernel))⟩, fun fr lo nl t q h => by
  have e : t_room.get 368 = some (8, (220, (4, (2, 110)))) := by decide +kernel
  rw [e] at h
  cases h
  exact Or.inl ⟨by decide, 11, _, rfl, by decide, rfl⟩⟩⟩⟩
theorem cl_13_625 : CallOk 53873 (370, (0, false)) := ⟨(show xM "RightsHouseModel" 625 Y_M_fails 0 from ⟨k_11_173, k_1_12, k_11_176, by decide, by decide, by decide +kernel⟩), ⟨fun q => absurd q (by decide), fun _ => ⟨⟨k_11_175, (tb_s (q := (⟨"RightsHouseModel", "fails", "()Z"⟩, 151)) (by decide +kernel))⟩, fun fr lo nl t q h => by
  have e : t_room.get 370 = some (1, (40, (1, (2, 110)))) := by decide +kernel
  rw [e] at h
  cases h
  exact Or.inl ⟨by decide, 11, _, rfl, by decide, rfl⟩⟩⟩⟩
theorem cl_13_628 : CallOk 53876 (354, (1, false)) := ⟨(show xM "RightsHouseModel" 628 Y_M_numbered 1 from ⟨k_11_181, k_1_12, k_11_184, by decide, by decide, by decide +kernel⟩), ⟨fun q => absurd q (by decide), fun _ => ⟨⟨k_11_183, (tb_s (q := (⟨"RightsHouseModel", "numbered", "(I)I"⟩, 151)) (by decide +kernel))⟩, fun fr lo nl t q h => by
  have e : t_room.get 354 = some (2, (61, (5, (1, 110)))) := by decide +kernel
  rw [e] at h
  cases h
  exact Or.inl ⟨by decide, 11, _, rfl, by decide, rfl⟩⟩⟩⟩
theorem cl_13_631 : CallOk 53879 (371, (1, false)) := ⟨(show xM "RightsHouseModel" 631 Y_M_isEffect 1 from ⟨k_11_165, k_1_12, k_11_168, by decide, by decide, by decide +kernel⟩), ⟨fun q => absurd q (by decide), fun _ => ⟨⟨k_11_167, (tb_s (q := (⟨"RightsHouseModel", "isEffect", "(I)Z"⟩, 151)) (by decide +kernel))⟩, fun fr lo nl t q h => by
  have e : t_room.get 371 = some (2, (67, (2, (2, 110)))) := by decide +kernel
  rw [e] at h
  cases h
  exact Or.inl ⟨by decide, 11, _, rfl, by decide, rfl⟩⟩⟩⟩
theorem cl_13_634 : CallOk 53882 (372, (1, false)) := ⟨(show xM "RightsHouseModel" 634 Y_M_isWho 1 from ⟨k_11_177, k_1_12, k_11_180, by decide, by decide, by decide +kernel⟩), ⟨fun q => absurd q (by decide), fun _ => ⟨⟨k_11_179, (tb_s (q := (⟨"RightsHouseModel", "isWho", "(I)Z"⟩, 151)) (by decide +kernel))⟩, fun fr lo nl t q h => by
  have e : t_room.get 372 = some (3, (86, (4, (2, 110)))) := by decide +kernel
  rw [e] at h
  cases h
  exact Or.inl ⟨by decide, 11, _, rfl, by decide, rfl⟩⟩⟩⟩
theorem cl_13_637 : CallOk 53885 (373, (1, false)) := ⟨(show xM "RightsHouseModel" 637 Y_M_isAct 1 from ⟨k_11_185, k_1_12, k_11_188, by decide, by decide, by decide +kernel⟩), ⟨fun q => absurd q (by decide), fun _ => ⟨⟨k_11_187, (tb_s (q := (⟨"RightsHouseModel", "isAct", "(I)Z"⟩, 151)) (by decide +kernel))⟩, fun fr lo nl t q h => by
  have e : t_room.get 373 = some (2, (67, (2, (2, 110)))) := by decide +kernel
  rw [e] at h
  cases h
  exact Or.inl ⟨by decide, 11, _, rfl, by decide, rfl⟩⟩⟩⟩
theorem cl_13_640 : CallOk 53888 (374, (1, false)) := ⟨(show xM "RightsHouseModel" 640 Y_M_isRuleThing 1 from ⟨k_11_189, k_1_12, k_11_192, by decide, by decide, by decide +kernel⟩), ⟨fun q => absurd q (by decide), fun _ => ⟨⟨k_11_191, (tb_s (q := (⟨"RightsHouseModel", "isRuleThing", "(I)Z"⟩, 151)) (by decide +kernel))⟩, fun fr lo nl t q h => by
  have e : t_room.get 374 = some (7, (199, (3, (2, 110)))) := by decide +kernel
  rw [e] at h
  cases h
  exact Or.inl ⟨by decide, 11, _, rfl, by decide, rfl⟩⟩⟩⟩
theorem cl_13_643 : CallOk 53891 (369, (0, false)) := ⟨(show xM "RightsHouseModel" 643 Y_M_condition 0 from ⟨k_11_197, k_1_12, k_11_200, by decide, by decide, by decide +kernel⟩), ⟨fun q => absurd q (by decide), fun _ => ⟨⟨k_11_199, (tb_s (q := (⟨"RightsHouseModel", "condition", "()V"⟩, 151)) (by decide +kernel))⟩, fun fr lo nl t q h => by
  have e : t_room.get 369 = some (9, (243, (2, (0, 110)))) := by decide +kernel
  rw [e] at h
  cases h
  exact Or.inl ⟨by decide, 11, _, rfl, by decide, rfl⟩⟩⟩⟩
theorem cl_13_649 : CallOk 53897 (375, (1, false)) := ⟨(show xM "RightsHouseModel" 649 Y_M_isRule 1 from ⟨k_11_161, k_1_12, k_11_164, by decide, by decide, by decide +kernel⟩), ⟨fun q => absurd q (by decide), fun _ => ⟨⟨k_11_163, (tb_s (q := (⟨"RightsHouseModel", "isRule", "(I)Z"⟩, 151)) (by decide +kernel))⟩, fun fr lo nl t q h => by
  have e : t_room.get 375 = some (10, (264, (2, (2, 110)))) := by decide +kernel
  rw [e] at h
  cases h
  exact Or.inl ⟨by decide, 11, _, rfl, by decide, rfl⟩⟩⟩⟩
theorem cl_13_652 : CallOk 53900 (377, (1, false)) := ⟨(show xM "RightsHouseModel" 652 Y_M_isPolicy 1 from ⟨k_12_21, k_1_12, k_12_24, by decide, by decide, by decide +kernel⟩), ⟨fun q => absurd q (by decide), fun _ => ⟨⟨k_12_23, (tb_s (q := (⟨"RightsHouseModel", "isPolicy", "(I)Z"⟩, 151)) (by decide +kernel))⟩, fun fr lo nl t q h => by
  have e : t_room.get 377 = some (2, (65, (2, (2, 110)))) := by decide +kernel
  rw [e] at h
  cases h
  exact Or.inl ⟨by decide, 11, _, rfl, by decide, rfl⟩⟩⟩⟩
theorem cl_13_658 : CallOk 53906 (379, (2, false)) := ⟨(show xM "RightsHouseModel" 658 Y_M_push 2 from ⟨k_12_53, k_1_12, k_12_56, by decide, by decide, by decide +kernel⟩), ⟨fun q => absurd q (by decide), fun _ => ⟨⟨k_12_55, (tb_s (q := (⟨"RightsHouseModel", "push", "(IJ)V"⟩, 151)) (by decide +kernel))⟩, fun fr lo nl t q h => by
  have e : t_room.get 379 = some (1, (40, (4, (0, 110)))) := by decide +kernel
  rw [e] at h
  cases h
  exact Or.inl ⟨by decide, 11, _, rfl, by decide, rfl⟩⟩⟩⟩
theorem cl_13_663 : CallOk 53911 (380, (2, false)) := ⟨(show xM "RightsHouseModel" 663 Y_M_pushItem 2 from ⟨k_12_57, k_1_12, k_12_60, by decide, by decide, by decide +kernel⟩), ⟨fun q => absurd q (by decide), fun _ => ⟨⟨k_12_59, (tb_s (q := (⟨"RightsHouseModel", "pushItem", "(II)V"⟩, 151)) (by decide +kernel))⟩, fun fr lo nl t q h => by
  have e : t_room.get 380 = some (2, (65, (3, (0, 110)))) := by decide +kernel
  rw [e] at h
  cases h
  exact Or.inl ⟨by decide, 11, _, rfl, by decide, rfl⟩⟩⟩⟩
theorem cl_13_666 : CallOk 53914 (383, (2, true)) := ⟨(show xM "RightsHouseModel" 666 Y_M_holdsFor 2 from ⟨k_12_74, k_1_12, k_12_76, by decide, by decide, by decide +kernel⟩), ⟨fun _ => k_12_75, fun q => absurd q (by decide)⟩⟩
theorem cl_13_669 : CallOk 53917 (302, (1, true)) := ⟨(show xM "RightsHouseModel" 669 Y_M_rank 1 from ⟨k_12_77, k_1_12, k_12_79, by decide, by decide, by decide +kernel⟩), ⟨fun _ => k_12_78, fun q => absurd q (by decide)⟩⟩
theorem cl_13_672 : CallOk 53920 (298, (2, true)) := ⟨(show xM "RightsHouseModel" 672 Y_M_plus 2 from ⟨k_12_80, k_1_12, k_12_82, by decide, by decide, by decide +kernel⟩), ⟨fun _ => k_12_81, fun q => absurd q (by decide)⟩⟩
theorem cl_13_675 : CallOk 53923 (299, (1, true)) := ⟨(show xM "RightsHouseModel" 675 Y_M_other 1 from ⟨k_12_67, k_1_12, k_12_69, by decide, by decide, by decide +kernel⟩), ⟨fun _ => k_12_68, fun q => absurd q (by decide)⟩⟩
theorem cl_13_678 : CallOk 53926 (297, (2, true)) := ⟨(show xM "RightsHouseModel" 678 Y_M_times 2 from ⟨k_12_83, k_1_12, k_12_85, by decide, by decide, by decide +kernel⟩), ⟨fun _ => k_12_84, fun q => absurd q (by decide)⟩⟩
theorem cl_13_681 : CallOk 53929 (301, (2, true)) := ⟨(show xM "RightsHouseModel" 681 Y_M_left 2 from ⟨k_12_88, k_1_12, k_12_90, by decide, by decide, by decide +kernel⟩), ⟨fun _ => k_12_89, fun q => absurd q (by decide)⟩⟩
theorem cl_13_684 : CallOk 53932 (381, (1, false)) := ⟨(show xM "RightsHouseModel" 684 Y_M_pushAt 1 from ⟨k_12_62, k_1_12, k_12_65, by decide, by decide, by decide +kernel⟩), ⟨fun q => absurd q (by decide), fun _ => ⟨⟨k_12_64, (tb_s (q := (⟨"RightsHouseModel", "pushAt", "(I)V"⟩, 151)) (by decide +kernel))⟩, fun fr lo nl t q h => by
  have e : t_room.get 381 = some (3, (87, (5, (0, 110)))) := by decide +kernel
  rw [e] at h
  cases h
  exact Or.inl ⟨by decide, 11, _, rfl, by decide, rfl⟩⟩⟩⟩
theorem cl_13_687 : CallOk 53935 (384, (2, false)) := ⟨(show xM "RightsHouseModel" 687 Y_M_pushOf 2 from ⟨k_12_70, k_1_12, k_12_73, by decide, by decide, by decide +kernel⟩), ⟨fun q => absurd q (by decide), fun _ => ⟨⟨k_12_72, (tb_s (q := (⟨"RightsHouseModel", "pushOf", "(II)V"⟩, 151)) (by decide +kernel))⟩, fun fr lo nl t q h => by
  have e : t_room.get 384 = some (5, (163, (10, (0, 110)))) := by decide +kernel
  rw [e] at h
  cases h
  exact Or.inl ⟨by decide, 11, _, rfl, by decide, rfl⟩⟩⟩⟩
theorem cl_13_690 : CallOk 53938 (382, (1, false)) := ⟨(show xM "RightsHouseModel" 690 Y_M_pushIn 1 from ⟨k_12_91, k_1_12, k_12_94, by decide, by decide, by decide +kernel⟩), ⟨fun q => absurd q (by decide), fun _ => ⟨⟨k_12_93, (tb_s (q := (⟨"RightsHouseModel", "pushIn", "(I)V"⟩, 151)) (by decide +kernel))⟩, fun fr lo nl t q h => by
  have e : t_room.get 382 = some (2, (63, (7, (0, 110)))) := by decide +kernel
  rw [e] at h
  cases h
  exact Or.inl ⟨by decide, 11, _, rfl, by decide, rfl⟩⟩⟩⟩
theorem cl_13_693 : CallOk 53941 (385, (1, false)) := ⟨(show xM "RightsHouseModel" 693 Y_M_pushJoined 1 from ⟨k_12_95, k_1_12, k_12_98, by decide, by decide, by decide +kernel⟩), ⟨fun q => absurd q (by decide), fun _ => ⟨⟨k_12_97, (tb_s (q := (⟨"RightsHouseModel", "pushJoined", "(Z)V"⟩, 151)) (by decide +kernel))⟩, fun fr lo nl t q h => by
  have e : t_room.get 385 = some (2, (63, (4, (0, 110)))) := by decide +kernel
  rw [e] at h
  cases h
  exact Or.inl ⟨by decide, 11, _, rfl, by decide, rfl⟩⟩⟩⟩
theorem cl_13_697 : CallOk 53945 (386, (5, false)) := ⟨(show xM "RightsHouseModel" 697 Y_M_evaluate 5 from ⟨k_12_49, k_1_12, k_12_52, by decide, by decide, by decide +kernel⟩), ⟨fun q => absurd q (by decide), fun _ => ⟨⟨k_12_51, (tb_s (q := (⟨"RightsHouseModel", "evaluate", "(IIIII)V"⟩, 151)) (by decide +kernel))⟩, fun fr lo nl t q h => by
  have e : t_room.get 386 = some (6, (192, (10, (0, 110)))) := by decide +kernel
  rw [e] at h
  cases h
  exact Or.inl ⟨by decide, 11, _, rfl, by decide, rfl⟩⟩⟩⟩
theorem cl_13_713 : CallOk 53961 (387, (5, false)) := ⟨(show xM "RightsHouseModel" 713 Y_M_says 5 from ⟨k_12_45, k_1_12, k_12_48, by decide, by decide, by decide +kernel⟩), ⟨fun q => absurd q (by decide), fun _ => ⟨⟨k_12_47, (tb_s (q := (⟨"RightsHouseModel", "says", "(IIIII)I"⟩, 151)) (by decide +kernel))⟩, fun fr lo nl t q h => by
  have e : t_room.get 387 = some (7, (221, (7, (1, 110)))) := by decide +kernel
  rw [e] at h
  cases h
  exact Or.inl ⟨by decide, 11, _, rfl, by decide, rfl⟩⟩⟩⟩
theorem cl_13_717 : CallOk 53965 (388, (3, false)) := ⟨(show xM "RightsHouseModel" 717 Y_M_placeOf 3 from ⟨k_12_99, k_1_12, k_12_102, by decide, by decide, by decide +kernel⟩), ⟨fun q => absurd q (by decide), fun _ => ⟨⟨k_12_101, (tb_s (q := (⟨"RightsHouseModel", "placeOf", "(III)I"⟩, 151)) (by decide +kernel))⟩, fun fr lo nl t q h => by
  have e : t_room.get 388 = some (2, (63, (6, (1, 110)))) := by decide +kernel
  rw [e] at h
  cases h
  exact Or.inl ⟨by decide, 11, _, rfl, by decide, rfl⟩⟩⟩⟩
theorem cl_13_727 : CallOk 53975 (308, (5, false)) := ⟨(show xM "RightsHouseModel" 727 Y_M_log 5 from ⟨k_12_29, k_1_12, k_12_32, by decide, by decide, by decide +kernel⟩), ⟨fun q => absurd q (by decide), fun _ => ⟨⟨k_12_31, (tb_s (q := (⟨"RightsHouseModel", "log", "(IIIII)V"⟩, 151)) (by decide +kernel))⟩, fun fr lo nl t q h => by
  have e : t_room.get 308 = some (3, (86, (6, (0, 110)))) := by decide +kernel
  rw [e] at h
  cases h
  exact Or.inl ⟨by decide, 11, _, rfl, by decide, rfl⟩⟩⟩⟩
theorem cl_13_730 : CallOk 53978 (391, (1, false)) := ⟨(show xM "RightsHouseModel" 730 Y_M_forceAt 1 from ⟨k_12_37, k_1_12, k_12_40, by decide, by decide, by decide +kernel⟩), ⟨fun q => absurd q (by decide), fun _ => ⟨⟨k_12_39, (tb_s (q := (⟨"RightsHouseModel", "forceAt", "(I)I"⟩, 151)) (by decide +kernel))⟩, fun fr lo nl t q h => by
  have e : t_room.get 391 = some (1, (40, (4, (1, 110)))) := by decide +kernel
  rw [e] at h
  cases h
  exact Or.inl ⟨by decide, 11, _, rfl, by decide, rfl⟩⟩⟩⟩
theorem cl_13_733 : CallOk 53981 (389, (5, false)) := ⟨(show xM "RightsHouseModel" 733 Y_M_judge 5 from ⟨k_12_41, k_1_12, k_12_44, by decide, by decide, by decide +kernel⟩), ⟨fun q => absurd q (by decide), fun _ => ⟨⟨k_12_43, (tb_s (q := (⟨"RightsHouseModel", "judge", "(IIIII)V"⟩, 151)) (by decide +kernel))⟩, fun fr lo nl t q h => by
  have e : t_room.get 389 = some (8, (247, (11, (0, 110)))) := by decide +kernel
  rw [e] at h
  cases h
  exact Or.inl ⟨by decide, 11, _, rfl, by decide, rfl⟩⟩⟩⟩
theorem cl_13_736 : CallOk 53984 (390, (1, false)) := ⟨(show xM "RightsHouseModel" 736 Y_M_keeps 1 from ⟨k_12_103, k_1_12, k_12_106, by decide, by decide, by decide +kernel⟩), ⟨fun q => absurd q (by decide), fun _ => ⟨⟨k_12_105, (tb_s (q := (⟨"RightsHouseModel", "keeps", "(I)I"⟩, 151)) (by decide +kernel))⟩, fun fr lo nl t q h => by
  have e : t_room.get 390 = some (1, (40, (2, (1, 110)))) := by decide +kernel
  rw [e] at h
  cases h
  exact Or.inl ⟨by decide, 11, _, rfl, by decide, rfl⟩⟩⟩⟩
theorem cl_13_739 : CallOk 53987 (397, (5, false)) := ⟨(show xM "RightsHouseModel" 739 Y_M_whoAt 5 from ⟨k_12_123, k_1_12, k_12_126, by decide, by decide, by decide +kernel⟩), ⟨fun q => absurd q (by decide), fun _ => ⟨⟨k_12_125, (tb_s (q := (⟨"RightsHouseModel", "whoAt", "(IIIII)I"⟩, 151)) (by decide +kernel))⟩, fun fr lo nl t q h => by
  have e : t_room.get 397 = some (9, (277, (8, (1, 110)))) := by decide +kernel
  rw [e] at h
  cases h
  exact Or.inl ⟨by decide, 11, _, rfl, by decide, rfl⟩⟩⟩⟩
theorem cl_13_756 : CallOk 54004 (320, (2, false)) := ⟨(show xM "RightsHouseModel" 756 Y_M_isIn 2 from ⟨k_12_156, k_1_12, k_12_159, by decide, by decide, by decide +kernel⟩), ⟨fun q => absurd q (by decide), fun _ => ⟨⟨k_12_158, (tb_s (q := (⟨"RightsHouseModel", "isIn", "(II)Z"⟩, 151)) (by decide +kernel))⟩, fun fr lo nl t q h => by
  have e : t_room.get 320 = some (4, (111, (3, (2, 110)))) := by decide +kernel
  rw [e] at h
  cases h
  exact Or.inl ⟨by decide, 11, _, rfl, by decide, rfl⟩⟩⟩⟩
theorem cl_13_759 : CallOk 54007 (405, (2, false)) := ⟨(show xM "RightsHouseModel" 759 Y_M_giverLaw 2 from ⟨k_12_152, k_1_12, k_12_155, by decide, by decide, by decide +kernel⟩), ⟨fun q => absurd q (by decide), fun _ => ⟨⟨k_12_154, (tb_s (q := (⟨"RightsHouseModel", "giverLaw", "(II)I"⟩, 151)) (by decide +kernel))⟩, fun fr lo nl t q h => by
  have e : t_room.get 405 = some (5, (133, (5, (1, 110)))) := by decide +kernel
  rw [e] at h
  cases h
  exact Or.inl ⟨by decide, 11, _, rfl, by decide, rfl⟩⟩⟩⟩
theorem cl_13_762 : CallOk 54010 (404, (1, false)) := ⟨(show xM "RightsHouseModel" 762 Y_M_keepsLaw 1 from ⟨k_12_160, k_1_12, k_12_163, by decide, by decide, by decide +kernel⟩), ⟨fun q => absurd q (by decide), fun _ => ⟨⟨k_12_162, (tb_s (q := (⟨"RightsHouseModel", "keepsLaw", "(I)Z"⟩, 151)) (by decide +kernel))⟩, fun fr lo nl t q h => by
  have e : t_room.get 404 = some (4, (111, (7, (2, 110)))) := by decide +kernel
  rw [e] at h
  cases h
  exact Or.inl ⟨by decide, 11, _, rfl, by decide, rfl⟩⟩⟩⟩
theorem cl_13_768 : CallOk 54016 (415, (1, false)) := ⟨(show xM "RightsHouseModel" 768 Y_M_isWork 1 from ⟨k_12_200, k_1_12, k_12_203, by decide, by decide, by decide +kernel⟩), ⟨fun q => absurd q (by decide), fun _ => ⟨⟨k_12_202, (tb_s (q := (⟨"RightsHouseModel", "isWork", "(I)Z"⟩, 151)) (by decide +kernel))⟩, fun fr lo nl t q h => by
  have e : t_room.get 415 = some (2, (65, (2, (2, 110)))) := by decide +kernel
  rw [e] at h
  cases h
  exact Or.inl ⟨by decide, 11, _, rfl, by decide, rfl⟩⟩⟩⟩
theorem cl_13_771 : CallOk 54019 (416, (2, false)) := ⟨(show xM "RightsHouseModel" 771 Y_M_isStep 2 from ⟨k_12_208, k_1_12, k_12_211, by decide, by decide, by decide +kernel⟩), ⟨fun q => absurd q (by decide), fun _ => ⟨⟨k_12_210, (tb_s (q := (⟨"RightsHouseModel", "isStep", "(II)Z"⟩, 151)) (by decide +kernel))⟩, fun fr lo nl t q h => by
  have e : t_room.get 416 = some (3, (86, (3, (2, 110)))) := by decide +kernel
  rw [e] at h
  cases h
  exact Or.inl ⟨by decide, 11, _, rfl, by decide, rfl⟩⟩⟩⟩
theorem cl_13_777 : CallOk 54025 (419, (1, false)) := ⟨(show xM "RightsHouseModel" 777 Y_M_keepsTies 1 from ⟨k_12_225, k_1_12, k_12_228, by decide, by decide, by decide +kernel⟩), ⟨fun q => absurd q (by decide), fun _ => ⟨⟨k_12_227, (tb_s (q := (⟨"RightsHouseModel", "keepsTies", "(I)Z"⟩, 151)) (by decide +kernel))⟩, fun fr lo nl t q h => by
  have e : t_room.get 419 = some (1, (40, (8, (2, 110)))) := by decide +kernel
  rw [e] at h
  cases h
  exact Or.inl ⟨by decide, 11, _, rfl, by decide, rfl⟩⟩⟩⟩
theorem cl_13_782 : CallOk 54030 (421, (1, false)) := ⟨(show xM "RightsHouseModel" 782 Y_M_setDone 1 from ⟨k_12_217, k_1_12, k_12_220, by decide, by decide, by decide +kernel⟩), ⟨fun q => absurd q (by decide), fun _ => ⟨⟨k_12_219, (tb_s (q := (⟨"RightsHouseModel", "setDone", "(I)V"⟩, 151)) (by decide +kernel))⟩, fun fr lo nl t q h => by
  have e : t_room.get 421 = some (1, (40, (3, (0, 110)))) := by decide +kernel
  rw [e] at h
  cases h
  exact Or.inl ⟨by decide, 11, _, rfl, by decide, rfl⟩⟩⟩⟩
theorem cl_13_785 : CallOk 54033 (420, (3, false)) := ⟨(show xM "RightsHouseModel" 785 Y_M_searches 3 from ⟨k_12_221, k_1_12, k_12_224, by decide, by decide, by decide +kernel⟩), ⟨fun q => absurd q (by decide), fun _ => ⟨⟨k_12_223, (tb_s (q := (⟨"RightsHouseModel", "searches", "(III)I"⟩, 151)) (by decide +kernel))⟩, fun fr lo nl t q h => by
  have e : t_room.get 420 = some (5, (133, (11, (1, 110)))) := by decide +kernel
  rw [e] at h
  cases h
  exact Or.inl ⟨by decide, 11, _, rfl, by decide, rfl⟩⟩⟩⟩
theorem cl_13_788 : CallOk 54036 (424, (4, false)) := ⟨(show xM "RightsHouseModel" 788 Y_M_nextOf 4 from ⟨k_12_237, k_1_12, k_13_0, by decide, by decide, by decide +kernel⟩), ⟨fun q => absurd q (by decide), fun _ => ⟨⟨k_12_239, (tb_s (q := (⟨"RightsHouseModel", "nextOf", "(IIII)I"⟩, 151)) (by decide +kernel))⟩, fun fr lo nl t q h => by
  have e : t_room.get 424 = some (6, (163, (5, (1, 110)))) := by decide +kernel
  rw [e] at h
  cases h
  exact Or.inl ⟨by decide, 11, _, rfl, by decide, rfl⟩⟩⟩⟩
theorem cl_13_794 : CallOk 54042 (429, (5, false)) := ⟨(show xM "RightsHouseModel" 794 Y_M_fits 5 from ⟨k_13_26, k_1_12, k_13_29, by decide, by decide, by decide +kernel⟩), ⟨fun q => absurd q (by decide), fun _ => ⟨⟨k_13_28, (tb_s (q := (⟨"RightsHouseModel", "fits", "(IIIII)Z"⟩, 151)) (by decide +kernel))⟩, fun fr lo nl t q h => by
  have e : t_room.get 429 = some (4, (108, (6, (2, 110)))) := by decide +kernel
  rw [e] at h
  cases h
  exact Or.inl ⟨by decide, 11, _, rfl, by decide, rfl⟩⟩⟩⟩
theorem cl_13_797 : CallOk 54045 (430, (1, false)) := ⟨(show xM "RightsHouseModel" 797 Y_M_lookAt 1 from ⟨k_13_22, k_1_12, k_13_25, by decide, by decide, by decide +kernel⟩), ⟨fun q => absurd q (by decide), fun _ => ⟨⟨k_13_24, (tb_s (q := (⟨"RightsHouseModel", "lookAt", "(I)V"⟩, 151)) (by decide +kernel))⟩, fun fr lo nl t q h => by
  have e : t_room.get 430 = some (5, (133, (7, (0, 110)))) := by decide +kernel
  rw [e] at h
  cases h
  exact Or.inl ⟨by decide, 11, _, rfl, by decide, rfl⟩⟩⟩⟩
theorem cl_13_808 : CallOk 54056 (431, (5, false)) := ⟨(show xM "RightsHouseModel" 808 Y_M_isStanding 5 from ⟨k_13_18, k_1_12, k_13_21, by decide, by decide, by decide +kernel⟩), ⟨fun q => absurd q (by decide), fun _ => ⟨⟨k_13_20, (tb_s (q := (⟨"RightsHouseModel", "isStanding", "(IIIII)Z"⟩, 151)) (by decide +kernel))⟩, fun fr lo nl t q h => by
  have e : t_room.get 431 = some (6, (159, (11, (2, 110)))) := by decide +kernel
  rw [e] at h
  cases h
  exact Or.inl ⟨by decide, 11, _, rfl, by decide, rfl⟩⟩⟩⟩
theorem cl_13_811 : CallOk 54059 (432, (0, false)) := ⟨(show xM "RightsHouseModel" 811 Y_M_keepChain 0 from ⟨k_13_38, k_1_12, k_13_41, by decide, by decide, by decide +kernel⟩), ⟨fun q => absurd q (by decide), fun _ => ⟨⟨k_13_40, (tb_s (q := (⟨"RightsHouseModel", "keepChain", "()V"⟩, 151)) (by decide +kernel))⟩, fun fr lo nl t q h => by
  have e : t_room.get 432 = some (1, (40, (2, (0, 110)))) := by decide +kernel
  rw [e] at h
  cases h
  exact Or.inl ⟨by decide, 11, _, rfl, by decide, rfl⟩⟩⟩⟩
theorem cl_13_817 : CallOk 54065 (439, (3, false)) := ⟨(show xM "RightsHouseModel" 817 Y_M_gets 3 from ⟨k_13_68, k_1_12, k_13_71, by decide, by decide, by decide +kernel⟩), ⟨fun q => absurd q (by decide), fun _ => ⟨⟨k_13_70, (tb_s (q := (⟨"RightsHouseModel", "gets", "(III)V"⟩, 151)) (by decide +kernel))⟩, fun fr lo nl t q h => by
  have e : t_room.get 439 = some (1, (40, (5, (0, 110)))) := by decide +kernel
  rw [e] at h
  cases h
  exact Or.inl ⟨by decide, 11, _, rfl, by decide, rfl⟩⟩⟩⟩
theorem cl_13_824 : CallOk 54072 (440, (0, false)) := ⟨(show xM "RightsHouseModel" 824 Y_M_grow 0 from ⟨k_13_64, k_1_12, k_13_67, by decide, by decide, by decide +kernel⟩), ⟨fun q => absurd q (by decide), fun _ => ⟨⟨k_13_66, (tb_s (q := (⟨"RightsHouseModel", "grow", "()V"⟩, 151)) (by decide +kernel))⟩, fun fr lo nl t q h => by
  have e : t_room.get 440 = some (2, (64, (5, (0, 110)))) := by decide +kernel
  rw [e] at h
  cases h
  exact Or.inl ⟨by decide, 11, _, rfl, by decide, rfl⟩⟩⟩⟩
theorem cl_13_830 : CallOk 54078 (444, (0, false)) := ⟨(show xM "RightsHouseModel" 830 Y_M_labelled 0 from ⟨k_13_80, k_1_12, k_13_83, by decide, by decide, by decide +kernel⟩), ⟨fun q => absurd q (by decide), fun _ => ⟨⟨k_13_82, (tb_s (q := (⟨"RightsHouseModel", "labelled", "()V"⟩, 151)) (by decide +kernel))⟩, fun fr lo nl t q h => by
  have e : t_room.get 444 = some (1, (40, (2, (0, 110)))) := by decide +kernel
  rw [e] at h
  cases h
  exact Or.inl ⟨by decide, 11, _, rfl, by decide, rfl⟩⟩⟩⟩
theorem cl_13_840 : CallOk 54088 (446, (1, false)) := ⟨(show xM "RightsHouseModel" 840 Y_M_isBlock 1 from ⟨k_13_90, k_1_12, k_13_93, by decide, by decide, by decide +kernel⟩), ⟨fun q => absurd q (by decide), fun _ => ⟨⟨k_13_92, (tb_s (q := (⟨"RightsHouseModel", "isBlock", "(I)Z"⟩, 151)) (by decide +kernel))⟩, fun fr lo nl t q h => by
  have e : t_room.get 446 = some (1, (40, (2, (2, 110)))) := by decide +kernel
  rw [e] at h
  cases h
  exact Or.inl ⟨by decide, 11, _, rfl, by decide, rfl⟩⟩⟩⟩
theorem cl_13_843 : CallOk 54091 (447, (1, false)) := ⟨(show xM "RightsHouseModel" 843 Y_M_endOf 1 from ⟨k_13_94, k_1_12, k_13_97, by decide, by decide, by decide +kernel⟩), ⟨fun q => absurd q (by decide), fun _ => ⟨⟨k_13_96, (tb_s (q := (⟨"RightsHouseModel", "endOf", "(I)I"⟩, 151)) (by decide +kernel))⟩, fun fr lo nl t q h => by
  have e : t_room.get 447 = some (1, (40, (2, (1, 110)))) := by decide +kernel
  rw [e] at h
  cases h
  exact Or.inl ⟨by decide, 11, _, rfl, by decide, rfl⟩⟩⟩⟩
theorem cl_13_848 : CallOk 54096 (453, (1, false)) := ⟨(show xM "RightsHouseModel" 848 Y_M_cutEnd 1 from ⟨k_13_119, k_1_12, k_13_122, by decide, by decide, by decide +kernel⟩), ⟨fun q => absurd q (by decide), fun _ => ⟨⟨k_13_121, (tb_s (q := (⟨"RightsHouseModel", "cutEnd", "(I)I"⟩, 151)) (by decide +kernel))⟩, fun fr lo nl t q h => by
  have e : t_room.get 453 = some (2, (61, (2, (1, 110)))) := by decide +kernel
  rw [e] at h
  cases h
  exact Or.inl ⟨by decide, 11, _, rfl, by decide, rfl⟩⟩⟩⟩
theorem cl_13_854 : CallOk 54102 (458, (1, false)) := ⟨(show xM "RightsHouseModel" 854 Y_M_know 1 from ⟨k_13_152, k_1_12, k_13_155, by decide, by decide, by decide +kernel⟩), ⟨fun q => absurd q (by decide), fun _ => ⟨⟨k_13_154, (tb_s (q := (⟨"RightsHouseModel", "know", "(I)V"⟩, 151)) (by decide +kernel))⟩, fun fr lo nl t q h => by
  have e : t_room.get 458 = some (1, (40, (4, (0, 110)))) := by decide +kernel
  rw [e] at h
  cases h
  exact Or.inl ⟨by decide, 11, _, rfl, by decide, rfl⟩⟩⟩⟩
theorem cl_13_857 : CallOk 54105 (459, (0, false)) := ⟨(show xM "RightsHouseModel" 857 Y_M_gather 0 from ⟨k_13_148, k_1_12, k_13_151, by decide, by decide, by decide +kernel⟩), ⟨fun q => absurd q (by decide), fun _ => ⟨⟨k_13_150, (tb_s (q := (⟨"RightsHouseModel", "gather", "()V"⟩, 151)) (by decide +kernel))⟩, fun fr lo nl t q h => by
  have e : t_room.get 459 = some (2, (63, (4, (0, 110)))) := by decide +kernel
  rw [e] at h
  cases h
  exact Or.inl ⟨by decide, 11, _, rfl, by decide, rfl⟩⟩⟩⟩
theorem cl_13_864 : CallOk 54112 (461, (2, true)) := ⟨(show xM "RightsHouseModel" 864 Y_M_power 2 from ⟨k_13_165, k_1_12, k_13_167, by decide, by decide, by decide +kernel⟩), ⟨fun _ => k_13_166, fun q => absurd q (by decide)⟩⟩
theorem cl_13_867 : CallOk 54115 (462, (1, false)) := ⟨(show xM "RightsHouseModel" 867 Y_M_rankWith 1 from ⟨k_13_160, k_1_12, k_13_163, by decide, by decide, by decide +kernel⟩), ⟨fun q => absurd q (by decide), fun _ => ⟨⟨k_13_162, (tb_s (q := (⟨"RightsHouseModel", "rankWith", "(I)I"⟩, 151)) (by decide +kernel))⟩, fun fr lo nl t q h => by
  have e : t_room.get 462 = some (2, (69, (12, (1, 110)))) := by decide +kernel
  rw [e] at h
  cases h
  exact Or.inl ⟨by decide, 11, _, rfl, by decide, rfl⟩⟩⟩⟩
theorem cl_13_870 : CallOk 54118 (464, (1, false)) := ⟨(show xM "RightsHouseModel" 870 Y_M_added 1 from ⟨k_13_139, k_1_12, k_13_142, by decide, by decide, by decide +kernel⟩), ⟨fun q => absurd q (by decide), fun _ => ⟨⟨k_13_141, (tb_s (q := (⟨"RightsHouseModel", "added", "(I)J"⟩, 151)) (by decide +kernel))⟩, fun fr lo nl t q h => by
  have e : t_room.get 464 = some (1, (40, (5, (3, 110)))) := by decide +kernel
  rw [e] at h
  cases h
  exact Or.inl ⟨by decide, 11, _, rfl, by decide, rfl⟩⟩⟩⟩
theorem cl_13_876 : CallOk 54124 (460, (2, false)) := ⟨(show xM "RightsHouseModel" 876 Y_M_link 2 from ⟨k_13_144, k_1_12, k_13_147, by decide, by decide, by decide +kernel⟩), ⟨fun q => absurd q (by decide), fun _ => ⟨⟨k_13_146, (tb_s (q := (⟨"RightsHouseModel", "link", "(II)V"⟩, 151)) (by decide +kernel))⟩, fun fr lo nl t q h => by
  have e : t_room.get 460 = some (3, (86, (4, (0, 110)))) := by decide +kernel
  rw [e] at h
  cases h
  exact Or.inl ⟨by decide, 11, _, rfl, by decide, rfl⟩⟩⟩⟩
theorem cl_13_879 : CallOk 54127 (463, (0, false)) := ⟨(show xM "RightsHouseModel" 879 Y_M_tellsOne 0 from ⟨k_13_156, k_1_12, k_13_159, by decide, by decide, by decide +kernel⟩), ⟨fun q => absurd q (by decide), fun _ => ⟨⟨k_13_158, (tb_s (q := (⟨"RightsHouseModel", "tellsOne", "()Z"⟩, 151)) (by decide +kernel))⟩, fun fr lo nl t q h => by
  have e : t_room.get 463 = some (3, (100, (4, (2, 110)))) := by decide +kernel
  rw [e] at h
  cases h
  exact Or.inl ⟨by decide, 11, _, rfl, by decide, rfl⟩⟩⟩⟩
theorem cl_13_900 : CallOk 54148 (471, (3, false)) := ⟨(show xM "RightsHouseModel" 900 Y_M_begin 3 from ⟨k_13_196, k_1_12, k_13_199, by decide, by decide, by decide +kernel⟩), ⟨fun q => absurd q (by decide), fun _ => ⟨⟨k_13_198, (tb_s (q := (⟨"RightsHouseModel", "begin", "(III)V"⟩, 151)) (by decide +kernel))⟩, fun fr lo nl t q h => by
  have e : t_room.get 471 = some (1, (40, (4, (0, 110)))) := by decide +kernel
  rw [e] at h
  cases h
  exact Or.inl ⟨by decide, 11, _, rfl, by decide, rfl⟩⟩⟩⟩
theorem cl_13_903 : CallOk 54151 (472, (1, false)) := ⟨(show xM "RightsHouseModel" 903 Y_M_lacking 1 from ⟨k_13_200, k_1_12, k_13_203, by decide, by decide, by decide +kernel⟩), ⟨fun q => absurd q (by decide), fun _ => ⟨⟨k_13_202, (tb_s (q := (⟨"RightsHouseModel", "lacking", "(I)I"⟩, 151)) (by decide +kernel))⟩, fun fr lo nl t q h => by
  have e : t_room.get 472 = some (1, (40, (4, (1, 110)))) := by decide +kernel
  rw [e] at h
  cases h
  exact Or.inl ⟨by decide, 11, _, rfl, by decide, rfl⟩⟩⟩⟩
theorem cl_13_906 : CallOk 54154 (473, (2, false)) := ⟨(show xM "RightsHouseModel" 906 Y_M_isCaught 2 from ⟨k_13_204, k_1_12, k_13_207, by decide, by decide, by decide +kernel⟩), ⟨fun q => absurd q (by decide), fun _ => ⟨⟨k_13_206, (tb_s (q := (⟨"RightsHouseModel", "isCaught", "(II)Z"⟩, 151)) (by decide +kernel))⟩, fun fr lo nl t q h => by
  have e : t_room.get 473 = some (1, (40, (4, (2, 110)))) := by decide +kernel
  rw [e] at h
  cases h
  exact Or.inl ⟨by decide, 11, _, rfl, by decide, rfl⟩⟩⟩⟩
theorem cl_13_909 : CallOk 54157 (476, (1, false)) := ⟨(show xM "RightsHouseModel" 909 Y_M_fourAt 1 from ⟨k_13_216, k_1_12, k_13_219, by decide, by decide, by decide +kernel⟩), ⟨fun q => absurd q (by decide), fun _ => ⟨⟨k_13_218, (tb_s (q := (⟨"RightsHouseModel", "fourAt", "(I)J"⟩, 151)) (by decide +kernel))⟩, fun fr lo nl t q h => by
  have e : t_room.get 476 = some (1, (40, (2, (3, 110)))) := by decide +kernel
  rw [e] at h
  cases h
  exact Or.inl ⟨by decide, 11, _, rfl, by decide, rfl⟩⟩⟩⟩
theorem cl_15_335 : CallOk 61775 (65, (0, false)) := ⟨(show xM "java/lang/String" 335 Y_JS_coder 0 from ⟨k_4_170, k_1_15, k_4_173, by decide, by decide, by decide +kernel⟩), ⟨fun q => absurd q (by decide), fun _ => ⟨⟨k_4_171, k_4_172⟩, fun fr lo nl t q h => by
  have e : t_room.get 65 = some (1, (40, (1, (5, 1000)))) := by decide +kernel
  rw [e] at h
  cases h
  exact Or.inr ⟨rfl, rfl⟩⟩⟩⟩
theorem cl_15_492 : CallOk 61932 (64, (0, false)) := ⟨(show xM "java/lang/String" 492 Y_JS_isLatin1 0 from ⟨k_4_160, k_1_15, k_4_163, by decide, by decide, by decide +kernel⟩), ⟨fun q => absurd q (by decide), fun _ => ⟨⟨k_4_161, k_4_162⟩, fun fr lo nl t q h => by
  have e : t_room.get 64 = some (1, (40, (1, (2, 1000)))) := by decide +kernel
  rw [e] at h
  cases h
  exact Or.inr ⟨rfl, rfl⟩⟩⟩⟩
theorem cl_15_495 : CallOk 61935 (79, (2, true)) := ⟨(show xM "java/lang/String" 495 Y_JL_charAt 2 from ⟨k_5_19, k_1_16, k_5_21, by decide, by decide, by decide +kernel⟩), ⟨fun _ => k_5_20, fun q => absurd q (by decide)⟩⟩
theorem cl_15_505 : CallOk 61945 (66, (0, false)) := ⟨(show xM "java/lang/String" 505 Y_JS_length 0 from ⟨k_4_166, k_1_15, k_4_169, by decide, by decide, by decide +kernel⟩), ⟨fun q => absurd q (by decide), fun _ => ⟨⟨k_4_167, k_4_168⟩, fun fr lo nl t q h => by
  have e : t_room.get 66 = some (2, (60, (1, (1, 1000)))) := by decide +kernel
  rw [e] at h
  cases h
  exact Or.inr ⟨rfl, rfl⟩⟩⟩⟩
theorem cl_15_633 : CallOk 62073 (72, (2, false)) := ⟨(show xM "java/lang/String" 633 Y_JS_indexOf_1 2 from ⟨k_4_156, k_1_15, k_4_159, by decide, by decide, by decide +kernel⟩), ⟨fun q => absurd q (by decide), fun _ => ⟨⟨k_4_157, k_4_158⟩, fun fr lo nl t q h => by
  have e : t_room.get 72 = some (3, (88, (3, (1, 1000)))) := by decide +kernel
  rw [e] at h
  cases h
  exact Or.inr ⟨rfl, rfl⟩⟩⟩⟩
theorem cl_15_637 : CallOk 62077 (71, (4, true)) := ⟨(show xM "java/lang/String" 637 Y_JL_indexOf 4 from ⟨k_4_174, k_1_16, k_4_176, by decide, by decide, by decide +kernel⟩), ⟨fun _ => k_4_175, fun q => absurd q (by decide)⟩⟩
theorem cl_16_9 : CallOk 65545 (78, (2, true)) := ⟨(show xM "java/lang/StringLatin1" 9 Y_JS_checkIndex 2 from ⟨k_5_22, k_1_15, k_5_24, by decide, by decide, by decide +kernel⟩), ⟨fun _ => k_5_23, fun q => absurd q (by decide)⟩⟩
theorem cl_16_38 : CallOk 65574 (69, (2, true)) := ⟨(show xM "java/lang/StringLatin1" 38 Y_JM_min 2 from ⟨k_4_183, k_1_17, k_4_185, by decide, by decide, by decide +kernel⟩), ⟨fun _ => k_4_184, fun q => absurd q (by decide)⟩⟩
theorem cl_16_88 : CallOk 65624 (67, (1, true)) := ⟨(show xM "java/lang/StringLatin1" 88 Y_JL_canEncode 1 from ⟨k_4_177, k_1_16, k_4_179, by decide, by decide, by decide +kernel⟩), ⟨fun _ => k_4_178, fun q => absurd q (by decide)⟩⟩
theorem cl_16_92 : CallOk 65628 (68, (2, true)) := ⟨(show xM "java/lang/StringLatin1" 92 Y_JM_max 2 from ⟨k_4_180, k_1_17, k_4_182, by decide, by decide, by decide +kernel⟩), ⟨fun _ => k_4_181, fun q => absurd q (by decide)⟩⟩
theorem cl_16_95 : CallOk 65631 (70, (4, true)) := ⟨(show xM "java/lang/StringLatin1" 95 Y_JL_indexOfChar 4 from ⟨k_4_186, k_1_16, k_4_188, by decide, by decide, by decide +kernel⟩), ⟨fun _ => k_4_187, fun q => absurd q (by decide)⟩⟩
theorem call_ok : t_call.AllP CallOk := ⟨⟨cl_1_115, cl_1_119, cl_1_122, cl_1_125, cl_1_132, cl_1_136, cl_1_139, cl_1_142, cl_1_146, cl_1_149, cl_1_156, cl_1_160, cl_1_163, cl_1_166, cl_1_169, cl_1_179, cl_1_195, cl_1_207, trivial⟩, ⟨cl_1_210, cl_1_220, cl_1_229, cl_1_233, cl_1_236, cl_1_239, cl_1_243, cl_1_248, cl_1_258, cl_1_262, cl_1_265, cl_1_268, cl_1_271, cl_1_274, cl_1_284, cl_1_287, cl_1_294, cl_1_303, trivial⟩, ⟨cl_1_309, cl_1_312, cl_1_315, cl_1_318, cl_1_324, cl_1_330, cl_1_333, cl_1_342, cl_1_350, cl_1_356, cl_1_359, cl_1_362, cl_1_365, cl_1_368, cl_1_377, cl_1_380, cl_1_383, cl_1_389, trivial⟩, ⟨cl_1_393, cl_1_399, cl_1_405, cl_1_414, cl_1_417, cl_1_420, cl_1_423, cl_1_426, cl_1_436, cl_1_439, cl_1_445, cl_1_448, cl_1_451, cl_1_457, cl_1_472, cl_1_475, cl_1_478, cl_1_490, trivial⟩, ⟨cl_1_495, cl_1_498, cl_1_501, cl_1_504, cl_1_507, cl_1_513, cl_1_519, cl_1_522, cl_1_528, cl_1_531, cl_1_537, cl_1_542, cl_1_546, cl_1_551, cl_1_559, cl_1_562, cl_2_42, cl_2_46, trivial⟩, ⟨cl_2_53, cl_2_57, cl_2_60, cl_2_66, cl_2_70, cl_2_73, cl_2_77, cl_3_46, cl_3_60, cl_3_64, cl_3_68, cl_3_71, cl_3_75, cl_3_78, cl_4_38, cl_4_42, cl_4_53, cl_4_57, trivial⟩, ⟨cl_4_61, cl_5_57, cl_5_79, cl_5_83, cl_5_89, cl_5_98, cl_5_107, cl_5_111, cl_5_115, cl_5_118, cl_5_124, cl_5_127, cl_5_139, cl_5_145, cl_5_149, cl_5_153, cl_5_156, cl_5_159, trivial⟩, ⟨cl_5_162, cl_5_166, cl_5_173, cl_5_176, cl_5_179, cl_5_183, cl_5_193, cl_5_196, cl_5_202, cl_5_208, cl_5_212, cl_5_215, cl_5_219, cl_5_222, cl_5_225, cl_5_228, cl_5_237, cl_5_240, trivial⟩, ⟨cl_5_243, cl_5_249, cl_5_255, cl_5_258, cl_5_268, cl_6_39, cl_6_48, cl_6_52, cl_6_56, cl_6_69, cl_6_72, cl_6_76, cl_7_60, cl_7_72, cl_7_76, cl_7_83, cl_7_89, cl_7_93, trivial⟩, ⟨cl_7_97, cl_7_100, cl_7_103, cl_7_106, cl_7_111, cl_7_120, cl_7_126, cl_7_130, cl_7_133, cl_7_137, cl_7_140, cl_7_144, cl_7_147, cl_7_150, cl_7_153, cl_7_158, cl_7_162, cl_7_175, trivial⟩, ⟨cl_7_178, cl_7_187, cl_7_192, cl_7_199, cl_7_203, cl_7_206, cl_7_211, cl_7_215, cl_7_219, cl_7_228, cl_7_231, cl_7_234, cl_7_237, cl_7_242, cl_7_245, cl_7_248, cl_7_251, cl_7_260, trivial⟩, ⟨cl_8_13, cl_8_31, cl_8_35, cl_8_38, cl_8_42, cl_8_46, cl_8_49, cl_9_46, cl_9_50, cl_9_53, cl_9_57, cl_9_66, cl_9_70, cl_9_74, cl_10_35, cl_11_34, cl_11_38, cl_11_44, trivial⟩, ⟨cl_11_47, cl_11_51, cl_11_55, cl_11_59, cl_11_63, cl_12_55, cl_12_65, cl_12_69, cl_12_73, cl_12_76, cl_12_82, cl_13_333, cl_13_349, cl_13_353, cl_13_357, cl_13_361, cl_13_367, cl_13_371, trivial⟩, ⟨cl_13_374, cl_13_381, cl_13_387, cl_13_409, cl_13_416, cl_13_432, cl_13_436, cl_13_440, cl_13_444, cl_13_448, cl_13_451, cl_13_454, cl_13_458, cl_13_463, cl_13_476, cl_13_479, cl_13_484, cl_13_488, trivial⟩, ⟨cl_13_492, cl_13_495, cl_13_501, cl_13_514, cl_13_517, cl_13_522, cl_13_525, cl_13_533, cl_13_536, cl_13_552, cl_13_562, cl_13_566, cl_13_569, cl_13_579, cl_13_588, cl_13_592, cl_13_595, cl_13_598, trivial⟩, ⟨cl_13_601, cl_13_604, cl_13_607, cl_13_610, cl_13_613, cl_13_616, cl_13_619, cl_13_622, cl_13_625, cl_13_628, cl_13_631, cl_13_634, cl_13_637, cl_13_640, cl_13_643, cl_13_649, cl_13_652, cl_13_658, trivial⟩, ⟨cl_13_663, cl_13_666, cl_13_669, cl_13_672, cl_13_675, cl_13_678, cl_13_681, cl_13_684, cl_13_687, cl_13_690, cl_13_693, cl_13_697, cl_13_713, cl_13_717, cl_13_727, cl_13_730, cl_13_733, cl_13_736, trivial⟩, ⟨cl_13_739, cl_13_756, cl_13_759, cl_13_762, cl_13_768, cl_13_771, cl_13_777, cl_13_782, cl_13_785, cl_13_788, cl_13_794, cl_13_797, cl_13_808, cl_13_811, cl_13_817, cl_13_824, cl_13_830, cl_13_840, trivial⟩, ⟨cl_13_843, cl_13_848, cl_13_854, cl_13_857, cl_13_864, cl_13_867, cl_13_870, cl_13_876, cl_13_879, cl_13_900, cl_13_903, cl_13_906, cl_13_909, cl_15_335, cl_15_492, cl_15_495, cl_15_505, cl_15_633, trivial⟩, ⟨cl_15_637, cl_16_9, cl_16_38, cl_16_88, cl_16_92, cl_16_95, trivial⟩, trivial⟩
theorem lib_ok : t_lib.AllP (fun x n => n = 1 → (Cond.methodLink (cname (x / 4096)) (x % 4096) arraycopyName ∈ TBg ∧ Cond.native arraycopyName ∈ TBg) ∧ Cond.static arraycopyName ∈ TBg ∧ Cond.initialized "java/lang/System" ∈ TBg) := ⟨⟨fun _ => ⟨⟨k_4_15, k_4_17⟩, k_4_16, k_1_14⟩, fun _ => ⟨⟨k_6_72, k_4_17⟩, k_4_16, k_1_14⟩, fun q => absurd q (by decide), fun _ => ⟨⟨k_4_89, k_4_17⟩, k_4_16, k_1_14⟩, fun q => absurd q (by decide), trivial⟩, ⟨fun q => absurd q (by decide), fun q => absurd q (by decide), fun q => absurd q (by decide), fun q => absurd q (by decide), fun q => absurd q (by decide), trivial⟩, ⟨fun q => absurd q (by decide), fun q => absurd q (by decide), fun q => absurd q (by decide), fun q => absurd q (by decide), fun q => absurd q (by decide), trivial⟩, ⟨fun q => absurd q (by decide), fun q => absurd q (by decide), fun q => absurd q (by decide), fun q => absurd q (by decide), fun q => absurd q (by decide), trivial⟩, ⟨fun q => absurd q (by decide), fun q => absurd q (by decide), fun q => absurd q (by decide), fun q => absurd q (by decide), fun q => absurd q (by decide), trivial⟩, ⟨fun q => absurd q (by decide), fun q => absurd q (by decide), fun q => absurd q (by decide), trivial⟩, trivial⟩
theorem str_ok : t_lib.AllP (fun x n => 10 ≤ n → ∃ q, STR[n - 10]? = some q ∧ cname (x / 4096) = q.1 ∧ q.2.1 = x % 4096) := ⟨⟨fun q => absurd q (by decide), fun q => absurd q (by decide), fun q => absurd q (by decide), fun q => absurd q (by decide), fun _ => ⟨_, rfl, rfl, rfl⟩, trivial⟩, ⟨fun _ => ⟨_, rfl, rfl, rfl⟩, fun _ => ⟨_, rfl, rfl, rfl⟩, fun _ => ⟨_, rfl, rfl, rfl⟩, fun _ => ⟨_, rfl, rfl, rfl⟩, fun _ => ⟨_, rfl, rfl, rfl⟩, trivial⟩, ⟨fun _ => ⟨_, rfl, rfl, rfl⟩, fun _ => ⟨_, rfl, rfl, rfl⟩, fun _ => ⟨_, rfl, rfl, rfl⟩, fun _ => ⟨_, rfl, rfl, rfl⟩, fun _ => ⟨_, rfl, rfl, rfl⟩, trivial⟩, ⟨fun _ => ⟨_, rfl, rfl, rfl⟩, fun _ => ⟨_, rfl, rfl, rfl⟩, fun _ => ⟨_, rfl, rfl, rfl⟩, fun _ => ⟨_, rfl, rfl, rfl⟩, fun _ => ⟨_, rfl, rfl, rfl⟩, trivial⟩, ⟨fun _ => ⟨_, rfl, rfl, rfl⟩, fun _ => ⟨_, rfl, rfl, rfl⟩, fun _ => ⟨_, rfl, rfl, rfl⟩, fun _ => ⟨_, rfl, rfl, rfl⟩, fun _ => ⟨_, rfl, rfl, rfl⟩, trivial⟩, ⟨fun q => absurd q (by decide), fun q => absurd q (by decide), fun q => absurd q (by decide), trivial⟩, trivial⟩
theorem fz_ok : t_lib.AllP (fun x n => (n = 2 → Cond.fieldLink (cname (x / 4096)) (x % 4096) "java/lang/String" "COMPACT_STRINGS" "Z" ∈ TBg) ∧ (n = 3 → Cond.fieldLink (cname (x / 4096)) (x % 4096) "RightsHouse$Judge" "RANK" "[I" ∈ TBg) ∧ (n = 4 → Cond.fieldLink (cname (x / 4096)) (x % 4096) "java/lang/String" "coder" "B" ∈ TBg) ∧ (n = 5 → Cond.fieldLink (cname (x / 4096)) (x % 4096) "java/lang/String" "value" "[B" ∈ TBg)) := ⟨⟨⟨fun q => absurd q (by decide), fun q => absurd q (by decide), fun q => absurd q (by decide), fun q => absurd q (by decide)⟩, ⟨fun q => absurd q (by decide), fun q => absurd q (by decide), fun q => absurd q (by decide), fun q => absurd q (by decide)⟩, ⟨fun q => absurd q (by decide), fun _ => k_6_70, fun q => absurd q (by decide), fun q => absurd q (by decide)⟩, ⟨fun q => absurd q (by decide), fun q => absurd q (by decide), fun q => absurd q (by decide), fun q => absurd q (by decide)⟩, ⟨fun q => absurd q (by decide), fun q => absurd q (by decide), fun q => absurd q (by decide), fun q => absurd q (by decide)⟩, trivial⟩, ⟨⟨fun q => absurd q (by decide), fun q => absurd q (by decide), fun q => absurd q (by decide), fun q => absurd q (by decide)⟩, ⟨fun q => absurd q (by decide), fun q => absurd q (by decide), fun q => absurd q (by decide), fun q => absurd q (by decide)⟩, ⟨fun q => absurd q (by decide), fun q => absurd q (by decide), fun q => absurd q (by decide), fun q => absurd q (by decide)⟩, ⟨fun q => absurd q (by decide), fun q => absurd q (by decide), fun q => absurd q (by decide), fun q => absurd q (by decide)⟩, ⟨fun q => absurd q (by decide), fun q => absurd q (by decide), fun q => absurd q (by decide), fun q => absurd q (by decide)⟩, trivial⟩, ⟨⟨fun q => absurd q (by decide), fun q => absurd q (by decide), fun q => absurd q (by decide), fun q => absurd q (by decide)⟩, ⟨fun q => absurd q (by decide), fun q => absurd q (by decide), fun q => absurd q (by decide), fun q => absurd q (by decide)⟩, ⟨fun q => absurd q (by decide), fun q => absurd q (by decide), fun q => absurd q (by decide), fun q => absurd q (by decide)⟩, ⟨fun q => absurd q (by decide), fun q => absurd q (by decide), fun q => absurd q (by decide), fun q => absurd q (by decide)⟩, ⟨fun q => absurd q (by decide), fun q => absurd q (by decide), fun q => absurd q (by decide), fun q => absurd q (by decide)⟩, trivial⟩, ⟨⟨fun q => absurd q (by decide), fun q => absurd q (by decide), fun q => absurd q (by decide), fun q => absurd q (by decide)⟩, ⟨fun q => absurd q (by decide), fun q => absurd q (by decide), fun q => absurd q (by decide), fun q => absurd q (by decide)⟩, ⟨fun q => absurd q (by decide), fun q => absurd q (by decide), fun q => absurd q (by decide), fun q => absurd q (by decide)⟩, ⟨fun q => absurd q (by decide), fun q => absurd q (by decide), fun q => absurd q (by decide), fun q => absurd q (by decide)⟩, ⟨fun q => absurd q (by decide), fun q => absurd q (by decide), fun q => absurd q (by decide), fun q => absurd q (by decide)⟩, trivial⟩, ⟨⟨fun q => absurd q (by decide), fun q => absurd q (by decide), fun q => absurd q (by decide), fun q => absurd q (by decide)⟩, ⟨fun q => absurd q (by decide), fun q => absurd q (by decide), fun q => absurd q (by decide), fun q => absurd q (by decide)⟩, ⟨fun q => absurd q (by decide), fun q => absurd q (by decide), fun q => absurd q (by decide), fun q => absurd q (by decide)⟩, ⟨fun q => absurd q (by decide), fun q => absurd q (by decide), fun q => absurd q (by decide), fun q => absurd q (by decide)⟩, ⟨fun q => absurd q (by decide), fun q => absurd q (by decide), fun q => absurd q (by decide), fun q => absurd q (by decide)⟩, trivial⟩, ⟨⟨fun q => absurd q (by decide), fun q => absurd q (by decide), fun q => absurd q (by decide), fun _ => k_13_226⟩, ⟨fun q => absurd q (by decide), fun q => absurd q (by decide), fun _ => k_13_225, fun q => absurd q (by decide)⟩, ⟨fun _ => k_4_164, fun q => absurd q (by decide), fun q => absurd q (by decide), fun q => absurd q (by decide)⟩, trivial⟩, trivial⟩
theorem ord_key {o x : Nat} (h : x < 4096) : (o * 4096 + x) / 4096 = o ∧ (o * 4096 + x) % 4096 = x := by omega
theorem kf_key {k j : Nat} (h : j < 1024) : (k * 1024 + j) / 1024 = k ∧ (k * 1024 + j) % 1024 = j := by omega
theorem rfIn_ok {k b n : Nat} : ∀ {z i : Nat}, rfIn k b n z = true → i < z → ∃ q, RF k i = q + 1 ∧ b ≤ q ∧ q < b + n
  | 0, i, _, h => by omega
  | z + 1, i, h, hi => by
    unfold rfIn at h
    simp only [Bool.and_eq_true] at h
    by_cases e : i = z
    · subst e
      have h1 := Nat.le_of_ble_eq_true h.1.1
      have h2 := Nat.le_of_ble_eq_true h.1.2
      exact ⟨RF k i - 1, by omega, by omega, by omega⟩
    · exact rfIn_ok h.2 (by omega)
/-- a method that is not in the table has no code -/
theorem own_ok {m : Nat} {e : Me} (h : MT.get m = some e) : MeOk m e := MT_ok.at h
theorem G_ok (P : Pl) (hk : Nat × (Nat × Nat) → Fm → Sy → Option Sy) (ct : BT Ct) : GxOk Yf (mkX P hk ct) := by
  have own0 : ∀ m : Nat, MT.get m = none → (mkX P hk ct).g.own m = 0 := fun m h => by
    show (match MT.get m with
      | some e => Me.own e
      | none => 0) = 0
    rw [h]
  have own1 : ∀ (m : Nat) (e : Me), MT.get m = some e → (mkX P hk ct).g.own m = e.own ∧ Yf m = e.y := fun m e h => by
    refine ⟨?_, ?_⟩
    · show (match MT.get m with
        | some e => Me.own e
        | none => 0) = e.own
      rw [h]
    · show (match MT.get m with
        | some e => Me.y e
        | none => Y_H_feed) = e.y
      rw [h]
  have cls1 : ∀ (m : Nat) (e : Me), MT.get m = some e → (Yf m).1.cls = cname ((mkX P hk ct).g.own m) := fun m e h => by rw [(own1 m e h).1, (own1 m e h).2]; exact (own_ok h).2.1
  have key0 : ∀ (x : Nat), x < 4096 → t_cst.get (0 * 4096 + x) = none ∧ t_cstl.get (0 * 4096 + x) = none ∧ t_fld.get (0 * 4096 + x) = none ∧ t_call.get (0 * 4096 + x) = none ∧ t_lib.get (0 * 4096 + x) = none := by
    intro x hx
    refine ⟨low_none low_cst (by omega), low_none low_cstl (by omega), low_none low_fld (by omega), low_none low_call (by omega), low_none low_lib (by omega)⟩
  refine ⟨⟨?_, ?_, ?_, ?_, ?_, ?_, ?_, ?_, ?_, ?_, ?_⟩, ?_, ?_⟩
  · intro m
    cases h : MT.get m with
    | none => simp only [Yf, h]; exact ⟨by decide, by decide⟩
    | some e =>
      rw [(own1 m e h).2]
      obtain ⟨-, -, h3, ⟨⟨h4, h5⟩, -⟩, -⟩ := own_ok h
      have hr := (BT.all_P room_big).at h3
      simp only [Bool.and_eq_true] at hr
      exact ⟨Nat.le_trans (Nat.le_of_ble_eq_true hr.1) h4, Nat.le_trans (Nat.le_of_ble_eq_true hr.2) h5⟩
  · intro m x hx hl
    cases h : MT.get m with
    | none => rw [own0 m h] at hl; have := (key0 x hx).2.2.2.2; rw [show (mkX P hk ct).g.lib = t_lib from rfl, this] at hl; cases hl
    | some e =>
      have := lib_ok.at hl rfl
      rw [(ord_key hx).1, (ord_key hx).2, ← cls1 m e h] at this
      exact this
  · intro m pc ix len hc
    cases h : MT.get m with
    | none =>
      have hc2 : BT.get (match MT.get m with
        | some e => Me.code e
        | none => []) pc = some (ix, len) := hc
      rw [h] at hc2
      cases hc2
    | some e =>
      rw [(own1 m e h).2]
      have hc' : BT.get e.code pc = some (ix, len) := by
        have hc2 : BT.get (match MT.get m with
          | some e => Me.code e
          | none => []) pc = some (ix, len) := hc
        rw [h] at hc2
        exact hc2
      have := (BT.all_P (own_ok h).1).at hc'
      simp only [Bool.and_eq_true, Bool.or_eq_true, decide_eq_true_eq] at this
      refine ⟨this.1, this.2.1, ?_⟩
      rcases this.2.2 with q | q
      · exact Or.inl (Nat.eq_of_beq_eq_true q)
      · exact Or.inr (Nat.eq_of_beq_eq_true q)
  · intro m x n hx hl
    cases h : MT.get m with
    | none => rw [own0 m h] at hl; have := (key0 x hx).1; rw [show (mkX P hk ct).g.cst = t_cst from rfl, this] at hl; cases hl
    | some e =>
      obtain ⟨v, h1, h2⟩ := cst_ok.at hl
      rw [(ord_key hx).1, (ord_key hx).2, ← cls1 m e h] at h2
      exact ⟨v, h1, h2⟩
  · intro m x n hx hl
    cases h : MT.get m with
    | none => rw [own0 m h] at hl; have := (key0 x hx).2.1; rw [show (mkX P hk ct).g.cstl = t_cstl from rfl, this] at hl; cases hl
    | some e =>
      obtain ⟨v, h1, h2⟩ := cstl_ok.at hl
      rw [(ord_key hx).1, (ord_key hx).2, ← cls1 m e h] at h2
      exact ⟨v, h1, h2⟩
  · intro m x ci j t hx hl
    cases h : MT.get m with
    | none => rw [own0 m h] at hl; have := (key0 x hx).2.2.1; rw [show (mkX P hk ct).g.fld = t_fld from rfl, this] at hl; cases hl
    | some e =>
      obtain ⟨h1, ty, fin, h2, h3⟩ := fld_ok.at hl
      rw [(ord_key hx).1, (ord_key hx).2, ← cls1 m e h] at h2
      exact ⟨h1, ty, fin, h2, h3⟩
  · intro k j ci kd t hj hl
    have := (BT.all_P kf_chk).at hl
    simp only [(kf_key hj).1, (kf_key hj).2, Bool.and_eq_true, Bool.or_eq_true, Bool.not_eq_true'] at this
    obtain ⟨⟨h1, h2⟩, h3, h4, h5, h6⟩ := this
    refine ⟨Nat.le_of_ble_eq_true h1, Nat.le_of_ble_eq_true h2, ⟨(KD k).2, ?_, ?_⟩, fun e => ?_, ?_⟩
    · rw [← Nat.eq_of_beq_eq_true h3]
    · split at h4
      · rename_i q hq
        rw [hq, Nat.eq_of_beq_eq_true h4]
      · cases h4
    · rcases h5 with h5 | h5
      · rw [e] at h5; cases h5
      · exact Nat.eq_of_beq_eq_true h5
    · split at h6
      · cases h6
      · assumption
  · intro k kd z hl
    have := (BT.all_P ka_chk).at hl
    simp only [Bool.and_eq_true] at this
    obtain ⟨⟨h1, h2⟩, h3, h4⟩ := this
    refine ⟨Nat.le_of_ble_eq_true h1, ?_, Nat.le_of_ble_eq_true h2⟩
    split at h4
    · rename_i y hy
      have e1 := Nat.eq_of_beq_eq_true h3
      have e2 := Nat.eq_of_beq_eq_true h4
      rw [← e1, ← e2, ← hy]
    · cases h4
  · intro k b n hl
    have := (BT.all_P kr_chk).at hl
    split at this
    · rename_i kd z hz
      rw [Bool.and_eq_true] at this
      refine ⟨z, ?_, fun i hi => rfIn_ok this.2 hi⟩
      rw [← Nat.eq_of_beq_eq_true this.1]
      exact hz
    · cases this
  · intro m x n hx hl hn
    cases h : MT.get m with
    | none => rw [own0 m h] at hl; have := (key0 x hx).2.2.2.2; rw [show (mkX P hk ct).g.lib = t_lib from rfl, this] at hl; cases hl
    | some e =>
      obtain ⟨q, h1, h2, h3⟩ := str_ok.at hl hn
      rw [(ord_key hx).1, ← cls1 m e h] at h2
      rw [(ord_key hx).2] at h3
      exact ⟨q, h1, h2, h3⟩
  · intro m x n hx hl
    cases h : MT.get m with
    | none => rw [own0 m h] at hl; have := (key0 x hx).2.2.2.2; rw [show (mkX P hk ct).g.lib = t_lib from rfl, this] at hl; cases hl
    | some e =>
      have := fz_ok.at hl
      rw [(ord_key hx).1, (ord_key hx).2, ← cls1 m e h] at this
      exact this
  · intro m fr lo nl t q hl
    cases h : MT.get m with
    | none =>
      have := (BT.all_P room_in).at hl
      rw [h] at this
      cases this
    | some e =>
      obtain ⟨-, -, h3, h4⟩ := own_ok h
      have hl' : t_room.get m = some (fr, (lo, (nl, (t, q)))) := hl
      rw [hl'] at h3
      have := Option.some.inj h3
      rw [(own1 m e h).2]
      rw [← this] at h4
      exact h4
  · intro m x z k b hx hl
    cases h : MT.get m with
    | none => rw [own0 m h] at hl; have := (key0 x hx).2.2.2.1; rw [show (mkX P hk ct).call = t_call from rfl, this] at hl; cases hl
    | some e =>
      have h1 := call_ok.at hl
      unfold CallOk at h1
      rw [(ord_key hx).1, (ord_key hx).2, ← cls1 m e h] at h1
      exact h1
