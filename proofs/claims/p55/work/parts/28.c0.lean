section
noncomputable section
/-! ===== the tables are right ===== -/
noncomputable def codeChk (b : ByteArray) (nl : Nat) (t : BT (Ix × Nat)) : Bool := t.all fun pc r => decide (decode b pc = .ok (enc r.1, r.2)) && (r.1.fits nl && (Nat.beq r.1.len 0 || Nat.beq r.1.len r.2))
noncomputable def MeOk (m : Nat) (e : Me) : Prop := codeChk e.y.2.1 e.y.2.2.1 e.code = true ∧ e.y.1.cls = cname e.own ∧ t_room.get m = some e.room ∧ (((e.room.1 ≤ e.y.2.2.2.2.frames ∧ e.room.2.1 ≤ e.y.2.2.2.2.locals) ∧ ((e.room.1 ≠ 200 → e.y.2.2.2.2.frames = e.room.1 ∧ e.y.2.2.2.2.locals = e.room.2.1) ∧ (e.room.1 = 200 → e.y.2.2.2.2.frames ≤ 600 ∧ e.y.2.2.2.2.locals ≤ 20000)) ∧ e.y.2.2.2.2.cells = 0 ∧ e.y.2.2.2.2.slots = 0) ∧ (e.y.2.2.1 = e.room.2.2.1 ∧ plainName e.y.1.cls = true) ∧ (e.room.2.2.2.1 = 0 → e.y.2.2.2.1 = none) ∧ (e.room.2.2.2.1 = 1 → e.y.2.2.2.1 = some .int) ∧ (e.room.2.2.2.1 = 2 → e.y.2.2.2.1 = some .boolean) ∧ (e.room.2.2.2.1 = 3 → e.y.2.2.2.1 = some .long) ∧ (e.room.2.2.2.1 = 4 → e.y.2.2.2.1 = some .char) ∧ (e.room.2.2.2.1 = 5 → e.y.2.2.2.1 = some .byte))
/-- codes by windows -/
theorem all_mono {α : Type} {p q : Nat → α → Bool} {t : BT α} (h : BT.all p t = true) (hpq : ∀ i v, p i v = true → q i v = true) : BT.all q t = true := by
  unfold BT.all at h ⊢
  exact List.all_eq_true.mpr fun c hc => List.all_eq_true.mpr fun e he => hpq _ _ (List.all_eq_true.mp (List.all_eq_true.mp h c hc) e he)
noncomputable def wsOk : List UInt8 → List ByteArray → Bool
  | _, [] => true
  | l, w :: r => decide (l.take w.size = w.data.toList) && wsOk (l.drop 64) r
theorem wsOk_at : ∀ {ws : List ByteArray} {l : List UInt8}, wsOk l ws = true → ∀ {i : Nat} {w : ByteArray}, ws[i]? = some w → (l.drop (64 * i)).take w.size = w.data.toList
  | [], _, _, i, w, h => by cases h
  | v :: r, l, H, i, w, h => by
    have H : (decide (l.take v.size = v.data.toList) && wsOk (l.drop 64) r) = true := H
    rw [Bool.and_eq_true] at H
    cases i with
    | zero =>
      have e : some v = some w := h
      cases e
      exact of_decide_eq_true H.1
    | succ i =>
      have e : r[i]? = some w := h
      have q := wsOk_at H.2 e
      rw [List.drop_drop] at q
      rw [show 64 * (i + 1) = 64 + 64 * i by omega]
      exact q
noncomputable def decW (b : ByteArray) (ws : List ByteArray) (pc : Nat) (x : Instr × Nat) : Bool := (match ws[pc / 64]? with
  | some w => okat w (pc % 64) && decide (decode w (pc % 64) = .ok x)
  | none => false) || decide (decode b pc = .ok x)
theorem decW_ok {b : ByteArray} {ws : List ByteArray} (hw : wsOk b.data.toList ws = true) {pc : Nat} {x : Instr × Nat} (h : decW b ws pc x = true) : decide (decode b pc = .ok x) = true := by
  unfold decW at h
  rw [Bool.or_eq_true] at h
  rcases h with h | h
  · cases hg : ws[pc / 64]? with
    | none => rw [hg] at h; cases h
    | some w =>
      rw [hg] at h
      have h : (okat w (pc % 64) && decide (decode w (pc % 64) = .ok x)) = true := h
      rw [Bool.and_eq_true] at h
      have q := dec_win (win_of (wsOk_at hw hg)) h.1 (of_decide_eq_true h.2)
      rw [Nat.mod_add_div] at q
      exact decide_eq_true q
  · exact h
noncomputable def codeChkW (b : ByteArray) (ws : List ByteArray) (nl : Nat) (t : BT (Ix × Nat)) : Bool := t.all fun pc r => decW b ws pc (enc r.1, r.2) && (r.1.fits nl && (Nat.beq r.1.len 0 || Nat.beq r.1.len r.2))
theorem codeW {b : ByteArray} {ws : List ByteArray} {nl : Nat} {t : BT (Ix × Nat)} (hw : wsOk b.data.toList ws = true) (h : codeChkW b ws nl t = true) : codeChk b nl t = true := by
  refine all_mono h fun pc r hp => ?_
  have hp : (decW b ws pc (enc r.1, r.2) && (r.1.fits nl && (Nat.beq r.1.len 0 || Nat.beq r.1.len r.2))) = true := hp
  rw [Bool.and_eq_true] at hp
  show (decide (decode b pc = .ok (enc r.1, r.2)) && (r.1.fits nl && (Nat.beq r.1.len 0 || Nat.beq r.1.len r.2))) = true
  rw [Bool.and_eq_true]
  exact ⟨decW_ok hw hp.1, hp.2⟩
theorem pn_1 : plainName "RightsHouse" = true := by decide
theorem pn_2 : plainName "RightsHouse$Flows" = true := by decide
theorem pn_3 : plainName "RightsHouse$Gates" = true := by decide
theorem pn_4 : plainName "RightsHouse$Guard" = true := by decide
theorem pn_5 : plainName "RightsHouse$Judge" = true := by decide
theorem pn_6 : plainName "RightsHouse$Lends" = true := by decide
theorem pn_7 : plainName "RightsHouse$Policies" = true := by decide
theorem pn_8 : plainName "RightsHouse$Reals" = true := by decide
theorem pn_9 : plainName "RightsHouse$Roles" = true := by decide
theorem pn_10 : plainName "RightsHouse$Things" = true := by decide
theorem pn_11 : plainName "RightsHouse$Who" = true := by decide
theorem pn_12 : plainName "RightsHouse$Works" = true := by decide
theorem pn_13 : plainName "RightsHouseModel" = true := by decide
theorem pn_14 : plainName "java/lang/Long" = true := by decide
theorem pn_15 : plainName "java/lang/String" = true := by decide
theorem pn_16 : plainName "java/lang/StringLatin1" = true := by decide
end
end
section
noncomputable section
noncomputable def cdE (b : ByteArray) (nl : Nat) : List (Nat × (Ix × Nat)) → List UInt8 → Nat → Bool
  | [], _, _ => true
  | e :: es, l, p => (Nat.ble p e.1 && (e.2.1.fits nl && (Nat.beq e.2.1.len 0 || Nat.beq e.2.1.len e.2.2))) && (match encb e.2.1 with
    | some w => Nat.beq w.length e.2.2 && (match pfx w (l.drop (e.1 - p)) with
      | some l' => cdE b nl es l' (e.1 + e.2.2)
      | none => false)
    | none => decide (decode b e.1 = .ok (enc e.2.1, e.2.2)) && cdE b nl es (l.drop (e.1 - p + e.2.2)) (e.1 + e.2.2))
theorem cdE_ok {b : ByteArray} {nl : Nat} : ∀ {es : List (Nat × (Ix × Nat))} {l : List UInt8} {p : Nat}, l = b.data.toList.drop p → cdE b nl es l p = true → ∀ e ∈ es, (decide (decode b e.1 = .ok (enc e.2.1, e.2.2)) && (e.2.1.fits nl && (Nat.beq e.2.1.len 0 || Nat.beq e.2.1.len e.2.2))) = true
  | [], _, _, _, _ => fun e he => by cases he
  | e :: es, l, p, hl, h => by
    unfold cdE at h
    rw [Bool.and_eq_true, Bool.and_eq_true] at h
    obtain ⟨⟨h1, h2⟩, h3⟩ := h
    have hp := Nat.le_of_ble_eq_true h1
    have hd : l.drop (e.1 - p) = b.data.toList.drop e.1 := by
      rw [hl, List.drop_drop]
      congr 1
      omega
    suffices hs : decide (decode b e.1 = .ok (enc e.2.1, e.2.2)) = true ∧ ∃ l', l' = b.data.toList.drop (e.1 + e.2.2) ∧ cdE b nl es l' (e.1 + e.2.2) = true by
      obtain ⟨g1, l', g2, g3⟩ := hs
      intro e' he
      rcases List.mem_cons.mp he with rfl | he
      · rw [Bool.and_eq_true]; exact ⟨g1, h2⟩
      · exact cdE_ok g2 g3 e' he
    cases hc : encb e.2.1 with
    | some w =>
      rw [hc] at h3
      simp only [Bool.and_eq_true] at h3
      obtain ⟨h4, h5⟩ := h3
      have hw := Nat.eq_of_beq_eq_true h4
      cases hq : pfx w (l.drop (e.1 - p)) with
      | none => rw [hq] at h5; cases h5
      | some l' =>
        rw [hq] at h5
        obtain ⟨q1, q2⟩ := pfx_ok hq
        rw [hd] at q1 q2
        have hE := encb_ok hc _ q1
        have hW : Win b ⟨((b.data.toList.drop e.1).take w.length).toArray⟩ e.1 := win_of (n := w.length) rfl
        have g := dec_win hW hE.2 hE.1
        rw [Nat.zero_add, hw] at g
        exact ⟨decide_eq_true g, l', by rw [q2, List.drop_drop, hw], h5⟩
    | none =>
      rw [hc] at h3
      simp only [Bool.and_eq_true] at h3
      exact ⟨h3.1, _, by rw [hl, List.drop_drop]; congr 1; omega, h3.2⟩
theorem codeE {b : ByteArray} {nl : Nat} {t : BT (Ix × Nat)} (h : cdE b nl (t.flatMap (·.2)) b.data.toList 0 = true) : codeChk b nl t = true := by
  unfold codeChk BT.all
  refine List.all_eq_true.mpr fun c hc => List.all_eq_true.mpr fun e he => ?_
  exact cdE_ok (l := b.data.toList) (p := 0) rfl h e (List.mem_flatMap.mpr ⟨c, hc, he⟩)
end
end
