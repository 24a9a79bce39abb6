noncomputable section
def cdE (b : ByteArray) (nl : Nat) : List (Nat × (Ix × Nat)) → List UInt8 → Nat → Bool
  | [], _, _ => true
  | e :: es, l, p => (Nat.ble p e.1 && (e.2.1.fits nl && (Nat.beq e.2.1.len 0 || Nat.beq e.2.1.len e.2.2))) && (match encb e.2.1 with
    | some w => Nat.beq w.length e.2.2 && (match pfx w (l.drop (e.1 - p)) with
      | some l' => cdE b nl es l' (e.1 + e.2.2)
      | none => false)
    | none => decide (decode b e.1 = .ok (enc e.2.1, e.2.2)) && cdE b nl es (l.drop (e.1 - p + e.2.2)) (e.1 + e.2.2))
theorem cdE_ok {b : ByteArray} {nl : Nat} : ∀ {es : List (Nat × (Ix × Nat))} {l : List UInt8} {p : Nat}, l = b.data.toList.drop p → cdE b nl es l p = true → ∀ e ∈ es, (decide (decode b e.1 = .ok (enc e.2.1, e.2.2)) && (e.2.1.fits nl && (Nat.beq e.2.1.len 0 || Nat.beq e.2.1.len e.2.2))) = true
  | [], _, _, _, _ => fun e he => by cases he
  | e :: es, l, p, hl, h => by
    unfold cdE at h
    rw [Bool.and_eq_true, Bool.and_eq_true] at h
    obtain ⟨⟨h1, h2⟩, h3⟩ := h
    have hp := Nat.le_of_ble_eq_true h1
    have hd : l.drop (e.1 - p) = b.data.toList.drop e.1 := by
      rw [hl, List.drop_drop]
      congr 1
      omega
    suffices hs : decide (decode b e.1 = .ok (enc e.2.1, e.2.2)) = true ∧ ∃ l', l' = b.data.toList.drop (e.1 + e.2.2) ∧ cdE b nl es l' (e.1 + e.2.2) = true by
      obtain ⟨g1, l', g2, g3⟩ := hs
      intro e' he
      rcases List.mem_cons.mp he with rfl | he
      · rw [Bool.and_eq_true]; exact ⟨g1, h2⟩
      · exact cdE_ok g2 g3 e' he
    cases hc : encb e.2.1 with
    | some w =>
      rw [hc] at h3
      simp only [Bool.and_eq_true] at h3
      obtain ⟨h4, h5⟩ := h3
      have hw := Nat.eq_of_beq_eq_true h4
      cases hq : pfx w (l.drop (e.1 - p)) with
      | none => rw [hq] at h5; cases h5
      | some l' =>
        rw [hq] at h5
        obtain ⟨q1, q2⟩ := pfx_ok hq
        rw [hd] at q1 q2
        have hE := encb_ok hc _ q1
        have hW : Win b ⟨((b.data.toList.drop e.1).take w.length).toArray⟩ e.1 := win_of (n := w.length) rfl
        have g := dec_win hW hE.2 hE.1
        rw [Nat.zero_add, hw] at g
        exact ⟨decide_eq_true g, l', by rw [q2, List.drop_drop, hw], h5⟩
    | none =>
      rw [hc] at h3
      simp only [Bool.and_eq_true] at h3
      exact ⟨h3.1, _, by rw [hl, List.drop_drop]; congr 1; omega, h3.2⟩
theorem codeE {b : ByteArray} {nl : Nat} {t : BT (Ix × Nat)} (h : cdE b nl (t.flatMap (·.2)) b.data.toList 0 = true) : codeChk b nl t = true := by
  unfold codeChk BT.all
  refine List.all_eq_true.mpr fun c hc => List.all_eq_true.mpr fun e he => ?_
  exact cdE_ok (l := b.data.toList) (p := 0) rfl h e (List.mem_flatMap.mpr ⟨c, hc, he⟩)
end
