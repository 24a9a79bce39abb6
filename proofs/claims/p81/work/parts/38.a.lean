section
/-! ===== N53: the whole J of the log's claims ===== -/
/-- the judge's; the lends'; both logs hold the same -/
noncomputable def J0T (σ : zS) : Prop := J0 σ ∧ (∃ τ, AgZ σ τ ∧ J0L9 τ) ∧ LgS σ
theorem LgS00 : LgS σ00 := ⟨0, ⟨by decide +kernel, by decide +kernel, by omega⟩, fun _ _ h _ => absurd h (Nat.not_lt_zero _), fun _ h => absurd h (Nat.not_lt_zero _)⟩
theorem J0T_00 : J0T σ00 := ⟨J0_00, ⟨σ00, AgZ.rf, J0_00L9⟩, LgS00⟩
section N53
variable {E : xV} {σ τ : zS} {YH YM : xY} {avH avM : List Value}
theorem lt_g {T : Type} {con : T → Value} (ci : ∀ a b, con a = con b → a = b) (cn : ∀ a i, con a ≠ .ref i) {P Q O : T → Option Value → Prop} {G : T → Option Value → zS → Prop} (hP : ∀ r v, P r v → noR v) (hO : ∀ r v, P r v → O r v) (hG : ∀ r v s, P r v → Q r v → G r v s → LgS s)
    (h1 : Cz E YH avH σ (fun v σ1 => ∃ r : T, v = some (con r) ∧ Cz E YM avM σ1 (fun v' σ2 => P r v' ∧ J0 σ2))) (ag : AgZ σ τ) (h2 : Cz E YH avH τ (fun v σ1 => ∃ r : T, v = some (con r) ∧ Cz E YM avM σ1 (fun v' σ2 => Q r v' ∧ J0L9 σ2))) (h3 : Cz E YH avH σ (fun v σ1 => ∃ r : T, v = some (con r) ∧ Cz E YM avM σ1 (fun v' σ2 => G r v' σ2))) :
    Cz E YH avH σ (fun v σ1 => ∃ r : T, v = some (con r) ∧ Cz E YM avM σ1 (fun v' σ2 => O r v' ∧ J0T σ2)) := by
  refine (Cz.and (Cz.and h1 (Cz.ag ag h2) (fun v s q i e => ?_)) h3 (fun v s q i e => ?_)).mono (fun v σ1 q => ?_)
  · obtain ⟨r, q, _⟩ := q
    rw [q] at e
    exact cn r i (Option.some.inj e)
  · obtain ⟨⟨r, q, _⟩, _⟩ := q
    rw [q] at e
    exact cn r i (Option.some.inj e)
  · obtain ⟨⟨⟨r, e, c1⟩, t, at1, r', e', c2⟩, u, au1, r'', e'', c3⟩ := q
    have er : r' = r := ci _ _ (Option.some.inj (e'.symm.trans e))
    subst er
    have er : r'' = r' := ci _ _ (Option.some.inj (e''.symm.trans e))
    subst er
    refine ⟨r'', e, (Cz.and (Cz.and c1 (Cz.ag at1 c2) (fun v s q => hP _ _ q.1)) (Cz.ag au1 c3) (fun v s q => hP _ _ q.1.1)).mono (fun v' σ2 q => ?_)⟩
    obtain ⟨⟨⟨p, j⟩, t2, at2, q2, jl⟩, u2, au2, g⟩ := q
    exact ⟨hO _ _ p, j, ⟨t2, at2, jl⟩, LgS.ag au2.sy (hG _ _ _ p q2 g)⟩
theorem ci_i : ∀ a b : Int32, Value.int a = Value.int b → a = b := fun a b h => by cases h; rfl
theorem ci_l : ∀ a b : Int64, Value.long a = Value.long b → a = b := fun a b h => by cases h; rfl
theorem cn_i : ∀ (a : Int32) i, Value.int a ≠ .ref i := fun a i h => by cases h
theorem cn_l : ∀ (a : Int64) i, Value.long a ≠ .ref i := fun a i h => by cases h
theorem nr_i {v : Option Value} (h : ∃ r : Int32, v = some (.int r)) : noR v := fun i e => by
  obtain ⟨r, q⟩ := h
  rw [q] at e
  cases e
theorem nr_l {v : Option Value} (h : ∃ r : Int64, v = some (.long r)) : noR v := fun i e => by
  obtain ⟨r, q⟩ := h
  rw [q] at e
  cases e
theorem lt_i (h1 : Cz E YH avH σ (fun v σ1 => ∃ r : Int32, v = some (.int r) ∧ Cz E YM avM σ1 (fun v' σ2 => (∃ r2 : Int32, v' = some (.int r2)) ∧ J0 σ2))) (ag : AgZ σ τ) (h2 : Cz E YH avH τ (fun v σ1 => ∃ r : Int32, v = some (.int r) ∧ Cz E YM avM σ1 (fun v' σ2 => (∃ r2 : Int32, v' = some (.int r2)) ∧ J0L9 σ2))) (h3 : Cz E YH avH σ (fun v σ1 => ∃ r : Int32, v = some (.int r) ∧ Cz E YM avM σ1 (fun v' σ2 => (∃ r2 : Int32, v' = some (.int r2)) ∧ LgS σ2))) :
    Cz E YH avH σ (fun v σ1 => ∃ r : Int32, v = some (.int r) ∧ Cz E YM avM σ1 (fun v' σ2 => (∃ r2 : Int32, v' = some (.int r2)) ∧ J0T σ2)) :=
  lt_g (T := Int32) (con := Value.int) ci_i cn_i (P := fun _ v => ∃ r2 : Int32, v = some (.int r2)) (Q := fun _ v => ∃ r2 : Int32, v = some (.int r2)) (O := fun _ v => ∃ r2 : Int32, v = some (.int r2)) (G := fun _ v s => (∃ r2 : Int32, v = some (.int r2)) ∧ LgS s) (fun _ _ h => nr_i h) (fun _ _ h => h) (fun _ _ _ _ _ g => g.2) h1 ag h2 h3
theorem lt_l (h1 : Cz E YH avH σ (fun v σ1 => ∃ r : Int64, v = some (.long r) ∧ Cz E YM avM σ1 (fun v' σ2 => (∃ r2 : Int64, v' = some (.long r2)) ∧ J0 σ2))) (ag : AgZ σ τ) (h2 : Cz E YH avH τ (fun v σ1 => ∃ r : Int64, v = some (.long r) ∧ Cz E YM avM σ1 (fun v' σ2 => (∃ r2 : Int64, v' = some (.long r2)) ∧ J0L9 σ2))) (h3 : Cz E YH avH σ (fun v σ1 => ∃ r : Int64, v = some (.long r) ∧ Cz E YM avM σ1 (fun v' σ2 => (∃ r2 : Int64, v' = some (.long r2)) ∧ LgS σ2))) :
    Cz E YH avH σ (fun v σ1 => ∃ r : Int64, v = some (.long r) ∧ Cz E YM avM σ1 (fun v' σ2 => (∃ r2 : Int64, v' = some (.long r2)) ∧ J0T σ2)) :=
  lt_g (T := Int64) (con := Value.long) ci_l cn_l (P := fun _ v => ∃ r2 : Int64, v = some (.long r2)) (Q := fun _ v => ∃ r2 : Int64, v = some (.long r2)) (O := fun _ v => ∃ r2 : Int64, v = some (.long r2)) (G := fun _ v s => (∃ r2 : Int64, v = some (.long r2)) ∧ LgS s) (fun _ _ h => nr_l h) (fun _ _ h => h) (fun _ _ _ _ _ g => g.2) h1 ag h2 h3
theorem lt_c (h1 : Cz E YH avH σ (fun v σ1 => ∃ r : Int32, v = some (.int r) ∧ Cz E YM avM σ1 (fun v' σ2 => v' = some (.int r) ∧ J0 σ2))) (ag : AgZ σ τ) (h2 : Cz E YH avH τ (fun v σ1 => ∃ r : Int32, v = some (.int r) ∧ Cz E YM avM σ1 (fun v' σ2 => (∃ r2 : Int32, v' = some (.int r2)) ∧ J0L9 σ2))) (h3 : Cz E YH avH σ (fun v σ1 => ∃ r : Int32, v = some (.int r) ∧ Cz E YM avM σ1 (fun v' σ2 => (∃ r2 : Int32, v' = some (.int r2)) ∧ LgS σ2))) :
    Cz E YH avH σ (fun v σ1 => ∃ r : Int32, v = some (.int r) ∧ Cz E YM avM σ1 (fun v' σ2 => v' = some (.int r) ∧ J0T σ2)) :=
  lt_g (T := Int32) (con := Value.int) ci_i cn_i (P := fun r v => v = some (.int r)) (Q := fun _ v => ∃ r2 : Int32, v = some (.int r2)) (O := fun r v => v = some (.int r)) (G := fun _ v s => (∃ r2 : Int32, v = some (.int r2)) ∧ LgS s) (fun r _ h => nr_i ⟨r, h⟩) (fun _ _ h => h) (fun _ _ _ _ _ g => g.2) h1 ag h2 h3
theorem lt_give (h1 : Cz E YH avH σ (fun v σ1 => ∃ r : Int32, v = some (.int r) ∧ Cz E YM avM σ1 (fun v' σ2 => v' = some (.int r) ∧ J0 σ2))) (ag : AgZ σ τ) (h2 : Cz E YH avH τ (fun v σ1 => ∃ r : Int32, v = some (.int r) ∧ Cz E YM avM σ1 (fun v' σ2 => (∃ r2 : Int32, v' = some (.int r2)) ∧ J0L9 σ2))) (h3 : Cz E YH avH σ (fun v σ1 => ∃ r : Int32, v = some (.int r) ∧ Cz E YM avM σ1 (fun v' σ2 => ∃ r2 : Int32, v' = some (.int r2) ∧ (r = r2 → LgS σ2)))) :
    Cz E YH avH σ (fun v σ1 => ∃ r : Int32, v = some (.int r) ∧ Cz E YM avM σ1 (fun v' σ2 => (∃ r2 : Int32, v' = some (.int r2)) ∧ J0T σ2)) :=
  lt_g (T := Int32) (con := Value.int) ci_i cn_i (P := fun r v => v = some (.int r)) (Q := fun _ v => ∃ r2 : Int32, v = some (.int r2)) (O := fun _ v => ∃ r2 : Int32, v = some (.int r2)) (G := fun r v s => ∃ r2 : Int32, v = some (.int r2) ∧ (r = r2 → LgS s)) (fun r _ h => nr_i ⟨r, h⟩) (fun r _ h => ⟨r, h⟩) (fun r v s p _ g => by
    obtain ⟨r2, e, g⟩ := g
    rw [p] at e
    exact g (by cases e; rfl)) h1 ag h2 h3
theorem lt_lend (h1 : Cz E YH avH σ (fun v σ1 => ∃ r : Int32, v = some (.int r) ∧ Cz E YM avM σ1 (fun v' σ2 => (∃ r2 : Int32, v' = some (.int r2)) ∧ J0 σ2))) (ag : AgZ σ τ) (h2 : Cz E YH avH τ (fun v σ1 => ∃ r : Int32, v = some (.int r) ∧ Cz E YM avM σ1 (fun v' σ2 => v' = some (.int r) ∧ J0L9 σ2))) (h3 : Cz E YH avH σ (fun v σ1 => ∃ r : Int32, v = some (.int r) ∧ Cz E YM avM σ1 (fun v' σ2 => ∃ r2 : Int32, v' = some (.int r2) ∧ (r = r2 → LgS σ2)))) :
    Cz E YH avH σ (fun v σ1 => ∃ r : Int32, v = some (.int r) ∧ Cz E YM avM σ1 (fun v' σ2 => (∃ r2 : Int32, v' = some (.int r2)) ∧ J0T σ2)) :=
  lt_g (T := Int32) (con := Value.int) ci_i cn_i (P := fun _ v => ∃ r2 : Int32, v = some (.int r2)) (Q := fun r v => v = some (.int r)) (O := fun _ v => ∃ r2 : Int32, v = some (.int r2)) (G := fun r v s => ∃ r2 : Int32, v = some (.int r2) ∧ (r = r2 → LgS s)) (fun _ _ h => nr_i h) (fun _ _ h => h) (fun r v s _ p g => by
    obtain ⟨r2, e, g⟩ := g
    rw [p] at e
    exact g (by cases e; rfl)) h1 ag h2 h3
end N53
theorem LC_0_T {E : xV} {σ : zS} (h : J0T σ) : LC_0 E σ J0T := by
  obtain ⟨τ, ag, hl⟩ := h.2.1
  exact fun x0 x1 => lt_i (LC_0_ok h.1 x0 x1) ag (LC_0_okL9 hl x0 x1) (LG_0 h.1 h.2.2 x0 x1)
theorem LC_1_T {E : xV} {σ : zS} (h : J0T σ) : LC_1 E σ J0T := by
  obtain ⟨τ, ag, hl⟩ := h.2.1
  exact fun x0 => lt_i (LC_1_ok h.1 x0) ag (LC_1_okL9 hl x0) (LG_1 h.1 h.2.2 x0)
theorem LC_2_T {E : xV} {σ : zS} (h : J0T σ) : LC_2 E σ J0T := by
  obtain ⟨τ, ag, hl⟩ := h.2.1
  exact fun x0 => lt_i (LC_2_ok h.1 x0) ag (LC_2_okL9 hl x0) (LG_2 h.1 h.2.2 x0)
theorem LC_3_T {E : xV} {σ : zS} (h : J0T σ) : LC_3 E σ J0T := by
  obtain ⟨τ, ag, hl⟩ := h.2.1
  exact lt_i (LC_3_ok h.1) ag (LC_3_okL9 hl) (LG_3 h.1 h.2.2)
theorem LC_4_T {E : xV} {σ : zS} (h : J0T σ) : LC_4 E σ J0T := by
  obtain ⟨τ, ag, hl⟩ := h.2.1
  exact lt_i (LC_4_ok h.1) ag (LC_4_okL9 hl) (LG_4 h.1 h.2.2)
theorem LC_5_T {E : xV} {σ : zS} (h : J0T σ) : LC_5 E σ J0T := by
  obtain ⟨τ, ag, hl⟩ := h.2.1
  exact fun x0 x1 x2 x3 => lt_i (LC_5_ok h.1 x0 x1 x2 x3) ag (LC_5_okL9 hl x0 x1 x2 x3) (LG_5 h.1 h.2.2 x0 x1 x2 x3)
theorem LC_6_T {E : xV} {σ : zS} (h : J0T σ) : LC_6 E σ J0T := by
  obtain ⟨τ, ag, hl⟩ := h.2.1
  exact fun x0 => lt_i (LC_6_ok h.1 x0) ag (LC_6_okL9 hl x0) (LG_6 h.1 h.2.2 x0)
theorem LC_7_T {E : xV} {σ : zS} (h : J0T σ) : LC_7 E σ J0T := by
  obtain ⟨τ, ag, hl⟩ := h.2.1
  exact fun x0 x1 x2 x3 => lt_i (LC_7_ok h.1 x0 x1 x2 x3) ag (LC_7_okL9 hl x0 x1 x2 x3) (LG_7 h.1 h.2.2 x0 x1 x2 x3)
theorem LC_8_T {E : xV} {σ : zS} (h : J0T σ) : LC_8 E σ J0T := by
  obtain ⟨τ, ag, hl⟩ := h.2.1
  exact fun x0 x1 => lt_i (LC_8_ok h.1 x0 x1) ag (LC_8_okL9 hl x0 x1) (LG_8 h.1 h.2.2 x0 x1)
theorem LC_9_T {E : xV} {σ : zS} (h : J0T σ) : LC_9 E σ J0T := by
  obtain ⟨τ, ag, hl⟩ := h.2.1
  exact fun x0 x1 x2 x3 => lt_i (LC_9_ok h.1 x0 x1 x2 x3) ag (LC_9_okL9 hl x0 x1 x2 x3) (LG_9 h.1 h.2.2 x0 x1 x2 x3)
theorem LC_10_T {E : xV} {σ : zS} (h : J0T σ) : LC_10 E σ J0T := by
  obtain ⟨τ, ag, hl⟩ := h.2.1
  exact fun x0 x1 x2 x3 => lt_i (LC_10_ok h.1 x0 x1 x2 x3) ag (LC_10_okL9 hl x0 x1 x2 x3) (LG_10 h.1 h.2.2 x0 x1 x2 x3)
theorem LC_11_T {E : xV} {σ : zS} (h : J0T σ) : LC_11 E σ J0T := by
  obtain ⟨τ, ag, hl⟩ := h.2.1
  exact fun x0 x1 x2 x3 => lt_l (LC_11_ok h.1 x0 x1 x2 x3) ag (LC_11_okL9 hl x0 x1 x2 x3) (LG_11 h.1 h.2.2 x0 x1 x2 x3)
theorem LC_12_T {E : xV} {σ : zS} (h : J0T σ) : LC_12 E σ J0T := by
  obtain ⟨τ, ag, hl⟩ := h.2.1
  exact fun x0 x1 x2 x3 x4 x5 x6 => lt_i (LC_12_ok h.1 x0 x1 x2 x3 x4 x5 x6) ag (LC_12_okL9 hl x0 x1 x2 x3 x4 x5 x6) (LG_12 h.1 h.2.2 x0 x1 x2 x3 x4 x5 x6)
theorem LC_13_T {E : xV} {σ : zS} (h : J0T σ) : LC_13 E σ J0T := by
  obtain ⟨τ, ag, hl⟩ := h.2.1
  exact fun x0 x1 => lt_i (LC_13_ok h.1 x0 x1) ag (LC_13_okL9 hl x0 x1) (LG_13 h.1 h.2.2 x0 x1)
theorem LC_14_T {E : xV} {σ : zS} (h : J0T σ) : LC_14 E σ J0T := by
  obtain ⟨τ, ag, hl⟩ := h.2.1
  exact fun x0 x1 => lt_i (LC_14_ok h.1 x0 x1) ag (LC_14_okL9 hl x0 x1) (LG_14 h.1 h.2.2 x0 x1)
theorem LC_15_T {E : xV} {σ : zS} (h : J0T σ) : LC_15 E σ J0T := by
  obtain ⟨τ, ag, hl⟩ := h.2.1
  exact fun x0 x1 hb => lt_i (LC_15_ok h.1 x0 x1 hb) ag (LC_15_okL9 hl x0 x1 hb) (LG_15 h.1 h.2.2 x0 x1 hb)
theorem LC_16_T {E : xV} {σ : zS} (h : J0T σ) : LC_16 E σ J0T := by
  obtain ⟨τ, ag, hl⟩ := h.2.1
  exact fun x0 => lt_i (LC_16_ok h.1 x0) ag (LC_16_okL9 hl x0) (LG_16 h.1 h.2.2 x0)
theorem LC_17_T {E : xV} {σ : zS} (h : J0T σ) : LC_17 E σ J0T := by
  obtain ⟨τ, ag, hl⟩ := h.2.1
  exact fun x0 x1 => lt_i (LC_17_ok h.1 x0 x1) ag (LC_17_okL9 hl x0 x1) (LG_17 h.1 h.2.2 x0 x1)
theorem LC_18_T {E : xV} {σ : zS} (h : J0T σ) : LC_18 E σ J0T := by
  obtain ⟨τ, ag, hl⟩ := h.2.1
  exact fun x0 x1 => lt_i (LC_18_ok h.1 x0 x1) ag (LC_18_okL9 hl x0 x1) (LG_18 h.1 h.2.2 x0 x1)
theorem LC_19_T {E : xV} {σ : zS} (h : J0T σ) : LC_19 E σ J0T := by
  obtain ⟨τ, ag, hl⟩ := h.2.1
  exact fun x0 x1 x2 hb => lt_i (LC_19_ok h.1 x0 x1 x2 hb) ag (LC_19_okL9 hl x0 x1 x2 hb) (LG_19 h.1 h.2.2 x0 x1 x2 hb)
theorem LC_20_T {E : xV} {σ : zS} (h : J0T σ) : LC_20 E σ J0T := by
  obtain ⟨τ, ag, hl⟩ := h.2.1
  exact fun x0 x1 => lt_i (LC_20_ok h.1 x0 x1) ag (LC_20_okL9 hl x0 x1) (LG_20 h.1 h.2.2 x0 x1)
theorem LC_21_T {E : xV} {σ : zS} (h : J0T σ) : LC_21 E σ J0T := by
  obtain ⟨τ, ag, hl⟩ := h.2.1
  exact fun x0 => lt_i (LC_21_ok h.1 x0) ag (LC_21_okL9 hl x0) (LG_21 h.1 h.2.2 x0)
theorem LC_22_T {E : xV} {σ : zS} (h : J0T σ) : LC_22 E σ J0T := by
  obtain ⟨τ, ag, hl⟩ := h.2.1
  exact fun x0 => lt_i (LC_22_ok h.1 x0) ag (LC_22_okL9 hl x0) (LG_22 h.1 h.2.2 x0)
theorem LC_23_T {E : xV} {σ : zS} (h : J0T σ) : LC_23 E σ J0T := by
  obtain ⟨τ, ag, hl⟩ := h.2.1
  exact fun x0 => lt_i (LC_23_ok h.1 x0) ag (LC_23_okL9 hl x0) (LG_23 h.1 h.2.2 x0)
theorem LC_24_T {E : xV} {σ : zS} (h : J0T σ) : LC_24 E σ J0T := by
  obtain ⟨τ, ag, hl⟩ := h.2.1
  exact fun x0 x1 x2 => lt_i (LC_24_ok h.1 x0 x1 x2) ag (LC_24_okL9 hl x0 x1 x2) (LG_24 h.1 h.2.2 x0 x1 x2)
theorem LC_25_T {E : xV} {σ : zS} (h : J0T σ) : LC_25 E σ J0T := by
  obtain ⟨τ, ag, hl⟩ := h.2.1
  exact fun x0 x1 x2 x3 x4 => lt_i (LC_25_ok h.1 x0 x1 x2 x3 x4) ag (LC_25_okL9 hl x0 x1 x2 x3 x4) (LG_25 h.1 h.2.2 x0 x1 x2 x3 x4)
theorem LC_26_T {E : xV} {σ : zS} (h : J0T σ) : LC_26 E σ J0T := by
  obtain ⟨τ, ag, hl⟩ := h.2.1
  exact fun x0 => lt_i (LC_26_ok h.1 x0) ag (LC_26_okL9 hl x0) (LG_26 h.1 h.2.2 x0)
theorem LC_27_T {E : xV} {σ : zS} (h : J0T σ) : LC_27 E σ J0T := by
  obtain ⟨τ, ag, hl⟩ := h.2.1
  exact fun x0 x1 x2 x3 => lt_i (LC_27_ok h.1 x0 x1 x2 x3) ag (LC_27_okL9 hl x0 x1 x2 x3) (LG_27 h.1 h.2.2 x0 x1 x2 x3)
theorem LC_28_T {E : xV} {σ : zS} (h : J0T σ) : LC_28 E σ J0T := by
  obtain ⟨τ, ag, hl⟩ := h.2.1
  exact fun x0 x1 x2 x3 => lt_i (LC_28_ok h.1 x0 x1 x2 x3) ag (LC_28_okL9 hl x0 x1 x2 x3) (LG_28 h.1 h.2.2 x0 x1 x2 x3)
theorem LC_29_T {E : xV} {σ : zS} (h : J0T σ) : LC_29 E σ J0T := by
  obtain ⟨τ, ag, hl⟩ := h.2.1
  exact fun x0 x1 => lt_i (LC_29_ok h.1 x0 x1) ag (LC_29_okL9 hl x0 x1) (LG_29 h.1 h.2.2 x0 x1)
theorem LC_30_T {E : xV} {σ : zS} (h : J0T σ) : LC_30 E σ J0T := by
  obtain ⟨τ, ag, hl⟩ := h.2.1
  exact fun x0 => lt_i (LC_30_ok h.1 x0) ag (LC_30_okL9 hl x0) (LG_30 h.1 h.2.2 x0)
theorem LC_31_T {E : xV} {σ : zS} (h : J0T σ) : LC_31 E σ J0T := by
  obtain ⟨τ, ag, hl⟩ := h.2.1
  exact fun x0 x1 => lt_i (LC_31_ok h.1 x0 x1) ag (LC_31_okL9 hl x0 x1) (LG_31 h.1 h.2.2 x0 x1)
theorem LC_32_T {E : xV} {σ : zS} (h : J0T σ) : LC_32 E σ J0T := by
  obtain ⟨τ, ag, hl⟩ := h.2.1
  exact fun x0 x1 x2 => lt_i (LC_32_ok h.1 x0 x1 x2) ag (LC_32_okL9 hl x0 x1 x2) (LG_32 h.1 h.2.2 x0 x1 x2)
theorem LC_33_T {E : xV} {σ : zS} (h : J0T σ) : LC_33 E σ J0T := by
  obtain ⟨τ, ag, hl⟩ := h.2.1
  exact fun x0 x1 x2 x3 => lt_give (LC_33_c h.1 x0 x1 x2 x3) ag (LC_33_okL9 hl x0 x1 x2 x3) (lg_give h.1 h.2.2 x0 x1 x2 x3)
theorem LC_34_T {E : xV} {σ : zS} (h : J0T σ) : LC_34 E σ J0T := by
  obtain ⟨τ, ag, hl⟩ := h.2.1
  exact fun x0 x1 x2 => lt_i (LC_34_ok h.1 x0 x1 x2) ag (LC_34_okL9 hl x0 x1 x2) (LG_34 h.1 h.2.2 x0 x1 x2)
theorem LC_35_T {E : xV} {σ : zS} (h : J0T σ) : LC_35 E σ J0T := by
  obtain ⟨τ, ag, hl⟩ := h.2.1
  exact lt_i (LC_35_ok h.1) ag (LC_35_okL9 hl) (LG_35 h.1 h.2.2)
theorem LC_36_T {E : xV} {σ : zS} (h : J0T σ) : LC_36 E σ J0T := by
  obtain ⟨τ, ag, hl⟩ := h.2.1
  exact fun x0 => lt_i (LC_36_ok h.1 x0) ag (LC_36_okL9 hl x0) (LG_36 h.1 h.2.2 x0)
theorem LC_37_T {E : xV} {σ : zS} (h : J0T σ) : LC_37 E σ J0T := by
  obtain ⟨τ, ag, hl⟩ := h.2.1
  exact fun x0 => lt_i (LC_37_ok h.1 x0) ag (LC_37_okL9 hl x0) (LG_37 h.1 h.2.2 x0)
theorem LC_38_T {E : xV} {σ : zS} (h : J0T σ) : LC_38 E σ J0T := by
  obtain ⟨τ, ag, hl⟩ := h.2.1
  exact fun x0 x1 => lt_i (LC_38_ok h.1 x0 x1) ag (LC_38_okL9 hl x0 x1) (LG_38 h.1 h.2.2 x0 x1)
theorem LC_39_T {E : xV} {σ : zS} (h : J0T σ) : LC_39 E σ J0T := by
  obtain ⟨τ, ag, hl⟩ := h.2.1
  exact fun x0 x1 => lt_i (LC_39_ok h.1 x0 x1) ag (LC_39_okL9 hl x0 x1) (LG_39 h.1 h.2.2 x0 x1)
theorem LC_40_T {E : xV} {σ : zS} (h : J0T σ) : LC_40 E σ J0T := by
  obtain ⟨τ, ag, hl⟩ := h.2.1
  exact fun x0 x1 x2 => lt_i (LC_40_ok h.1 x0 x1 x2) ag (LC_40_okL9 hl x0 x1 x2) (LG_40 h.1 h.2.2 x0 x1 x2)
theorem LC_41_T {E : xV} {σ : zS} (h : J0T σ) : LC_41 E σ J0T := by
  obtain ⟨τ, ag, hl⟩ := h.2.1
  exact lt_i (LC_41_ok h.1) ag (LC_41_okL9 hl) (LG_41 h.1 h.2.2)
theorem LC_42_T {E : xV} {σ : zS} (h : J0T σ) : LC_42 E σ J0T := by
  obtain ⟨τ, ag, hl⟩ := h.2.1
  exact fun x0 x1 => lt_i (LC_42_ok h.1 x0 x1) ag (LC_42_okL9 hl x0 x1) (LG_42 h.1 h.2.2 x0 x1)
theorem LC_43_T {E : xV} {σ : zS} (h : J0T σ) : LC_43 E σ J0T := by
  obtain ⟨τ, ag, hl⟩ := h.2.1
  exact fun x0 x1 x2 x3 => lt_i (LC_43_ok h.1 x0 x1 x2 x3) ag (LC_43_okL9 hl x0 x1 x2 x3) (LG_43 h.1 h.2.2 x0 x1 x2 x3)
theorem LC_44_T {E : xV} {σ : zS} (h : J0T σ) : LC_44 E σ J0T := by
  obtain ⟨τ, ag, hl⟩ := h.2.1
  exact fun x0 x1 => lt_i (LC_44_ok h.1 x0 x1) ag (LC_44_okL9 hl x0 x1) (LG_44 h.1 h.2.2 x0 x1)
theorem LC_45_T {E : xV} {σ : zS} (h : J0T σ) : LC_45 E σ J0T := by
  obtain ⟨τ, ag, hl⟩ := h.2.1
  exact fun x0 x1 => lt_i (LC_45_ok h.1 x0 x1) ag (LC_45_okL9 hl x0 x1) (LG_45 h.1 h.2.2 x0 x1)
theorem LC_46_T {E : xV} {σ : zS} (h : J0T σ) : LC_46 E σ J0T := by
  obtain ⟨τ, ag, hl⟩ := h.2.1
  exact fun x0 x1 x2 x3 => lt_i (LC_46_ok h.1 x0 x1 x2 x3) ag (LC_46_okL9 hl x0 x1 x2 x3) (LG_46 h.1 h.2.2 x0 x1 x2 x3)
theorem LC_47_T {E : xV} {σ : zS} (h : J0T σ) : LC_47 E σ J0T := by
  obtain ⟨τ, ag, hl⟩ := h.2.1
  exact fun x0 x1 x2 x3 => lt_i (LC_47_ok h.1 x0 x1 x2 x3) ag (LC_47_okL9 hl x0 x1 x2 x3) (LG_47 h.1 h.2.2 x0 x1 x2 x3)
theorem LC_48_T {E : xV} {σ : zS} (h : J0T σ) : LC_48 E σ J0T := by
  obtain ⟨τ, ag, hl⟩ := h.2.1
  exact fun x0 x1 x2 => lt_i (LC_48_ok h.1 x0 x1 x2) ag (LC_48_okL9 hl x0 x1 x2) (LG_48 h.1 h.2.2 x0 x1 x2)
theorem LC_49_T {E : xV} {σ : zS} (h : J0T σ) : LC_49 E σ J0T := by
  obtain ⟨τ, ag, hl⟩ := h.2.1
  exact lt_i (LC_49_ok h.1) ag (LC_49_okL9 hl) (LG_49 h.1 h.2.2)
theorem LC_50_T {E : xV} {σ : zS} (h : J0T σ) : LC_50 E σ J0T := by
  obtain ⟨τ, ag, hl⟩ := h.2.1
  exact fun x0 x1 x2 x3 x4 x5 x6 => lt_lend (LC_50_ok h.1 x0 x1 x2 x3 x4 x5 x6) ag (LC_50_okL9 hl x0 x1 x2 x3 x4 x5 x6) (lg_lend h.1 h.2.2 x0 x1 x2 x3 x4 x5 x6)
theorem LC_51_T {E : xV} {σ : zS} (h : J0T σ) : LC_51 E σ J0T := by
  obtain ⟨τ, ag, hl⟩ := h.2.1
  exact fun x0 x1 => lt_i (LC_51_ok h.1 x0 x1) ag (LC_51_okL9 hl x0 x1) (LG_51 h.1 h.2.2 x0 x1)
theorem LC_52_T {E : xV} {σ : zS} (h : J0T σ) : LC_52 E σ J0T := by
  obtain ⟨τ, ag, hl⟩ := h.2.1
  exact fun x0 x1 x2 x3 => lt_i (LC_52_ok h.1 x0 x1 x2 x3) ag (LC_52_okL9 hl x0 x1 x2 x3) (LG_52 h.1 h.2.2 x0 x1 x2 x3)
theorem LC_53_T {E : xV} {σ : zS} (h : J0T σ) : LC_53 E σ J0T := by
  obtain ⟨τ, ag, hl⟩ := h.2.1
  exact fun x0 => lt_i (LC_53_ok h.1 x0) ag (LC_53_okL9 hl x0) (LG_53 h.1 h.2.2 x0)
theorem LC_54_T {E : xV} {σ : zS} (h : J0T σ) : LC_54 E σ J0T := by
  obtain ⟨τ, ag, hl⟩ := h.2.1
  exact fun x0 x1 x2 => lt_i (LC_54_ok h.1 x0 x1 x2) ag (LC_54_okL9 hl x0 x1 x2) (LG_54 h.1 h.2.2 x0 x1 x2)
theorem LC_55_T {E : xV} {σ : zS} (h : J0T σ) : LC_55 E σ J0T := by
  obtain ⟨τ, ag, hl⟩ := h.2.1
  exact fun x0 x1 => lt_i (LC_55_ok h.1 x0 x1) ag (LC_55_okL9 hl x0 x1) (LG_55 h.1 h.2.2 x0 x1)
theorem LC_56_T {E : xV} {σ : zS} (h : J0T σ) : LC_56 E σ J0T := by
  obtain ⟨τ, ag, hl⟩ := h.2.1
  exact fun x0 x1 x2 => lt_i (LC_56_ok h.1 x0 x1 x2) ag (LC_56_okL9 hl x0 x1 x2) (LG_56 h.1 h.2.2 x0 x1 x2)
theorem LC_57_T {E : xV} {σ : zS} (h : J0T σ) : LC_57 E σ J0T := by
  obtain ⟨τ, ag, hl⟩ := h.2.1
  exact fun x0 x1 x2 => lt_i (LC_57_ok h.1 x0 x1 x2) ag (LC_57_okL9 hl x0 x1 x2) (LG_57 h.1 h.2.2 x0 x1 x2)
theorem LC_58_T {E : xV} {σ : zS} (h : J0T σ) : LC_58 E σ J0T := by
  obtain ⟨τ, ag, hl⟩ := h.2.1
  exact fun x0 x1 => lt_i (LC_58_ok h.1 x0 x1) ag (LC_58_okL9 hl x0 x1) (LG_58 h.1 h.2.2 x0 x1)
theorem LC_59_T {E : xV} {σ : zS} (h : J0T σ) : LC_59 E σ J0T := by
  obtain ⟨τ, ag, hl⟩ := h.2.1
  exact fun x0 x1 => lt_i (LC_59_ok h.1 x0 x1) ag (LC_59_okL9 hl x0 x1) (LG_59 h.1 h.2.2 x0 x1)
theorem LC_60_T {E : xV} {σ : zS} (h : J0T σ) : LC_60 E σ J0T := by
  obtain ⟨τ, ag, hl⟩ := h.2.1
  exact fun x0 x1 x2 x3 => lt_i (LC_60_ok h.1 x0 x1 x2 x3) ag (LC_60_okL9 hl x0 x1 x2 x3) (LG_60 h.1 h.2.2 x0 x1 x2 x3)
theorem LC_61_T {E : xV} {σ : zS} (h : J0T σ) : LC_61 E σ J0T := by
  obtain ⟨τ, ag, hl⟩ := h.2.1
  exact lt_i (LC_61_ok h.1) ag (LC_61_okL9 hl) (LG_61 h.1 h.2.2)
theorem LC_62_T {E : xV} {σ : zS} (h : J0T σ) : LC_62 E σ J0T := by
  obtain ⟨τ, ag, hl⟩ := h.2.1
  exact lt_i (LC_62_ok h.1) ag (LC_62_okL9 hl) (LG_62 h.1 h.2.2)
theorem LC_63_T {E : xV} {σ : zS} (h : J0T σ) : LC_63 E σ J0T := by
  obtain ⟨τ, ag, hl⟩ := h.2.1
  exact lt_i (LC_63_ok h.1) ag (LC_63_okL9 hl) (LG_63 h.1 h.2.2)
theorem LC_64_T {E : xV} {σ : zS} (h : J0T σ) : LC_64 E σ J0T := by
  obtain ⟨τ, ag, hl⟩ := h.2.1
  exact fun x0 x1 => lt_i (LC_64_ok h.1 x0 x1) ag (LC_64_okL9 hl x0 x1) (LG_64 h.1 h.2.2 x0 x1)
theorem LC_65_T {E : xV} {σ : zS} (h : J0T σ) : LC_65 E σ J0T := by
  obtain ⟨τ, ag, hl⟩ := h.2.1
  exact fun x0 => lt_i (LC_65_ok h.1 x0) ag (LC_65_okL9 hl x0) (LG_65 h.1 h.2.2 x0)
theorem LC_66_T {E : xV} {σ : zS} (h : J0T σ) : LC_66 E σ J0T := by
  obtain ⟨τ, ag, hl⟩ := h.2.1
  exact fun x0 x1 => lt_i (LC_66_ok h.1 x0 x1) ag (LC_66_okL9 hl x0 x1) (LG_66 h.1 h.2.2 x0 x1)
theorem LC_67_T {E : xV} {σ : zS} (h : J0T σ) : LC_67 E σ J0T := by
  obtain ⟨τ, ag, hl⟩ := h.2.1
  exact fun x0 => lt_i (LC_67_ok h.1 x0) ag (LC_67_okL9 hl x0) (LG_67 h.1 h.2.2 x0)
theorem LC_68_T {E : xV} {σ : zS} (h : J0T σ) : LC_68 E σ J0T := by
  obtain ⟨τ, ag, hl⟩ := h.2.1
  exact fun x0 x1 => lt_l (LC_68_ok h.1 x0 x1) ag (LC_68_okL9 hl x0 x1) (LG_68 h.1 h.2.2 x0 x1)
theorem LC_69_T {E : xV} {σ : zS} (h : J0T σ) : LC_69 E σ J0T := by
  obtain ⟨τ, ag, hl⟩ := h.2.1
  exact fun x0 x1 => lt_l (LC_69_ok h.1 x0 x1) ag (LC_69_okL9 hl x0 x1) (LG_69 h.1 h.2.2 x0 x1)
theorem LC_70_T {E : xV} {σ : zS} (h : J0T σ) : LC_70 E σ J0T := by
  obtain ⟨τ, ag, hl⟩ := h.2.1
  exact fun x0 x1 => lt_i (LC_70_ok h.1 x0 x1) ag (LC_70_okL9 hl x0 x1) (LG_70 h.1 h.2.2 x0 x1)
theorem LC_71_T {E : xV} {σ : zS} (h : J0T σ) : LC_71 E σ J0T := by
  obtain ⟨τ, ag, hl⟩ := h.2.1
  exact fun x0 x1 => lt_i (LC_71_ok h.1 x0 x1) ag (LC_71_okL9 hl x0 x1) (LG_71 h.1 h.2.2 x0 x1)
theorem LC_72_T {E : xV} {σ : zS} (h : J0T σ) : LC_72 E σ J0T := by
  obtain ⟨τ, ag, hl⟩ := h.2.1
  exact fun x0 => lt_i (LC_72_ok h.1 x0) ag (LC_72_okL9 hl x0) (LG_72 h.1 h.2.2 x0)
theorem LC_73_T {E : xV} {σ : zS} (h : J0T σ) : LC_73 E σ J0T := by
  obtain ⟨τ, ag, hl⟩ := h.2.1
  exact fun x0 => lt_i (LC_73_ok h.1 x0) ag (LC_73_okL9 hl x0) (LG_73 h.1 h.2.2 x0)
theorem LC_74_T {E : xV} {σ : zS} (h : J0T σ) : LC_74 E σ J0T := by
  obtain ⟨τ, ag, hl⟩ := h.2.1
  exact fun x0 x1 x2 x3 => lt_i (LC_74_ok h.1 x0 x1 x2 x3) ag (LC_74_okL9 hl x0 x1 x2 x3) (LG_74 h.1 h.2.2 x0 x1 x2 x3)
theorem LC_75_T {E : xV} {σ : zS} (h : J0T σ) : LC_75 E σ J0T := by
  obtain ⟨τ, ag, hl⟩ := h.2.1
  exact fun x0 x1 => lt_i (LC_75_ok h.1 x0 x1) ag (LC_75_okL9 hl x0 x1) (LG_75 h.1 h.2.2 x0 x1)
theorem LC_76_T {E : xV} {σ : zS} (h : J0T σ) : LC_76 E σ J0T := by
  obtain ⟨τ, ag, hl⟩ := h.2.1
  exact fun x0 => lt_i (LC_76_ok h.1 x0) ag (LC_76_okL9 hl x0) (LG_76 h.1 h.2.2 x0)
theorem LC_77_T {E : xV} {σ : zS} (h : J0T σ) : LC_77 E σ J0T := by
  obtain ⟨τ, ag, hl⟩ := h.2.1
  exact fun x0 x1 => lt_i (LC_77_ok h.1 x0 x1) ag (LC_77_okL9 hl x0 x1) (LG_77 h.1 h.2.2 x0 x1)
theorem LC_78_T {E : xV} {σ : zS} (h : J0T σ) : LC_78 E σ J0T := by
  obtain ⟨τ, ag, hl⟩ := h.2.1
  exact lt_i (LC_78_ok h.1) ag (LC_78_okL9 hl) (LG_78 h.1 h.2.2)
theorem LC_79_T {E : xV} {σ : zS} (h : J0T σ) : LC_79 E σ J0T := by
  obtain ⟨τ, ag, hl⟩ := h.2.1
  exact fun x0 x1 => lt_c (LC_79_ok h.1 h.2.2 x0 x1) ag (LC_79_okL9 hl x0 x1) (LG_79 h.1 h.2.2 x0 x1)
theorem LC_80_T {E : xV} {σ : zS} (h : J0T σ) : LC_80 E σ J0T := by
  obtain ⟨τ, ag, hl⟩ := h.2.1
  exact fun x0 x1 x2 => lt_i (LC_80_ok h.1 x0 x1 x2) ag (LC_80_okL9 hl x0 x1 x2) (LG_80 h.1 h.2.2 x0 x1 x2)
theorem LC_81_T {E : xV} {σ : zS} (h : J0T σ) : LC_81 E σ J0T := by
  obtain ⟨τ, ag, hl⟩ := h.2.1
  exact lt_i (LC_81_ok h.1) ag (LC_81_okL9 hl) (LG_81 h.1 h.2.2)
theorem LC_82_T {E : xV} {σ : zS} (h : J0T σ) : LC_82 E σ J0T := by
  obtain ⟨τ, ag, hl⟩ := h.2.1
  exact fun x0 x1 => lt_i (LC_82_ok h.1 x0 x1) ag (LC_82_okL9 hl x0 x1) (LG_82 h.1 h.2.2 x0 x1)
theorem LC_83_T {E : xV} {σ : zS} (h : J0T σ) : LC_83 E σ J0T := by
  obtain ⟨τ, ag, hl⟩ := h.2.1
  exact fun x0 x1 x2 x3 => lt_i (LC_83_ok h.1 x0 x1 x2 x3) ag (LC_83_okL9 hl x0 x1 x2 x3) (LG_83 h.1 h.2.2 x0 x1 x2 x3)
end
