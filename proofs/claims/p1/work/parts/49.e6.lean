/-! ===== ENGINE 11: contracts out of checks ===== -/
def finC (c : Ct) (s : Sy) (a : Option AV) : Bool := match c.rk, a with
  | 0, none => true
  | 1, some a => a.isI && dsub (dom s a) c.rd
  | 2, some a => a.isL && dsub (dom s a) c.rd
  | _, _ => false
def entOk (G : Gx) (r : Nat) (args : List AV) : Bool := match G.room.get r with
  | some (_, (_, (nl, _))) => Nat.ble (cats args) nl
  | none => false
def chkRoot (G : Gx) (n : Nat) (r : Nat) (c : Ct) : Bool :=
  (entOk G r c.ar && goW c ([], c.big) (walk G r c ([], c.big) (finC c) n) ⟨c.n, c.env, c.me, []⟩ r 0 (argLv 0 c.ar) [] []) && c.cut.all fun pc a => (a.mu.1.all fun t => Nat.blt t.1 a.n) && walk G r c a.mu (finC c) n a.sy ⟨r, pc, a.lv, a.st⟩ []
theorem tev_pre {ρ0 ρ : List Int} (h : Pre ρ0 ρ) {n : Nat} (hn : ρ0.length = n) : ∀ {T : List (Nat × Int)}, (T.all fun t => Nat.blt t.1 n) = true → tev ρ T = tev ρ0 T
  | [], _ => rfl
  | t :: r, q => by
    simp only [List.all_cons, Bool.and_eq_true] at q
    have h1 : t.1 < ρ0.length := by rw [hn]; exact Nat.le_of_ble_eq_true q.1
    have h2 : ρ0[t.1]? = some ρ0[t.1] := List.getElem?_eq_getElem h1
    have h3 := h.at h2
    simp only [tev, tev_pre h hn q.2]
    rw [List.getD_eq_getElem?_getD, List.getD_eq_getElem?_getD, h2, h3]
section E11
variable {E : xV} {Y : Nat → xY} {G : Gx} {J : zS → Prop} {r : Nat} {c : Ct}
theorem finC_ok {s : Sy} {ρ : List Int} {σ σ0 : zS} {a : Option AV} {rv : Option Value} (h : finC c s a = true) (ho : Ok J s ρ σ) (hf : Fr G.g c.W σ0 σ) (ha : Ra ρ a rv) : (J σ ∧ Fr G.g c.W σ0 σ) ∧ retOk c rv := by
  refine ⟨⟨ho.inv, hf⟩, ?_⟩
  unfold finC at h
  unfold retOk
  split at h
  · rename_i hk
    rw [hk]
    cases rv with
    | none => rfl
    | some _ => exact ha.elim
  · rename_i a hk
    rw [hk]
    rw [Bool.and_eq_true] at h
    cases rv with
    | none => exact ha.elim
    | some v =>
      obtain ⟨y, rfl, hy⟩ := Rv.int ha h.1
      exact ⟨y, rfl, dsub_in h.2 (dom_i ho h.1 hy)⟩
  · rename_i a hk
    rw [hk]
    rw [Bool.and_eq_true] at h
    cases rv with
    | none => exact ha.elim
    | some v =>
      obtain ⟨y, rfl, hy⟩ := Rv.long ha h.1
      exact ⟨y, rfl, dsub_in h.2 (dom_l ho h.1 hy)⟩
  · cases h
theorem entOk_ok (hG : GxOk Y G) {args : List AV} (h : entOk G r args = true) : plainName (Y r).1.cls = true ∧ cats args ≤ (Y r).2.2.1 := by
  unfold entOk at h
  split at h
  · rename_i q1 q2 nl q3 hr
    obtain ⟨t, q⟩ := q3
    obtain ⟨-, ⟨b5, b6⟩, -⟩ := hG.room _ _ _ _ _ _ hr
    exact ⟨b6, by rw [b5]; exact Nat.le_of_ble_eq_true h⟩
  · cases h
theorem chkRoot_ok (hG : GxOk Y G) (hJ : JOk G.g J) {n : Nat} (hct : ∀ z q, z < r → G.ct.get z = some q → CtOk E Y G J z q) (h : chkRoot G n r c = true) : CtOk E Y G J r c := by
  unfold chkRoot at h
  simp only [Bool.and_eq_true] at h
  obtain ⟨⟨h1, h2⟩, h3⟩ := h
  obtain ⟨e1, e2⟩ := entOk_ok hG h1
  intro ρ' σ av ho ha
  have hcut : ∀ (N : Nat) (pc : Nat) (a : An), c.cut.get pc = some a → ∀ (ρ' : List Int) (σ' : zS) (l : List (Nat × Value)) (v : List Value), Ok J a.sy ρ' σ' → Rl ρ' a.lv l → Rs ρ' a.st v → Fr G.g c.W σ σ' → 0 ≤ tev ρ' a.mu.1 + a.mu.2 → tev ρ' a.mu.1 + a.mu.2 < N → Wz E (Y r) pc l v σ' (fun r σ' => (J σ' ∧ Fr G.g c.W σ σ') ∧ retOk c r) := by
    intro N
    induction N with
    | zero => intro pc a _ ρ' σ' l v _ _ _ _ q1 q2; omega
    | succ N ih =>
      intro pc a hc ρ' σ' l v k1 k2 k3 k4 k5 k6
      have ha := (BT.all_P h3).at hc
      simp only [Bool.and_eq_true] at ha
      have H : Hy E Y G J r c a.mu (finC c) ρ' σ (fun r σ' => (J σ' ∧ Fr G.g c.W σ σ') ∧ retOk c r) (tev ρ' a.mu.1 + a.mu.2) :=
        ⟨hct, fun pc2 a2 hc2 ρ2 σ2 l2 v2 m1 m2 m3 m4 m5 m6 => ih pc2 a2 hc2 ρ2 σ2 l2 v2 m1 m2 m3 m4 m5 (by omega), fun ρ hp => by rw [tev_pre hp k1.len ha.1], fun s ρ σ a rv q1 q2 q3 q4 q5 => finC_ok q1 q3 q4 q5⟩
      exact walk_ok hG hJ H n a.sy ⟨r, pc, a.lv, a.st⟩ [] ρ' σ' l v [] ha.2 rfl Pre.rf k1 k4 k2 k3 trivial
  refine z_entry e1 (fun a => by rw [sl_len, cats_ok ha]; exact e2) rfl ?_
  have H : Hy E Y G J r c ([], c.big) (finC c) ρ' σ (fun r σ' => (J σ' ∧ Fr G.g c.W σ σ') ∧ retOk c r) c.big :=
    ⟨hct, fun pc2 a2 hc2 ρ2 σ2 l2 v2 m1 m2 m3 m4 m5 m6 => hcut c.big.toNat pc2 a2 hc2 ρ2 σ2 l2 v2 m1 m2 m3 m4 m5 (by omega), fun ρ hp => by simp [tev], fun s ρ σ a rv q1 q2 q3 q4 q5 => finC_ok q1 q3 q4 q5⟩
  exact goW_ok H (walk_ok hG hJ H n) h2 rfl Pre.rf ho Fr.rf (argLv_ok ha) trivial (cs := []) trivial
theorem all_ok (hG : GxOk Y G) (hJ : JOk G.g J) {n : Nat} (h : ∀ r c, G.ct.get r = some c → chkRoot G n r c = true) : ∀ r c, G.ct.get r = some c → CtOk E Y G J r c := by
  intro r
  induction r using Nat.strongRecOn with
  | ind r ih => exact fun c hc => chkRoot_ok hG hJ (fun z q hz hq => ih z hz q hq) (h r c hc)
/-- the bounds of G, as they stand -/
def Jd (G : Gl) (σ : zS) : Prop := (∀ k j d, j < 1024 → G.fi.get (k * 1024 + j) = some d → G.ka.get k = none → inD (σ.1 k j).toInt d) ∧ (∀ k kd z j d, G.ka.get k = some (kd, z) → G.ai.get k = some d → j < z → inD (σ.1 k j).toInt d)
theorem Jd_ok {G : Gl} : JOk G (Jd G) := by
  refine ⟨fun σ k j d h0 h1 h2 h3 => h1.1 k j d h0 h2 h3, ?_, fun σ k kd z j d h1 h2 h3 h4 => h1.2 k kd z j d h2 h3 h4, ?_, fun σ k j x h => h, ?_⟩
  · intro σ k j d x h0 h1 h2 h3 h4
    refine ⟨fun k' j' d' q0 q1 q2 => ?_, fun k' kd z j' d' q1 q2 q3 => ?_⟩
    · by_cases e : k' = k ∧ j' = j
      · obtain ⟨rfl, rfl⟩ := e
        rw [zI_at]
        rw [h2] at q1
        cases q1
        exact h4
      · rw [zI_ne e]
        exact h1.1 k' j' d' q0 q1 q2
    · rw [zI_ne (fun e => by rw [e.1, h3] at q1; cases q1)]
      exact h1.2 k' kd z j' d' q1 q2 q3
  · intro σ k kd z j d x h1 h2 h3 h4 h5
    refine ⟨fun k' j' d' q0 q1 q2 => ?_, fun k' kd' z' j' d' q1 q2 q3 => ?_⟩
    · rw [zI_ne (fun e => by rw [e.1, h2] at q2; cases q2)]
      exact h1.1 k' j' d' q0 q1 q2
    · by_cases e : k' = k ∧ j' = j
      · obtain ⟨rfl, rfl⟩ := e
        rw [zI_at]
        rw [h3] at q2
        cases q2
        exact h5
      · rw [zI_ne e]
        exact h1.2 k' kd' z' j' d' q1 q2 q3
  · intro σ k kd z d f h1 h2 h3 h4
    refine ⟨fun k' j' d' q0 q1 q2 => ?_, fun k' kd' z' j' d' q1 q2 q3 => ?_⟩
    · rw [zIr_ne (fun e => by rw [e, h2] at q2; cases q2)]
      exact h1.1 k' j' d' q0 q1 q2
    · by_cases e : k' = k
      · subst e
        rw [h2] at q1
        cases q1
        rw [h3] at q2
        cases q2
        have : (zIr σ k' f).1 k' j' = f j' := by simp [zIr, xup]
        rw [this]
        exact h4 j' q3
      · rw [zIr_ne e]
        exact h1.2 k' kd' z' j' d' q1 q2 q3
/-- two methods, one behind the other, at the same arguments: their answers are the same -/
def same (s : Sy) (a b : AV) : Bool := (a.isI && b.isI || a.isL && b.isL) && (AV.eq a b || (match dom s b with
  | [(n, m)] => ile m n && dsub (dom s a) [(n, n)]
  | _ => false))
theorem same_ok {s : Sy} {ρ : List Int} {σ : zS} {a b : AV} {u v : Value} (ho : Ok J s ρ σ) (h : same s a b = true) (ha : Rv ρ a u) (hb : Rv ρ b v) : u = v := by
  unfold same at h
  rw [Bool.and_eq_true, Bool.or_eq_true, Bool.or_eq_true, Bool.and_eq_true, Bool.and_eq_true] at h
  obtain ⟨h1, h2⟩ := h
  have hx : ∃ x y : Int, ev ρ a = some x ∧ ev ρ b = some y ∧ inD x (dom s a) ∧ inD y (dom s b) ∧ (x = y → u = v) := by
    rcases h1 with ⟨i, j⟩ | ⟨i, j⟩
    · obtain ⟨p, rfl, hp⟩ := ha.int i
      obtain ⟨q, rfl, hq⟩ := hb.int j
      exact ⟨_, _, hp, hq, dom_i ho i hp, dom_i ho j hq, fun e => by rw [Int32.toInt_inj.mp e]⟩
    · obtain ⟨p, rfl, hp⟩ := ha.long i
      obtain ⟨q, rfl, hq⟩ := hb.long j
      exact ⟨_, _, hp, hq, dom_l ho i hp, dom_l ho j hq, fun e => by rw [Int64.toInt_inj.mp e]⟩
  obtain ⟨x, y, e1, e2, d1, d2, hf⟩ := hx
  refine hf ?_
  rcases h2 with h2 | h2
  · have := AV.eq_of h2
    subst this
    rw [e1] at e2
    exact Option.some.inj e2
  · split at h2
    · rename_i n m hd
      rw [Bool.and_eq_true] at h2
      rw [hd] at d2
      have g1 := ile_iff.mp h2.1
      have g2 := inD_one d2
      have g3 := inD_one (dsub_in h2.2 d1)
      omega
    · cases h2
def fin2 (a : AV) (s : Sy) (b : Option AV) : Bool := match b with
  | some b => same s a b
  | none => false
def fin1 (G : Gx) (lg : Bool) (n z2 : Nat) (c2 : Ct) (args2 : List AV) (s : Sy) (a : Option AV) : Bool := match a with
  | some a => (bif lg then a.isL else a.isI) && entOk G z2 args2 && walk G z2 c2 ([], 0) (fin2 a) n s ⟨z2, 0, argLv 0 args2, []⟩ []
  | none => false
def chkPair (G : Gx) (lg : Bool) (n z1 z2 : Nat) (c1 c2 : Ct) (args1 args2 : List AV) (s : Sy) : Bool := entOk G z1 args1 && walk G z1 c1 ([], 0) (fin1 G lg n z2 c2 args2) n s ⟨z1, 0, argLv 0 args1, []⟩ []
theorem chkPair_ok (hG : GxOk Y G) (hJ : JOk G.g J) (hct : ∀ z q, G.ct.get z = some q → CtOk E Y G J z q) {lg : Bool} {n z1 z2 : Nat} {c1 c2 : Ct} {args1 args2 : List AV} {s : Sy} {ρ : List Int} {σ : zS} {av1 av2 : List Value} (n1 : c1.cut = []) (n2 : c2.cut = []) (h : chkPair G lg n z1 z2 c1 c2 args1 args2 s = true) (ho : Ok J s ρ σ) (h1 : Rs ρ args1 av1) (h2 : Rs ρ args2 av2) : Cz E (Y z1) av1 σ (fun v σ1 => ∃ u, v = some u ∧ ((lg = false → ∃ y : Int32, u = .int y) ∧ (lg = true → ∃ y : Int64, u = .long y)) ∧ Cz E (Y z2) av2 σ1 (fun v' σ2 => v' = some u ∧ J σ2)) := by
  unfold chkPair at h
  rw [Bool.and_eq_true] at h
  obtain ⟨e1, e2⟩ := entOk_ok hG h.1
  refine z_entry e1 (fun a => by rw [sl_len, cats_ok h1]; exact e2) rfl ?_
  have H : Hy E Y G J z1 c1 ([], 0) (fin1 G lg n z2 c2 args2) ρ σ (fun v σ1 => ∃ u, v = some u ∧ ((lg = false → ∃ y : Int32, u = .int y) ∧ (lg = true → ∃ y : Int64, u = .long y)) ∧ Cz E (Y z2) av2 σ1 (fun v' σ2 => v' = some u ∧ J σ2)) 0 := by
    refine ⟨fun z q _ hq => hct z q hq, fun pc a hc => (by rw [n1] at hc; cases hc), fun ρ hp => (by simp [tev]), ?_⟩
    intro s1 ρ1 σ1 a rv hf hp ho1 hfr ha
    unfold fin1 at hf
    split at hf
    · rename_i a
      rw [Bool.and_eq_true, Bool.and_eq_true] at hf
      cases rv with
      | none => exact ha.elim
      | some u =>
        obtain ⟨g1, g2⟩ := entOk_ok hG hf.1.2
        have hlg : (lg = false → ∃ y : Int32, u = .int y) ∧ (lg = true → ∃ y : Int64, u = .long y) := by
          refine ⟨fun e => ?_, fun e => ?_⟩
          · have q := hf.1.1
            rw [e] at q
            obtain ⟨y, hy, -⟩ := Rv.int ha q
            exact ⟨y, hy⟩
          · have q := hf.1.1
            rw [e] at q
            obtain ⟨y, hy, -⟩ := Rv.long ha q
            exact ⟨y, hy⟩
        refine ⟨u, rfl, hlg, z_entry g1 (fun a => by rw [sl_len, cats_ok h2]; exact g2) rfl ?_⟩
        have H2 : Hy E Y G J z2 c2 ([], 0) (fin2 a) ρ1 σ1 (fun v' σ2 => v' = some u ∧ J σ2) 0 := by
          refine ⟨fun z q _ hq => hct z q hq, fun pc a hc => (by rw [n2] at hc; cases hc), fun ρ hp => (by simp [tev]), ?_⟩
          intro s2 ρ2 σ2 b rv2 hf2 hp2 ho2 hfr2 hb
          unfold fin2 at hf2
          split at hf2
          · rename_i b
            cases rv2 with
            | none => exact hb.elim
            | some v => exact ⟨by rw [same_ok ho2 hf2 (Rv.mono hp2 ha) hb], ho2.inv⟩
          · cases hf2
        exact walk_ok hG hJ H2 n s1 ⟨z2, 0, argLv 0 args2, []⟩ [] ρ1 σ1 _ [] [] hf.2 rfl Pre.rf ho1 Fr.rf (argLv_ok (h2.mono hp)) trivial trivial
    · cases hf
  exact walk_ok hG hJ H n s ⟨z1, 0, argLv 0 args1, []⟩ [] ρ σ _ [] [] h.2 rfl Pre.rf ho Fr.rf (argLv_ok h1) trivial trivial
theorem pairI (hG : GxOk Y G) (hJ : JOk G.g J) (hct : ∀ z q, G.ct.get z = some q → CtOk E Y G J z q) {n z1 z2 : Nat} {c1 c2 : Ct} {args1 args2 : List AV} {s : Sy} {ρ : List Int} {σ : zS} {av1 av2 : List Value} (n1 : c1.cut = []) (n2 : c2.cut = []) (h : chkPair G false n z1 z2 c1 c2 args1 args2 s = true) (ho : Ok J s ρ σ) (h1 : Rs ρ args1 av1) (h2 : Rs ρ args2 av2) : Cz E (Y z1) av1 σ (fun v σ1 => ∃ u : Int32, v = some (.int u) ∧ Cz E (Y z2) av2 σ1 (fun v' σ2 => v' = some (.int u) ∧ True)) := by
  refine Cz.mono (chkPair_ok hG hJ hct n1 n2 h ho h1 h2) ?_
  rintro v σ1 ⟨u, rfl, ⟨q1, -⟩, q2⟩
  obtain ⟨y, rfl⟩ := q1 rfl
  exact ⟨y, rfl, Cz.mono q2 (fun v' σ2 q => ⟨q.1, trivial⟩)⟩
theorem pairJ (hG : GxOk Y G) (hJ : JOk G.g J) (hct : ∀ z q, G.ct.get z = some q → CtOk E Y G J z q) {n z1 z2 : Nat} {c1 c2 : Ct} {args1 args2 : List AV} {s : Sy} {ρ : List Int} {σ : zS} {av1 av2 : List Value} (n1 : c1.cut = []) (n2 : c2.cut = []) (h : chkPair G true n z1 z2 c1 c2 args1 args2 s = true) (ho : Ok J s ρ σ) (h1 : Rs ρ args1 av1) (h2 : Rs ρ args2 av2) : Cz E (Y z1) av1 σ (fun v σ1 => ∃ u : Int64, v = some (.long u) ∧ Cz E (Y z2) av2 σ1 (fun v' σ2 => v' = some (.long u) ∧ True)) := by
  refine Cz.mono (chkPair_ok hG hJ hct n1 n2 h ho h1 h2) ?_
  rintro v σ1 ⟨u, rfl, ⟨-, q1⟩, q2⟩
  obtain ⟨y, rfl⟩ := q1 rfl
  exact ⟨y, rfl, Cz.mono q2 (fun v' σ2 q => ⟨q.1, trivial⟩)⟩
end E11
