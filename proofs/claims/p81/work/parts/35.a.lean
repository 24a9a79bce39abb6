/-! ===== N40: what J says, for the judge ===== -/
section N40
variable {σ : zS}
theorem jn2 {x a b c d : Int} (h : inD x [(a, b), (c, d)]) : (a ≤ x ∧ x ≤ b) ∨ (c ≤ x ∧ x ≤ d) := by
  obtain ⟨p, hp, h1, h2⟩ := h
  rcases List.mem_cons.mp hp with rfl | hp
  · exact Or.inl ⟨h1, h2⟩
  rcases List.mem_cons.mp hp with rfl | hp
  · exact Or.inr ⟨h1, h2⟩
  cases hp
theorem jn3 {x a b c d e f : Int} (h : inD x [(a, b), (c, d), (e, f)]) : (a ≤ x ∧ x ≤ b) ∨ (c ≤ x ∧ x ≤ d) ∨ (e ≤ x ∧ x ≤ f) := by
  obtain ⟨p, hp, h1, h2⟩ := h
  rcases List.mem_cons.mp hp with rfl | hp
  · exact Or.inl ⟨h1, h2⟩
  rcases List.mem_cons.mp hp with rfl | hp
  · exact Or.inr (Or.inl ⟨h1, h2⟩)
  rcases List.mem_cons.mp hp with rfl | hp
  · exact Or.inr (Or.inr ⟨h1, h2⟩)
  cases hp
theorem rwb (h : JJ [] σ) {k kd n : Nat} {d : Dom} (hk : GG.ka.get k = some (kd, n)) (hc : TJ.co.get k = none) (ha : TJ.ai.get k = some d) {j : Nat} (hj : j < n) : inD (σ.1 k j).toInt d := by
  have := h.1 k j (Or.inr ⟨kd, n, hk, hj⟩)
  have e : TJ.bd GG k j = d := by
    unfold Jx.bd
    rw [hk, hc]
    show (TJ.ai.get k).getD T32 = d
    rw [ha]
    rfl
  rw [e] at this
  exact this
theorem clb (h : JJ [] σ) {k kd n m : Nat} {ds : List Dom} (hk : GG.ka.get k = some (kd, n)) (hc : TJ.co.get k = some (m, ds)) {j c : Nat} {d : Dom} (hj : j < n) (hm : j % m = c) (hd : ds[c]? = some d) : inD (σ.1 k j).toInt d := by
  have := h.1 k j (Or.inr ⟨kd, n, hk, hj⟩)
  have e : TJ.bd GG k j = d := by
    unfold Jx.bd
    rw [hk, hc]
    show (ds[j % m]?).getD T32 = d
    rw [hm, hd]
    rfl
  rw [e] at this
  exact this
theorem pe9 (h : JJ [] σ) (k1 b1 k2 b2 n : Nat) (hm : (PE9.any fun e => e.2 == (k1, (b1, (k2, (b2, n))))) = true) (i : Nat) (hi : i < n) : σ.1 k1 (b1 + i) = σ.1 k2 (b2 + i) := by
  obtain ⟨⟨t, e2⟩, he, q⟩ := List.any_eq_true.mp hm
  have q : e2 = (k1, (b1, (k2, (b2, n)))) := eq_of_beq q
  subst q
  exact ((show ∀ e ∈ PE9, eSp e [] σ from h.2.2 _ mce) _ he).1 rfl i hi
theorem p_per (h : JJ [] σ) : σ.1 5 0 = σ.1 110 6 := pe9 h 5 0 110 6 1 (by decide +kernel) 0 (by decide)
theorem p_grp (h : JJ [] σ) : σ.1 5 1 = σ.1 110 7 := pe9 h 5 1 110 7 1 (by decide +kernel) 0 (by decide)
theorem p_now (h : JJ [] σ) : σ.1 0 2 = σ.1 110 0 := pe9 h 0 2 110 0 1 (by decide +kernel) 0 (by decide)
theorem p_thi (h : JJ [] σ) : σ.1 10 0 = σ.1 110 20 := pe9 h 10 0 110 20 1 (by decide +kernel) 0 (by decide)
theorem p_cut (h : JJ [] σ) {x : Nat} (hx : x < 40) : σ.1 13 x = σ.1 127 x := by
  have := pe9 h 13 0 127 0 40 (by decide +kernel) x hx
  rw [Nat.zero_add] at this
  exact this
theorem p_gon (h : JJ [] σ) {x : Nat} (hx : x < 40) : σ.1 14 x = σ.1 128 x := by
  have := pe9 h 14 0 128 0 40 (by decide +kernel) x hx
  rw [Nat.zero_add] at this
  exact this
theorem p_pla (h : JJ [] σ) {x : Nat} (hx : x < 40) (h0 : x ≠ 0) : σ.1 11 x = σ.1 125 x := by
  have := pe9 h 11 1 125 1 39 (by decide +kernel) (x - 1) (by omega)
  rw [show 1 + (x - 1) = x by omega] at this
  exact this
theorem p_own (h : JJ [] σ) {x : Nat} (hx : x < 40) (h0 : x ≠ 0) : σ.1 12 x = σ.1 126 x := by
  have := pe9 h 12 1 126 1 39 (by decide +kernel) (x - 1) (by omega)
  rw [show 1 + (x - 1) = x by omega] at this
  exact this
theorem b_per (h : JJ [] σ) : 0 ≤ (σ.1 110 6).toInt ∧ (σ.1 110 6).toInt ≤ 20 := inD_one (fld_in h (k := 110) (j := 6) (d := [(0, 20)]) (by decide +kernel))
theorem b_grp (h : JJ [] σ) : 0 ≤ (σ.1 110 7).toInt ∧ (σ.1 110 7).toInt ≤ 16 := inD_one (fld_in h (k := 110) (j := 7) (d := [(0, 16)]) (by decide +kernel))
theorem b_now (h : JJ [] σ) : 0 ≤ (σ.1 110 0).toInt ∧ (σ.1 110 0).toInt ≤ 1000000000 := inD_one (fld_in h (k := 110) (j := 0) (d := [(0, 1000000000)]) (by decide +kernel))
theorem b_thi (h : JJ [] σ) : 1 ≤ (σ.1 110 20).toInt ∧ (σ.1 110 20).toInt ≤ 40 := inD_one (fld_in h (k := 110) (j := 20) (d := [(1, 40)]) (by decide +kernel))
theorem b_beg (h : JJ [] σ) : 0 ≤ (σ.1 110 26).toInt ∧ (σ.1 110 26).toInt ≤ 1 := inD_one (fld_in h (k := 110) (j := 26) (d := [(0, 1)]) (by decide +kernel))
theorem b_log (h : JJ [] σ) : 0 ≤ (σ.1 0 7).toInt ∧ (σ.1 0 7).toInt ≤ 300 := inD_one (fld_in h (k := 0) (j := 7) (d := [(0, 300)]) (by decide +kernel))
theorem b_lom (h : JJ [] σ) : 0 ≤ (σ.1 110 3).toInt ∧ (σ.1 110 3).toInt ≤ 300 := inD_one (fld_in h (k := 110) (j := 3) (d := [(0, 300)]) (by decide +kernel))
theorem b_rgf (h : JJ [] σ) : rgF σ := inD_one (fld_in h (k := 17) (j := 16) (d := [(0, 1200)]) (by decide +kernel))
theorem b_siz (h : JJ [] σ) {f : Nat} (hf : f < 480) : 0 ≤ (σ.1 8 f).toInt ∧ (σ.1 8 f).toInt ≤ 20 := inD_one (rwb h (k := 8) (kd := 100) (n := 480) (by decide +kernel) (by decide +kernel) (d := [(0, 20)]) (by decide +kernel) hf)
theorem b_tap (h : JJ [] σ) : ByO σ 1 := fun i hi => inD_one (rwb h (k := 1) (kd := 100) (n := 1200) (by decide +kernel) (by decide +kernel) (d := [(0, 255)]) (by decide +kernel) hi)
theorem b_tam (h : JJ [] σ) : ByO σ 111 := fun i hi => inD_one (rwb h (k := 111) (kd := 100) (n := 1200) (by decide +kernel) (by decide +kernel) (d := [(0, 255)]) (by decide +kernel) hi)
theorem b_hol (h : JJ [] σ) {j : Nat} (hj : j < 36) : (σ.1 129 j).toInt = 0 ∨ (σ.1 129 j).toInt = 1 := by
  have := inD_one (rwb h (k := 129) (kd := 102) (n := 36) (by decide +kernel) (by decide +kernel) (d := [(0, 1)]) (by decide +kernel) hj)
  omega
theorem b_pla (h : JJ [] σ) : PlC σ := fun x hx => by
  rcases jn2 (rwb h (k := 11) (kd := 100) (n := 40) (by decide +kernel) (by decide +kernel) (d := [(-4, -4), (0, 39)]) (by decide +kernel) hx) with q | q
  · exact Or.inl (by omega)
  · exact Or.inr q
theorem b_plm (h : JJ [] σ) {x : Nat} (hx : x < 40) : (σ.1 125 x).toInt = -4 ∨ (0 ≤ (σ.1 125 x).toInt ∧ (σ.1 125 x).toInt ≤ 39) := by
  rcases jn2 (rwb h (k := 125) (kd := 100) (n := 40) (by decide +kernel) (by decide +kernel) (d := [(-4, -4), (0, 39)]) (by decide +kernel) hx) with q | q
  · exact Or.inl (by omega)
  · exact Or.inr q
theorem wd_of (h : JJ [] σ) : WdB σ := by
  have b := b_thi h
  exact ⟨⟨by rw [p_per h], by rw [p_thi h], fun u hu => by rw [p_gon h hu]⟩, b_per h, by omega, by omega⟩
theorem be_1 (h : JJ [] σ) (hb : (σ.1 110 26).toInt ≠ 0) : (σ.1 110 26).toInt = 1 := by
  have := b_beg h
  omega
theorem tr_of (h : JJ [] σ) (hn : Pp σ 125 0 < 0) : ∃ rk, TrM σ rk := by
  obtain ⟨s1, _⟩ := (h.2.2 _ mct : tS 125 110 20 26 [] σ)
  obtain ⟨r, ac, _⟩ := s1 hn
  refine ⟨fun x => cnt r (r x) 40, fun x hx => ⟨?_, ?_⟩⟩
  · have a := cnt_lt (r := r) (c := r x + 1) (p := x) (Nat.lt_succ_self _) 40 hx
    have b := cnt_le (r := r) (b := r x + 1) 40
    show cnt r (r x) 40 < 40
    omega
  · rcases b_plm h hx with q | q
    · exact Or.inl q
    · refine Or.inr ⟨q, ?_⟩
      show cnt r (r (σ.1 125 x).toInt.toNat) 40 < cnt r (r x) 40
      exact cnt_lt (ac x _ hx (by show (σ.1 125 x).toInt = _; omega)) 40 (by omega)
theorem tw_of (h : JJ [] σ) : TwB σ := by
  refine ⟨wd_of h, fun s bg => ?_⟩
  obtain ⟨_, s2, s3, _⟩ := (h.2.2 _ mct : tS 125 110 20 26 [] σ)
  by_cases hn : Pp σ 125 0 < 0
  · obtain ⟨rk, t⟩ := tr_of h hn
    refine ⟨rk, fun x hx => ?_⟩
    by_cases z : x = 0
    · subst z
      have t0 := t 0 hx
      rcases bg with ⟨_, e⟩ | ⟨_, h1, _, _, ⟨h4, _⟩, _⟩
      · rw [e]; exact t0
      · exact ⟨t0.1, Or.inl (by rw [h4]; decide)⟩
    · rw [bg.k 125 x (by omega) (by omega) (by omega)]; exact t x hx
  · have z := s2 (by omega)
    rcases bg with ⟨hb, _⟩ | ⟨_, h1, _, _, ⟨h4, _⟩, _⟩
    · exact absurd (s3 rfl (be_1 h hb)) hn
    · refine ⟨fun x => if x = 0 then 0 else 1, fun x hx => ?_⟩
      by_cases e : x = 0
      · subst e
        exact ⟨by show (if (0 : Nat) = 0 then 0 else 1) < 40; decide, Or.inl (by rw [h4]; decide)⟩
      · have zx : (σ.1 125 x).toInt = 0 := z x hx
        rw [h1 125 x (by omega) (by omega) (by omega), zx]
        refine ⟨?_, Or.inr ⟨by omega, ?_⟩⟩
        · show (if x = 0 then 0 else 1) < 40
          rw [if_neg e]; omega
        · show (if (0 : Int).toNat = 0 then 0 else 1) < (if x = 0 then 0 else 1)
          rw [if_neg e, if_pos (by decide)]; omega
theorem wg_of (h : JJ [] σ) : ∃ n, Wg σ n := by
  have sg : SG (rsT 840 999 []) (rsM RWg σ) := h.2.2 _ mcR
  obtain ⟨⟨⟨⟨c0, c1, c2⟩, ⟨c3, c4, c5⟩, _, gf, _⟩, _⟩, _⟩ := sg
  have m : ∀ k j, RWg.any (Nat.beq k) = true → rsM RWg σ k j = (σ.1 k j).toInt := fun k j q => by
    show (bif RWg.any (Nat.beq k) then (σ.1 k j).toInt else 0) = _
    rw [q]
    rfl
  have col : ∀ (t kM c : Nat), rsT 840 999 [] t = none → RWg.any (Nat.beq kM) = true → ColS t kM c (rsT 840 999 []) (rsM RWg σ) → ∀ r, r < 201 → σ.1 6 (6 * r + c) = σ.1 kM r := fun t kM c ht hk cs r hr => by
    have := cs.1 ht r hr
    rw [m 6 _ (by decide +kernel), m kM _ hk] at this
    exact Int32.toInt_inj.mp this
  have e0 := col 900 114 0 rfl (by decide +kernel) c0
  have e1 := col 904 115 1 rfl (by decide +kernel) c1
  have e2 := col 908 116 2 rfl (by decide +kernel) c2
  have e3 := col 912 117 3 rfl (by decide +kernel) c3
  have e4 := col 916 118 4 rfl (by decide +kernel) c4
  have e5 := col 920 119 5 rfl (by decide +kernel) c5
  have en : (σ.1 5 2).toInt = (σ.1 110 8).toInt := by
    have := gf.1 rfl
    rw [m 5 2 (by decide +kernel), m 110 8 (by decide +kernel)] at this
    exact this
  have bn := inD_one (fld_in h (k := 5) (j := 2) (d := [(0, 201)]) (by decide +kernel))
  obtain ⟨n, hn⟩ : ∃ n : Nat, (σ.1 5 2).toInt = (n : Int) := ⟨(σ.1 5 2).toInt.toNat, by omega⟩
  have b0 : ∀ r, r < 201 → 0 ≤ (σ.1 6 (6 * r)).toInt ∧ (σ.1 6 (6 * r)).toInt ≤ 115 := fun r hr => inD_one (clb h (k := 6) (kd := 100) (n := 1206) (m := 6) (by decide +kernel) (ds := [[(0, 115)], [(0, 15)], T32, T32, T32, T32]) (by decide +kernel) (j := 6 * r) (c := 0) (by omega) (by omega) rfl)
  have b1 : ∀ r, r < 201 → 0 ≤ (σ.1 6 (6 * r + 1)).toInt ∧ (σ.1 6 (6 * r + 1)).toInt ≤ 15 := fun r hr => inD_one (clb h (k := 6) (kd := 100) (n := 1206) (m := 6) (by decide +kernel) (ds := [[(0, 115)], [(0, 15)], T32, T32, T32, T32]) (by decide +kernel) (j := 6 * r + 1) (c := 1) (by omega) (by omega) rfl)
  refine ⟨n, ⟨⟨hn, by omega⟩, fun r hr => ⟨b1 r (by omega), (b0 r (by omega)).2⟩⟩, ⟨⟨by omega, by omega⟩, fun r hr => ⟨?_, ?_⟩⟩, fun r hr => ⟨e0 r (by omega), e1 r (by omega), e2 r (by omega), e3 r (by omega), e4 r (by omega), e5 r (by omega)⟩⟩
  · unfold gM
    rw [← e1 r (by omega)]
    exact b1 r (by omega)
  · unfold mM
    rw [← e0 r (by omega)]
    exact (b0 r (by omega)).2
theorem co_of (h : JJ [] σ) : CoC σ 9600 := by
  refine ⟨Nat.le_refl _, fun i hi => ?_⟩
  obtain ⟨b, hb, hq⟩ := h.2.1 3 (9600, ([(21, false), (22, true)], [[[(0, 3), (7, 12), (21, 23)], T64], [[(4, 6), (13, 20)], [(0, 15)]], [[(24, 25)], [(0, 9600)]]])) (by rfl) i hi (by intro q; cases q)
  rcases List.mem_cons.mp hb with rfl | hb
  · obtain ⟨q1, q2, _⟩ := hq
    have q1 : inD (σ.1 21 i).toInt [(0, 3), (7, 12), (21, 23)] := q1
    have := jn3 q1
    exact ⟨by omega, fun _ => absurd (by omega : False) id, fun _ => absurd (by omega : False) id⟩
  rcases List.mem_cons.mp hb with rfl | hb
  · obtain ⟨q1, q2, _⟩ := hq
    have q1 : inD (σ.1 21 i).toInt [(4, 6), (13, 20)] := q1
    have q2 : inD (σ.2 22 i).toInt [(0, 15)] := q2
    have a := jn2 q1
    have b := inD_one q2
    exact ⟨by omega, fun _ => b, fun _ => absurd (by omega : False) id⟩
  rcases List.mem_cons.mp hb with rfl | hb
  · obtain ⟨q1, q2, _⟩ := hq
    have q1 : inD (σ.1 21 i).toInt [(24, 25)] := q1
    have q2 : inD (σ.2 22 i).toInt [(0, 9600)] := q2
    have a := inD_one q1
    have b := inD_one q2
    exact ⟨by omega, fun _ => absurd (by omega : False) id, fun _ => by omega⟩
  cases hb
theorem rz_of (h : JJ [] σ) {p r : Nat} (hp : p < 8) (hr : r < 30) : RuZ σ (raN p r) (30 * p + r) := by
  have c : ∀ (c : Nat) (a b : Int), c < 9 → ([[(0, 2)], [(0, 3)], T32, [(0, 6)], [(0, 2)], [(0, 39)], [(0, 9600)], [(0, 9600)], T32] : List Dom)[c]? = some [(a, b)] → a ≤ ruC σ (raN p r) c ∧ ruC σ (raN p r) c ≤ b := fun c a b hc hd => inD_one (clb h (k := 20) (kd := 100) (n := 2160) (m := 9) (by decide +kernel) (ds := [[(0, 2)], [(0, 3)], T32, [(0, 6)], [(0, 2)], [(0, 39)], [(0, 9600)], [(0, 9600)], T32]) (by decide +kernel) (j := raN p r + c) (c := c) (by show 9 * (30 * p + r) + c < 2160; omega) (by show (9 * (30 * p + r) + c) % 9 = c; omega) hd)
  refine ⟨c 0 0 2 (by omega) rfl, c 1 0 3 (by omega) rfl, c 3 0 6 (by omega) rfl, c 4 0 2 (by omega) rfl, c 5 0 39 (by omega) rfl, fun q => ?_⟩
  have q : (σ.1 133 (30 * p + r)).toInt = 1 := q
  obtain ⟨b, hb, hq⟩ := h.2.1 9 (240, ([(133, false), (134, false)], [[[(-1, 0), (2, 3)], T32], [[(1, 1)], [(0, 15)]]])) (by rfl) (30 * p + r) (by show 30 * p + r < 240; omega) (by intro q; cases q)
  rcases List.mem_cons.mp hb with rfl | hb
  · obtain ⟨q1, q2, _⟩ := hq
    have q1 : inD (σ.1 133 (30 * p + r)).toInt [(-1, 0), (2, 3)] := q1
    have := jn2 q1
    omega
  rcases List.mem_cons.mp hb with rfl | hb
  · obtain ⟨q1, q2, _⟩ := hq
    have q2 : inD (σ.1 134 (30 * p + r)).toInt [(0, 15)] := q2
    exact inD_one q2
  cases hb
/-- all that is known when it asks -/
theorem wa_of (h : JJ [] σ) (hb : (σ.1 110 26).toInt ≠ 0) : ∃ n P F rk, Wa σ n P F rk := by
  obtain ⟨i, d, ⟨P, F, p, b, f⟩, t⟩ := jh_of h
  obtain ⟨n, g⟩ := wg_of h
  have be := be_1 h hb
  obtain ⟨_, _, s3, _⟩ := (h.2.2 _ mct : tS 125 110 20 26 [] σ)
  have hn : Pp σ 125 0 < 0 := s3 rfl be
  obtain ⟨rk, tr⟩ := tr_of h hn
  have k0 : (σ.1 11 0).toInt = -4 := h.2.2 _ mck
  have k1 : (σ.1 12 0).toInt = -4 := h.2.2 _ mck2
  have k2 : (σ.1 126 0).toInt = -4 := (h.2.2 _ mcv : vS9 126 110 26 [] σ) be rfl
  have k3 : (σ.1 125 0).toInt = -4 := by
    have hn : (σ.1 125 0).toInt < 0 := hn
    rcases b_plm h (x := 0) (by omega) with q | q
    · exact q
    · omega
  have bt := b_thi h
  refine ⟨n, P, F, rk, ⟨⟨⟨⟨fun x hx => ?_, fun x hx => by rw [p_cut h hx]⟩, b_pla h, fun u hu => ?_⟩, ⟨fun f hf => ⟨(i.1 f hf).1, (i.1 f hf).2, b_siz h hf⟩, i.2⟩, co_of h, fun a c ha hc => d.rc hb ha hc⟩, g, tr⟩, ⟨p.1.1, p.1.2, p.2.1, p.2.2⟩, fun p r hp hr => rz_of h hp hr, ⟨p_now h, b_now h⟩, ⟨p_per h, b_per h⟩, ⟨p_thi h, by omega, by omega⟩, fun u hu => by rw [p_gon h hu], f, b_log h, b_lom h⟩
  · by_cases z : x = 0
    · subst z; exact Int32.toInt_inj.mp (k0.trans k3.symm)
    · exact p_pla h hx z
  · by_cases z : u = 0
    · subst z; exact Int32.toInt_inj.mp (k1.trans k2.symm)
    · exact p_own h hu z
theorem w0_of (h : JJ [] σ) (hb : ¬ (σ.1 110 26).toInt ≠ 0) : ∃ n, W0 σ n 0 := by
  obtain ⟨i, d, ⟨P, F, p, b, f⟩, t⟩ := jh_of h
  obtain ⟨n, g⟩ := wg_of h
  have bt := b_thi h
  have hP : P = 0 := Nat.eq_zero_of_not_pos (fun z => hb (b z))
  subst hP
  have hF : F = 0 := Nat.eq_zero_of_not_pos (fun z => by have := (f.2 0 z).2.2; omega)
  subst hF
  exact ⟨n, g, ⟨p_now h, b_now h⟩, ⟨p_per h, b_per h⟩, ⟨p_thi h, by omega, by omega⟩, fun u hu => by rw [p_gon h hu], f, b_log h, b_lom h⟩
theorem p0_of (h : JJ [] σ) (hb : ¬ (σ.1 110 26).toInt ≠ 0) : (σ.1 17 0).toInt = 0 ∧ (σ.1 110 32).toInt = 0 := by
  obtain ⟨P, F, p, b, f⟩ := (jh_of h).2.2.1
  have hP : P = 0 := Nat.eq_zero_of_not_pos (fun z => hb (b z))
  subst hP
  exact p.1
end N40
/-! ===== the methods that write it ===== -/
section N41
variable {E : xV} {σ : zS} {a1 a2 a3 a4 a5 a6 a7 : Int32} {w : Int64}
theorem cz_feed (h : JJ [] σ) : Cz E Y_H_feed [.ref 0, .int a1, .long w] σ (fun _ σ1 => Cz E Y_M_feed [.ref 110, .int a1, .long w] σ1 (fun _ σ2 => JH σ2)) :=
  sF_H_feed (feed_same (jh_of h).2.2.2) (fun _ _ q => sF_M_feed q.2 (fun _ _ r => jh_tape (jh_of h) q.1 r.2.1 r.2.2))
theorem cz_cut (h : JJ [] σ) : Cz E Y_H_cut [.ref 0, .int a1] σ (fun _ σ1 => Cz E Y_M_cut [.ref 110, .int a1] σ1 (fun _ σ2 => JH σ2)) :=
  sF_H_cut (cut_same (jh_of h).2.2.2) (fun _ _ q => sF_M_cut q.2 (fun _ _ r => jh_tape (jh_of h) q.1 r.2.1 r.2.2))
theorem cz_half (h : JJ [] σ) : Cz E Y_H_half [.ref 0, .int a1, .int a2] σ (fun _ σ1 => Cz E Y_M_half [.ref 110, .int a1, .int a2] σ1 (fun _ σ2 => JH σ2)) :=
  sF_H_half (half_kept (jh_of h).2.2.2 (b_tap h) (b_tam h)) (fun _ _ q => sF_M_half q.2 (fun _ _ r => jh_tape (jh_of h) q.1 r.1 r.2))
theorem cz_joined (h : JJ [] σ) : Cz E Y_H_joined [.ref 0] σ (fun _ σ1 => Cz E Y_M_joined [.ref 110] σ1 (fun _ σ2 => JH σ2)) :=
  sF_H_joined (joined_kept (jh_of h).2.2.2 (b_tap h) (b_tam h)) (fun _ _ q => sF_M_joined q.2 (fun _ _ r => jh_tape (jh_of h) q.1 r.1 r.2))
theorem cz_feature (h : JJ [] σ) : Cz E Y_H_feature [.ref 0, .int a1, .int a2, .int a3, .int a4] σ (fun _ σ1 => Cz E Y_M_feature [.ref 110, .int a1, .int a2, .int a3, .int a4] σ1 (fun _ σ2 => JH σ2)) :=
  sF_H_feature (feature_same (wd_of h) (jh_of h).1) (fun _ _ q => sF_M_feature q.2 (fun _ _ r => jh_item (jh_of h) q.1 r.2.1 r.2.2))
theorem cz_item (h : JJ [] σ) : Cz E Y_H_item [.ref 0, .int a1, .int a2, .int a3, .long w] σ (fun _ σ1 => Cz E Y_M_item [.ref 110, .int a1, .int a2, .int a3, .long w] σ1 (fun _ σ2 => JH σ2)) :=
  sF_H_item (item_same (wd_of h) (jh_of h).1 (fun _ hf => b_siz h hf)) (fun _ _ q => sF_M_item q.2 (fun _ _ r => jh_item (jh_of h) q.1 r.2.1 r.2.2))
theorem cz_copy (h : JJ [] σ) : Cz E Y_H_copy [.ref 0, .int a1, .int a2, .int a3, .int a4, .int a5, .int a6, .int a7] σ (fun _ σ1 => Cz E Y_M_copy [.ref 110, .int a1, .int a2, .int a3, .int a4, .int a5, .int a6, .int a7] σ1 (fun _ σ2 => JH σ2)) :=
  sF_H_copy (copy_same (wd_of h) (jh_of h).1 (fun _ hf => b_siz h hf)) (fun _ _ q => sF_M_copy q.2 (fun _ _ r => jh_item (jh_of h) q.1 r.2.1 r.2.2))
theorem cz_holds (h : JJ [] σ) (h3 : a3 = 0 ∨ a3 = 1) : Cz E Y_H_holds [.ref 0, .int a1, .int a2, .int a3] σ (fun _ σ1 => Cz E Y_M_holds [.ref 110, .int a1, .int a2, .int a3] σ1 (fun _ σ2 => JH σ2)) :=
  sF_H_holds (holds_same (jh_of h).2.1 h3 (fun _ hj => b_hol h hj)) (fun _ _ q => sF_M_holds q.2 (fun _ _ r => by
    obtain ⟨_, d, s, bg, g, gl⟩ := r
    exact jh_holds (jh_of h) q.1 bg g gl d))
theorem cz_policy (h : JJ [] σ) : Cz E Y_H_policy [.ref 0, .int a1] σ (fun _ σ1 => Cz E Y_M_policy [.ref 110, .int a1] σ1 (fun _ σ2 => JH σ2)) := by
  obtain ⟨P, F, p, b, f⟩ := (jh_of h).2.2.1
  exact sF_H_policy (policy_same (jh_of h).2.2.2 (b_tap h) p (b_rgf h) (wd_of h) ⟨by rw [p_grp h], b_grp h⟩) (fun _ _ q => sF_M_policy q.2 (fun _ _ r => by
    obtain ⟨t, ⟨s, bg, g⟩, P', hP, p'⟩ := r
    exact jh_policy (jh_of h) q.1 bg g t hP p' f))
theorem cz_inForce (h : JJ [] σ) : Cz E Y_H_inForce [.ref 0, .int a1] σ (fun _ σ1 => Cz E Y_M_inForce [.ref 110, .int a1] σ1 (fun _ σ2 => JH σ2)) := by
  obtain ⟨P, F, p, b, f⟩ := (jh_of h).2.2.1
  exact sF_H_inForce (inForce_same ⟨p.1.1, p.1.2, p.2.1⟩ f (p_now h) (b_log h) (b_lom h)) (fun _ _ q => sF_M_inForce q.2 (fun _ _ r => by
    obtain ⟨_, g, F', f'⟩ := r
    exact jh_inForce (jh_of h) p q.1 g f'))
theorem cz_thing (h : JJ [] σ) : Cz E Y_H_thing [.ref 0, .int a1, .int a2] σ (fun _ σ1 => Cz E Y_M_thing [.ref 110, .int a1, .int a2] σ1 (fun _ σ2 => JH σ2)) :=
  sF_H_thing (thing_kept (tw_of h)) (fun _ _ q => sF_M_thing q.2 (fun _ _ r => by
    obtain ⟨s, bg, f⟩ := r
    exact f.jh ((q.1.jh (jh_of h)).bg bg)))
theorem cz_move (h : JJ [] σ) : Cz E Y_H_move [.ref 0, .int a1, .int a2] σ (fun _ σ1 => Cz E Y_M_move [.ref 110, .int a1, .int a2] σ1 (fun _ σ2 => JH σ2)) :=
  sF_H_move (move_kept (tw_of h) (b_pla h)) (fun _ _ q => sF_M_move q.2 (fun _ _ r => by
    obtain ⟨s, bg, f⟩ := r
    exact f.jh ((q.1.jh (jh_of h)).bg bg)))
theorem cz_drop (h : JJ [] σ) : Cz E Y_H_drop [.ref 0, .int a1] σ (fun _ σ1 => Cz E Y_M_drop [.ref 110, .int a1] σ1 (fun _ σ2 => JH σ2)) :=
  sF_H_drop (drop_kept (tw_of h)) (fun _ _ q => sF_M_drop q.2 (fun _ _ r => by
    obtain ⟨s, bg, f⟩ := r
    exact f.jh ((q.1.jh (jh_of h)).bg bg)))
/-! both proofs put together -/
theorem lc_j {YH YM : xY} {avH avM : List Value} (h1 : Cz E YH avH σ (fun v σ1 => ∃ r : Int32, v = some (.int r) ∧ Cz E YM avM σ1 (fun v' σ2 => (∃ r2 : Int32, v' = some (.int r2)) ∧ J1 σ2))) (h2 : Cz E YH avH σ (fun _ σ1 => Cz E YM avM σ1 (fun _ σ2 => JH σ2))) : Cz E YH avH σ (fun v σ1 => ∃ r : Int32, v = some (.int r) ∧ Cz E YM avM σ1 (fun v' σ2 => (∃ r2 : Int32, v' = some (.int r2)) ∧ J0 σ2)) := by
  refine (Cz.and h1 h2 (fun v s q i e => ?_)).mono (fun v σ1 q => ?_)
  · obtain ⟨r, q, _⟩ := q
    rw [q] at e
    cases e
  · obtain ⟨⟨r, e, c1⟩, τ, ag, c2⟩ := q
    refine ⟨r, e, (Cz.and c1 (Cz.ag ag c2) (fun v s q i e => ?_)).mono (fun v' σ2 q => ?_)⟩
    · obtain ⟨⟨r2, q⟩, _⟩ := q
      rw [q] at e
      cases e
    · obtain ⟨⟨a, j⟩, τ2, ag2, jh⟩ := q
      exact ⟨a, j2_0 j (jh.ag ag2.sy)⟩
theorem lc_c {YH YM : xY} {avH avM : List Value} (h1 : Cz E YH avH σ (fun v σ1 => ∃ r : Int32, v = some (.int r) ∧ Cz E YM avM σ1 (fun v' σ2 => (∃ r2 : Int32, v' = some (.int r2)) ∧ J0 σ2))) (h2 : Cz E YH avH σ (fun v σ1 => ∃ r : Int32, v = some (.int r) ∧ Cz E YM avM σ1 (fun v' _ => v' = some (.int r)))) : Cz E YH avH σ (fun v σ1 => ∃ r : Int32, v = some (.int r) ∧ Cz E YM avM σ1 (fun v' σ2 => v' = some (.int r) ∧ J0 σ2)) := by
  refine (Cz.and h1 h2 (fun v s q i e => ?_)).mono (fun v σ1 q => ?_)
  · obtain ⟨r, q, _⟩ := q
    rw [q] at e
    cases e
  · obtain ⟨⟨r, e, c1⟩, τ, ag, r', e', c2⟩ := q
    have er : r' = r := by rw [e] at e'; cases e'; rfl
    subst er
    refine ⟨r', e, (Cz.and c1 (Cz.ag ag c2) (fun v s q i e => ?_)).mono (fun v' σ2 q => ?_)⟩
    · obtain ⟨⟨r2, q⟩, _⟩ := q
      rw [q] at e
      cases e
    · obtain ⟨⟨_, j⟩, τ2, _, e2⟩ := q
      exact ⟨e2, j⟩
end N41

theorem LC_0_ok {E : xV} {σ : zS} (h : J0 σ) : LC_0 E σ J0 := fun x0 x1 => lc_j (LC_0_e h x0 x1) (cz_feed h.1)
theorem LC_1_ok {E : xV} {σ : zS} (h : J0 σ) : LC_1 E σ J0 := fun x0 => lc_j (LC_1_e h x0) (cz_cut h.1)
theorem LC_9_ok {E : xV} {σ : zS} (h : J0 σ) : LC_9 E σ J0 := fun x0 x1 x2 x3 => lc_j (LC_9_e h x0 x1 x2 x3) (cz_feature h.1)
theorem LC_10_ok {E : xV} {σ : zS} (h : J0 σ) : LC_10 E σ J0 := fun x0 x1 x2 x3 => lc_j (LC_10_e h x0 x1 x2 x3) (cz_item h.1)
theorem LC_12_ok {E : xV} {σ : zS} (h : J0 σ) : LC_12 E σ J0 := fun x0 x1 x2 x3 x4 x5 x6 => lc_j (LC_12_e h x0 x1 x2 x3 x4 x5 x6) (cz_copy h.1)
theorem LC_13_ok {E : xV} {σ : zS} (h : J0 σ) : LC_13 E σ J0 := fun x0 x1 => lc_j (LC_13_e h x0 x1) (cz_thing h.1)
theorem LC_14_ok {E : xV} {σ : zS} (h : J0 σ) : LC_14 E σ J0 := fun x0 x1 => lc_j (LC_14_e h x0 x1) (cz_move h.1)
theorem LC_16_ok {E : xV} {σ : zS} (h : J0 σ) : LC_16 E σ J0 := fun x0 => lc_j (LC_16_e h x0) (cz_drop h.1)
theorem LC_19_ok {E : xV} {σ : zS} (h : J0 σ) : LC_19 E σ J0 := fun x0 x1 x2 hb => lc_j (LC_19_e h x0 x1 x2 hb) (cz_holds h.1 hb)
theorem LC_21_ok {E : xV} {σ : zS} (h : J0 σ) : LC_21 E σ J0 := fun x0 => lc_j (LC_21_e h x0) (cz_policy h.1)
theorem LC_23_ok {E : xV} {σ : zS} (h : J0 σ) : LC_23 E σ J0 := fun x0 => lc_j (LC_23_e h x0) (cz_inForce h.1)
theorem LC_77_ok {E : xV} {σ : zS} (h : J0 σ) : LC_77 E σ J0 := fun x0 x1 => lc_j (LC_77_e h x0 x1) (cz_half h.1)
theorem LC_78_ok {E : xV} {σ : zS} (h : J0 σ) : LC_78 E σ J0 := lc_j (LC_78_e h) (cz_joined h.1)
theorem cz_logged {E : xV} {σ : zS} {a1 a2 : Int32} (lg : LgS σ) : Cz E Y_H_logged [.ref 0, .int a1, .int a2] σ (fun v σ1 => ∃ r : Int32, v = some (.int r) ∧ Cz E Y_M_logged [.ref 110, .int a1, .int a2] σ1 (fun v' _ => v' = some (.int r))) :=
  sF_H_logged (logged_same lg) (fun v s q => ⟨v, rfl, sF_M_logged q.2 (fun v' s' q' => congrArg (fun x => some (Value.int x)) q'.1.symm)⟩)
theorem LC_79_ok {E : xV} {σ : zS} (h : J0 σ) (lg : LgS σ) : LC_79 E σ J0 := fun x0 x1 => lc_c (LC_79_e h x0 x1) (cz_logged lg)
