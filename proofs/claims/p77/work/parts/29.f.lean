noncomputable section
/-! ===== WHAT ELSE HOLDS, 23: code that is written and run ===== -/
/-- an op: 0: leaves one more; 1: takes one, leaves one; 2: takes two, leaves one -/
def qop (x : Int) : Nat := if x ≤ 4 ∨ x = 6 ∨ x = 15 then 0 else if x = 5 ∨ x = 7 ∨ x = 14 ∨ x = 16 then 1 else 2
/-- the height behind an op -/
def qst (x h : Int) : Option Int := if qop x = 0 then some (h + 1) else if qop x = 1 then (if 1 ≤ h then some h else none) else (if 2 ≤ h then some (h - 1) else none)
theorem qst0 {x h : Int} (e : qop x = 0) : qst x h = some (h + 1) := by unfold qst; rw [if_pos e]
theorem qst1 {x h : Int} (e : qop x = 1) (hh : 1 ≤ h) : qst x h = some h := by unfold qst; rw [if_neg (by omega), if_pos e, if_pos hh]
theorem qst2 {x h : Int} (e : qop x = 2) (hh : 2 ≤ h) : qst x h = some (h - 1) := by unfold qst; rw [if_neg (by omega), if_neg (by omega), if_pos hh]
theorem qst1n {x h : Int} (e : qop x = 1) (hn : qst x h ≠ none) : 1 ≤ h := by
  by_cases hh : 1 ≤ h
  · exact hh
  · exact absurd (by unfold qst; rw [if_neg (by omega), if_pos e, if_neg hh]) hn
theorem qst2n {x h : Int} (e : qop x = 2) (hn : qst x h ≠ none) : 2 ≤ h := by
  by_cases hh : 2 ≤ h
  · exact hh
  · exact absurd (by unfold qst; rw [if_neg (by omega), if_neg (by omega), if_neg hh]) hn
/-- n ops from place k on -/
def qrun (c : Nat → Int) : Nat → Nat → Int → Option Int
  | 0, _, h => some h
  | n + 1, k, h => (qst (c k) h).bind fun h' => qrun c n (k + 1) h'
theorem qrun_snoc {c : Nat → Int} : ∀ (n k : Nat) (h : Int), qrun c (n + 1) k h = (qrun c n k h).bind fun h' => qst (c (k + n)) h'
  | 0, k, h => by
    show (qst (c k) h).bind (fun h' => some h') = qst (c k) h
    cases qst (c k) h <;> rfl
  | n + 1, k, h => by
    show (qst (c k) h).bind (fun h' => qrun c (n + 1) (k + 1) h') = ((qst (c k) h).bind fun h' => qrun c n (k + 1) h').bind fun h' => qst (c (k + (n + 1))) h'
    cases qst (c k) h with
    | none => rfl
    | some h1 =>
      show qrun c (n + 1) (k + 1) h1 = (qrun c n (k + 1) h1).bind fun h' => qst (c (k + (n + 1))) h'
      rw [qrun_snoc n (k + 1) h1, show k + 1 + n = k + (n + 1) by omega]
theorem qrun_eq {c d : Nat → Int} : ∀ (n k : Nat) (h : Int), (∀ i, k ≤ i → i < k + n → d i = c i) → qrun d n k h = qrun c n k h
  | 0, _, _, _ => rfl
  | n + 1, k, h, hc => by
    have e : (fun h' => qrun d n (k + 1) h') = fun h' => qrun c n (k + 1) h' := funext fun h' => qrun_eq n (k + 1) h' (fun i h1 h2 => hc i (by omega) (by omega))
    show (qst (d k) h).bind (fun h' => qrun d n (k + 1) h') = (qst (c k) h).bind fun h' => qrun c n (k + 1) h'
    rw [hc k (Nat.le_refl k) (by omega), e]
/-- the code from f to t runs, and is not too long -/
def Qg (c : Nat → Int) (f t : Int) : Prop := 0 ≤ f ∧ f ≤ t ∧ t ≤ f + 1300 ∧ qrun c (t - f).toNat f.toNat 0 ≠ none
theorem Qg_eq {c d : Nat → Int} {f t : Int} (h : Qg c f t) (he : ∀ i : Nat, (i : Int) < t → d i = c i) : Qg d f t := by
  obtain ⟨a1, a2, a3, a4⟩ := h
  refine ⟨a1, a2, a3, ?_⟩
  rw [qrun_eq _ _ _ (fun i h1 h2 => he i (by omega))]
  exact a4
/-- how many of the first n take two -/
def qnB (c : Nat → Int) : Nat → Int
  | 0 => 0
  | n + 1 => qnB c n + (if qop (c n) = 2 then 1 else 0)
theorem qnB_in {c : Nat → Int} : ∀ n : Nat, 0 ≤ qnB c n ∧ qnB c n ≤ (n : Int)
  | 0 => ⟨Int.le_refl 0, Int.le_refl 0⟩
  | n + 1 => by
    have := qnB_in (c := c) n
    unfold qnB
    split <;> omega
theorem qnB_eq {c d : Nat → Int} : ∀ n : Nat, (∀ i, i < n → d i = c i) → qnB d n = qnB c n
  | 0, _ => rfl
  | n + 1, h => by
    unfold qnB
    rw [qnB_eq n (fun i hi => h i (by omega)), h n (by omega)]
theorem qop0 {x : Int} (h : x ≤ 4 ∨ x = 6 ∨ x = 15) : qop x = 0 := if_pos h
theorem qop1 {x : Int} (h : x = 5 ∨ x = 7 ∨ x = 14 ∨ x = 16) : qop x = 1 := by unfold qop; rw [if_neg (by omega), if_pos h]
theorem qop2 {x : Int} (h : (8 ≤ x ∧ x ≤ 13) ∨ 17 ≤ x) : qop x = 2 := by unfold qop; rw [if_neg (by omega), if_neg (by omega)]
theorem qop_pos {x : Int} (h : qop x ≠ 0) : 5 ≤ x := by
  by_cases h4 : x ≤ 4
  · exact absurd (qop0 (Or.inl h4)) h
  · omega
def Q0 (cd fr to rc : Nat → Int) : Prop := ∀ q n : Nat, q < 8 → (n : Int) < rc q → Qg cd (fr (30 * q + n)) (to (30 * q + n)) ∧ to (30 * q + n) ≤ 1300 * (q : Int) + 1300
/-- no rules from policy p on -/
def Qz (rc : Nat → Int) (p : Int) : Prop := ∀ q : Nat, q < 8 → p ≤ (q : Int) → rc q ≤ 0
def Q7 (cd fr to wt : Nat → Int) (f e h w B N P : Int) : Prop := 1300 * P ≤ e ∧ (30 * P ≤ N ∧ ∀ r : Nat, 30 * P ≤ (r : Int) → (r : Int) < N → Qg cd (fr r) (to r) ∧ to r ≤ e) ∧ (0 ≤ f ∧ f ≤ e ∧ qrun cd (e - f).toNat f.toNat 0 = some h) ∧ (0 ≤ w ∧ (∀ i : Nat, (i : Int) < w → qop (wt i) ≠ 0) ∧ B = qnB wt w.toNat)
section Q23a
variable {cd cd' fr fr' to to' rc rc' wt wt' : Nat → Int} {f e h w B N P p : Int}
theorem Q0_cd (hq : Q0 cd fr to rc) (hz : Qz rc p) (he : ∀ i : Nat, (i : Int) < 1300 * p → cd' i = cd i) : Q0 cd' fr to rc := fun q n a b => by
  obtain ⟨g1, g2⟩ := hq q n a b
  have hp : (q : Int) < p := by
    by_cases h : p ≤ (q : Int)
    · have := hz q a h
      omega
    · omega
  exact ⟨Qg_eq g1 (fun i hi => he i (by omega)), g2⟩
theorem Q0_fr (hq : Q0 cd fr to rc) (hz : Qz rc p) (hr : ∀ q : Nat, q < 8 → rc q ≤ 30) (he : ∀ i : Nat, (i : Int) < 30 * p → fr' i = fr i ∧ to' i = to i) : Q0 cd fr' to' rc := fun q n a b => by
  have hb := hr q a
  have hp : (q : Int) < p := by
    by_cases h : p ≤ (q : Int)
    · have := hz q a h
      omega
    · omega
  obtain ⟨e1, e2⟩ := he (30 * q + n) (by omega)
  rw [e1, e2]
  exact hq q n a b
theorem Q0_next {j : Nat} {v : Int} (h0 : Q0 cd fr to rc) (h7 : Q7 cd fr to wt f e h w B N P) (he : ∀ q, q ≠ j → rc' q = rc q) (hv : rc' j = v) (hP : P = (j : Int)) (h1 : 30 * P + v ≤ N) (h2 : e ≤ 1300 * P + 1300) : Q0 cd fr to rc' := fun q n a b => by
  by_cases hq : q = j
  · rw [hq, hv] at b
    obtain ⟨g1, g2⟩ := h7.2.1.2 (30 * q + n) (by omega) (by omega)
    exact ⟨g1, by omega⟩
  · rw [he q hq] at b
    exact h0 q n a b
theorem Qz_next {j : Nat} (hz : Qz rc p) (he : ∀ q, q ≠ j → rc' q = rc q) (hP : p = (j : Int)) : Qz rc' (p + 1) := fun q a b => by
  rw [he q (by omega)]
  exact hz q a (by omega)
theorem Q7_cd (hq : Q7 cd fr to wt f e h w B N P) (he : ∀ i : Nat, (i : Int) < e → cd' i = cd i) : Q7 cd' fr to wt f e h w B N P := by
  obtain ⟨a, ⟨b1, b2⟩, ⟨c1, c2, c3⟩, d⟩ := hq
  refine ⟨a, ⟨b1, fun r h1 h2 => ?_⟩, ⟨c1, c2, ?_⟩, d⟩
  · obtain ⟨g1, g2⟩ := b2 r h1 h2
    exact ⟨Qg_eq g1 (fun i hi => he i (by omega)), g2⟩
  · rw [qrun_eq _ _ _ (fun i h1 h2 => he i (by omega))]
    exact c3
theorem Q7_fr (hq : Q7 cd fr to wt f e h w B N P) (he : ∀ i : Nat, (i : Int) < N → fr' i = fr i ∧ to' i = to i) : Q7 cd fr' to' wt f e h w B N P := by
  obtain ⟨a, ⟨b1, b2⟩, c, d⟩ := hq
  refine ⟨a, ⟨b1, fun r h1 h2 => ?_⟩, c, d⟩
  obtain ⟨e1, e2⟩ := he r h2
  rw [e1, e2]
  exact b2 r h1 h2
theorem Q7_wt (hq : Q7 cd fr to wt f e h w B N P) (he : ∀ i : Nat, (i : Int) < w → wt' i = wt i) : Q7 cd fr to wt' f e h w B N P := by
  obtain ⟨a, b, c, ⟨d1, d2, d3⟩⟩ := hq
  refine ⟨a, b, c, ⟨d1, fun i hi => ?_, ?_⟩⟩
  · rw [he i hi]
    exact d2 i hi
  · rw [qnB_eq _ (fun i hi => he i (by omega))]
    exact d3
/-- one op more -/
theorem Q7_app {h' : Int} (hq : Q7 cd fr to wt f e h w B N P) (hs : qst (cd e.toNat) h = some h') : Q7 cd fr to wt f (e + 1) h' w B N P := by
  obtain ⟨a, ⟨b1, b2⟩, ⟨c1, c2, c3⟩, d⟩ := hq
  refine ⟨by omega, ⟨b1, fun r h1 h2 => ?_⟩, ⟨c1, by omega, ?_⟩, d⟩
  · obtain ⟨g1, g2⟩ := b2 r h1 h2
    exact ⟨g1, by omega⟩
  · rw [show (e + 1 - f).toNat = (e - f).toNat + 1 by omega, qrun_snoc, c3, show f.toNat + (e - f).toNat = e.toNat by omega]
    exact hs
theorem Q7_push {B' : Int} (hq : Q7 cd fr to wt f e h w B N P) (hs : qop (wt w.toNat) ≠ 0) (hB : B' = B + (if qop (wt w.toNat) = 2 then 1 else 0)) : Q7 cd fr to wt f e h (w + 1) B' N P := by
  obtain ⟨a, b, c, ⟨d1, d2, d3⟩⟩ := hq
  refine ⟨a, b, c, ⟨by omega, fun i hi => ?_, ?_⟩⟩
  · by_cases hw : (i : Int) < w
    · exact d2 i hw
    · rw [show i = w.toNat by omega]
      exact hs
  · rw [show (w + 1).toNat = w.toNat + 1 by omega, hB, d3]
    rfl
theorem Q7_pop {B' : Int} (hq : Q7 cd fr to wt f e h w B N P) (hw : 1 ≤ w) (hB : B = B' + (if qop (wt (w - 1).toNat) = 2 then 1 else 0)) : Q7 cd fr to wt f e h (w - 1) B' N P := by
  obtain ⟨a, b, c, ⟨d1, d2, d3⟩⟩ := hq
  refine ⟨a, b, c, ⟨by omega, fun i hi => d2 i (by omega), ?_⟩⟩
  rw [show w.toNat = (w - 1).toNat + 1 by omega] at d3
  have d4 : B = qnB wt (w - 1).toNat + (if qop (wt (w - 1).toNat) = 2 then 1 else 0) := d3
  omega
theorem Q7_B (hq : Q7 cd fr to wt f e h w B N P) : 0 ≤ B ∧ B ≤ w := by
  obtain ⟨_, _, _, ⟨d1, _, d3⟩⟩ := hq
  have := qnB_in (c := wt) w.toNat
  omega
theorem Q7_zero (hq : Q7 cd fr to wt f e h w B N P) : Q7 cd fr to wt f e h 0 0 N P := ⟨hq.1, hq.2.1, hq.2.2.1, Int.le_refl 0, fun i hi => by omega, rfl⟩
theorem Q7_rule (hq : Q7 cd fr to wt f e h w B N P) : Q7 cd fr to wt e e 0 w B N P := by
  obtain ⟨a, b, ⟨c1, c2, _⟩, d⟩ := hq
  refine ⟨a, b, ⟨by omega, Int.le_refl e, ?_⟩, d⟩
  rw [show (e - e).toNat = 0 by omega]
  rfl
theorem Q7_done (hq : Q7 cd fr to wt f e h w B N P) (h1 : fr N.toNat = f) (h2 : to N.toNat = e) (h3 : e ≤ f + 1300) (h0 : 0 ≤ N) : Q7 cd fr to wt f e h w B (N + 1) P := by
  obtain ⟨a, ⟨b1, b2⟩, ⟨c1, c2, c3⟩, d⟩ := hq
  refine ⟨a, ⟨by omega, fun r g1 g2 => ?_⟩, ⟨c1, c2, c3⟩, d⟩
  by_cases hr : (r : Int) < N
  · exact b2 r g1 hr
  · have er : r = N.toNat := by omega
    rw [er, h1, h2]
    exact ⟨⟨c1, c2, h3, by rw [c3]; intro q; cases q⟩, Int.le_refl e⟩
theorem Q7_open (h0 : 0 ≤ e) (h1 : e = 1300 * P) (h2 : N = 30 * P) : Q7 cd fr to wt e e 0 0 0 N P := by
  refine ⟨by omega, ⟨by omega, fun r g1 g2 => by omega⟩, ⟨h0, Int.le_refl e, ?_⟩, Int.le_refl 0, fun i hi => by omega, rfl⟩
  rw [show (e - e).toNat = 0 by omega]
  rfl
end Q23a
/-- rows: codes, froms, tos, counts of rules, waiting codes; the object and its field of policies -/
abbrev QK : Type := Nat × (Nat × (Nat × (Nat × (Nat × (Nat × Nat)))))
abbrev QK.c (K : QK) : Nat := K.1
abbrev QK.s (K : QK) : Nat := K.2.1
abbrev QK.e (K : QK) : Nat := K.2.2.1
abbrev QK.r (K : QK) : Nat := K.2.2.2.1
abbrev QK.w (K : QK) : Nat := K.2.2.2.2.1
abbrev QK.f (K : QK) : Nat := K.2.2.2.2.2.1
abbrev QK.p (K : QK) : Nat := K.2.2.2.2.2.2
def qtg (u : Nat) : Bool := (Nat.ble 312 u && Nat.ble u 314) || ((Nat.ble 321 u && Nat.ble u 328) || Nat.beq u 341)
/-- tags: 321 where the rule's code begins, 322 where code ends, 323 the height there, 324 how many wait, 325 how many of them take two, 327 the next rule, 328 the policy; 326 a rule; 341 a policy whose rules are counted already; 312 a place of code, 313 its end, 314 the height -/
def qS (K : QK) (H : List (Nat × Int)) (σ : zS) : Prop := Q0 (Pp σ K.c) (Pp σ K.s) (Pp σ K.e) (Pp σ K.r) ∧ (lk H 341 = none → Qz (Pp σ K.r) (σ.1 K.f K.p).toInt) ∧ (∀ P, lk H 341 = some P → Qz (Pp σ K.r) (P + 1)) ∧ (∀ f e h w B N P, lk H 321 = some f → lk H 322 = some e → lk H 323 = some h → lk H 324 = some w → lk H 325 = some B → lk H 327 = some N → lk H 328 = some P → Q7 (Pp σ K.c) (Pp σ K.s) (Pp σ K.e) (Pp σ K.w) f e h w B N P) ∧ (∀ r, lk H 326 = some r → 0 ≤ r ∧ Qg (Pp σ K.c) (Pp σ K.s r.toNat) (Pp σ K.e r.toNat)) ∧ (∀ k t h, lk H 312 = some k → lk H 313 = some t → lk H 314 = some h → 0 ≤ k ∧ k ≤ t ∧ qrun (Pp σ K.c) (t - k).toNat k.toNat h ≠ none)
abbrev A7 : Type := AV × (AV × (AV × (AV × (AV × (AV × AV)))))
abbrev A7.f (a : A7) : AV := a.1
abbrev A7.e (a : A7) : AV := a.2.1
abbrev A7.h (a : A7) : AV := a.2.2.1
abbrev A7.w (a : A7) : AV := a.2.2.2.1
abbrev A7.b (a : A7) : AV := a.2.2.2.2.1
abbrev A7.n (a : A7) : AV := a.2.2.2.2.2.1
abbrev A7.q (a : A7) : AV := a.2.2.2.2.2.2
def qget (hl : List (Nat × AV)) : Option A7 := match lk hl 321, lk hl 322, lk hl 323, lk hl 324, lk hl 325, lk hl 327, lk hl 328 with
  | some f, some e, some h, some w, some b, some n, some q => some (f, (e, (h, (w, (b, (n, q))))))
  | _, _, _, _, _, _, _ => none
theorem hl_get {ρ : List Int} {hl : List (Nat × AV)} {H : List (Nat × Int)} (hh : Hl ρ hl H) {t : Nat} {a : AV} (h : lk hl t = some a) : ∃ z, lk H t = some z ∧ ev ρ a = some z := by
  rcases hh.lkp (t := t) with ⟨q, _⟩ | ⟨a', z, q, q', q''⟩
  · rw [h] at q; cases q
  · rw [h] at q; cases Option.some.inj q; exact ⟨z, q', q''⟩
theorem qget_ok {ρ : List Int} {hl : List (Nat × AV)} {H : List (Nat × Int)} (hh : Hl ρ hl H) {a : A7} (hg : qget hl = some a) : ∃ f e h w b n q : Int, (lk H 321 = some f ∧ ev ρ a.f = some f) ∧ (lk H 322 = some e ∧ ev ρ a.e = some e) ∧ (lk H 323 = some h ∧ ev ρ a.h = some h) ∧ (lk H 324 = some w ∧ ev ρ a.w = some w) ∧ (lk H 325 = some b ∧ ev ρ a.b = some b) ∧ (lk H 327 = some n ∧ ev ρ a.n = some n) ∧ (lk H 328 = some q ∧ ev ρ a.q = some q) := by
  unfold qget at hg
  split at hg
  · rename_i f' e' h' w' b' n' q' h1 h2 h3 h4 h5 h6 h7
    cases Option.some.inj hg
    obtain ⟨z1, a1⟩ := hl_get hh h1
    obtain ⟨z2, a2⟩ := hl_get hh h2
    obtain ⟨z3, a3⟩ := hl_get hh h3
    obtain ⟨z4, a4⟩ := hl_get hh h4
    obtain ⟨z5, a5⟩ := hl_get hh h5
    obtain ⟨z6, a6⟩ := hl_get hh h6
    obtain ⟨z7, a7⟩ := hl_get hh h7
    exact ⟨z1, z2, z3, z4, z5, z6, z7, a1, a2, a3, a4, a5, a6, a7⟩
  · cases hg
theorem q7_of {H : List (Nat × Int)} {Q : Int → Int → Int → Int → Int → Int → Int → Prop} {f e h w b n q : Int} (a1 : lk H 321 = some f) (a2 : lk H 322 = some e) (a3 : lk H 323 = some h) (a4 : lk H 324 = some w) (a5 : lk H 325 = some b) (a6 : lk H 327 = some n) (a7 : lk H 328 = some q) (hQ : Q f e h w b n q) : ∀ f e h w B N P, lk H 321 = some f → lk H 322 = some e → lk H 323 = some h → lk H 324 = some w → lk H 325 = some B → lk H 327 = some N → lk H 328 = some P → Q f e h w B N P := by
  intro f' e' h' w' b' n' q' c1 c2 c3 c4 c5 c6 c7
  rw [a1] at c1; rw [a2] at c2; rw [a3] at c3; rw [a4] at c4; rw [a5] at c5; rw [a6] at c6; rw [a7] at c7
  cases c1; cases c2; cases c3; cases c4; cases c5; cases c6; cases c7
  exact hQ
/-- three values with weights -/
def le3 (s : Sy) (x : Int) (a : AV) (y : Int) (b : AV) (z : Int) (c : AV) (k : Int) : Bool := leq s (tlin x (nf s a).1 (tlin y (nf s b).1 (tlin z (nf s c).1 []))) (k - x * (nf s a).2 - y * (nf s b).2 - z * (nf s c).2)
theorem le3_ok {J : Jt} {s : Sy} {ρ : List Int} {σ : zS} (ho : Ok J s ρ σ) {x y z k u v w : Int} {a b c : AV} (h : le3 s x a y b z c k = true) (ha : ev ρ a = some u) (hb : ev ρ b = some v) (hc : ev ρ c = some w) : x * u + y * v + z * w ≤ k := by
  obtain ⟨u', a1, a2⟩ := nf_ok ho ha
  obtain ⟨v', b1, b2⟩ := nf_ok ho hb
  obtain ⟨w', c1, c2⟩ := nf_ok ho hc
  have h1 := leq_ok ho h (tlin_ok (w := x) a1 (tlin_ok (w := y) b1 (tlin_ok (w := z) c1 (f := []) (v := 0) rfl)))
  rw [a2, b2, c2, Int.mul_add, Int.mul_add, Int.mul_add]
  omega
def qdel {α : Type} (hl : List (Nat × α)) : List (Nat × α) := hdel 321 (hdel 322 (hdel 323 (hdel 324 (hdel 325 (hdel 327 (hdel 328 hl))))))
theorem qdel_Hl {ρ : List Int} {hl : List (Nat × AV)} {H : List (Nat × Int)} (hh : Hl ρ hl H) : Hl ρ (qdel hl) (qdel H) := hh.del.del.del.del.del.del.del
theorem lk_qdel {H : List (Nat × Int)} {u : Nat} (hu : u < 321 ∨ 328 < u ∨ u = 326) : lk (qdel H) u = lk H u := by
  unfold qdel
  rw [lk_hdel, if_neg (by omega), lk_hdel, if_neg (by omega), lk_hdel, if_neg (by omega), lk_hdel, if_neg (by omega), lk_hdel, if_neg (by omega), lk_hdel, if_neg (by omega), lk_hdel, if_neg (by omega)]
theorem qtg_off {u : Nat} (h : qtg u = false) : (u < 321 ∨ 328 < u) ∧ u ≠ 341 := by
  have h : ((Nat.ble 312 u && Nat.ble u 314) || ((Nat.ble 321 u && Nat.ble u 328) || Nat.beq u 341)) = false := h
  rw [Bool.or_eq_false_iff, Bool.or_eq_false_iff] at h
  refine ⟨?_, beq_ne h.2.2⟩
  by_cases h1 : u < 321
  · exact Or.inl h1
  · by_cases h2 : 328 < u
    · exact Or.inr h2
    · have e : (Nat.ble 321 u && Nat.ble u 328) = true := by rw [Nat.ble_eq_true_of_le (by omega), Nat.ble_eq_true_of_le (by omega)]; rfl
      rw [e] at h
      cases h.2.1
def qw (K : QK) (s : Sy) (hl : List (Nat × AV)) (k : Nat) (p v : AV) : Option (List (Nat × AV)) :=
  bif Nat.beq k K.f then (match p with
    | .inr (.inl (.ofNat j)) => bif Nat.beq j K.p then (match lk hl 341 with
      | some a => bif leAV s (shA a 1) v then some (hdel 341 hl) else none
      | none => none) else some hl
    | _ => none)
  else bif Nat.beq k K.w then (match qget hl with
    | some a => bif leAV s a.w p then some hl else none
    | none => none)
  else match mget s.me K.f (.c (K.p : Int)), qget hl with
    | some g, some a => bif (g.isI && eqAV s g a.q) && (!(isS (lk hl 326)) && !(isS (lk hl 341))) then
        (bif Nat.beq k K.r then (bif eqAV s p a.q && (le3 s 30 a.q 1 v (-1) a.n 0 && le3 s 1 a.e (-1300) a.q 0 (.c 0) 1300) then some ((341, a.q) :: qdel hl) else none)
        else bif Nat.beq k K.c then (bif !(isS (lk hl 312)) && leAV s a.e p then some hl else none)
        else bif leAV s a.n p then some hl else none) else none
    | _, _ => none
def cr (K : QK) : Cp := (qtg, (qS K, (fun q => Nat.beq q K.c || (Nat.beq q K.s || (Nat.beq q K.e || (Nat.beq q K.r || (Nat.beq q K.w || Nat.beq q K.f)))), (qw K, nlw))))
theorem Pp_off {σ : zS} {k j k' : Nat} {x : Int32} (h : k' ≠ k) : Pp (zI σ k j x) k' = Pp σ k' := by
  funext y
  show ((zI σ k j x).1 k' y).toInt = _
  rw [zI_row h]
theorem Pp_lt {σ : zS} {k j : Nat} {x : Int32} {i : Nat} (h : i ≠ j) : Pp (zI σ k j x) k i = Pp σ k i := by
  show ((zI σ k j x).1 k i).toInt = _
  rw [zI_ne (by rintro ⟨_, q⟩; exact h q)]
section C23
variable {T : Jx} {G : Gl}
theorem cr_ok {K : QK} (d : (K.c ≠ K.s ∧ K.c ≠ K.e ∧ K.c ≠ K.r ∧ K.c ≠ K.w ∧ K.c ≠ K.f) ∧ (K.s ≠ K.e ∧ K.s ≠ K.r ∧ K.s ≠ K.w ∧ K.s ≠ K.f) ∧ (K.e ≠ K.r ∧ K.e ≠ K.w ∧ K.e ≠ K.f) ∧ (K.r ≠ K.w ∧ K.r ≠ K.f) ∧ K.w ≠ K.f) (hR : ∀ σ, Bd T G σ → ∀ q : Nat, q < 8 → Pp σ K.r q ≤ 30) : CpOk T G (cr K) := by
  apply CpOk.no (fun _ => rfl)
  obtain ⟨⟨cs, ce, cr', cw, cf⟩, ⟨se, sr, sw, sf⟩, ⟨er, ew, ef⟩, ⟨rw', rf⟩, wf⟩ := d
  have bb : ∀ k, Nat.beq k k = true := Nat.beq_refl
  refine ⟨fun u hu => ?_, fun H H' σ σ' h1 h2 hS => ?_, ?_⟩
  · by_cases h : u < 312
    · have h3 : qtg u = true := hu
      have h4 : ((Nat.ble 312 u && Nat.ble u 314) || ((Nat.ble 321 u && Nat.ble u 328) || Nat.beq u 341)) = true := h3
      simp only [Bool.or_eq_true, Bool.and_eq_true] at h4
      rcases h4 with ⟨h5, _⟩ | ⟨h5, _⟩ | h5
      · have := Nat.le_of_ble_eq_true h5; omega
      · have := Nat.le_of_ble_eq_true h5; omega
      · have := Nat.eq_of_beq_eq_true h5; omega
    · omega
  · have hS : qS K H σ := hS
    show qS K H' σ'
    have q0 : ∀ k, k = K.c ∨ k = K.s ∨ k = K.e ∨ k = K.r ∨ k = K.w ∨ k = K.f → (cr K).rw k = true := by
      intro k hk
      show (Nat.beq k K.c || (Nat.beq k K.s || (Nat.beq k K.e || (Nat.beq k K.r || (Nat.beq k K.w || Nat.beq k K.f))))) = true
      rcases hk with e | e | e | e | e | e <;> (rw [e, bb]; simp only [Bool.true_or, Bool.or_true])
    have rp : ∀ k, k = K.c ∨ k = K.s ∨ k = K.e ∨ k = K.r ∨ k = K.w ∨ k = K.f → Pp σ' k = Pp σ k := fun k hk => by
      funext y
      show (σ'.1 k y).toInt = _
      rw [h2 k (q0 k hk)]
    unfold qS at hS ⊢
    rw [rp K.c (by simp), rp K.s (by simp), rp K.e (by simp), rp K.r (by simp), rp K.w (by simp), h2 K.f (q0 K.f (by simp)), h1 321 rfl, h1 322 rfl, h1 323 rfl, h1 324 rfl, h1 325 rfl, h1 326 rfl, h1 327 rfl, h1 328 rfl, h1 312 rfl, h1 313 rfl, h1 314 rfl, h1 341 rfl]
    exact hS
  · intro s ρ σ k p v j x hl hl' H ho hb hp hi hv hx hr hw hh hS
    obtain ⟨s0, sz, s8, s7, s5, s6⟩ := (hS : qS K H σ)
    replace hw : qw K s hl k p v = some hl' := hw
    unfold qw at hw
    cases e1 : Nat.beq k K.f with
    | true =>
      have ek := Nat.eq_of_beq_eq_true e1
      subst ek
      rw [e1] at hw
      simp only [cond_true] at hw
      have rc : Pp (zI σ K.f j x) K.c = Pp σ K.c := Pp_off cf
      have rs : Pp (zI σ K.f j x) K.s = Pp σ K.s := Pp_off sf
      have re : Pp (zI σ K.f j x) K.e = Pp σ K.e := Pp_off ef
      have rr : Pp (zI σ K.f j x) K.r = Pp σ K.r := Pp_off rf
      have rw2 : Pp (zI σ K.f j x) K.w = Pp σ K.w := Pp_off wf
      split at hw
      · rename_i j0
        have ej : j0 = j := by
          have : ((j0 : Nat) : Int) = (j : Int) := Option.some.inj hp
          omega
        subst ej
        cases e2 : Nat.beq j0 K.p with
        | false =>
          rw [e2] at hw
          cases Option.some.inj hw
          have hnp : j0 ≠ K.p := beq_ne e2
          refine ⟨H, hh, ?_, fun _ _ => rfl⟩
          show qS K H (zI σ K.f j0 x)
          unfold qS
          rw [rc, rs, re, rr, rw2, zI_ne (j' := K.p) (by rintro ⟨_, q⟩; exact hnp q.symm)]
          exact ⟨s0, sz, s8, s7, s5, s6⟩
        | true =>
          have ejp := Nat.eq_of_beq_eq_true e2
          subst ejp
          rw [e2] at hw
          simp only [cond_true] at hw
          split at hw
          · rename_i a ha
            cases hb2 : leAV s (shA a 1) v with
            | false => rw [hb2] at hw; cases hw
            | true =>
              rw [hb2] at hw
              cases Option.some.inj hw
              obtain ⟨zp, p1, p2⟩ := hl_get hh ha
              have hle := leAV_ok ho hb2 (shA_ev p2) hx
              have h8 := s8 zp p1
              have off : ∀ u, u ≠ 341 → lk (hdel 341 H) u = lk H u := fun u hu => by rw [lk_hdel, if_neg hu]
              refine ⟨hdel 341 H, hh.del, ?_, fun u hu => off u (qtg_off hu).2⟩
              show qS K (hdel 341 H) (zI σ K.f K.p x)
              unfold qS
              rw [rc, rs, re, rr, rw2, zI_at, off 321 (by decide), off 322 (by decide), off 323 (by decide), off 324 (by decide), off 325 (by decide), off 326 (by decide), off 327 (by decide), off 328 (by decide), off 312 (by decide), off 313 (by decide), off 314 (by decide)]
              refine ⟨s0, fun _ q h3 h4 => h8 q h3 (by omega), fun P q => ?_, s7, s5, s6⟩
              rw [lk_hdel, if_pos rfl] at q
              cases q
          · cases hw
      · cases hw
    | false =>
      rw [e1] at hw
      simp only [cond_false] at hw
      have nF : k ≠ K.f := beq_ne e1
      have rF : (zI σ k j x).1 K.f = σ.1 K.f := zI_row nF.symm
      cases e2 : Nat.beq k K.w with
      | true =>
        have ek := Nat.eq_of_beq_eq_true e2
        subst ek
        rw [e2] at hw
        simp only [cond_true] at hw
        split at hw
        · rename_i a hg
          cases hb2 : leAV s a.w p with
          | false => rw [hb2] at hw; cases hw
          | true =>
            rw [hb2] at hw
            cases Option.some.inj hw
            obtain ⟨zf, ze, zh, zw, zb, zn, zq, a1, a2, a3, a4, a5, a6, a7⟩ := qget_ok hh hg
            have hle := leAV_ok ho hb2 a4.2 hp
            have h7 := s7 zf ze zh zw zb zn zq a1.1 a2.1 a3.1 a4.1 a5.1 a6.1 a7.1
            refine ⟨H, hh, ?_, fun _ _ => rfl⟩
            show qS K H (zI σ K.w j x)
            unfold qS
            rw [Pp_off cw, Pp_off sw, Pp_off ew, Pp_off rw', rF]
            exact ⟨s0, sz, s8, q7_of a1.1 a2.1 a3.1 a4.1 a5.1 a6.1 a7.1 (Q7_wt h7 (fun i hi => Pp_lt (by omega))), s5, s6⟩
        · cases hw
      | false =>
        rw [e2] at hw
        simp only [cond_false] at hw
        have nw : k ≠ K.w := beq_ne e2
        split at hw
        · rename_i g a hm hg
          obtain ⟨zf, ze, zh, zw, zb, zn, zq, a1, a2, a3, a4, a5, a6, a7⟩ := qget_ok hh hg
          have h7 := s7 zf ze zh zw zb zn zq a1.1 a2.1 a3.1 a4.1 a5.1 a6.1 a7.1
          cases hb2 : (g.isI && eqAV s g a.q) && (!(isS (lk hl 326)) && !(isS (lk hl 341))) with
          | false => rw [hb2] at hw; cases hw
          | true =>
            rw [hb2] at hw
            simp only [cond_true] at hw
            simp only [Bool.and_eq_true] at hb2
            obtain ⟨⟨b1, b2⟩, b3, b4⟩ := hb2
            have eg := me_at ho hm (j := K.p) rfl b1
            have c2 := eqAV_ok ho b2 eg a7.2
            have n326 := lk_no hh b3
            have n341 := lk_no hh b4
            have hz := sz n341
            rw [c2] at hz
            cases e4 : Nat.beq k K.r with
            | true =>
              have ek := Nat.eq_of_beq_eq_true e4
              subst ek
              rw [e4] at hw
              simp only [cond_true] at hw
              cases hb3 : eqAV s p a.q && (le3 s 30 a.q 1 v (-1) a.n 0 && le3 s 1 a.e (-1300) a.q 0 (.c 0) 1300) with
              | false => rw [hb3] at hw; cases hw
              | true =>
                rw [hb3] at hw
                cases Option.some.inj hw
                simp only [Bool.and_eq_true] at hb3
                have c3 := eqAV_ok ho hb3.1 hp a7.2
                have c4 := le3_ok ho hb3.2.1 a7.2 hx a6.2
                have c5 := le3_ok ho hb3.2.2 a2.2 a7.2 (w := 0) rfl
                have off : ∀ u, u < 321 ∨ (328 < u ∧ u ≠ 341) ∨ u = 326 → lk ((341, zq) :: qdel H) u = lk H u := fun u hu => by
                  rw [lk_cons, if_neg (by omega), lk_qdel (by omega)]
                refine ⟨(341, zq) :: qdel H, ⟨⟨rfl, a7.2⟩, qdel_Hl hh⟩, ?_, fun u hu => off u (by have := qtg_off hu; omega)⟩
                show qS K ((341, zq) :: qdel H) (zI σ K.r j x)
                unfold qS
                rw [Pp_off cr', Pp_off sr, Pp_off er, Pp_off rw'.symm, rF, off 326 (by omega), off 312 (by omega), off 313 (by omega), off 314 (by omega)]
                have hat : Pp (zI σ K.r j x) K.r j = x.toInt := by
                  show ((zI σ K.r j x).1 K.r j).toInt = _
                  rw [zI_at]
                refine ⟨Q0_next s0 h7 (fun q hq => Pp_lt hq) hat (by omega) (by omega) (by omega), fun q => ?_, fun P q => ?_, fun f e h w B N P q => ?_, s5, s6⟩
                · rw [lk_cons, if_pos rfl] at q
                  cases q
                · rw [lk_cons, if_pos rfl] at q
                  cases q
                  exact Qz_next hz (fun q hq => Pp_lt hq) (by omega)
                · rw [lk_cons, if_neg (by decide)] at q
                  unfold qdel at q
                  rw [lk_hdel, if_pos rfl] at q
                  cases q
            | false =>
              rw [e4] at hw
              simp only [cond_false] at hw
              have nr : k ≠ K.r := beq_ne e4
              cases e5 : Nat.beq k K.c with
              | true =>
                have ek := Nat.eq_of_beq_eq_true e5
                subst ek
                rw [e5] at hw
                simp only [cond_true] at hw
                cases hb3 : !(isS (lk hl 312)) && leAV s a.e p with
                | false => rw [hb3] at hw; cases hw
                | true =>
                  rw [hb3] at hw
                  cases Option.some.inj hw
                  rw [Bool.and_eq_true] at hb3
                  have n312 := lk_no hh hb3.1
                  have hle := leAV_ok ho hb3.2 a2.2 hp
                  have hP := h7.1
                  refine ⟨H, hh, ?_, fun _ _ => rfl⟩
                  show qS K H (zI σ K.c j x)
                  unfold qS
                  rw [Pp_off cs.symm, Pp_off ce.symm, Pp_off cr'.symm, Pp_off cw.symm, rF]
                  exact ⟨Q0_cd s0 hz (fun i hi => Pp_lt (by omega)), sz, s8, q7_of a1.1 a2.1 a3.1 a4.1 a5.1 a6.1 a7.1 (Q7_cd h7 (fun i hi => Pp_lt (by omega))), fun r q => (by rw [n326] at q; cases q), fun k t h q => (by rw [n312] at q; cases q)⟩
              | false =>
                rw [e5] at hw
                simp only [cond_false] at hw
                have nc : k ≠ K.c := beq_ne e5
                cases hb3 : leAV s a.n p with
                | false => rw [hb3] at hw; cases hw
                | true =>
                  rw [hb3] at hw
                  cases Option.some.inj hw
                  have hle := leAV_ok ho hb3 a6.2 hp
                  have hN := h7.2.1.1
                  have hse : ∀ i : Nat, (i : Int) < zn → Pp (zI σ k j x) K.s i = Pp σ K.s i ∧ Pp (zI σ k j x) K.e i = Pp σ K.e i := by
                    intro i hi
                    have hij : i ≠ j := by omega
                    constructor
                    · show ((zI σ k j x).1 K.s i).toInt = _
                      rw [zI_ne (by rintro ⟨_, q⟩; exact hij q)]
                    · show ((zI σ k j x).1 K.e i).toInt = _
                      rw [zI_ne (by rintro ⟨_, q⟩; exact hij q)]
                  refine ⟨H, hh, ?_, fun _ _ => rfl⟩
                  show qS K H (zI σ k j x)
                  unfold qS
                  rw [Pp_off nc.symm, Pp_off nr.symm, Pp_off nw.symm, rF]
                  exact ⟨Q0_fr s0 hz (hR σ hb) (fun i hi => hse i (by omega)), sz, s8, q7_of a1.1 a2.1 a3.1 a4.1 a5.1 a6.1 a7.1 (Q7_fr h7 hse), fun r q => (by rw [n326] at q; cases q), s6⟩
        · cases hw
end C23
end
