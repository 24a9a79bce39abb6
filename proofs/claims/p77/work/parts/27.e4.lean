noncomputable section
/-! ===== STATES, 5: reckoning ===== -/
def fit32 (d : Dom) : Bool := ile (-2147483648) (dlo d) && ile (dhi d) 2147483647
theorem fit32_in {d : Dom} {x : Int} (h : fit32 d = true) (hx : inD x d) : -2147483648 ≤ x ∧ x ≤ 2147483647 := by
  simp only [fit32, Bool.and_eq_true, ile_iff] at h
  have := dlo_le hx
  have := le_dhi hx
  omega
theorem bm32 {n : Int} (h : -2147483648 ≤ n ∧ n ≤ 2147483647) : n.bmod (2 ^ 32) = n := by
  rw [Int.bmod_eq_of_le_mul_two] <;> omega
theorem bm64 {n : Int} (h : -9223372036854775808 ≤ n ∧ n ≤ 9223372036854775807) : n.bmod (2 ^ 64) = n := by
  rw [Int.bmod_eq_of_le_mul_two] <;> omega
def few (d : Dom) : Dom := match d with
  | [] => []
  | [p] => [p]
  | [p, q] => [p, q]
  | d => [(dlo d, dhi d)]
theorem few_in {d : Dom} {x : Int} (h : inD x d) : inD x (few d) := by
  unfold few
  split
  · exact h
  · exact h
  · exact h
  · exact ⟨_, List.mem_cons_self .., dlo_le h, le_dhi h⟩
/-- the number that is this sum, if there is one -/
def dfnd : List (Nat × (Lf × Int)) → Lf → Option (Nat × Int)
  | [], _ => none
  | e :: r, g => bif allz (tlin (-1) g e.2.1) then some (e.1, e.2.2) else dfnd r g
theorem dfnd_ok {g : Lf} {id : Nat} {k : Int} : ∀ {l : List (Nat × (Lf × Int))}, dfnd l g = some (id, k) → ∃ f, (id, (f, k)) ∈ l ∧ allz (tlin (-1) g f) = true
  | [], h => by cases h
  | e :: r, h => by
    unfold dfnd at h
    cases hb : allz (tlin (-1) g e.2.1) with
    | true =>
      rw [hb] at h
      simp only [cond_true, Option.some.injEq, Prod.mk.injEq] at h
      obtain ⟨h1, h2⟩ := h
      subst h1; subst h2
      exact ⟨e.2.1, List.mem_cons_self .., hb⟩
    | false =>
      rw [hb] at h
      obtain ⟨f, h1, h2⟩ := dfnd_ok h
      exact ⟨f, List.mem_cons_of_mem _ h1, h2⟩
def avn (lg : Bool) (id : Nat) (o : Int) : AV := bif lg then .l id o else .i id o
/-- a value that is the sum f and k, in d -/
def Sy.lin (s : Sy) (lg : Bool) (f : Lf) (k : Int) (d : Dom) : Sy × AV := match nonz f with
  | [] => (s, bif lg then .k k else .c k)
  | [(id, w)] => bif ile w 1 && ile 1 w then (s, avn lg id k) else (match dfnd s.df [(id, w)] with
      | some (j, k') => (s, avn lg j (k - k'))
      | none => ((s.nx + 1, ((s.nx, d) :: s.env, (s.me, (s.cg, ((s.nx, ([(id, w)], k)) :: s.df, (s.fa, s.hl)))))), avn lg s.nx 0))
  | g => match dfnd s.df g with
      | some (j, k') => (s, avn lg j (k - k'))
      | none => ((s.nx + 1, ((s.nx, d) :: s.env, (s.me, (s.cg, ((s.nx, (g, k)) :: s.df, (s.fa, s.hl)))))), avn lg s.nx 0)
section R5
variable {J : Jt} {s : Sy} {ρ : List Int} {σ : zS}
theorem avn_ev {lg : Bool} {id : Nat} {o x : Int} (h : ρ[id]? = some x) : ev ρ (avn lg id o) = some (x + o) := by
  cases lg <;> simp only [avn, cond_true, cond_false, ev, h]
theorem avn_I {lg : Bool} {id : Nat} {o : Int} : (avn lg id o).isL = lg ∧ (avn lg id o).isI = !lg := by
  cases lg <;> exact ⟨rfl, rfl⟩
theorem new_df (h : Ok J s ρ σ) {g : Lf} {k x v : Int} {d : Dom} (hv : tvo ρ g = some v) (hx : x = v + k) (hd : inD x d) : Ok J (s.nx + 1, ((s.nx, d) :: s.env, (s.me, (s.cg, ((s.nx, (g, k)) :: s.df, (s.fa, s.hl)))))) (ρ ++ [x]) σ := by
  have h0 := h.new hd
  refine ⟨h0.len, h0.env, h0.me, h0.cg, fun e he => ?_, h0.fa, h0.inv⟩
  rcases List.mem_cons.mp he with rfl | he
  · exact ⟨x, v, h.new_at, tvo.mono Pre.one hv, hx⟩
  · exact h0.df e he
theorem lin_ok (h : Ok J s ρ σ) {lg : Bool} {f : Lf} {k x v : Int} {d : Dom} (hv : tvo ρ f = some v) (hx : x = v + k) (hd : inD x d) : ∃ ρ', Pre ρ ρ' ∧ Ok J (s.lin lg f k d).1 ρ' σ ∧ ((s.lin lg f k d).2.isL = lg ∧ (s.lin lg f k d).2.isI = !lg) ∧ ev ρ' (s.lin lg f k d).2 = some x := by
  have hn := nonz_ok hv
  have gen : ∀ g : Lf, tvo ρ g = some v → ∃ ρ', Pre ρ ρ' ∧ Ok J (match dfnd s.df g with
      | some (j, k') => (s, avn lg j (k - k'))
      | none => ((s.nx + 1, ((s.nx, d) :: s.env, (s.me, (s.cg, ((s.nx, (g, k)) :: s.df, (s.fa, s.hl)))))), avn lg s.nx 0)).1 ρ' σ ∧ ((match dfnd s.df g with
      | some (j, k') => (s, avn lg j (k - k'))
      | none => ((s.nx + 1, ((s.nx, d) :: s.env, (s.me, (s.cg, ((s.nx, (g, k)) :: s.df, (s.fa, s.hl)))))), avn lg s.nx 0)).2.isL = lg ∧ (match dfnd s.df g with
      | some (j, k') => (s, avn lg j (k - k'))
      | none => ((s.nx + 1, ((s.nx, d) :: s.env, (s.me, (s.cg, ((s.nx, (g, k)) :: s.df, (s.fa, s.hl)))))), avn lg s.nx 0)).2.isI = !lg) ∧ ev ρ' (match dfnd s.df g with
      | some (j, k') => (s, avn lg j (k - k'))
      | none => ((s.nx + 1, ((s.nx, d) :: s.env, (s.me, (s.cg, ((s.nx, (g, k)) :: s.df, (s.fa, s.hl)))))), avn lg s.nx 0)).2 = some x := by
    intro g hg
    cases hf : dfnd s.df g with
    | some q =>
      obtain ⟨j, k'⟩ := q
      obtain ⟨f', h1, h2⟩ := dfnd_ok hf
      obtain ⟨y, w, g1, g2, g3⟩ := h.df _ h1
      have hz := allz_ok h2 (tlin_ok (w := -1) hg g2)
      dsimp only at g1 g3 ⊢
      refine ⟨ρ, Pre.rf, h, avn_I, ?_⟩
      rw [avn_ev g1]
      exact congrArg some (by omega)
    | none =>
      dsimp only
      refine ⟨ρ ++ [x], Pre.one, new_df h hg hx hd, avn_I, ?_⟩
      rw [avn_ev h.new_at]
      exact congrArg some (by omega)
  unfold Sy.lin
  generalize nonz f = g at hn
  rcases g with _ | ⟨⟨id, w⟩, _ | ⟨t, r⟩⟩
  · dsimp only
    have h0 := Option.some.inj hn
    cases lg
    · exact ⟨ρ, Pre.rf, h, ⟨rfl, rfl⟩, congrArg some (by omega)⟩
    · exact ⟨ρ, Pre.rf, h, ⟨rfl, rfl⟩, congrArg some (by omega)⟩
  · dsimp only
    cases h1 : ile w 1 && ile 1 w with
    | true =>
      rw [Bool.and_eq_true] at h1
      have hw : w = 1 := ile_eq h1
      simp only [cond_true]
      simp only [tvo] at hn
      cases hr : ρ[id]? with
      | none => rw [hr] at hn; cases hn
      | some y =>
        rw [hr] at hn
        have hn := Option.some.inj hn
        refine ⟨ρ, Pre.rf, h, avn_I, ?_⟩
        rw [avn_ev hr]
        rw [hw] at hn
        exact congrArg some (by omega)
    | false =>
      simp only [cond_false]
      exact gen _ hn
  · exact gen _ hn
/-- a sum with a constant in an int -/
def inS (s : Sy) (f : Lf) (k l u : Int) : Bool := leq s f (u - k) && leq s (tlin (-1) f []) (k - l)
theorem inS_ok (h : Ok J s ρ σ) {f : Lf} {k l u v : Int} (hs : inS s f k l u = true) (hv : tvo ρ f = some v) : l ≤ v + k ∧ v + k ≤ u := by
  unfold inS at hs
  rw [Bool.and_eq_true] at hs
  have h1 := leq_ok h hs.1 hv
  have h2 := leq_ok h hs.2 (neg_tvo hv)
  omega
def dmm (f : Int × Int → Int × Int → Int × Int) (a b : Dom) : Dom := dmap2 f (few a) (few b)
/-- a and w times b: an int -/
def Sy.sumI (s : Sy) (a b : AV) (w : Int) (d : Dom) : Sy × AV :=
  bif fit32 d then s.lin false (tlin w (nf s b).1 (nf s a).1) ((nf s a).2 + w * (nf s b).2) d
  else bif inS s (tlin w (nf s b).1 (nf s a).1) ((nf s a).2 + w * (nf s b).2) (-2147483648) 2147483647 then s.lin false (tlin w (nf s b).1 (nf s a).1) ((nf s a).2 + w * (nf s b).2) T32
  else s.newI T32
theorem sumI_ok (h : Ok J s ρ σ) {a b : AV} {w x y : Int} {z : Int32} {d : Dom} (hx : ev ρ a = some x) (hy : ev ρ b = some y) (hd : inD (x + w * y) d) (hz : -2147483648 ≤ x + w * y ∧ x + w * y ≤ 2147483647 → z.toInt = x + w * y) : ∃ ρ', Pre ρ ρ' ∧ Ok J (s.sumI a b w d).1 ρ' σ ∧ (s.sumI a b w d).2.isI = true ∧ ev ρ' (s.sumI a b w d).2 = some z.toInt := by
  obtain ⟨u, a1, a2⟩ := nf_ok h hx
  obtain ⟨t, b1, b2⟩ := nf_ok h hy
  have hv := tlin_ok (w := w) b1 a1
  have hs : x + w * y = (u + w * t) + ((nf s a).2 + w * (nf s b).2) := by
    rw [a2, b2, Int.mul_add]
    omega
  unfold Sy.sumI
  cases h1 : fit32 d with
  | true =>
    simp only [cond_true]
    have hr := fit32_in h1 hd
    obtain ⟨ρ', g1, g2, g3, g4⟩ := lin_ok (lg := false) h hv hs hd
    exact ⟨ρ', g1, g2, g3.2, by rw [hz hr]; exact g4⟩
  | false =>
    simp only [cond_false]
    cases h2 : inS s (tlin w (nf s b).1 (nf s a).1) ((nf s a).2 + w * (nf s b).2) (-2147483648) 2147483647 with
    | true =>
      simp only [cond_true]
      have hr := inS_ok h h2 hv
      rw [← hs] at hr
      obtain ⟨ρ', g1, g2, g3, g4⟩ := lin_ok (lg := false) h hv hs (d := T32) ⟨_, List.mem_cons_self .., hr.1, hr.2⟩
      exact ⟨ρ', g1, g2, g3.2, by rw [hz hr]; exact g4⟩
    | false => exact newI_ok h (in32 z)
end R5
end
