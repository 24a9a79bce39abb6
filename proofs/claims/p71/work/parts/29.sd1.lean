section
noncomputable section
/-! ===== THE GUARD, 81: rows taken one behind another, all over one denominator ===== -/
def smG : Nat → (Nat → Int) → Int
  | 0, _ => 0
  | k + 1, f => smG k f + f k
section G81
theorem sm_cong (k : Nat) (f g : Nat → Int) (h : ∀ r, r < k → f r = g r) : smG k f = smG k g := by
  induction k with
  | zero => rfl
  | succ k ih => show smG k f + f k = smG k g + g k; rw [ih (fun r hr => h r (by omega)), h k (by omega)]
theorem sm_add (k : Nat) (f g : Nat → Int) : smG k (fun r => f r + g r) = smG k f + smG k g := by
  induction k with
  | zero => rfl
  | succ k ih => show smG k (fun r => f r + g r) + (f k + g k) = (smG k f + f k) + (smG k g + g k); rw [ih]; omega
theorem sm_mul (k : Nat) (a : Int) (f : Nat → Int) : smG k (fun r => a * f r) = a * smG k f := by
  induction k with
  | zero => show (0 : Int) = a * 0; omega
  | succ k ih => show smG k (fun r => a * f r) + a * f k = a * (smG k f + f k); rw [ih, Int.mul_add]
theorem sm_sub (k : Nat) (f g : Nat → Int) : smG k (fun r => f r - g r) = smG k f - smG k g := by
  induction k with
  | zero => rfl
  | succ k ih => show smG k (fun r => f r - g r) + (f k - g k) = (smG k f + f k) - (smG k g + g k); rw [ih]; omega
theorem sm_zero (k : Nat) (f : Nat → Int) (h : ∀ r, r < k → f r = 0) : smG k f = 0 := by
  induction k with
  | zero => rfl
  | succ k ih => show smG k f + f k = 0; rw [ih (fun r hr => h r (by omega)), h k (by omega)]; rfl
theorem sm_one (k : Nat) (f : Nat → Int) (r : Nat) (hr : r < k) (h : ∀ s, s < k → s ≠ r → f s = 0) : smG k f = f r := by
  induction k with
  | zero => omega
  | succ k ih =>
    show smG k f + f k = f r
    by_cases e : k = r
    · subst e; rw [sm_zero k f (fun s hs => h s (by omega) (by omega))]; omega
    · rw [ih (by omega) (fun s hs => h s (by omega)), h k (by omega) e]; omega
theorem sm_swap (k n : Nat) (f : Nat → Nat → Int) : smG k (fun r => smG n (fun i => f r i)) = smG n (fun i => smG k (fun r => f r i)) := by
  induction k with
  | zero => exact (sm_zero n (fun i => smG 0 (fun r => f r i)) (fun i _ => rfl)).symm
  | succ k ih =>
    show smG k (fun r => smG n (fun i => f r i)) + smG n (fun i => f k i) = smG n (fun i => smG k (fun r => f r i) + f k i)
    rw [ih, sm_add]
/-- a form's linear part as a sum -/
theorem lin_sum (T : (Nat → Int) → Int) (hT : ∀ (a e : Int) (x y : Nat → Int), T (fun i => a * x i + e * y i) = a * T x + e * T y) (k : Nat) (b : Nat → Int) (z : Nat → Nat → Int) : T (fun i => smG k (fun s => b s * z s i)) = smG k (fun s => b s * T (z s)) := by
  induction k with
  | zero =>
    show T (fun _ => 0) = 0
    have h := hT 0 0 (fun _ => 0) (fun _ => 0)
    simpa using h
  | succ k ih =>
    show T (fun i => smG k (fun s => b s * z s i) + b k * z k i) = smG k (fun s => b s * T (z s)) + b k * T (z k)
    have h := hT 1 (b k) (fun i => smG k (fun s => b s * z s i)) (z k)
    have e : (fun i => smG k (fun s => b s * z s i) + b k * z k i) = (fun i => 1 * smG k (fun s => b s * z s i) + b k * z k i) := by funext i; omega
    rw [e, h, ih]; omega
end G81
/-- v: the rows that were taken, q: the places where they lead, d: what all is over, B: the rows as they are kept -/
def GI (k : Nat) (v : Nat → Nat → Int) (q : Nat → Nat) (d : Int) (B : Nat → Nat → Int) : Prop :=
  d ≠ 0 ∧ d = Fg k k (fun r i => v i (q r)) (topG k) ∧ (∀ c i, i < k → d * v i c = smG k (fun r => B r c * v i (q r))) ∧ (∀ r, r < k → ∀ s, s < k → B r (q s) = if r = s then d else 0) ∧ (∀ i, i < k → ∀ c, v i c = 0 ∨ v i c = 1)
def lfG (k : Nat) (q : Nat → Nat) (d : Int) (B : Nat → Nat → Int) (w : Nat → Int) (c : Nat) : Int := d * w c - smG k (fun r => w (q r) * B r c)
section G81b
variable {k : Nat} {v : Nat → Nat → Int} {q : Nat → Nat} {d : Int} {B : Nat → Nat → Int} {w : Nat → Int}
theorem GI_rep (n : Nat) (f : Nat → Nat → Int) (r s k : Nat) (hr : r < k) (hs : s < k) (h : r ≠ s) (z : Nat → Int) (hz : ∀ i, i < n → z i = f s i) (l : List Bool) : Fg n k (updG f r z) l = 0 := by
  have e1 : updG f r z r = z := by simp [updG]
  have e2 : updG f r z s = f s := by simp only [updG]; rw [if_neg (by omega)]
  by_cases e : r < s
  · exact Fg_eq n _ r s k e hs (fun i hi => by rw [e1, e2]; exact hz i hi) l
  · exact Fg_eq n _ s r k (by omega) hr (fun i hi => by rw [e1, e2]; exact (hz i hi).symm) l
theorem upd_same (f : Nat → Nat → Int) (r : Nat) : updG f r (f r) = f := by
  funext s; simp only [updG]; by_cases e : s = r
  · rw [if_pos e, e]
  · rw [if_neg e]
/-- what is kept is a determinant -/
theorem GI_det (h : GI k v q d B) (r : Nat) (hr : r < k) (c : Nat) : B r c = Fg k k (updG (fun r i => v i (q r)) r (fun i => v i c)) (topG k) := by
  rcases h with ⟨h1, h2, h3, h4, h5⟩
  have hT : ∀ (a e : Int) (x y : Nat → Int), Fg k k (updG (fun r i => v i (q r)) r (fun i => a * x i + e * y i)) (topG k) = a * Fg k k (updG (fun r i => v i (q r)) r x) (topG k) + e * Fg k k (updG (fun r i => v i (q r)) r y) (topG k) :=
    fun a e x y => Fg_upd_lin k (fun r i => v i (q r)) r a e x y k hr (topG k)
  have e1 := hT d 0 (fun i => v i c) (fun _ => 0)
  have e2 := lin_sum (fun x => Fg k k (updG (fun r i => v i (q r)) r x) (topG k)) hT k (fun s => B s c) (fun s i => v i (q s))
  have e3 : Fg k k (updG (fun r i => v i (q r)) r (fun i => d * v i c + 0 * 0)) = Fg k k (updG (fun r i => v i (q r)) r (fun i => smG k (fun s => B s c * v i (q s)))) :=
    Fg_cong k k _ _ (fun s hs i hi => by
      simp only [updG]
      by_cases e : s = r
      · rw [if_pos e, if_pos e]; have := h3 c i hi; omega
      · rw [if_neg e, if_neg e])
  have e4 : smG k (fun s => B s c * Fg k k (updG (fun r i => v i (q r)) r (fun i => v i (q s))) (topG k)) = B r c * d := by
    rw [sm_one k _ r hr (fun s hs hn => by
      rw [GI_rep k (fun r i => v i (q r)) r s k hr hs (fun e => hn e.symm) (fun i => v i (q s)) (fun i _ => rfl), Int.mul_zero])]
    rw [upd_same (fun r i => v i (q r)) r, ← h2]
  have e5 : d * Fg k k (updG (fun r i => v i (q r)) r (fun i => v i c)) (topG k) = d * B r c := by
    have t1 : Fg k k (updG (fun r i => v i (q r)) r (fun i => d * v i c + 0 * 0)) (topG k) = smG k (fun s => B s c * Fg k k (updG (fun r i => v i (q r)) r (fun i => v i (q s))) (topG k)) := by rw [e3]; exact e2
    rw [e4] at t1
    rw [t1] at e1
    rw [Int.mul_comm d (B r c)]
    omega
  exact (Int.eq_of_mul_eq_mul_left h1 e5).symm
theorem GI_small (h : GI k v q d B) (hk : k ≤ 20) (r : Nat) (hr : r < k) (c : Nat) : -134217728 < B r c ∧ B r c < 134217728 := by
  rw [GI_det h r hr c]
  exact det_small k hk _ (fun s hs i hi => by
    simp only [updG]; by_cases e : s = r
    · rw [if_pos e]; exact h.2.2.2.2 i hi c
    · rw [if_neg e]; exact h.2.2.2.2 i hi _)
theorem GI_dsmall (h : GI k v q d B) (hk : k ≤ 20) : -134217728 < d ∧ d < 134217728 := by
  rw [h.2.1]
  exact det_small k hk _ (fun s hs i hi => h.2.2.2.2 i hi _)
/-- nothing is left where one leads -/
theorem lf_lead (h : GI k v q d B) (s : Nat) (hs : s < k) : lfG k q d B w (q s) = 0 := by
  show d * w (q s) - smG k (fun r => w (q r) * B r (q s)) = 0
  rw [sm_one k _ s hs (fun r hr hn => by rw [h.2.2.2.1 r hr s hs, if_neg hn, Int.mul_zero]), h.2.2.2.1 s hs s hs, if_pos rfl, Int.mul_comm]
  omega
/-- the rows with one more -/
def vG (k : Nat) (v : Nat → Nat → Int) (w : Nat → Int) : Nat → Nat → Int := fun i => if i = k then w else v i
def uG (k : Nat) : Nat → Int := fun i => if i = k then 1 else 0
theorem key_vec (h : GI k v q d B) (x i : Nat) (hi : i < k + 1) : d * vG k v w i x = smG k (fun s => B s x * vG k v w i (q s)) + lfG k q d B w x * uG k i := by
  simp only [vG, uG]
  by_cases e : i = k
  · subst e
    simp only [if_pos]
    show d * w x = smG i (fun s => B s x * w (q s)) + (d * w x - smG i (fun r => w (q r) * B r x)) * 1
    rw [sm_cong i (fun s => B s x * w (q s)) (fun r => w (q r) * B r x) (fun r _ => Int.mul_comm _ _)]; omega
  · simp only [if_neg e]
    rw [h.2.2.1 x i (by omega)]; omega
/-- a vector times what is there, in the rows' own terms -/
theorem key_W (h : GI k v q d B) (x : Nat) (f : List Bool → Int) (l : List Bool) : d * Wg (k + 1) (fun i => vG k v w i x) f l = smG k (fun s => B s x * Wg (k + 1) (fun i => vG k v w i (q s)) f l) + lfG k q d B w x * Wg (k + 1) (uG k) f l := by
  have e1 := Wg_lin2 (k + 1) d 0 (fun i => vG k v w i x) (fun _ => 0) f l
  have e2 := lin_sum (fun z => Wg (k + 1) z f l) (fun a e x y => Wg_lin2 (k + 1) a e x y f l) k (fun s => B s x) (fun s i => vG k v w i (q s))
  have e3 := Wg_lin2 (k + 1) 1 (lfG k q d B w x) (fun i => smG k (fun s => B s x * vG k v w i (q s))) (uG k) f l
  have e4 : Wg (k + 1) (fun i => d * vG k v w i x + 0 * 0) f l = Wg (k + 1) (fun i => 1 * smG k (fun s => B s x * vG k v w i (q s)) + lfG k q d B w x * uG k i) f l :=
    Wg_cong (k + 1) _ _ (fun i hi => by have := key_vec (w := w) h x i hi; omega) f l
  rw [e4, e3, e2] at e1
  omega
theorem Wu_top (k : Nat) (f : List Bool → Int) : Wg (k + 1) (uG k) f (topG (k + 1)) = f (false :: topG k) :=
  Wg_unit k (uG k) (by simp [uG]) (fun i hi => by simp only [uG]; rw [if_neg (by omega)]) f (topG k)
theorem Fg_low (k : Nat) (f g : Nat → Nat → Int) (h : ∀ r, r < k → ∀ i, i < k → f r i = g r i) : Fg (k + 1) k f (false :: topG k) = Fg k k g (topG k) := by
  rw [congrFun (Fg_false k k f) (topG k), Fg_cong k k f g h]
theorem vG_lt (i x : Nat) (hi : i < k) : vG k v w i x = v i x := by simp only [vG]; rw [if_neg (by omega)]
/-- what is left is a determinant, one wider -/
theorem lf_det (h : GI k v q d B) (c : Nat) : Wg (k + 1) (fun i => vG k v w i c) (Fg (k + 1) k (fun r i => vG k v w i (q r))) (topG (k + 1)) = lfG k q d B w c := by
  have e1 := key_W (w := w) h c (Fg (k + 1) k (fun r i => vG k v w i (q r))) (topG (k + 1))
  rw [sm_zero k _ (fun s hs => by rw [Fg_rep (k + 1) (fun r i => vG k v w i (q r)) s k hs, Int.mul_zero]), Wu_top, Fg_low k _ (fun r i => v i (q r)) (fun r hr i hi => vG_lt i (q r) hi), ← h.2.1] at e1
  exact Int.eq_of_mul_eq_mul_left h.1 (by rw [e1]; rw [Int.mul_comm]; omega)
theorem lf_small (h : GI k v q d B) (hk : k < 20) (hw : ∀ c, w c = 0 ∨ w c = 1) (c : Nat) : -134217728 < lfG k q d B w c ∧ lfG k q d B w c < 134217728 := by
  rw [← lf_det h c]
  have e : Wg (k + 1) (fun i => vG k v w i c) (Fg (k + 1) k (fun r i => vG k v w i (q r))) = Fg (k + 1) (k + 1) (updG (fun r i => vG k v w i (q r)) k (fun i => vG k v w i c)) := by
    funext l
    show _ = Wg (k + 1) (updG (fun r i => vG k v w i (q r)) k (fun i => vG k v w i c) k) (Fg (k + 1) k (updG (fun r i => vG k v w i (q r)) k (fun i => vG k v w i c))) l
    rw [Fg_upd_ge (k + 1) k k _ _ (Nat.le_refl k)]
    simp only [updG, if_pos]
  rw [e]
  have hv : ∀ i, i < k + 1 → ∀ x, vG k v w i x = 0 ∨ vG k v w i x = 1 := by
    intro i hi x; simp only [vG]; by_cases e : i = k
    · rw [if_pos e]; exact hw x
    · rw [if_neg e]; exact h.2.2.2.2 i (by omega) x
  exact det_small (k + 1) (by omega) _ (fun s hs i hi => by
    simp only [updG]; by_cases e : s = k
    · rw [if_pos e]; exact hv i hi c
    · rw [if_neg e]; exact hv i hi _)
/-- the division goes out even -/
theorem GI_even (h : GI k v q d B) (y r c : Nat) (hr : r < k) : ∃ X : Int, d * X = lfG k q d B w y * B r c - B r y * lfG k q d B w c := by
  refine ⟨Wg (k + 1) (fun i => vG k v w i y) (Fg (k + 1) k (updG (fun r i => vG k v w i (q r)) r (fun i => vG k v w i c))) (topG (k + 1)), ?_⟩
  rw [key_W (w := w) h y]
  rw [sm_one k _ r hr (fun s hs hn => by
    have e : (fun i => vG k v w i (q s)) = updG (fun r i => vG k v w i (q r)) r (fun i => vG k v w i c) s := by simp only [updG]; rw [if_neg hn]
    rw [e, Fg_rep (k + 1) (updG (fun r i => vG k v w i (q r)) r (fun i => vG k v w i c)) s k hs, Int.mul_zero])]
  rw [Wu_top, Fg_low k _ (updG (fun r i => v i (q r)) r (fun i => v i c)) (fun s hs i hi => by
    simp only [updG]; by_cases e : s = r
    · rw [if_pos e, if_pos e]; exact vG_lt i c hi
    · rw [if_neg e, if_neg e]; exact vG_lt i (q s) hi), ← GI_det h r hr c]
  rw [Fg_swap (k + 1) (fun r i => vG k v w i (q r)) r (fun i => vG k v w i (q r)) (fun i => vG k v w i c) k hr, upd_same (fun r i => vG k v w i (q r)) r, lf_det h c]
  grind
theorem tdiv_even (d x y : Int) (hd : d ≠ 0) (h : d * x = y) : y.tdiv d = x := by rw [← h]; exact Int.mul_tdiv_cancel_left x hd
def nbG (k : Nat) (q : Nat → Nat) (d : Int) (B : Nat → Nat → Int) (w : Nat → Int) (y : Nat) : Nat → Nat → Int := fun r c => if r = k then lfG k q d B w c else (lfG k q d B w y * B r c - B r y * lfG k q d B w c).tdiv d
def nqG (k : Nat) (q : Nat → Nat) (y : Nat) : Nat → Nat := fun r => if r = k then y else q r
theorem nb_even (h : GI k v q d B) (y r c : Nat) (hr : r < k) : d * nbG k q d B w y r c = lfG k q d B w y * B r c - B r y * lfG k q d B w c := by
  rcases GI_even (w := w) h y r c hr with ⟨X, hX⟩
  simp only [nbG]; rw [if_neg (by omega), tdiv_even d X _ h.1 hX, hX]
theorem GI_step (h : GI k v q d B) (hw : ∀ c, w c = 0 ∨ w c = 1) (y : Nat) (hy : lfG k q d B w y ≠ 0) : GI (k + 1) (vG k v w) (nqG k q y) (lfG k q d B w y) (nbG k q d B w y) := by
  have hq : ∀ r, r < k → nqG k q y r = q r := fun r hr => by simp only [nqG]; rw [if_neg (by omega)]
  have hqk : nqG k q y k = y := by simp only [nqG, if_pos]
  have hbk : ∀ c, nbG k q d B w y k c = lfG k q d B w c := fun c => by simp only [nbG, if_pos]
  refine ⟨hy, ?_, ?_, ?_, ?_⟩
  · have e := lf_det (w := w) h y
    rw [← e]
    show _ = Wg (k + 1) (fun i => vG k v w i (nqG k q y k)) (Fg (k + 1) k (fun r i => vG k v w i (nqG k q y r))) (topG (k + 1))
    rw [hqk, Fg_cong (k + 1) k (fun r i => vG k v w i (nqG k q y r)) (fun r i => vG k v w i (q r)) (fun r hr i _ => by show vG k v w i (nqG k q y r) = _; rw [hq r hr])]
  · intro c i hi
    show _ = smG k (fun r => nbG k q d B w y r c * vG k v w i (nqG k q y r)) + nbG k q d B w y k c * vG k v w i (nqG k q y k)
    rw [hqk, hbk]
    apply Int.eq_of_mul_eq_mul_left h.1
    rw [Int.mul_add, ← sm_mul]
    rw [sm_cong k _ (fun r => lfG k q d B w y * (B r c * vG k v w i (q r)) - lfG k q d B w c * (B r y * vG k v w i (q r))) (fun r hr => by
      rw [hq r hr, ← Int.mul_assoc, nb_even h y r c hr]; grind)]
    rw [sm_sub, sm_mul, sm_mul]
    have a1 := key_vec (w := w) h c i hi
    have a2 := key_vec (w := w) h y i hi
    grind
  · intro r hr s hs
    by_cases e : r = k
    · subst e; rw [hbk]
      by_cases f : s = r
      · subst f; rw [hqk, if_pos rfl]
      · rw [hq s (by omega), if_neg (by omega)]; exact lf_lead h s (by omega)
    · apply Int.eq_of_mul_eq_mul_left h.1
      rw [nb_even h y r _ (by omega)]
      by_cases f : s = k
      · subst f; rw [hqk, if_neg e]; grind
      · rw [hq s (by omega), lf_lead h s (by omega), h.2.2.2.1 r (by omega) s (by omega)]
        by_cases g : r = s
        · rw [if_pos g, if_pos g]; grind
        · rw [if_neg g, if_neg g]; grind
  · intro i hi c; simp only [vG]; by_cases e : i = k
    · rw [if_pos e]; exact hw c
    · rw [if_neg e]; exact h.2.2.2.2 i (by omega) c
theorem GI_zero (v : Nat → Nat → Int) (q : Nat → Nat) (B : Nat → Nat → Int) : GI 0 v q 1 B :=
  ⟨by omega, rfl, fun c i hi => absurd hi (Nat.not_lt_zero i), fun r hr => absurd hr (Nat.not_lt_zero r), fun i hi => absurd hi (Nat.not_lt_zero i)⟩
/-- what went in is kept -/
theorem in_step (h : GI k v q d B) (y : Nat) (x : Nat → Int) (hx : ∀ c, d * x c = smG k (fun r => x (q r) * B r c)) (c : Nat) : lfG k q d B w y * x c = smG (k + 1) (fun r => x (nqG k q y r) * nbG k q d B w y r c) := by
  have hq : ∀ r, r < k → nqG k q y r = q r := fun r hr => by simp only [nqG]; rw [if_neg (by omega)]
  have hqk : nqG k q y k = y := by simp only [nqG, if_pos]
  have hbk : ∀ c, nbG k q d B w y k c = lfG k q d B w c := fun c => by simp only [nbG, if_pos]
  show _ = smG k (fun r => x (nqG k q y r) * nbG k q d B w y r c) + x (nqG k q y k) * nbG k q d B w y k c
  rw [hqk, hbk]
  apply Int.eq_of_mul_eq_mul_left h.1
  rw [Int.mul_add, ← sm_mul]
  rw [sm_cong k _ (fun r => lfG k q d B w y * (x (q r) * B r c) - lfG k q d B w c * (x (q r) * B r y)) (fun r hr => by
    have e := nb_even (w := w) h y r c hr
    rw [hq r hr]
    have : d * (x (q r) * nbG k q d B w y r c) = x (q r) * (d * nbG k q d B w y r c) := by grind
    rw [this, e]; grind)]
  rw [sm_sub, sm_mul, sm_mul, ← hx c, ← hx y]; grind
theorem in_zero (hz : ∀ c, lfG k q d B w c = 0) (c : Nat) : d * w c = smG k (fun r => w (q r) * B r c) := by
  have : d * w c - smG k (fun r => w (q r) * B r c) = 0 := hz c
  omega
theorem in_self (h : GI k v q d B) (y : Nat) (hw : lfG k q d B w y ≠ 0) (c : Nat) : lfG k q d B w y * w c = smG (k + 1) (fun r => w (nqG k q y r) * nbG k q d B w y r c) := by
  have hq : ∀ r, r < k → nqG k q y r = q r := fun r hr => by simp only [nqG]; rw [if_neg (by omega)]
  have hqk : nqG k q y k = y := by simp only [nqG, if_pos]
  have hbk : ∀ c, nbG k q d B w y k c = lfG k q d B w c := fun c => by simp only [nbG, if_pos]
  show _ = smG k (fun r => w (nqG k q y r) * nbG k q d B w y r c) + w (nqG k q y k) * nbG k q d B w y k c
  rw [hqk, hbk]
  apply Int.eq_of_mul_eq_mul_left h.1
  rw [Int.mul_add, ← sm_mul]
  rw [sm_cong k _ (fun r => lfG k q d B w y * (w (q r) * B r c) - lfG k q d B w c * (w (q r) * B r y)) (fun r hr => by
    have e := nb_even (w := w) h y r c hr
    rw [hq r hr]
    have : d * (w (q r) * nbG k q d B w y r c) = w (q r) * (d * nbG k q d B w y r c) := by grind
    rw [this, e]; grind)]
  rw [sm_sub, sm_mul, sm_mul]
  have a1 : lfG k q d B w c = d * w c - smG k (fun r => w (q r) * B r c) := rfl
  have a2 : lfG k q d B w y = d * w y - smG k (fun r => w (q r) * B r y) := rfl
  have b1 : smG k (fun r => w (q r) * B r c) = d * w c - lfG k q d B w c := by omega
  have b2 : smG k (fun r => w (q r) * B r y) = d * w y - lfG k q d B w y := by omega
  rw [b1, b2]; grind
end G81b
end
end
section
noncomputable section
/-! ===== THE GUARD, 82: a prime, and what is worked out with it ===== -/
abbrev pG : Int := 2147483647
/-- no number from a on, of 2 ^ n of them, divides it -/
def ndG : Nat → Nat → Bool
  | 0, a => !(Nat.beq (2147483647 % a) 0)
  | n + 1, a => ndG n a && ndG n (a + 2 ^ n)
section G82
theorem nd_of (n : Nat) : ∀ a, ndG n a = true → ∀ m, a ≤ m → m < a + 2 ^ n → 2147483647 % m ≠ 0 := by
  induction n with
  | zero =>
    intro a h m h1 h2 h3
    have e : m = a := by have : (2 : Nat) ^ 0 = 1 := rfl; omega
    subst e
    simp only [ndG] at h
    rw [h3] at h
    exact absurd h (by decide)
  | succ n ih =>
    intro a h m h1 h2
    simp only [ndG, Bool.and_eq_true] at h
    have e : (2 : Nat) ^ (n + 1) = 2 ^ n + 2 ^ n := by rw [Nat.pow_succ]; omega
    by_cases q : m < a + 2 ^ n
    · exact ih a h.1 m h1 q
    · exact ih (a + 2 ^ n) h.2 m (by omega) (by omega)
theorem nd_all : ndG 16 2 = true := by decide +kernel
theorem pr_div (m : Nat) (h : m ∣ 2147483647) : m = 1 ∨ m = 2147483647 := by
  rcases h with ⟨c, hc⟩
  have small : ∀ a b : Nat, 2147483647 = a * b → a ≠ 1 → a ≤ b → False := by
    intro a b hab h1 hle
    have h0 : a ≠ 0 := by intro e; rw [e] at hab; omega
    have h2 : a < 65538 := by
      apply Nat.not_le.mp; intro q
      have : 65538 * 65538 ≤ a * b := Nat.mul_le_mul q (by omega)
      omega
    have h3 : 2147483647 % a = 0 := by rw [hab]; exact Nat.mul_mod_right a b
    exact nd_of 16 2 nd_all a (by omega) (by have : (2 : Nat) ^ 16 = 65536 := by decide
                                             omega) h3
  by_cases h1 : m = 1
  · exact Or.inl h1
  · by_cases h2 : c = 1
    · right; rw [h2] at hc; omega
    · exfalso
      rcases Nat.le_total m c with q | q
      · exact small m c hc h1 q
      · exact small c m (by rw [hc, Nat.mul_comm]) h2 q
theorem pr_mul_nat (a b : Nat) (h : 2147483647 ∣ a * b) : 2147483647 ∣ a ∨ 2147483647 ∣ b := by
  rcases pr_div (Nat.gcd 2147483647 a) (Nat.gcd_dvd_left _ _) with e | e
  · right; exact Nat.Coprime.dvd_of_dvd_mul_left e h
  · left; rw [← e]; exact Nat.gcd_dvd_right _ _
theorem pr_mul (a b : Int) (h : pG ∣ a * b) : pG ∣ a ∨ pG ∣ b := by
  have h1 : (2147483647 : Nat) ∣ a.natAbs * b.natAbs := by
    rw [← Int.natAbs_mul]; exact Int.natAbs_dvd_natAbs.mpr h
  rcases pr_mul_nat _ _ h1 with e | e
  · left; exact Int.natAbs_dvd_natAbs.mp e
  · right; exact Int.natAbs_dvd_natAbs.mp e
/-- how many ways to choose -/
def chG : Nat → Nat → Nat
  | _, 0 => 1
  | 0, _ + 1 => 0
  | n + 1, i + 1 => chG n i + chG n (i + 1)
theorem ch_zero (n : Nat) : chG n 0 = 1 := by cases n <;> rfl
theorem ch_out (n : Nat) : ∀ i, n < i → chG n i = 0 := by
  induction n with
  | zero => intro i h; cases i with | zero => omega | succ i => rfl
  | succ n ih => intro i h; cases i with | zero => omega | succ i => show chG n i + chG n (i + 1) = 0; rw [ih i (by omega), ih (i + 1) (by omega)]
theorem ch_self (n : Nat) : chG n n = 1 := by
  induction n with
  | zero => rfl
  | succ n ih => show chG n n + chG n (n + 1) = 1; rw [ih, ch_out n (n + 1) (by omega)]
theorem ch_mul (n : Nat) : ∀ i, (i + 1) * chG (n + 1) (i + 1) = (n + 1) * chG n i := by
  induction n with
  | zero =>
    intro i; cases i with
    | zero => rfl
    | succ i => show (i + 2) * (chG 0 (i + 1) + chG 0 (i + 2)) = 1 * chG 0 (i + 1); simp [chG]
  | succ n ih =>
    intro i; cases i with
    | zero =>
      have h : (0 + 1) * chG (n + 1) 1 = (n + 1) * chG n 0 := ih 0
      rw [ch_zero] at h
      show (0 + 1) * (chG (n + 1) 0 + chG (n + 1) 1) = (n + 2) * chG (n + 1) 0
      rw [ch_zero]
      omega
    | succ i =>
      have h1 := ih i
      have h2 := ih (i + 1)
      show (i + 2) * (chG (n + 1) (i + 1) + chG (n + 1) (i + 2)) = (n + 2) * chG (n + 1) (i + 1)
      have h3 : chG (n + 1) (i + 1) = chG n i + chG n (i + 1) := rfl
      grind
theorem binom (a : Int) (n : Nat) : (a + 1) ^ n = smG (n + 1) (fun i => (chG n i : Int) * a ^ i) := by
  induction n with
  | zero => simp [smG, chG]
  | succ n ih =>
    have e1 : ∀ m, smG (m + 1) (fun i => (chG (n + 1) i : Int) * a ^ i) = 1 + a * smG m (fun i => (chG n i : Int) * a ^ i) + (smG (m + 1) (fun i => (chG n i : Int) * a ^ i) - 1) := by
      intro m; induction m with
      | zero => simp [smG, ch_zero]
      | succ m ihm =>
        have s1 : smG (m + 2) (fun i => (chG (n + 1) i : Int) * a ^ i) = smG (m + 1) (fun i => (chG (n + 1) i : Int) * a ^ i) + (chG (n + 1) (m + 1) : Int) * a ^ (m + 1) := rfl
        have s2 : smG (m + 2) (fun i => (chG n i : Int) * a ^ i) = smG (m + 1) (fun i => (chG n i : Int) * a ^ i) + (chG n (m + 1) : Int) * a ^ (m + 1) := rfl
        have s3 : smG (m + 1) (fun i => (chG n i : Int) * a ^ i) = smG m (fun i => (chG n i : Int) * a ^ i) + (chG n m : Int) * a ^ m := rfl
        have s4 : ((chG (n + 1) (m + 1) : Nat) : Int) = (chG n m : Int) + (chG n (m + 1) : Int) := by
          have : chG (n + 1) (m + 1) = chG n m + chG n (m + 1) := rfl
          rw [this]; omega
        rw [s1, s2, ihm, s4]
        have s5 : a ^ (m + 1) = a ^ m * a := Int.pow_succ a m
        rw [s5] 
        grind
    rw [e1 (n + 1), Int.pow_succ, ih]
    have s2 : smG (n + 1 + 1) (fun i => (chG n i : Int) * a ^ i) = smG (n + 1) (fun i => (chG n i : Int) * a ^ i) + (chG n (n + 1) : Int) * a ^ (n + 1) := rfl
    rw [s2, ch_out n (n + 1) (by omega)]
    grind
theorem dvd_sm (p : Int) (k : Nat) (f : Nat → Int) (h : ∀ i, i < k → p ∣ f i) : p ∣ smG k f := by
  induction k with
  | zero => exact Int.dvd_zero p
  | succ k ih => exact Int.dvd_add (ih (fun i hi => h i (by omega))) (h k (by omega))
theorem sm_first (k : Nat) (f : Nat → Int) : smG (k + 1) f = f 0 + smG k (fun i => f (i + 1)) := by
  induction k with
  | zero => show (0 : Int) + f 0 = f 0 + 0; omega
  | succ k ih => show smG (k + 1) f + f (k + 1) = f 0 + (smG k (fun i => f (i + 1)) + f (k + 1)); rw [ih]; omega
/-- for any number with a prime's way to divide products -/
theorem ferm (n : Nat) (hp : ∀ a b : Int, ((n + 1 : Nat) : Int) ∣ a * b → ((n + 1 : Nat) : Int) ∣ a ∨ ((n + 1 : Nat) : Int) ∣ b) (a : Nat) : ((n + 1 : Nat) : Int) ∣ (a : Int) ^ (n + 1) - a := by
  induction a with
  | zero => rw [Int.pow_succ]; simp
  | succ a ih =>
    have h1 := binom (a : Int) (n + 1)
    rw [sm_first] at h1
    have s2 : smG (n + 1) (fun i => (chG (n + 1) (i + 1) : Int) * (a : Int) ^ (i + 1)) = smG n (fun i => (chG (n + 1) (i + 1) : Int) * (a : Int) ^ (i + 1)) + (chG (n + 1) (n + 1) : Int) * (a : Int) ^ (n + 1) := rfl
    rw [s2, ch_self, ch_zero] at h1
    have h3 : ((n + 1 : Nat) : Int) ∣ smG n (fun i => (chG (n + 1) (i + 1) : Int) * (a : Int) ^ (i + 1)) := dvd_sm _ _ _ (fun i hi => by
      apply Int.dvd_mul_of_dvd_left
      have e := ch_mul n i
      have e2 : ((n + 1 : Nat) : Int) ∣ ((i + 1 : Nat) : Int) * (chG (n + 1) (i + 1) : Int) := by
        rw [← Int.natCast_mul, e, Int.natCast_mul]; exact Int.dvd_mul_right _ _
      rcases hp _ _ e2 with q | q
      · exfalso
        have := Int.natCast_dvd_natCast.mp q
        exact absurd (Nat.le_of_dvd (by omega) this) (by omega)
      · exact q)
    have e : (((a + 1 : Nat) : Int)) ^ (n + 1) - ((a + 1 : Nat) : Int) = smG n (fun i => (chG (n + 1) (i + 1) : Int) * (a : Int) ^ (i + 1)) + ((a : Int) ^ (n + 1) - a) := by
      have c1 : ((a + 1 : Nat) : Int) = (a : Int) + 1 := by omega
      rw [c1, h1, Int.pow_zero]; omega
    rw [e]
    exact Int.dvd_add h3 ih
theorem ferm_inv (n : Nat) (hp : ∀ a b : Int, ((n + 2 : Nat) : Int) ∣ a * b → ((n + 2 : Nat) : Int) ∣ a ∨ ((n + 2 : Nat) : Int) ∣ b) (x : Int) (h0 : 0 ≤ x) (hx : ¬ ((n + 2 : Nat) : Int) ∣ x) : ((n + 2 : Nat) : Int) ∣ x * x ^ n - 1 := by
  have h := ferm (n + 1) hp x.toNat
  have e : ((x.toNat : Nat) : Int) = x := Int.toNat_of_nonneg h0
  rw [e] at h
  have e2 : x ^ (n + 1 + 1) - x = x * (x * x ^ n - 1) := by
    rw [Int.pow_succ, Int.pow_succ]; grind
  rw [e2] at h
  rcases hp _ _ h with q | q
  · exact absurd q hx
  · exact q
end G82
end
end
section
noncomputable section
/-! ===== THE GUARD, 83: what is spanned, by the prime ===== -/
def spG (n : Nat) (L : Nat → Nat → Int) (x : Nat → Int) : Prop := ∃ a : Nat → Int, ∀ c, c < 20 → pG ∣ x c - smG n (fun i => a i * L i c)
def ivG (k : Nat) (E : Nat → Nat → Int) : Prop := ∀ a : Nat → Int, (∀ c, c < 20 → pG ∣ smG k (fun r => a r * E r c)) → ∀ r, r < k → pG ∣ a r
def unG (j : Nat) : Nat → Int := fun c => if c = j then 1 else 0
/-- the rank -/
def RKG (n : Nat) (L : Nat → Nat → Int) (k : Nat) : Prop := ∃ F : Nat → Nat → Int, ivG k F ∧ (∀ r, r < k → spG n L (F r)) ∧ ∀ i, i < n → spG k F (L i)
section G83
theorem p_inv (d : Int) (h : ¬ pG ∣ d) : ∃ e, pG ∣ d * e - 1 := by
  have ⟨n, hn⟩ : ∃ n : Nat, n + 2 = 2147483647 := ⟨2147483645, rfl⟩
  have hp : ((n + 2 : Nat) : Int) = pG := by rw [hn]; rfl
  have h1 : 0 ≤ d % pG := Int.emod_nonneg d (by decide)
  have h2 : ¬ pG ∣ d % pG := by
    intro q; apply h
    have e := Int.emod_add_mul_ediv d pG
    rw [← e]; exact Int.dvd_add q (Int.dvd_mul_right _ _)
  have h3 := ferm_inv n (by rw [hp]; exact pr_mul) (d % pG) h1 (by rw [hp]; exact h2)
  rw [hp] at h3
  refine ⟨(d % pG) ^ n, ?_⟩
  have e := Int.emod_add_mul_ediv d pG
  have e2 : d * (d % pG) ^ n - 1 = ((d % pG) * (d % pG) ^ n - 1) + pG * ((d / pG) * (d % pG) ^ n) := by
    generalize (d % pG) ^ n = z at *
    generalize hm : d % pG = m at *
    generalize hq : d / pG = u at *
    rw [← e]; grind
  rw [e2]; exact Int.dvd_add h3 (Int.dvd_mul_right _ _)
theorem dvd_small (x : Int) (h1 : -pG < x) (h2 : x < pG) (h : pG ∣ x) : x = 0 := by
  rcases h with ⟨c, hc⟩
  simp only [pG] at *
  omega
theorem sp_mem (n : Nat) (L : Nat → Nat → Int) (i : Nat) (hi : i < n) : spG n L (L i) :=
  ⟨fun r => if r = i then 1 else 0, fun c _ => by
    rw [sm_one n _ i hi (fun s _ hn => by show (if s = i then (1 : Int) else 0) * L s c = 0; rw [if_neg hn, Int.zero_mul])]
    show pG ∣ L i c - (if i = i then (1 : Int) else 0) * L i c
    rw [if_pos rfl, Int.one_mul, Int.sub_self]; exact Int.dvd_zero _⟩
theorem sp_cong {n : Nat} {L : Nat → Nat → Int} {x y : Nat → Int} (h : spG n L x) (hxy : ∀ c, c < 20 → pG ∣ y c - x c) : spG n L y := by
  rcases h with ⟨a, ha⟩
  refine ⟨a, fun c hc => ?_⟩
  have e : y c - smG n (fun i => a i * L i c) = (y c - x c) + (x c - smG n (fun i => a i * L i c)) := by omega
  rw [e]; exact Int.dvd_add (hxy c hc) (ha c hc)
theorem sp_lin {n : Nat} {L : Nat → Nat → Int} {x y : Nat → Int} (u w : Int) (h : spG n L x) (h2 : spG n L y) : spG n L (fun c => u * x c + w * y c) := by
  rcases h with ⟨a, ha⟩
  rcases h2 with ⟨b, hb⟩
  refine ⟨fun i => u * a i + w * b i, fun c hc => ?_⟩
  have e : smG n (fun i => (u * a i + w * b i) * L i c) = u * smG n (fun i => a i * L i c) + w * smG n (fun i => b i * L i c) := by
    rw [← sm_mul, ← sm_mul, ← sm_add]; exact sm_cong n _ _ (fun i _ => by grind)
  rw [e]
  have e2 : u * x c + w * y c - (u * smG n (fun i => a i * L i c) + w * smG n (fun i => b i * L i c)) = u * (x c - smG n (fun i => a i * L i c)) + w * (y c - smG n (fun i => b i * L i c)) := by grind
  rw [e2]
  exact Int.dvd_add (Int.dvd_mul_of_dvd_right (ha c hc)) (Int.dvd_mul_of_dvd_right (hb c hc))
theorem sp_scale {n : Nat} {L : Nat → Nat → Int} {x : Nat → Int} (d : Int) (hd : ¬ pG ∣ d) (h : spG n L (fun c => d * x c)) : spG n L x := by
  rcases p_inv d hd with ⟨e, he⟩
  apply sp_cong (sp_lin e 0 h h)
  intro c _
  have e2 : x c - (e * (d * x c) + 0 * (d * x c)) = -(x c) * (d * e - 1) := by grind
  rw [e2]; exact Int.dvd_mul_of_dvd_right he
theorem sp_sum {n : Nat} {L : Nat → Nat → Int} (k : Nat) (a : Nat → Int) (M : Nat → Nat → Int) (h : ∀ i, i < k → spG n L (M i)) : spG n L (fun c => smG k (fun i => a i * M i c)) := by
  induction k with
  | zero => exact ⟨fun _ => 0, fun c _ => by rw [sm_zero n _ (fun i _ => Int.zero_mul _)]; exact Int.dvd_zero _⟩
  | succ k ih =>
    apply sp_cong (sp_lin 1 (a k) (ih (fun i hi => h i (by omega))) (h k (by omega)))
    intro c _
    have e : smG (k + 1) (fun i => a i * M i c) = smG k (fun i => a i * M i c) + a k * M k c := rfl
    rw [e]
    have e2 : smG k (fun i => a i * M i c) + a k * M k c - (1 * smG k (fun i => a i * M i c) + a k * M k c) = 0 := by omega
    rw [e2]; exact Int.dvd_zero _
theorem sp_trans {n m : Nat} {L M : Nat → Nat → Int} {x : Nat → Int} (h : spG n L x) (h2 : ∀ i, i < n → spG m M (L i)) : spG m M x := by
  rcases h with ⟨a, ha⟩
  exact sp_cong (sp_sum n a L h2) ha
/-- a sum with one taken out -/
theorem sm_skip (k i0 : Nat) (f : Nat → Int) (h : i0 < k + 1) : smG (k + 1) f = f i0 + smG k (fun i => f (if i < i0 then i else i + 1)) := by
  induction k with
  | zero =>
    have e : i0 = 0 := by omega
    subst e; show (0 : Int) + f 0 = f 0 + 0; omega
  | succ k ih =>
    by_cases e : i0 = k + 1
    · subst e
      show smG (k + 1) f + f (k + 1) = f (k + 1) + smG (k + 1) (fun i => f (if i < k + 1 then i else i + 1))
      rw [sm_cong (k + 1) (fun i => f (if i < k + 1 then i else i + 1)) f (fun i hi => by show f (if i < k + 1 then i else i + 1) = f i; rw [if_pos hi])]; omega
    · show smG (k + 1) f + f (k + 1) = f i0 + (smG k (fun i => f (if i < i0 then i else i + 1)) + f (if k < i0 then k else k + 1))
      rw [ih (by omega), if_neg (by omega : ¬ k < i0)]; omega
/-- more unknowns than equations -/
theorem null_ex (m : Nat) : ∀ k, m < k → ∀ a : Nat → Nat → Int, ∃ l : Nat → Int, (∃ i, i < k ∧ ¬ pG ∣ l i) ∧ ∀ j, j < m → pG ∣ smG k (fun i => l i * a i j) := by
  induction m with
  | zero => intro k hk a; exact ⟨fun _ => 1, ⟨0, hk, by decide⟩, fun j hj => absurd hj (Nat.not_lt_zero j)⟩
  | succ m ih =>
    intro k hk a
    by_cases h : ∀ i, i < k → pG ∣ a i m
    · rcases ih k (by omega) a with ⟨l, h1, h2⟩
      refine ⟨l, h1, fun j hj => ?_⟩
      by_cases e : j = m
      · subst e; exact dvd_sm _ _ _ (fun i hi => Int.dvd_mul_of_dvd_right (h i hi))
      · exact h2 j (by omega)
    · have ⟨i0, h0⟩ : ∃ i0, i0 < k ∧ ¬ pG ∣ a i0 m := Classical.byContradiction (fun q => h (fun i hi => Classical.byContradiction (fun r => q ⟨i, hi, r⟩)))
      have ⟨k', hk'⟩ : ∃ k', k = k' + 1 := ⟨k - 1, by omega⟩
      subst hk'
      let σ : Nat → Nat := fun i => if i < i0 then i else i + 1
      rcases ih k' (by omega) (fun i j => a (σ i) j * a i0 m - a (σ i) m * a i0 j) with ⟨l, ⟨i1, hi1, hn⟩, h2⟩
      let τ : Nat → Nat := fun i => if i < i0 then i else i - 1
      let L : Nat → Int := fun i => if i = i0 then - smG k' (fun i => l i * a (σ i) m) else l (τ i) * a i0 m
      have hL0 : L i0 = - smG k' (fun i => l i * a (σ i) m) := by simp [L]
      have hLs : ∀ i, L (σ i) = l i * a i0 m := by
        intro i
        have q1 : σ i ≠ i0 := by simp only [σ]; by_cases e : i < i0
                                 · rw [if_pos e]; omega
                                 · rw [if_neg e]; omega
        have q2 : τ (σ i) = i := by simp only [σ, τ]; by_cases e : i < i0
                                    · rw [if_pos e, if_pos e]
                                    · rw [if_neg e, if_neg (by omega)]; omega
        simp only [L]; rw [if_neg q1, q2]
      refine ⟨L, ⟨σ i1, by simp only [σ]; split <;> omega, ?_⟩, fun j hj => ?_⟩
      · rw [hLs]; intro q; rcases pr_mul _ _ q with r | r
        · exact hn r
        · exact h0.2 r
      · rw [sm_skip k' i0 _ h0.1]
        show pG ∣ L i0 * a i0 j + smG k' (fun i => L (σ i) * a (σ i) j)
        rw [hL0, sm_cong k' (fun i => L (σ i) * a (σ i) j) (fun i => a i0 m * (l i * a (σ i) j)) (fun i _ => by rw [hLs]; grind), sm_mul]
        by_cases e : j = m
        · subst e
          have : - smG k' (fun i => l i * a (σ i) j) * a i0 j + a i0 j * smG k' (fun i => l i * a (σ i) j) = 0 := by grind
          rw [this]; exact Int.dvd_zero _
        · have h3 := h2 j (by omega)
          rw [sm_cong k' _ (fun i => a i0 m * (l i * a (σ i) j) - a i0 j * (l i * a (σ i) m)) (fun i _ => by grind), sm_sub, sm_mul, sm_mul] at h3
          have : - smG k' (fun i => l i * a (σ i) m) * a i0 j + a i0 m * smG k' (fun i => l i * a (σ i) j) = a i0 m * smG k' (fun i => l i * a (σ i) j) - a i0 j * smG k' (fun i => l i * a (σ i) m) := by grind
          rw [this]; exact h3
theorem st_le (k m : Nat) (E F : Nat → Nat → Int) (hE : ivG k E) (h : ∀ r, r < k → spG m F (E r)) : k ≤ m := by
  apply Nat.not_lt.mp; intro hlt
  have ⟨A, hA⟩ : ∃ A : Nat → Nat → Int, ∀ r, r < k → ∀ c, c < 20 → pG ∣ E r c - smG m (fun j => A r j * F j c) := by
    refine ⟨fun r => if hr : r < k then Classical.choose (h r hr) else fun _ => 0, fun r hr c hc => ?_⟩
    simp only [dif_pos hr]
    exact Classical.choose_spec (h r hr) c hc
  rcases null_ex m k hlt A with ⟨l, ⟨i, hi, hn⟩, hl⟩
  apply hn
  apply hE l _ i hi
  intro c hc
  have e1 : smG k (fun r => l r * E r c) = smG k (fun r => l r * (E r c - smG m (fun j => A r j * F j c))) + smG m (fun j => F j c * smG k (fun r => l r * A r j)) := by
    have e2 : smG m (fun j => F j c * smG k (fun r => l r * A r j)) = smG k (fun r => l r * smG m (fun j => A r j * F j c)) := by
      rw [sm_cong m _ (fun j => smG k (fun r => F j c * (l r * A r j))) (fun j _ => (sm_mul k _ _).symm), ← sm_swap]
      exact sm_cong k _ _ (fun r _ => by rw [← sm_mul]; exact sm_cong m _ _ (fun j _ => by grind))
    rw [e2, ← sm_add]; exact sm_cong k _ _ (fun r _ => by grind)
  rw [e1]
  exact Int.dvd_add (dvd_sm _ _ _ (fun r hr => Int.dvd_mul_of_dvd_right (hA r hr c hc))) (dvd_sm _ _ _ (fun j hj => Int.dvd_mul_of_dvd_right (hl j hj)))
theorem RK_le {n n' : Nat} {L L' : Nat → Nat → Int} {k k' : Nat} (h : RKG n L k) (h' : RKG n' L' k') (hL : ∀ i, i < n → spG n' L' (L i)) : k ≤ k' := by
  rcases h with ⟨F, f1, f2, f3⟩
  rcases h' with ⟨G, g1, g2, g3⟩
  exact st_le k k' F G f1 (fun r hr => sp_trans (sp_trans (f2 r hr) hL) g3)
theorem RK_eq {n n' : Nat} {L L' : Nat → Nat → Int} {k k' : Nat} (h : RKG n L k) (h' : RKG n' L' k') (hL : ∀ i, i < n → spG n' L' (L i)) (hL' : ∀ i, i < n' → spG n L (L' i)) : k = k' :=
  Nat.le_antisymm (RK_le h h' hL) (RK_le h' h hL')
/-- one more, in what is spanned or not -/
theorem RK_more {n n' : Nat} {L L' : Nat → Nat → Int} {k k' : Nat} {x : Nat → Int} (h : RKG n L k) (h' : RKG n' L' k') (hL : ∀ i, i < n → spG n' L' (L i)) (hx : spG n' L' x) (hL' : ∀ i, i < n' → spG n L (L' i) ∨ ∀ c, c < 20 → L' i c = x c) : k = k' ↔ spG n L x := by
  constructor
  · intro e
    apply Classical.byContradiction; intro hn
    rcases h with ⟨F, f1, f2, f3⟩
    rcases h' with ⟨G, g1, g2, g3⟩
    have h1 : ivG (k + 1) (fun r => if r = k then x else F r) := by
      intro a ha
      have hak : pG ∣ a k := by
        apply Classical.byContradiction; intro q
        apply hn
        have s1 : spG k F (fun c => a k * x c) := by
          refine ⟨fun r => - a r, fun c hc => ?_⟩
          have s2 := ha c hc
          have s3 : smG (k + 1) (fun r => a r * (if r = k then x else F r) c) = smG k (fun r => a r * F r c) + a k * x c := by
            show smG k (fun r => a r * (if r = k then x else F r) c) + a k * (if k = k then x else F k) c = _
            rw [if_pos rfl, sm_cong k _ (fun r => a r * F r c) (fun r hr => by rw [if_neg (by omega)])]
          rw [s3] at s2
          have s4 : smG k (fun r => - a r * F r c) = - smG k (fun r => a r * F r c) := by
            rw [sm_cong k _ (fun r => (-1) * (a r * F r c)) (fun r _ => by grind), sm_mul]; omega
          rw [s4]
          have s5 : a k * x c - -smG k (fun r => a r * F r c) = smG k (fun r => a r * F r c) + a k * x c := by omega
          rw [s5]; exact s2
        exact sp_trans (sp_scale (a k) q s1) f2
      have hF : ∀ r, r < k → pG ∣ a r := f1 a (fun c hc => by
        have s2 := ha c hc
        have s3 : smG (k + 1) (fun r => a r * (if r = k then x else F r) c) = smG k (fun r => a r * F r c) + a k * x c := by
          show smG k (fun r => a r * (if r = k then x else F r) c) + a k * (if k = k then x else F k) c = _
          rw [if_pos rfl, sm_cong k _ (fun r => a r * F r c) (fun r hr => by rw [if_neg (by omega)])]
        rw [s3] at s2
        have s4 : smG k (fun r => a r * F r c) = (smG k (fun r => a r * F r c) + a k * x c) - a k * x c := by omega
        rw [s4]; exact Int.dvd_sub s2 (Int.dvd_mul_of_dvd_left hak))
      intro r hr
      by_cases e : r = k
      · rw [e]; exact hak
      · exact hF r (by omega)
    have h2 := st_le (k + 1) k' _ G h1 (fun r hr => by
      by_cases e : r = k
      · rw [if_pos e]; exact sp_trans hx g3
      · rw [if_neg e]; exact sp_trans (sp_trans (f2 r (by omega)) hL) g3)
    omega
  · intro hs
    exact RK_eq h h' hL (fun i hi => by
      rcases hL' i hi with q | q
      · exact q
      · exact sp_cong hs (fun c hc => by rw [q c hc, Int.sub_self]; exact Int.dvd_zero _))
end G83
end
end
section
noncomputable section
/-! ===== THE GUARD, 84: what the rows over one denominator tell, by the prime ===== -/
/-- spanned by what P says -/
def spS (P : (Nat → Int) → Prop) (x : Nat → Int) : Prop := ∃ n L, (∀ i, i < n → P (L i)) ∧ spG n L x
section G84
variable {k : Nat} {v : Nat → Nat → Int} {q : Nat → Nat} {d : Int} {B : Nat → Nat → Int} {w : Nat → Int} {P : (Nat → Int) → Prop}
theorem not_dvd (x : Int) (h0 : x ≠ 0) (h1 : -134217728 < x) (h2 : x < 134217728) : ¬ pG ∣ x :=
  fun q => h0 (dvd_small x (by simp only [pG]; omega) (by simp only [pG]; omega) q)
theorem GI_nd (h : GI k v q d B) (hk : k ≤ 20) : ¬ pG ∣ d := not_dvd d h.1 (GI_dsmall h hk).1 (GI_dsmall h hk).2
theorem GI_iv (h : GI k v q d B) (hk : k ≤ 20) (hq : ∀ r, r < k → q r < 20) : ivG k B := by
  intro a ha s hs
  have h1 := ha (q s) (hq s hs)
  rw [sm_one k _ s hs (fun r hr hn => by rw [h.2.2.2.1 r hr s hs, if_neg hn, Int.mul_zero]), h.2.2.2.1 s hs s hs, if_pos rfl] at h1
  rcases pr_mul _ _ h1 with e | e
  · exact e
  · exact absurd e (GI_nd h hk)
theorem in_span (h : GI k v q d B) (hk : k ≤ 20) (x : Nat → Int) (hx : ∀ c, d * x c = smG k (fun r => x (q r) * B r c)) : spG k B x :=
  sp_scale d (GI_nd h hk) ⟨fun r => x (q r), fun c _ => by show pG ∣ d * x c - smG k (fun r => x (q r) * B r c); rw [hx c, Int.sub_self]; exact Int.dvd_zero _⟩
theorem spS_mono {P Q : (Nat → Int) → Prop} {x : Nat → Int} (h : spS P x) (hPQ : ∀ y, P y → Q y) : spS Q x := by
  rcases h with ⟨n, L, h1, h2⟩; exact ⟨n, L, fun i hi => hPQ _ (h1 i hi), h2⟩
theorem spS_mem {x : Nat → Int} (h : P x) : spS P x := ⟨1, fun _ => x, fun _ _ => h, sp_mem 1 (fun _ => x) 0 (by omega)⟩
def apG (n : Nat) (L M : Nat → Nat → Int) : Nat → Nat → Int := fun i => if i < n then L i else M (i - n)
theorem sm_app (n m : Nat) (f : Nat → Int) : smG (n + m) f = smG n f + smG m (fun i => f (n + i)) := by
  induction m with
  | zero => show smG n f = smG n f + 0; omega
  | succ m ih => show smG (n + m) f + f (n + m) = smG n f + (smG m (fun i => f (n + i)) + f (n + m)); rw [ih]; omega
theorem sp_apL {n m : Nat} {L M : Nat → Nat → Int} {x : Nat → Int} (h : spG n L x) : spG (n + m) (apG n L M) x :=
  sp_trans h (fun i hi => by
    have := sp_mem (n + m) (apG n L M) i (by omega)
    simp only [apG] at this ⊢
    rw [if_pos hi] at this; exact this)
theorem sp_apR {n m : Nat} {L M : Nat → Nat → Int} {x : Nat → Int} (h : spG m M x) : spG (n + m) (apG n L M) x :=
  sp_trans h (fun i hi => by
    have := sp_mem (n + m) (apG n L M) (n + i) (by omega)
    simp only [apG] at this ⊢
    rw [if_neg (by omega), Nat.add_sub_cancel_left] at this; exact this)
theorem spS_lin {x y : Nat → Int} (u t : Int) (h : spS P x) (h2 : spS P y) : spS P (fun c => u * x c + t * y c) := by
  rcases h with ⟨n, L, a1, a2⟩
  rcases h2 with ⟨m, M, b1, b2⟩
  refine ⟨n + m, apG n L M, fun i hi => ?_, sp_lin u t (sp_apL a2) (sp_apR b2)⟩
  simp only [apG]; by_cases e : i < n
  · rw [if_pos e]; exact a1 i e
  · rw [if_neg e]; exact b1 _ (by omega)
theorem spS_cong {x y : Nat → Int} (h : spS P x) (hxy : ∀ c, c < 20 → pG ∣ y c - x c) : spS P y := by
  rcases h with ⟨n, L, h1, h2⟩; exact ⟨n, L, h1, sp_cong h2 hxy⟩
theorem spS_scale {x : Nat → Int} (e : Int) (he : ¬ pG ∣ e) (h : spS P (fun c => e * x c)) : spS P x := by
  rcases h with ⟨n, L, h1, h2⟩; exact ⟨n, L, h1, sp_scale e he h2⟩
theorem spS_sum (m : Nat) (a : Nat → Int) (M : Nat → Nat → Int) (h : ∀ i, i < m → spS P (M i)) : spS P (fun c => smG m (fun i => a i * M i c)) := by
  induction m with
  | zero => exact ⟨0, fun _ _ => 0, fun i hi => absurd hi (Nat.not_lt_zero i), ⟨fun _ => 0, fun c _ => Int.dvd_zero _⟩⟩
  | succ m ih =>
    apply spS_cong (spS_lin 1 (a m) (ih (fun i hi => h i (by omega))) (h m (by omega)))
    intro c _
    have e : smG (m + 1) (fun i => a i * M i c) = smG m (fun i => a i * M i c) + a m * M m c := rfl
    rw [e]
    have e2 : smG m (fun i => a i * M i c) + a m * M m c - (1 * smG m (fun i => a i * M i c) + a m * M m c) = 0 := by omega
    rw [e2]; exact Int.dvd_zero _
/-- the rows with one more are spanned by what went in -/
theorem lf_span (hB : ∀ r, r < k → spS P (B r)) (hw : spS P w) : spS P (lfG k q d B w) := by
  apply spS_cong (spS_lin d (-1) hw (spS_sum k (fun r => w (q r)) B hB))
  intro c _
  have e : lfG k q d B w c - (d * w c + (-1) * smG k (fun r => w (q r) * B r c)) = 0 := by
    show d * w c - smG k (fun r => w (q r) * B r c) - (d * w c + (-1) * smG k (fun r => w (q r) * B r c)) = 0; omega
  rw [e]; exact Int.dvd_zero _
theorem nb_span (h : GI k v q d B) (hk : k ≤ 20) (hB : ∀ r, r < k → spS P (B r)) (hw : spS P w) (y r : Nat) (hr : r < k + 1) : spS P (nbG k q d B w y r) := by
  by_cases e : r = k
  · have : nbG k q d B w y r = lfG k q d B w := by funext c; simp only [nbG]; rw [if_pos e]
    rw [this]; exact lf_span hB hw
  · apply spS_scale d (GI_nd h hk)
    apply spS_cong (spS_lin (lfG k q d B w y) (- B r y) (hB r (by omega)) (lf_span (q := q) (d := d) hB hw))
    intro c _
    rw [nb_even h y r c (by omega)]
    have e2 : lfG k q d B w y * B r c - B r y * lfG k q d B w c - (lfG k q d B w y * B r c + -B r y * lfG k q d B w c) = 0 := by grind
    rw [e2]; exact Int.dvd_zero _
end G84
/-- all that is known of the rows kept, of what P says -/
def GA (P : (Nat → Int) → Prop) (k : Nat) (q : Nat → Nat) (d : Int) (B : Nat → Nat → Int) : Prop :=
  ∃ v, GI k v q d B ∧ k ≤ 20 ∧ (∀ r, r < k → q r < 20) ∧ (∀ r, r < k → spS P (B r)) ∧ ∀ x, P x → ∀ c, d * x c = smG k (fun r => x (q r) * B r c)
section G84b
variable {k : Nat} {q : Nat → Nat} {d : Int} {B : Nat → Nat → Int} {w : Nat → Int} {P : (Nat → Int) → Prop}
theorem GA_zero (P : (Nat → Int) → Prop) (hP : ∀ x, ¬ P x) (q : Nat → Nat) (B : Nat → Nat → Int) : GA P 0 q 1 B :=
  ⟨fun _ _ => 0, GI_zero _ q B, by omega, fun r hr => absurd hr (Nat.not_lt_zero r), fun r hr => absurd hr (Nat.not_lt_zero r), fun x hx => absurd hx (hP x)⟩
/-- places below 20, all other than one another -/
theorem inj_le (n : Nat) : ∀ (k : Nat) (f : Nat → Nat), (∀ r, r < k → f r < n) → (∀ r s, r < k → s < k → r ≠ s → f r ≠ f s) → k ≤ n := by
  induction n with
  | zero => intro k f h _; apply Nat.not_lt.mp; intro q; exact absurd (h 0 q) (Nat.not_lt_zero _)
  | succ n ih =>
    intro k f h1 h2
    by_cases h : ∃ r, r < k ∧ f r = n
    · rcases h with ⟨r0, hr0, e0⟩
      have ⟨k', hk'⟩ : ∃ k', k = k' + 1 := ⟨k - 1, by omega⟩
      subst hk'
      have := ih k' (fun i => f (if i < r0 then i else i + 1)) (fun i hi => by
        have a := h1 (if i < r0 then i else i + 1) (by split <;> omega)
        have b := h2 (if i < r0 then i else i + 1) r0 (by split <;> omega) hr0 (by split <;> omega)
        show f (if i < r0 then i else i + 1) < n
        omega) (fun i s hi hs hn => h2 _ _ (by split <;> omega) (by split <;> omega) (by split <;> split <;> omega))
      omega
    · have := ih k f (fun r hr => by
        have a := h1 r hr
        have b : f r ≠ n := fun e => h ⟨r, hr, e⟩
        omega) h2
      omega
theorem GI_other {v : Nat → Nat → Int} (h : GI k v q d B) (r s : Nat) (hr : r < k) (hs : s < k) (hn : r ≠ s) : q r ≠ q s := by
  intro e
  have a := h.2.2.2.1 r hr r hr
  have b := h.2.2.2.1 r hr s hs
  rw [if_pos rfl] at a
  rw [if_neg hn, ← e, a] at b
  exact h.1 b
theorem GA_room (h : GA P k q d B) (y : Nat) (hy : y < 20) (hl : lfG k q d B w y ≠ 0) : k < 20 := by
  rcases h with ⟨v, h1, h2, h3, h4, h5⟩
  have := inj_le 20 (k + 1) (fun r => if r = k then y else q r) (fun r hr => by
    show (if r = k then y else q r) < 20
    by_cases e : r = k
    · rw [if_pos e]; exact hy
    · rw [if_neg e]; exact h3 r (by omega)) (fun r s hr hs hn => by
    show (if r = k then y else q r) ≠ (if s = k then y else q s)
    have o : ∀ t, t < k → q t ≠ y := fun t ht e => hl (by rw [← e]; exact lf_lead h1 t ht)
    by_cases e : r = k
    · rw [if_pos e]
      rw [if_neg (by omega)]; exact fun z => o s (by omega) z.symm
    · rw [if_neg e]
      by_cases e2 : s = k
      · rw [if_pos e2]; exact o r (by omega)
      · rw [if_neg e2]; exact GI_other h1 r s (by omega) (by omega) hn)
  omega
theorem GA_small (h : GA P k q d B) (r c : Nat) (hr : r < k) : -134217728 < B r c ∧ B r c < 134217728 := by
  rcases h with ⟨v, h1, h2, _⟩; exact GI_small h1 h2 r hr c
theorem GA_dsmall (h : GA P k q d B) : -134217728 < d ∧ d < 134217728 := by
  rcases h with ⟨v, h1, h2, _⟩; exact GI_dsmall h1 h2
theorem GA_lfsmall (h : GA P k q d B) (hw : ∀ c, w c = 0 ∨ w c = 1) (c : Nat) (hc : c < 20) : -134217728 < lfG k q d B w c ∧ lfG k q d B w c < 134217728 := by
  by_cases e : lfG k q d B w c = 0
  · rw [e]; omega
  · have hk := GA_room h c hc e
    rcases h with ⟨v, h1, _⟩; exact lf_small h1 hk hw c
/-- one more, that is in what is spanned -/
theorem GA_same {Q : (Nat → Int) → Prop} (h : GA P k q d B) (hz : ∀ c, lfG k q d B w c = 0) (hQ : ∀ x, Q x ↔ P x ∨ x = w) : GA Q k q d B := by
  rcases h with ⟨v, h1, h2, h3, h4, h5⟩
  refine ⟨v, h1, h2, h3, fun r hr => spS_mono (h4 r hr) (fun y hy => (hQ y).mpr (Or.inl hy)), fun x hx c => ?_⟩
  rcases (hQ x).mp hx with e | e
  · exact h5 x e c
  · rw [e]; exact in_zero hz c
theorem GA_step {Q : (Nat → Int) → Prop} (h : GA P k q d B) (hw : ∀ c, w c = 0 ∨ w c = 1) (y : Nat) (hy : y < 20) (hl : lfG k q d B w y ≠ 0) (hQ : ∀ x, Q x ↔ P x ∨ x = w) : GA Q (k + 1) (nqG k q y) (lfG k q d B w y) (nbG k q d B w y) := by
  have hk := GA_room h y hy hl
  rcases h with ⟨v, h1, h2, h3, h4, h5⟩
  refine ⟨vG k v w, GI_step h1 hw y hl, by omega, fun r hr => ?_, fun r hr => ?_, fun x hx c => ?_⟩
  · simp only [nqG]; by_cases e : r = k
    · rw [if_pos e]; exact hy
    · rw [if_neg e]; exact h3 r (by omega)
  · exact nb_span h1 h2 (fun s hs => spS_mono (h4 s hs) (fun y hy => (hQ y).mpr (Or.inl hy))) (spS_mem ((hQ w).mpr (Or.inr rfl))) y r hr
  · rcases (hQ x).mp hx with e | e
    · exact in_step h1 y x (h5 x e) c
    · rw [e]; exact in_self h1 y hl c
theorem GA_RK (h : GA P k q d B) (n : Nat) (L : Nat → Nat → Int) (hL : ∀ i, i < n → P (L i)) (hP : ∀ x, P x → ∃ i, i < n ∧ ∀ c, c < 20 → L i c = x c) : RKG n L k := by
  rcases h with ⟨v, h1, h2, h3, h4, h5⟩
  refine ⟨B, GI_iv h1 h2 h3, fun r hr => ?_, fun i hi => in_span h1 h2 (L i) (h5 _ (hL i hi))⟩
  rcases h4 r hr with ⟨m, M, a1, a2⟩
  refine sp_trans a2 (fun i hi => ?_)
  rcases hP _ (a1 i hi) with ⟨j, hj, e⟩
  exact sp_cong (sp_mem n L j hj) (fun c hc => by rw [e c hc, Int.sub_self]; exact Int.dvd_zero _)
theorem GA_tell (h : GA P k q d B) (n : Nat) (L : Nat → Nat → Int) (hL : ∀ i, i < n → P (L i)) (hP : ∀ x, P x → ∃ i, i < n ∧ ∀ c, c < 20 → L i c = x c) (j : Nat) (hj : j < 20) : spG n L (unG j) ↔ ∃ r, r < k ∧ ∀ c, c < 20 → (B r c ≠ 0 ↔ c = j) := by
  have hR := GA_RK h n L hL hP
  rcases h with ⟨v, h1, h2, h3, h4, h5⟩
  constructor
  · intro hs
    rcases sp_trans hs (fun i hi => in_span h1 h2 (L i) (h5 _ (hL i hi))) with ⟨a, ha⟩
    have hq : ∀ s, s < k → pG ∣ unG j (q s) - a s * d := by
      intro s hs
      have e := ha (q s) (h3 s hs)
      rw [sm_one k _ s hs (fun r hr hn => by rw [h1.2.2.2.1 r hr s hs, if_neg hn, Int.mul_zero]), h1.2.2.2.1 s hs s hs, if_pos rfl] at e
      exact e
    have hz : ∀ s, s < k → q s ≠ j → pG ∣ a s := by
      intro s hs hn
      have e := hq s hs
      have u0 : unG j (q s) = 0 := by simp only [unG]; rw [if_neg hn]
      rw [u0] at e
      have e2 : pG ∣ a s * d := by
        have := Int.dvd_neg.mpr e
        have f : -(0 - a s * d) = a s * d := by omega
        rwa [f] at this
      rcases pr_mul _ _ e2 with f | f
      · exact f
      · exact absurd f (GI_nd h1 h2)
    have ⟨s, hs, es⟩ : ∃ s, s < k ∧ q s = j := by
      apply Classical.byContradiction; intro hn
      have e := ha j hj
      have u1 : unG j j = 1 := by simp [unG]
      rw [u1] at e
      have e2 : pG ∣ smG k (fun i => a i * B i j) := dvd_sm _ _ _ (fun i hi => Int.dvd_mul_of_dvd_left (hz i hi (fun z => hn ⟨i, hi, z⟩)))
      have e3 := Int.dvd_add e e2
      have f : 1 - smG k (fun i => a i * B i j) + smG k (fun i => a i * B i j) = 1 := by omega
      rw [f] at e3
      exact absurd e3 (by decide)
    refine ⟨s, hs, fun c hc => ⟨fun hB => ?_, fun e => ?_⟩⟩
    · apply Classical.byContradiction; intro hcj
      apply hB
      have e := ha c hc
      have u0 : unG j c = 0 := by simp only [unG]; rw [if_neg hcj]
      rw [u0] at e
      have e2 : pG ∣ smG k (fun i => a i * B i c) - a s * B s c := by
        have f : smG k (fun i => a i * B i c) - a s * B s c = smG k (fun i => if i = s then 0 else a i * B i c) := by
          have g : smG k (fun i => a i * B i c) = smG k (fun i => (if i = s then 0 else a i * B i c) + (if i = s then a s * B s c else 0)) := sm_cong k _ _ (fun i _ => by
            by_cases z : i = s
            · rw [if_pos z, if_pos z, z]; omega
            · rw [if_neg z, if_neg z]; omega)
          rw [g, sm_add, sm_one k (fun i => if i = s then a s * B s c else 0) s hs (fun i _ hn => by show (if i = s then a s * B s c else 0) = 0; rw [if_neg hn])]
          show smG k _ + (if s = s then a s * B s c else 0) - a s * B s c = _
          rw [if_pos rfl]; omega
        rw [f]
        exact dvd_sm _ _ _ (fun i hi => by
          show pG ∣ (if i = s then 0 else a i * B i c)
          by_cases z : i = s
          · rw [if_pos z]; exact Int.dvd_zero _
          · rw [if_neg z]
            exact Int.dvd_mul_of_dvd_left (hz i hi (fun y => GI_other h1 i s hi hs z (by rw [y, es]))))
      have e3 : pG ∣ a s * B s c := by
        have e4 := Int.dvd_neg.mpr (Int.dvd_add e e2)
        have f : -(0 - smG k (fun i => a i * B i c) + (smG k (fun i => a i * B i c) - a s * B s c)) = a s * B s c := by omega
        rwa [f] at e4
      rcases pr_mul _ _ e3 with f | f
      · exfalso
        have e5 := hq s hs
        have u1 : unG j (q s) = 1 := by simp only [unG]; rw [if_pos es]
        rw [u1] at e5
        have e6 := Int.dvd_add e5 (Int.dvd_mul_of_dvd_left (b := a s) (c := d) f)
        have g : 1 - a s * d + a s * d = 1 := by omega
        rw [g] at e6
        exact absurd e6 (by decide)
      · have b := GI_small h1 h2 s hs c
        exact dvd_small _ (by simp only [pG]; omega) (by simp only [pG]; omega) f
    · rw [e, ← es, h1.2.2.2.1 s hs s hs, if_pos rfl]; exact h1.1
  · intro ⟨r, hr, hB⟩
    have b := GI_small h1 h2 r hr j
    have nz : B r j ≠ 0 := (hB j hj).mpr rfl
    rcases hR with ⟨F, f1, f2, f3⟩
    have s1 : spG n L (B r) := by
      rcases h4 r hr with ⟨m, M, a1, a2⟩
      refine sp_trans a2 (fun i hi => ?_)
      rcases hP _ (a1 i hi) with ⟨j, hj, e⟩
      exact sp_cong (sp_mem n L j hj) (fun c hc => by rw [e c hc, Int.sub_self]; exact Int.dvd_zero _)
    apply sp_scale (B r j) (not_dvd _ nz b.1 b.2)
    apply sp_cong s1
    intro c hc
    by_cases e : c = j
    · have u1 : unG j c = 1 := by simp only [unG]; rw [if_pos e]
      rw [u1, e]
      have f : B r j * 1 - B r j = 0 := by omega
      rw [f]; exact Int.dvd_zero _
    · have u0 : unG j c = 0 := by simp only [unG]; rw [if_neg e]
      have z : B r c = 0 := Classical.byContradiction (fun q => e ((hB c hc).mp q))
      rw [u0, z, Int.mul_zero, Int.sub_zero]; exact Int.dvd_zero _
theorem spS_trans {Q : (Nat → Int) → Prop} {x : Nat → Int} (h : spS Q x) (hQ : ∀ y, Q y → spS P y) : spS P x := by
  rcases h with ⟨n, L, h1, a, ha⟩
  exact spS_cong (spS_sum n a L (fun i hi => hQ _ (h1 i hi))) ha
theorem spS_nil (P : (Nat → Int) → Prop) (x : Nat → Int) (h : ∀ c, c < 20 → x c = 0) : spS P x :=
  ⟨0, fun _ _ => 0, fun i hi => absurd hi (Nat.not_lt_zero i), fun _ => 0, fun c hc => by rw [h c hc]; exact Int.dvd_zero _⟩
/-- one more that is nothing -/
theorem GA_drop {Q : (Nat → Int) → Prop} (h : GA Q k q d B) (h1 : ∀ x, P x → Q x) (h2 : ∀ x, Q x → P x ∨ ∀ c, c < 20 → x c = 0) : GA P k q d B := by
  rcases h with ⟨v, a1, a2, a3, a4, a5⟩
  refine ⟨v, a1, a2, a3, fun r hr => spS_trans (a4 r hr) (fun y hy => ?_), fun x hx => a5 x (h1 x hx)⟩
  rcases h2 y hy with e | e
  · exact spS_mem e
  · exact spS_nil P y e
theorem GA_tellS (h : GA P k q d B) (j : Nat) (hj : j < 20) : spS P (unG j) ↔ ∃ r, r < k ∧ ∀ c, c < 20 → (B r c ≠ 0 ↔ c = j) := by
  rcases h with ⟨v, h1, h2, h3, h4, h5⟩
  have ⟨n, L, hL, hB⟩ : ∃ n L, (∀ i, i < n → P (L i)) ∧ ∀ r, r < k → spG n L (B r) := by
    clear h1 h5
    have main : ∀ m, m ≤ k → ∃ n L, (∀ i, i < n → P (L i)) ∧ ∀ r, r < m → spG n L (B r) := by
      intro m
      induction m with
      | zero => intro _; exact ⟨0, fun _ _ => 0, fun i hi => absurd hi (Nat.not_lt_zero i), fun r hr => absurd hr (Nat.not_lt_zero r)⟩
      | succ m ih =>
        intro hm
        rcases ih (by omega) with ⟨n, L, a1, a2⟩
        rcases h4 m (by omega) with ⟨n', L', b1, b2⟩
        refine ⟨n + n', apG n L L', fun i hi => ?_, fun r hr => ?_⟩
        · simp only [apG]; by_cases e : i < n
          · rw [if_pos e]; exact a1 i e
          · rw [if_neg e]; exact b1 _ (by omega)
        · by_cases e : r = m
          · rw [e]; exact sp_apR b2
          · exact sp_apL (a2 r (by omega))
    exact main k (Nat.le_refl k)
  have hG : GA (fun x => ∃ i, i < n ∧ x = L i) k q d B := ⟨v, h1, h2, h3, fun r hr => ⟨n, L, fun i hi => ⟨i, hi, rfl⟩, hB r hr⟩, fun x hx c => by
    rcases hx with ⟨i, hi, e⟩
    rw [e]; exact h5 _ (hL i hi) c⟩
  have hT := GA_tell hG n L (fun i hi => ⟨i, hi, rfl⟩) (fun x hx => by
    rcases hx with ⟨i, hi, e⟩
    exact ⟨i, hi, fun c _ => by rw [e]⟩) j hj
  rw [← hT]
  constructor
  · intro hs
    have h6 : spG k B (unG j) := by
      rcases hs with ⟨m, M, a1, a2⟩
      exact sp_trans a2 (fun i hi => in_span h1 h2 (M i) (h5 _ (a1 i hi)))
    exact sp_trans h6 hB
  · intro hs
    exact ⟨n, L, hL, hs⟩
end G84b
end
end
section
noncomputable section
/-! ===== THE GUARD, 85: rows worked off by the prime, one place behind another ===== -/
/-- j places are worked off, rk rows lead -/
def EL (n : Nat) (L : Nat → Nat → Int) (rk j : Nat) (M : Nat → Nat → Int) : Prop :=
  (∀ i, i < n → spG n L (M i)) ∧ (∀ i, i < n → spG n M (L i)) ∧ rk ≤ n ∧ rk ≤ j ∧
  (∃ e : Nat → Nat, (∀ r, r < rk → e r < j ∧ ¬ pG ∣ M r (e r)) ∧ ∀ r, r < rk → ∀ i, i < n → r < i → pG ∣ M i (e r)) ∧
  ∀ i, i < n → rk ≤ i → ∀ c, c < j → pG ∣ M i c
section G85
variable {n : Nat} {L : Nat → Nat → Int} {rk j : Nat} {M : Nat → Nat → Int}
theorem EL_zero (n : Nat) (L : Nat → Nat → Int) : EL n L 0 0 L :=
  ⟨fun i hi => sp_mem n L i hi, fun i hi => sp_mem n L i hi, by omega, by omega, ⟨fun _ => 0, fun r hr => absurd hr (Nat.not_lt_zero r), fun r hr => absurd hr (Nat.not_lt_zero r)⟩, fun i _ _ c hc => absurd hc (Nat.not_lt_zero c)⟩
theorem EL_skip (h : EL n L rk j M) (hz : ∀ i, i < n → rk ≤ i → pG ∣ M i j) : EL n L rk (j + 1) M := by
  rcases h with ⟨h1, h2, h3, h4, ⟨e, e1, e2⟩, h5⟩
  refine ⟨h1, h2, h3, by omega, ⟨e, fun r hr => ⟨by have := (e1 r hr).1; omega, (e1 r hr).2⟩, e2⟩, fun i hi hr c hc => ?_⟩
  by_cases q : c = j
  · rw [q]; exact hz i hi hr
  · exact h5 i hi hr c (by omega)
def swG (a b : Nat) (M : Nat → Nat → Int) : Nat → Nat → Int := fun i => if i = a then M b else if i = b then M a else M i
theorem sw_ex (a b i n : Nat) (M : Nat → Nat → Int) (ha : a < n) (hb : b < n) (hi : i < n) : ∃ k, k < n ∧ swG a b M i = M k := by
  simp only [swG]
  by_cases e : i = a
  · exact ⟨b, hb, by rw [if_pos e]⟩
  · by_cases f : i = b
    · exact ⟨a, ha, by rw [if_neg e, if_pos f]⟩
    · exact ⟨i, hi, by rw [if_neg e, if_neg f]⟩
theorem sw_back (a b i n : Nat) (M : Nat → Nat → Int) (ha : a < n) (hb : b < n) (hi : i < n) : ∃ k, k < n ∧ swG a b M k = M i := by
  by_cases e : i = a
  · refine ⟨b, hb, ?_⟩
    simp only [swG]; by_cases f : b = a
    · simp [f, e]
    · simp [f, e]
  · by_cases f : i = b
    · exact ⟨a, ha, by simp [swG, f]⟩
    · exact ⟨i, hi, by simp only [swG]; rw [if_neg e, if_neg f]⟩
theorem EL_swap (h : EL n L rk j M) (p : Nat) (hp : p < n) (hr : rk ≤ p) : EL n L rk j (swG p rk M) := by
  rcases h with ⟨h1, h2, h3, h4, ⟨e, e1, e2⟩, h5⟩
  have hlow : ∀ r, r < rk → swG p rk M r = M r := fun r hr => by simp only [swG]; rw [if_neg (by omega), if_neg (by omega)]
  have hup : ∀ i, i < n → rk ≤ i → ∃ k, k < n ∧ rk ≤ k ∧ swG p rk M i = M k := by
    intro i hi hri
    simp only [swG]; by_cases q : i = p
    · exact ⟨rk, by omega, by omega, by rw [if_pos q]⟩
    · by_cases f : i = rk
      · exact ⟨p, hp, hr, by rw [if_neg q, if_pos f]⟩
      · exact ⟨i, hi, hri, by rw [if_neg q, if_neg f]⟩
  refine ⟨fun i hi => ?_, fun i hi => ?_, h3, h4, ⟨e, fun r hr => ⟨(e1 r hr).1, by rw [hlow r hr]; exact (e1 r hr).2⟩, fun r hr i hi hri => ?_⟩, fun i hi hri c hc => ?_⟩
  · rcases sw_ex p rk i n M hp (by omega) hi with ⟨k, hk, ek⟩
    rw [ek]; exact h1 k hk
  · apply sp_trans (h2 i hi)
    intro t ht
    rcases sw_back p rk t n M hp (by omega) ht with ⟨k, hk, ek⟩
    rw [← ek]; exact sp_mem n _ k hk
  · by_cases q : i < rk
    · rw [hlow i q]; exact e2 r hr i hi hri
    · rcases hup i hi (by omega) with ⟨k, hk, hrk, ek⟩
      rw [ek]; exact e2 r hr k hk (by omega)
  · rcases hup i hi hri with ⟨k, hk, hrk, ek⟩
    rw [ek]; exact h5 k hk hrk c hc
/-- a row less a multiple of the leading one -/
theorem EL_row (h : EL n L rk j M) (hj : j < 20) (t : Nat) (ht : t < n) (hrt : rk < t) (f : Int) (N : Nat → Nat → Int) (hN : ∀ i, i ≠ t → N i = M i) (hNt : ∀ c, c < 20 → pG ∣ N t c - (M t c - f * M rk c)) : EL n L rk j N := by
  rcases h with ⟨h1, h2, h3, h4, ⟨e, e1, e2⟩, h5⟩
  have o : ∀ c, c < 20 → pG ∣ M t c → pG ∣ M rk c → pG ∣ N t c := by
    intro c hc a b
    have x := Int.dvd_add (hNt c hc) (Int.dvd_sub a (Int.dvd_mul_of_dvd_right b : pG ∣ f * M rk c))
    have y : N t c - (M t c - f * M rk c) + (M t c - f * M rk c) = N t c := by omega
    rwa [y] at x
  refine ⟨fun i hi => ?_, fun i hi => ?_, h3, h4, ⟨e, fun r hr => ⟨(e1 r hr).1, by rw [hN r (by omega)]; exact (e1 r hr).2⟩, fun r hr i hi hri => ?_⟩, fun i hi hri c hc => ?_⟩
  · by_cases q : i = t
    · subst q
      apply sp_cong (sp_lin 1 (-f) (h1 i hi) (h1 rk (by omega)))
      intro c hc
      have y : N i c - (1 * M i c + -f * M rk c) = N i c - (M i c - f * M rk c) := by grind
      rw [y]; exact hNt c hc
    · rw [hN i q]; exact h1 i hi
  · apply sp_trans (h2 i hi)
    intro s hs
    by_cases q : s = t
    · subst q
      have a := sp_mem n N s hs
      have b := sp_mem n N rk (by omega)
      rw [hN rk (by omega)] at b
      apply sp_cong (sp_lin 1 f a b)
      intro c hc
      have y : M s c - (1 * N s c + f * M rk c) = -(N s c - (M s c - f * M rk c)) := by grind
      rw [y]; exact Int.dvd_neg.mpr (hNt c hc)
    · have a := sp_mem n N s hs
      rw [hN s q] at a; exact a
  · by_cases q : i = t
    · subst q
      exact o (e r) (by have := (e1 r hr).1; omega) (e2 r hr i hi hri) (e2 r hr rk (by omega) hr)
    · rw [hN i q]; exact e2 r hr i hi hri
  · by_cases q : i = t
    · subst q; exact o c (by omega) (h5 i hi hri c hc) (h5 rk (by omega) (by omega) c hc)
    · rw [hN i q]; exact h5 i hi hri c hc
theorem EL_next (h : EL n L rk j M) (hrk : rk < n) (hl : ¬ pG ∣ M rk j) (hz : ∀ i, i < n → rk < i → pG ∣ M i j) : EL n L (rk + 1) (j + 1) M := by
  rcases h with ⟨h1, h2, h3, h4, ⟨e, e1, e2⟩, h5⟩
  refine ⟨h1, h2, by omega, by omega, ⟨fun r => if r = rk then j else e r, fun r hr => ?_, fun r hr i hi hri => ?_⟩, fun i hi hri c hc => ?_⟩
  · by_cases q : r = rk
    · subst q; show (if r = r then j else e r) < j + 1 ∧ ¬ pG ∣ M r (if r = r then j else e r); rw [if_pos rfl]; exact ⟨by omega, hl⟩
    · show (if r = rk then j else e r) < j + 1 ∧ ¬ pG ∣ M r (if r = rk then j else e r); rw [if_neg q]; exact ⟨by have := (e1 r (by omega)).1; omega, (e1 r (by omega)).2⟩
  · by_cases q : r = rk
    · subst q; show pG ∣ M i (if r = r then j else e r); rw [if_pos rfl]; exact hz i hi hri
    · show pG ∣ M i (if r = rk then j else e r); rw [if_neg q]; exact e2 r (by omega) i hi hri
  · by_cases q : c = j
    · rw [q]; exact hz i hi (by omega)
    · exact h5 i hi (by omega) c (by omega)
theorem EL_RK (h : EL n L rk 20 M) : RKG n L rk := by
  rcases h with ⟨h1, h2, h3, h4, ⟨e, e1, e2⟩, h5⟩
  refine ⟨M, ?_, fun r hr => h1 r (by omega), fun i hi => ?_⟩
  · intro a ha
    have main : ∀ m, ∀ r, r < m → r < rk → pG ∣ a r := by
      intro m; induction m with
      | zero => intro r hr; omega
      | succ m ih =>
        intro r hr hrk
        by_cases q : r < m
        · exact ih r q hrk
        · have x := ha (e r) (e1 r hrk).1
          have y : pG ∣ smG rk (fun s => if s = r then 0 else a s * M s (e r)) := dvd_sm _ _ _ (fun s hs => by
            show pG ∣ (if s = r then 0 else a s * M s (e r))
            by_cases z : s = r
            · rw [if_pos z]; exact Int.dvd_zero _
            · rw [if_neg z]; by_cases u : s < r
              · exact Int.dvd_mul_of_dvd_left (ih s (by omega) hs)
              · exact Int.dvd_mul_of_dvd_right (e2 r hrk s (by omega) (by omega)))
          have g : smG rk (fun s => a s * M s (e r)) = smG rk (fun s => if s = r then 0 else a s * M s (e r)) + a r * M r (e r) := by
            have g2 : smG rk (fun s => a s * M s (e r)) = smG rk (fun s => (if s = r then 0 else a s * M s (e r)) + (if s = r then a r * M r (e r) else 0)) := sm_cong rk _ _ (fun s _ => by
              by_cases z : s = r
              · rw [if_pos z, if_pos z, z]; omega
              · rw [if_neg z, if_neg z]; omega)
            rw [g2, sm_add, sm_one rk (fun s => if s = r then a r * M r (e r) else 0) r hrk (fun s _ hn => by show (if s = r then a r * M r (e r) else 0) = 0; rw [if_neg hn])]
            show _ + (if r = r then a r * M r (e r) else 0) = _
            rw [if_pos rfl]
          rw [g] at x
          have x2 := Int.dvd_sub x y
          have g3 : smG rk (fun s => if s = r then 0 else a s * M s (e r)) + a r * M r (e r) - smG rk (fun s => if s = r then 0 else a s * M s (e r)) = a r * M r (e r) := by omega
          rw [g3] at x2
          rcases pr_mul _ _ x2 with u | u
          · exact u
          · exact absurd u (e1 r hrk).2
    exact fun r hr => main (r + 1) r (by omega) hr
  · rcases h2 i hi with ⟨a, ha⟩
    refine ⟨a, fun c hc => ?_⟩
    have x := ha c hc
    have ⟨m, hm⟩ : ∃ m, n = rk + m := ⟨n - rk, by omega⟩
    rw [hm, sm_app] at x
    have y : pG ∣ smG m (fun i => a (rk + i) * M (rk + i) c) := dvd_sm _ _ _ (fun s hs => Int.dvd_mul_of_dvd_right (h5 (rk + s) (by omega) (by omega) c hc))
    have z := Int.dvd_add x y
    have g : L i c - (smG rk (fun i => a i * M i c) + smG m (fun i => a (rk + i) * M (rk + i) c)) + smG m (fun i => a (rk + i) * M (rk + i) c) = L i c - smG rk (fun i => a i * M i c) := by omega
    rw [g] at z; exact z
end G85
end
end
section
noncomputable section
/-! ===== THE GUARD, 86: what the tags say ===== -/
/-- a set as a row of noughts and ones -/
def bvG (s : Int) : Nat → Int := fun c => if c < 20 then b2i (bitN (Int32.ofInt s) c) else 0
abbrev bxG (s : Int) (x : Nat) : Int := b2i (bitN (Int32.ofInt s) x)
/-- who is reached from a -/
def RSG (m : Mt) (a x : Nat) : Prop := ∀ X : Nat → Prop, X a → (∀ u v, u < 4 → v < 4 → X u → m 200 (4 * u + v) ≠ 0 → X v) → X x
def inG (m : Mt) (a b : Int) (y : Nat) : Prop := RSG m a.toNat y ∨ RSG m b.toNat y
/-- the sets told before (A, I) to those who are reached -/
def tsG (m : Mt) (a b A I s : Int) : Prop := ∃ y i : Nat, y < 4 ∧ inG m a b y ∧ ((i : Int) < m 199 y ∧ i < 40) ∧ ((y : Int) < A ∨ ((y : Int) = A ∧ (i : Int) < I)) ∧ s = m 198 (40 * y + i)
def PfG (m : Mt) (a b A I : Int) (x : Nat → Int) : Prop := ∃ s, tsG m a b A I s ∧ x = bvG s
def PxG (m : Mt) (a b z : Int) (x : Nat → Int) : Prop := PfG m a b 4 0 x ∨ (z ≠ 0 ∧ x = bvG z)
/-- the rows as they are kept -/
def kGm (m : Mt) : Nat := (m 70 6).toNat
def qGm (m : Mt) : Nat → Nat := fun r => (m 96 r).toNat
def dGm (m : Mt) : Int := m 1000 7
def BGm (m : Mt) : Nat → Nat → Int := fun r c => if r < 20 ∧ c < 20 then m (76 + r) c else 0
def GAm (m : Mt) (P : (Nat → Int) → Prop) : Prop := 0 ≤ m 70 6 ∧ (∀ r, r < kGm m → 0 ≤ m 96 r) ∧ GA P (kGm m) (qGm m) (dGm m) (BGm m)
def lfm (m : Mt) (w : Int) (c : Nat) : Int := lfG (kGm m) (qGm m) (dGm m) (BGm m) (bvG w) c
/-- what is left of a place, so far -/
def psG (m : Mt) (w : Int) (R c : Nat) : Int := dGm m * bvG w c - smG R (fun r => bvG w (qGm m r) * BGm m r c)
/-- how many of a row are not nought -/
def nzG (f : Nat → Int) (p : Nat) : Int := smG p (fun c => if f c = 0 then 0 else 1)
/-- all of a set of numbers, each once -/
def enG (P : Int → Prop) (n : Nat) (L : Nat → Int) : Prop := (∀ i, i < n → P (L i)) ∧ (∀ i j, i < n → j < n → i ≠ j → L i ≠ L j) ∧ ∀ s, P s → ∃ i, i < n ∧ L i = s
section G86
variable {m : Mt} {P Q : (Nat → Int) → Prop} {a b A I : Int}
theorem bv01 (s : Int) (c : Nat) : bvG s c = 0 ∨ bvG s c = 1 := by
  unfold bvG b2i
  split
  · cases bitN (Int32.ofInt s) c
    · exact Or.inl rfl
    · exact Or.inr rfl
  · exact Or.inl rfl
theorem GA_iff {k : Nat} {q : Nat → Nat} {d : Int} {B : Nat → Nat → Int} (h : GA P k q d B) (hPQ : ∀ x, P x ↔ Q x) : GA Q k q d B := by
  rcases h with ⟨v, a1, a2, a3, a4, a5⟩
  exact ⟨v, a1, a2, a3, fun r hr => spS_mono (a4 r hr) (fun y hy => (hPQ y).mp hy), fun x hx => a5 x ((hPQ x).mpr hx)⟩
theorem GAm_iff (h : GAm m P) (hPQ : ∀ x, P x ↔ Q x) : GAm m Q := ⟨h.1, h.2.1, GA_iff h.2.2 hPQ⟩
theorem Pf_nil (x : Nat → Int) : ¬ PfG m a b 0 0 x := by
  rintro ⟨s, ⟨y, i, h1, h2, h3, h4, h5⟩, h6⟩
  omega
theorem ts_next (h0 : 0 ≤ A) (h : ¬ inG m a b A.toNat ∨ ∀ i : Nat, (i : Int) < m 199 A.toNat → i < 40 → (i : Int) < I) (s : Int) : tsG m a b (A + 1) 0 s ↔ tsG m a b A I s := by
  constructor
  · rintro ⟨y, i, h1, h2, h3, h4, h5⟩
    by_cases e : (y : Int) = A
    · refine ⟨y, i, h1, h2, h3, Or.inr ⟨e, ?_⟩, h5⟩
      have e2 : A.toNat = y := by omega
      rw [e2] at h
      rcases h with q | q
      · exact absurd h2 q
      · exact q i h3.1 h3.2
    · exact ⟨y, i, h1, h2, h3, Or.inl (by omega), h5⟩
  · rintro ⟨y, i, h1, h2, h3, h4, h5⟩
    exact ⟨y, i, h1, h2, h3, Or.inl (by omega), h5⟩
theorem ts_one (hA : 0 ≤ A ∧ A ≤ 3) (hI : 0 ≤ I ∧ I < m 199 A.toNat ∧ I < 40) (hin : inG m a b A.toNat) (s : Int) : tsG m a b A (I + 1) s ↔ tsG m a b A I s ∨ s = m 198 (40 * A.toNat + I.toNat) := by
  constructor
  · rintro ⟨y, i, h1, h2, h3, h4, h5⟩
    by_cases e : (y : Int) = A ∧ (i : Int) = I
    · right
      have e1 : A.toNat = y := by omega
      have e2 : I.toNat = i := by omega
      rw [e1, e2]; exact h5
    · exact Or.inl ⟨y, i, h1, h2, h3, by omega, h5⟩
  · rintro (⟨y, i, h1, h2, h3, h4, h5⟩ | h)
    · exact ⟨y, i, h1, h2, h3, by omega, h5⟩
    · exact ⟨A.toNat, I.toNat, by omega, hin, ⟨by omega, by omega⟩, Or.inr ⟨by omega, by omega⟩, h⟩
theorem Pf_of (h : ∀ s, tsG m a b A I s ↔ tsG m a b (A + 1) 0 s) (x : Nat → Int) : PfG m a b A I x ↔ PfG m a b (A + 1) 0 x :=
  ⟨fun ⟨s, h1, h2⟩ => ⟨s, (h s).mp h1, h2⟩, fun ⟨s, h1, h2⟩ => ⟨s, (h s).mpr h1, h2⟩⟩
theorem Pf_one (hA : 0 ≤ A ∧ A ≤ 3) (hI : 0 ≤ I ∧ I < m 199 A.toNat ∧ I < 40) (hin : inG m a b A.toNat) (x : Nat → Int) : PfG m a b A (I + 1) x ↔ PfG m a b A I x ∨ x = bvG (m 198 (40 * A.toNat + I.toNat)) := by
  constructor
  · rintro ⟨s, h1, h2⟩
    rcases (ts_one hA hI hin s).mp h1 with q | q
    · exact Or.inl ⟨s, q, h2⟩
    · right; rw [h2, q]
  · rintro (⟨s, h1, h2⟩ | h)
    · exact ⟨s, (ts_one hA hI hin s).mpr (Or.inl h1), h2⟩
    · exact ⟨_, (ts_one hA hI hin _).mpr (Or.inr rfl), h⟩
theorem GAm_nil (hk : m 70 6 = 0) (hd : m 1000 7 = 1) : GAm m (PfG m a b 0 0) := by
  have e1 : kGm m = 0 := by unfold kGm; rw [hk]; rfl
  have e2 : dGm m = 1 := hd
  refine ⟨by omega, fun r hr => by rw [e1] at hr; omega, ?_⟩
  rw [e1, e2]
  exact GA_zero _ Pf_nil _ _
theorem GAm_px (w : Int) (hb : w = 0 → ∀ c, bvG w c = 0) (h : GAm m (fun x => PfG m a b 4 0 x ∨ x = bvG w)) : GAm m (PxG m a b w) := by
  by_cases e : w = 0
  · refine ⟨h.1, h.2.1, GA_drop h.2.2 (fun x hx => ?_) (fun x hx => ?_)⟩
    · rcases hx with q | q
      · exact Or.inl q
      · exact absurd e q.1
    · rcases hx with q | q
      · exact Or.inl (Or.inl q)
      · right; intro c _; rw [q]; exact hb e c
  · exact GAm_iff h (fun x => ⟨fun q => q.elim Or.inl (fun q => Or.inr ⟨e, q⟩), fun q => q.elim Or.inl (fun q => Or.inr q.2)⟩)
theorem b2i_le (b : Bool) : 0 ≤ b2i b ∧ b2i b ≤ 1 := by cases b <;> decide
theorem bx_zero (c : Nat) (h : c < 20) : bxG 0 c = 0 := by
  have : ∀ c, c < 20 → b2i (bitN (Int32.ofInt 0) c) = 0 := by decide
  exact this c h
theorem bv_zero (c : Nat) : bvG 0 c = 0 := by
  unfold bvG
  split
  · have : ∀ c, c < 20 → b2i (bitN (Int32.ofInt 0) c) = 0 := by decide
    exact this c (by assumption)
  · rfl
theorem bv_unit0 : bvG 1 = unG 0 := by
  funext c
  unfold bvG unG
  by_cases h : c < 20
  · rw [if_pos h]
    have : ∀ c, c < 20 → b2i (bitN (Int32.ofInt 1) c) = if c = 0 then 1 else 0 := by decide
    exact this c h
  · rw [if_neg h, if_neg (by omega)]
theorem bv_out (w : Int) (c : Nat) (h : 20 ≤ c) : bvG w c = 0 := by unfold bvG; rw [if_neg (by omega)]
theorem lfm_out (m : Mt) (w : Int) (c : Nat) (h : 20 ≤ c) : lfm m w c = 0 := by
  show dGm m * bvG w c - smG (kGm m) (fun r => bvG w (qGm m r) * BGm m r c) = 0
  rw [bv_out w c h, sm_zero _ _ (fun r _ => by show bvG w (qGm m r) * (if r < 20 ∧ c < 20 then m (76 + r) c else 0) = 0; rw [if_neg (by omega), Int.mul_zero])]; omega
/-- what is left, place by place -/
theorem ps_zero (w : Int) (c : Nat) : psG m w 0 c = dGm m * bvG w c := by show _ - 0 = _; omega
theorem ps_succ (w : Int) (R c : Nat) : psG m w (R + 1) c = psG m w R c - bvG w (qGm m R) * BGm m R c := by
  show dGm m * bvG w c - (smG R (fun r => bvG w (qGm m r) * BGm m r c) + bvG w (qGm m R) * BGm m R c) = _
  unfold psG; omega
theorem ps_end (w : Int) (c : Nat) : psG m w (kGm m) c = lfm m w c := rfl
theorem ps_small (h : GAm m P) (w : Int) (c : Nat) : ∀ R, R ≤ kGm m → -(134217728 * ((R : Int) + 1)) ≤ psG m w R c ∧ psG m w R c ≤ 134217728 * ((R : Int) + 1) := by
  intro R
  induction R with
  | zero =>
    intro _
    rw [ps_zero]
    have hd := GA_dsmall h.2.2
    rcases bv01 w c with e | e <;> rw [e] <;> omega
  | succ R ih =>
    intro hR
    have i1 := ih (by omega)
    rw [ps_succ]
    have hB := GA_small h.2.2 R c (by omega)
    rcases bv01 w (qGm m R) with e | e <;> rw [e] <;> omega
theorem nz_succ (f : Nat → Int) (p : Nat) : nzG f (p + 1) = nzG f p + (if f p = 0 then 0 else 1) := rfl
theorem nz_nonneg (f : Nat → Int) (p : Nat) : 0 ≤ nzG f p := by
  induction p with
  | zero => exact Int.le_refl 0
  | succ p ih => rw [nz_succ]; split <;> omega
theorem nz_zero (f : Nat → Int) (p : Nat) : nzG f p = 0 → ∀ c, c < p → f c = 0 := by
  induction p with
  | zero => intro _ c hc; omega
  | succ p ih =>
    intro h c hc
    rw [nz_succ] at h
    have := nz_nonneg f p
    by_cases e : f p = 0
    · rw [if_pos e] at h
      by_cases q : c = p
      · rw [q]; exact e
      · exact ih (by omega) c (by omega)
    · rw [if_neg e] at h; omega
theorem nz_one (f : Nat → Int) (p : Nat) : nzG f p = 1 ↔ ∃ j, j < p ∧ ∀ c, c < p → (f c ≠ 0 ↔ c = j) := by
  induction p with
  | zero => exact ⟨fun h => (by have : (0 : Int) = 1 := h; omega), fun ⟨j, hj, _⟩ => (by omega)⟩
  | succ p ih =>
    rw [nz_succ]
    by_cases e : f p = 0
    · rw [if_pos e]
      constructor
      · intro h
        obtain ⟨j, hj, h2⟩ := ih.mp (by omega)
        refine ⟨j, by omega, fun c hc => ?_⟩
        by_cases q : c = p
        · rw [q]; exact ⟨fun z => absurd e z, fun z => by omega⟩
        · exact h2 c (by omega)
      · rintro ⟨j, hj, h2⟩
        have hjp : j ≠ p := fun z => (h2 p (by omega)).mpr z.symm e
        have := ih.mpr ⟨j, by omega, fun c hc => h2 c (by omega)⟩
        omega
    · rw [if_neg e]
      constructor
      · intro h
        have h0 := nz_zero f p (by omega)
        refine ⟨p, by omega, fun c hc => ?_⟩
        by_cases q : c = p
        · rw [q]; exact ⟨fun _ => rfl, fun _ => e⟩
        · exact ⟨fun z => absurd (h0 c (by omega)) z, fun z => absurd z q⟩
      · rintro ⟨j, hj, h2⟩
        have ej : p = j := (h2 p (by omega)).mp e
        have h0 : nzG f p = 0 := by
          apply sm_zero
          intro c hc
          show (if f c = 0 then (0 : Int) else 1) = 0
          rw [if_pos]
          apply Classical.byContradiction; intro z
          have := (h2 c (by omega)).mp z
          omega
        omega
theorem tell_iff (h : GAm m P) : (∃ j, j < 20 ∧ spS P (unG j)) ↔ ∃ r, r < kGm m ∧ nzG (BGm m r) 20 = 1 := by
  constructor
  · rintro ⟨j, hj, hs⟩
    obtain ⟨r, hr, h2⟩ := (GA_tellS h.2.2 j hj).mp hs
    exact ⟨r, hr, (nz_one _ 20).mpr ⟨j, hj, h2⟩⟩
  · rintro ⟨r, hr, h1⟩
    obtain ⟨j, hj, h2⟩ := (nz_one _ 20).mp h1
    exact ⟨j, hj, (GA_tellS h.2.2 j hj).mpr ⟨r, hr, h2⟩⟩
/-- two ways to count -/
theorem en_le {S : Int → Prop} {n n' : Nat} {L L' : Nat → Int} (h : enG S n L) (h' : enG S n' L') : n ≤ n' := by
  have hf : ∀ i, i < n → ∃ j, j < n' ∧ L' j = L i := fun i hi => h'.2.2 _ (h.1 i hi)
  let f : Nat → Nat := fun i => if hi : i < n then Classical.choose (hf i hi) else 0
  have hs : ∀ i, i < n → f i < n' ∧ L' (f i) = L i := fun i hi => by
    simp only [f, dif_pos hi]; exact Classical.choose_spec (hf i hi)
  exact inj_le n' n f (fun i hi => (hs i hi).1) (fun i j hi hj hn e => h.2.1 i j hi hj hn (by rw [← (hs i hi).2, ← (hs j hj).2, e]))
theorem en_eq {S : Int → Prop} {n n' : Nat} {L L' : Nat → Int} (h : enG S n L) (h' : enG S n' L') : n = n' := Nat.le_antisymm (en_le h h') (en_le h' h)
theorem en_card {n : Nat} {L : Nat → Int} (h : enG (tsG m a b A I) n L) : n ≤ 160 := by
  have hf : ∀ i, i < n → ∃ p, p < 160 ∧ L i = m 198 p := fun i hi => by
    obtain ⟨y, k, h1, h2, h3, h4, h5⟩ := h.1 i hi
    exact ⟨40 * y + k, by omega, h5⟩
  let f : Nat → Nat := fun i => if hi : i < n then Classical.choose (hf i hi) else 0
  have hs : ∀ i, i < n → f i < 160 ∧ L i = m 198 (f i) := fun i hi => by
    simp only [f, dif_pos hi]; exact Classical.choose_spec (hf i hi)
  exact inj_le 160 n f (fun i hi => (hs i hi).1) (fun i j hi hj hn e => h.2.1 i j hi hj hn (by rw [(hs i hi).2, (hs j hj).2, e]))
theorem en_same {S S' : Int → Prop} {n : Nat} {L : Nat → Int} (h : enG S n L) (hS : ∀ s, S' s ↔ S s) : enG S' n L :=
  ⟨fun i hi => (hS _).mpr (h.1 i hi), h.2.1, fun s hs => h.2.2 s ((hS s).mp hs)⟩
theorem en_more {S S' : Int → Prop} {n : Nat} {L : Nat → Int} {w : Int} (h : enG S n L) (hw : ¬ S w) (hS : ∀ s, S' s ↔ S s ∨ s = w) : enG S' (n + 1) (fun i => if i = n then w else L i) := by
  refine ⟨fun i hi => ?_, fun i j hi hj hn => ?_, fun s hs => ?_⟩
  · by_cases e : i = n
    · show S' (if i = n then w else L i); rw [if_pos e]; exact (hS w).mpr (Or.inr rfl)
    · show S' (if i = n then w else L i); rw [if_neg e]; exact (hS _).mpr (Or.inl (h.1 i (by omega)))
  · show (if i = n then w else L i) ≠ (if j = n then w else L j)
    by_cases e : i = n
    · rw [if_pos e, if_neg (by omega)]; intro z; exact hw (by rw [z]; exact h.1 j (by omega))
    · rw [if_neg e]
      by_cases f : j = n
      · rw [if_pos f]; intro z; exact hw (by rw [← z]; exact h.1 i (by omega))
      · rw [if_neg f]; exact h.2.1 i j (by omega) (by omega) hn
  · rcases (hS s).mp hs with q | q
    · obtain ⟨i, hi, e⟩ := h.2.2 s q
      exact ⟨i, by omega, by show (if i = n then w else L i) = s; rw [if_neg (by omega)]; exact e⟩
    · exact ⟨n, by omega, by show (if n = n then w else L n) = s; rw [if_pos rfl]; exact q.symm⟩
end G86
end
end
section
noncomputable section
/-! ===== THE GUARD, 87: who is reached; what is worked off ===== -/
section G87
variable {m m' : Mt}
theorem RS_refl (m : Mt) (a : Nat) : RSG m a a := fun _ h _ => h
theorem RS_step {a u v : Nat} (h : RSG m a u) (hu : u < 4) (hv : v < 4) (hs : m 200 (4 * u + v) ≠ 0) : RSG m a v := fun X h0 hc => hc u v hu hv (h X h0 hc) hs
theorem RS_trans {a x y : Nat} (h1 : RSG m a x) (h2 : RSG m x y) : RSG m a y := fun X h0 hc => h2 X (h1 X h0 hc) hc
theorem RS_lt {a x : Nat} (ha : a < 4) (h : RSG m a x) : x < 4 := h (fun z => z < 4) ha (fun _ _ _ hv _ _ => hv)
def SyG (m : Mt) : Prop := ∀ u v : Nat, u < 4 → v < 4 → m 200 (4 * u + v) ≠ 0 → m 200 (4 * v + u) ≠ 0
theorem RS_sym (hy : SyG m) {a x : Nat} (h : RSG m a x) : RSG m x a :=
  h (fun z => RSG m z a) (RS_refl m a) (fun u v hu hv hX hs => RS_trans (RS_step (RS_refl m v) hv hu (hy u v hu hv hs)) hX)
theorem RS_same {a x : Nat} (h : ∀ u v : Nat, u < 4 → v < 4 → (m' 200 (4 * u + v) ≠ 0 ↔ m 200 (4 * u + v) ≠ 0)) : RSG m' a x ↔ RSG m a x :=
  ⟨fun q X h0 hc => q X h0 (fun u v hu hv hX hs => hc u v hu hv hX ((h u v hu hv).mp hs)), fun q X h0 hc => q X h0 (fun u v hu hv hX hs => hc u v hu hv hX ((h u v hu hv).mpr hs))⟩
/-- what is linked, when nothing more comes -/
theorem link_end {a b : Int} (ha : 0 ≤ a ∧ a ≤ 3) (hb : 0 ≤ b ∧ b ≤ 3) (h1 : ∀ x, x < 4 → m 201 x ≠ 0 → inG m a b x) (h2 : m 201 a.toNat ≠ 0) (h3 : m 201 b.toNat ≠ 0) (hc : ∀ u v : Nat, u < 4 → v < 4 → m 201 u ≠ 0 → m 200 (4 * u + v) ≠ 0 → m 201 v ≠ 0) (x : Nat) (hx : x < 4) : m 201 x ≠ 0 ↔ inG m a b x :=
  ⟨h1 x hx, fun h => by
    rcases h with q | q
    · exact q (fun z => m 201 z ≠ 0) h2 (fun u v hu hv hX hs => hc u v hu hv hX hs)
    · exact q (fun z => m 201 z ≠ 0) h3 (fun u v hu hv hX hs => hc u v hu hv hX hs)⟩
/-- two more that share -/
theorem RS_join {p q : Nat} (hp : p < 4) (hq : q < 4) (h : ∀ u v : Nat, u < 4 → v < 4 → (m' 200 (4 * u + v) ≠ 0 ↔ m 200 (4 * u + v) ≠ 0 ∨ (u = p ∧ v = q) ∨ (u = q ∧ v = p))) (y x : Nat) : RSG m' y x ↔ RSG m y x ∨ (RSG m y p ∧ RSG m q x) ∨ (RSG m y q ∧ RSG m p x) := by
  have up : ∀ a z, RSG m a z → RSG m' a z := fun a z r X h0 hc => r X h0 (fun u v hu hv hX hs => hc u v hu hv hX ((h u v hu hv).mpr (Or.inl hs)))
  have pq : RSG m' p q := RS_step (RS_refl m' p) hp hq ((h p q hp hq).mpr (Or.inr (Or.inl ⟨rfl, rfl⟩)))
  have qp : RSG m' q p := RS_step (RS_refl m' q) hq hp ((h q p hq hp).mpr (Or.inr (Or.inr ⟨rfl, rfl⟩)))
  constructor
  · intro r
    apply r (fun x => RSG m y x ∨ (RSG m y p ∧ RSG m q x) ∨ (RSG m y q ∧ RSG m p x)) (Or.inl (RS_refl m y))
    intro u v hu hv hX hs
    rcases (h u v hu hv).mp hs with s | ⟨e1, e2⟩ | ⟨e1, e2⟩
    · rcases hX with t | ⟨t1, t2⟩ | ⟨t1, t2⟩
      · exact Or.inl (RS_step t hu hv s)
      · exact Or.inr (Or.inl ⟨t1, RS_step t2 hu hv s⟩)
      · exact Or.inr (Or.inr ⟨t1, RS_step t2 hu hv s⟩)
    · rw [e1] at hX; rw [e2]
      rcases hX with t | ⟨t1, t2⟩ | ⟨t1, t2⟩
      · exact Or.inr (Or.inl ⟨t, RS_refl m q⟩)
      · exact Or.inr (Or.inl ⟨t1, RS_refl m q⟩)
      · exact Or.inl t1
    · rw [e1] at hX; rw [e2]
      rcases hX with t | ⟨t1, t2⟩ | ⟨t1, t2⟩
      · exact Or.inr (Or.inr ⟨t, RS_refl m p⟩)
      · exact Or.inl t1
      · exact Or.inr (Or.inr ⟨t1, RS_refl m p⟩)
  · rintro (t | ⟨t1, t2⟩ | ⟨t1, t2⟩)
    · exact up y x t
    · exact RS_trans (RS_trans (up y p t1) pq) (up q x t2)
    · exact RS_trans (RS_trans (up y q t1) qp) (up p x t2)
theorem join_in {p q : Nat} (hy : SyG m) (y x : Nat) (h : RSG m p y ∨ RSG m q y) : (RSG m y x ∨ (RSG m y p ∧ RSG m q x) ∨ (RSG m y q ∧ RSG m p x)) ↔ RSG m p x ∨ RSG m q x := by
  rcases h with h | h
  · have h' := RS_sym hy h
    exact ⟨fun r => r.elim (fun r => Or.inl (RS_trans h r)) (fun r => r.elim (fun r => Or.inr r.2) (fun r => Or.inl r.2)), fun r => r.elim (fun r => Or.inl (RS_trans h' r)) (fun r => Or.inr (Or.inl ⟨h', r⟩))⟩
  · have h' := RS_sym hy h
    exact ⟨fun r => r.elim (fun r => Or.inr (RS_trans h r)) (fun r => r.elim (fun r => Or.inr r.2) (fun r => Or.inl r.2)), fun r => r.elim (fun r => Or.inr (Or.inr ⟨h', r⟩)) (fun r => Or.inl (RS_trans h' r))⟩
theorem join_out {p q : Nat} (hy : SyG m) (y x : Nat) (h : ¬ (RSG m p y ∨ RSG m q y)) : (RSG m y x ∨ (RSG m y p ∧ RSG m q x) ∨ (RSG m y q ∧ RSG m p x)) ↔ RSG m y x :=
  ⟨fun r => r.elim id (fun r => r.elim (fun r => absurd (Or.inl (RS_sym hy r.1)) h) (fun r => absurd (Or.inr (RS_sym hy r.1)) h)), Or.inl⟩
end G87
/-! the reference's rows -/
def fmG (m : Mt) (s : Int) : Nat → Nat → Int := fun i => bvG (if (i : Int) < m 110 134 then m 202 i else s)
def MmG (m : Mt) : Nat → Nat → Int := fun i c => if c < 20 then m 203 (20 * i + c) else 0
/-- all of them below the prime -/
def BdG (n : Nat) (M : Nat → Nat → Int) : Prop := ∀ i c, i < n → c < 20 → 0 ≤ M i c ∧ M i c < pG
def ELm (n : Nat) (L : Nat → Nat → Int) (r j : Nat) (M : Nat → Nat → Int) : Prop := EL n L r j M ∧ BdG n M
/-- in the midst of an exchange of rows -/
def SWG (n : Nat) (L : Nat → Nat → Int) (r j p k : Nat) (h : Bool) (M : Nat → Nat → Int) : Prop := ∃ M0, ELm n L r j M0 ∧ ¬ pG ∣ M0 p j ∧ ∀ i c, M i c = if c < k ∨ (h = true ∧ c = k ∧ i = p) then swG p r M0 i c else M0 i c
/-- in the midst of a row that is worked off -/
def RWG (n : Nat) (L : Nat → Nat → Int) (r j t : Nat) (f : Int) (k : Nat) (M : Nat → Nat → Int) : Prop := ∃ M0, ELm n L r j M0 ∧ (¬ pG ∣ M0 r j ∧ ∀ i, i < n → r < i → i < t → M0 i j = 0) ∧ (∀ i c, i ≠ t → M i c = M0 i c) ∧ ∀ c, M t c = if j ≤ c ∧ c < k then (M0 t c + (pG - f) * M0 r c) % pG else M0 t c
section G87b
theorem pow_cong (p a b : Int) (h : p ∣ a - b) (n : Nat) : p ∣ a ^ n - b ^ n := by
  induction n with
  | zero => rw [Int.pow_zero, Int.pow_zero, Int.sub_self]; exact Int.dvd_zero _
  | succ n ih =>
    rw [Int.pow_succ, Int.pow_succ]
    have e : a ^ n * a - b ^ n * b = (a ^ n - b ^ n) * a + b ^ n * (a - b) := by grind
    rw [e]; exact Int.dvd_add (Int.dvd_mul_of_dvd_left ih) (Int.dvd_mul_of_dvd_right h)
theorem emod_dvd (x p : Int) : p ∣ x % p - x := by
  have e := Int.emod_add_mul_ediv x p
  exact ⟨-(x / p), by rw [Int.mul_neg]; omega⟩
/-- a power, by halves -/
def PwG (x r b : Int) (k : Nat) : Prop := ∃ n : Nat, n + 2 = 2147483647 ∧ pG ∣ r * b ^ k - x ^ n
theorem Pw_odd {x r b r' b' : Int} {k : Nat} (h : PwG x r b (2 * k + 1)) (hr : r' = (r * b) % pG) (hb : b' = (b * b) % pG) : PwG x r' b' k := by
  rcases h with ⟨n, hn, h⟩
  refine ⟨n, hn, ?_⟩
  have h1 : pG ∣ r' - r * b := by rw [hr]; exact emod_dvd _ _
  have h2 : pG ∣ b' ^ k - (b * b) ^ k := pow_cong pG _ _ (by rw [hb]; exact emod_dvd _ _) k
  have e0 : b ^ (2 * k + 1) = (b * b) ^ k * b := by
    rw [Int.pow_succ]
    have : b ^ (2 * k) = (b ^ 2) ^ k := Int.pow_mul
    rw [this]
    have : b ^ 2 = b * b := by rw [Int.pow_succ, Int.pow_succ, Int.pow_zero, Int.one_mul]
    rw [this]
  rw [e0] at h
  have e : r' * b' ^ k - x ^ n = (r' - r * b) * b' ^ k + (r * b) * (b' ^ k - (b * b) ^ k) + (r * ((b * b) ^ k * b) - x ^ n) := by grind
  rw [e]
  exact Int.dvd_add (Int.dvd_add (Int.dvd_mul_of_dvd_left h1) (Int.dvd_mul_of_dvd_right h2)) h
theorem Pw_even {x r b b' : Int} {k : Nat} (h : PwG x r b (2 * k)) (hb : b' = (b * b) % pG) : PwG x r b' k := by
  rcases h with ⟨n, hn, h⟩
  refine ⟨n, hn, ?_⟩
  have h2 : pG ∣ b' ^ k - (b * b) ^ k := pow_cong pG _ _ (by rw [hb]; exact emod_dvd _ _) k
  have e0 : b ^ (2 * k) = (b * b) ^ k := by
    have : b ^ (2 * k) = (b ^ 2) ^ k := Int.pow_mul
    rw [this]
    have : b ^ 2 = b * b := by rw [Int.pow_succ, Int.pow_succ, Int.pow_zero, Int.one_mul]
    rw [this]
  rw [e0] at h
  have e : r * b' ^ k - x ^ n = r * (b' ^ k - (b * b) ^ k) + (r * (b * b) ^ k - x ^ n) := by grind
  rw [e]
  exact Int.dvd_add (Int.dvd_mul_of_dvd_right h2) h
theorem Pw_zero (x : Int) : ∀ k : Nat, k + 2 = 2147483647 → PwG x 1 x k := fun k hk => ⟨k, hk, by rw [Int.one_mul, Int.sub_self]; exact Int.dvd_zero _⟩
theorem Pw_inv {x r b : Int} (h : PwG x r b 0) (h0 : 0 ≤ x) (hx : ¬ pG ∣ x) : pG ∣ x * r - 1 := by
  rcases h with ⟨n, hn, h⟩
  have hp : ((n + 2 : Nat) : Int) = pG := by rw [hn]; rfl
  have h3 := ferm_inv n (by rw [hp]; exact pr_mul) x h0 (by rw [hp]; exact hx)
  rw [hp] at h3
  rw [Int.pow_zero, Int.mul_one] at h
  have e : x * r - 1 = x * (r - x ^ n) + (x * x ^ n - 1) := by grind
  rw [e]; exact Int.dvd_add (Int.dvd_mul_of_dvd_right h) h3
variable {n : Nat} {L : Nat → Nat → Int} {r j p t k : Nat} {M N : Nat → Nat → Int} {f : Int}
theorem EL_init (h : ∀ i c, i < n → c < 20 → M i c = L i c) : EL n L 0 0 M :=
  ⟨fun i hi => sp_cong (sp_mem n L i hi) (fun c hc => by rw [h i c hi hc, Int.sub_self]; exact Int.dvd_zero _), fun i hi => sp_cong (sp_mem n M i hi) (fun c hc => by rw [h i c hi hc, Int.sub_self]; exact Int.dvd_zero _), by omega, by omega, ⟨fun _ => 0, fun r hr => absurd hr (Nat.not_lt_zero r), fun r hr => absurd hr (Nat.not_lt_zero r)⟩, fun i _ _ c hc => absurd hc (Nat.not_lt_zero c)⟩
theorem SW_zero (h : ELm n L r j M) (hp : ¬ pG ∣ M p j) : SWG n L r j p 0 false M := ⟨M, h, hp, fun i c => by rw [if_neg (by rintro (q | ⟨q, _⟩); exact absurd q (Nat.not_lt_zero c); cases q)]⟩
theorem SW_one (h : SWG n L r j p k false M) (hN : ∀ i c, N i c = if i = p ∧ c = k then M r k else M i c) : SWG n L r j p k true N := by
  rcases h with ⟨M0, h1, h2, h3⟩
  refine ⟨M0, h1, h2, fun i c => ?_⟩
  rw [hN]
  by_cases e : i = p ∧ c = k
  · rw [if_pos e, if_pos (Or.inr ⟨rfl, e.2, e.1⟩), h3, if_neg (by rintro (q | ⟨q, _⟩); omega; cases q), e.1, e.2]
    simp only [swG, if_true]
  · rw [if_neg e, h3]
    by_cases q : c < k
    · rw [if_pos (Or.inl q), if_pos (Or.inl q)]
    · rw [if_neg (by rintro (z | ⟨z, _⟩); exact q z; cases z), if_neg (by rintro (z | ⟨_, z1, z2⟩); exact q z; exact e ⟨z2, z1⟩)]
theorem SW_two (h : SWG n L r j p k true M) (v : Int) (hv : ∀ M0 : Nat → Nat → Int, (∀ i c, M i c = if c < k ∨ (true = true ∧ c = k ∧ i = p) then swG p r M0 i c else M0 i c) → v = M0 p k) (hN : ∀ i c, N i c = if i = r ∧ c = k then v else M i c) : SWG n L r j p (k + 1) false N := by
  rcases h with ⟨M0, h1, h2, h3⟩
  have hv := hv M0 h3
  refine ⟨M0, h1, h2, fun i c => ?_⟩
  rw [hN]
  by_cases e : i = r ∧ c = k
  · rw [if_pos e, if_pos (Or.inl (by omega)), hv, e.1, e.2]
    unfold swG
    by_cases q : r = p
    · rw [if_pos q, q]
    · rw [if_neg q, if_pos rfl]
  · rw [if_neg e, h3]
    by_cases q : c < k
    · rw [if_pos (Or.inl q), if_pos (Or.inl (by omega))]
    · by_cases q2 : c = k
      · rw [if_pos (show c < k + 1 ∨ (false = true ∧ c = k + 1 ∧ i = p) from Or.inl (by omega))]
        have hir : i ≠ r := fun z => e ⟨z, q2⟩
        by_cases q3 : i = p
        · rw [if_pos (Or.inr ⟨rfl, q2, q3⟩)]
        · rw [if_neg (by rintro (z | ⟨_, _, z⟩); exact q z; exact q3 z)]
          simp only [swG]; rw [if_neg q3, if_neg hir]
      · rw [if_neg (by rintro (z | ⟨_, z, _⟩); exact q z; exact q2 z), if_neg (by rintro (z | ⟨z, _⟩); omega; cases z)]
theorem SW_end (h : SWG n L r j p k false M) (hk : 20 ≤ k) (hM : ∀ i c, 20 ≤ c → M i c = 0) (hj : j < 20) (hp : p < n) (hr : r ≤ p) : ELm n L r j M ∧ ¬ pG ∣ M r j := by
  rcases h with ⟨M0, ⟨h1, hb⟩, h2, h3⟩
  have e1 : ∀ i c, c < 20 → M i c = swG p r M0 i c := fun i c hc => by rw [h3, if_pos (Or.inl (by omega))]
  have h4 := EL_swap h1 p hp hr
  have h5 : EL n L r j M := by
    rcases h4 with ⟨a1, a2, a3, a4, ⟨e, b1, b2⟩, a5⟩
    refine ⟨fun i hi => sp_cong (a1 i hi) (fun c hc => by rw [e1 i c hc, Int.sub_self]; exact Int.dvd_zero _), fun i hi => sp_trans (a2 i hi) (fun s hs => sp_cong (sp_mem n M s hs) (fun c hc => by rw [e1 s c hc, Int.sub_self]; exact Int.dvd_zero _)), a3, a4, ⟨e, fun r' hr' => ⟨(b1 r' hr').1, by rw [e1 _ _ (by have := (b1 r' hr').1; omega)]; exact (b1 r' hr').2⟩, fun r' hr' i hi hri => by rw [e1 _ _ (by have := (b1 r' hr').1; omega)]; exact b2 r' hr' i hi hri⟩, fun i hi hri c hc => by rw [e1 i c (by omega)]; exact a5 i hi hri c hc⟩
  refine ⟨⟨h5, fun i c hi hc => ?_⟩, ?_⟩
  · rw [e1 i c hc]
    obtain ⟨k', hk', ek⟩ := sw_ex p r i n M0 hp (by have := h1.2.2.1; omega) hi
    rw [ek]; exact hb k' c hk' hc
  · rw [e1 r j hj]
    unfold swG
    by_cases q : r = p
    · rw [if_pos q]; rw [q]; exact h2
    · rw [if_neg q, if_pos rfl]; exact h2
theorem RW_zero (h : ELm n L r j M) (h2 : ¬ pG ∣ M r j) (h3 : ∀ i, i < n → r < i → i < t → M i j = 0) : RWG n L r j t f j M :=
  ⟨M, h, ⟨h2, h3⟩, fun _ _ _ => rfl, fun c => by rw [if_neg (by omega)]⟩
theorem RW_one (h : RWG n L r j t f k M) (hk : j ≤ k) (hrt : r ≠ t) (hN : ∀ i c, N i c = if i = t ∧ c = k then (M t k + (pG - f) * M r k) % pG else M i c) : RWG n L r j t f (k + 1) N := by
  rcases h with ⟨M0, h1, h2, h3, h4⟩
  refine ⟨M0, h1, h2, fun i c hi => ?_, fun c => ?_⟩
  · rw [hN, if_neg (fun z => hi z.1)]; exact h3 i c hi
  · rw [hN]
    by_cases e : c = k
    · rw [if_pos ⟨rfl, e⟩, if_pos (by omega), h3 r k hrt, h4 k, if_neg (by omega), e]
    · rw [if_neg (fun z => e z.2), h4 c]
      by_cases q : j ≤ c ∧ c < k
      · rw [if_pos q, if_pos (by omega)]
      · rw [if_neg q, if_neg (by omega)]
theorem RW_end {M0 : Nat → Nat → Int} (h1 : EL n L r j M0) (hb : BdG n M0) (h2 : ¬ pG ∣ M0 r j ∧ ∀ i, i < n → r < i → i < t → M0 i j = 0) (h3 : ∀ i c, i ≠ t → M i c = M0 i c) (h4 : ∀ c, M t c = if j ≤ c ∧ c < k then (M0 t c + (pG - f) * M0 r c) % pG else M0 t c) (hk : 20 ≤ k ∨ f = 0) (hj : j < 20) (ht : t < n) (hrt : r < t) (q9 : pG ∣ M0 t j - f * M0 r j) : ELm n L r j M ∧ ¬ pG ∣ M r j ∧ ∀ i, i < n → r < i → i < t + 1 → M i j = 0 := by
  have hz : ∀ c, c < 20 → pG ∣ M t c - (M0 t c - f * M0 r c) := by
    intro c hc
    rw [h4 c]
    by_cases q : j ≤ c ∧ c < k
    · rw [if_pos q]
      have e1 := emod_dvd (M0 t c + (pG - f) * M0 r c) pG
      have e2 : (M0 t c + (pG - f) * M0 r c) % pG - (M0 t c - f * M0 r c) = ((M0 t c + (pG - f) * M0 r c) % pG - (M0 t c + (pG - f) * M0 r c)) + pG * M0 r c := by grind
      rw [e2]; exact Int.dvd_add e1 (Int.dvd_mul_right _ _)
    · rw [if_neg q]
      have e4 : M0 t c - (M0 t c - f * M0 r c) = f * M0 r c := by omega
      rw [e4]
      rcases hk with hk | hk
      · exact Int.dvd_mul_of_dvd_right (h1.2.2.2.2.2 r (by omega) (Nat.le_refl r) c (by omega))
      · rw [hk, Int.zero_mul]; exact Int.dvd_zero _
  have h5 := EL_row h1 hj t ht hrt f M (fun i hi => by funext c; exact h3 i c hi) hz
  have hbd : BdG n M := by
    intro i c hi hc
    by_cases q : i = t
    · rw [q, h4 c]
      by_cases q2 : j ≤ c ∧ c < k
      · rw [if_pos q2]; exact ⟨Int.emod_nonneg _ (by decide), Int.emod_lt_of_pos _ (by decide)⟩
      · rw [if_neg q2]; exact hb t c ht hc
    · rw [h3 i c q]; exact hb i c hi hc
  refine ⟨⟨h5, hbd⟩, by rw [h3 r j (by omega)]; exact h2.1, fun i hi hri hit => ?_⟩
  by_cases q : i = t
  · rw [q]
    have e1 := Int.dvd_add (hz j hj) q9
    have e2 : M t j - (M0 t j - f * M0 r j) + (M0 t j - f * M0 r j) = M t j := by omega
    rw [e2] at e1
    have b1 := hbd t j ht hj
    exact dvd_small _ (by simp only [pG] at *; omega) b1.2 e1
  · rw [h3 i j q]; exact h2.2 i hi hri (by omega)
theorem f_ok {y B f z : Int} (hB : pG ∣ z * B - 1) (hf : f = (y * B) % pG) : pG ∣ y - f * z := by
  have e1 : pG ∣ f - y * B := by rw [hf]; exact emod_dvd _ _
  have e2 : y - f * z = -(y * (z * B - 1)) - (f - y * B) * z := by grind
  rw [e2]
  exact Int.dvd_sub (Int.dvd_neg.mpr (Int.dvd_mul_of_dvd_right hB)) (Int.dvd_mul_of_dvd_left e1)
theorem fm_lt {m : Mt} {s s' : Int} {i : Nat} (h : (i : Int) < m 110 134) : fmG m s i = fmG m s' i := by unfold fmG; rw [if_pos h, if_pos h]
theorem fm_ge {m : Mt} {s : Int} {i : Nat} (h : ¬ (i : Int) < m 110 134) : fmG m s i = bvG s := by unfold fmG; rw [if_neg h]
/-- one more set, that is one person's -/
theorem tell_more {m : Mt} {w : Int} {J R0 R1 : Nat} (hk : 0 ≤ m 110 134) (hw : bvG w = unG J) (h0 : RKG (m 110 134).toNat (fmG m 0) R0) (h1 : RKG (m 110 134 + 1).toNat (fmG m w) R1) : R0 = R1 ↔ spG (m 110 134).toNat (fmG m 0) (unG J) := by
  have e : (m 110 134 + 1).toNat = (m 110 134).toNat + 1 := by omega
  rw [e] at h1
  have hlast : fmG m w (m 110 134).toNat = unG J := by rw [fm_ge (by omega), hw]
  refine RK_more h0 h1 (fun i hi => ?_) ?_ (fun i hi => ?_)
  · rw [fm_lt (s' := w) (by omega)]; exact sp_mem _ _ i (by omega)
  · rw [← hlast]; exact sp_mem _ _ _ (by omega)
  · by_cases q : i < (m 110 134).toNat
    · left; rw [fm_lt (s' := 0) (by omega)]; exact sp_mem _ _ i q
    · right; intro c _
      have ei : i = (m 110 134).toNat := by omega
      rw [ei, hlast]
/-- what is known, and what is told: the same vectors -/
theorem known_vec {m : Mt} {S : Int → Prop} (hk : 0 ≤ m 110 134) (h : enG S (m 110 134).toNat (fun i => m 202 i)) : (∀ i, i < (m 110 134).toNat → ∃ z, S z ∧ fmG m 0 i = bvG z) ∧ ∀ z, S z → ∃ i, i < (m 110 134).toNat ∧ fmG m 0 i = bvG z := by
  constructor
  · intro i hi
    refine ⟨m 202 i, h.1 i hi, ?_⟩
    unfold fmG; rw [if_pos (by omega)]
  · intro z hz
    obtain ⟨i, hi, e⟩ := h.2.2 z hz
    refine ⟨i, hi, ?_⟩
    unfold fmG; rw [if_pos (by omega)]
    exact congrArg bvG e
/-- both ways to ask whether somebody's number is told -/
theorem sp_known {m : Mt} {S : Int → Prop} {P : (Nat → Int) → Prop} (hk : 0 ≤ m 110 134) (h : enG S (m 110 134).toNat (fun i => m 202 i)) (hP : ∀ x, P x ↔ ∃ z, S z ∧ x = bvG z) (y : Nat → Int) : spS P y ↔ spG (m 110 134).toNat (fmG m 0) y := by
  have hv := known_vec hk h
  constructor
  · rintro ⟨n, L, h1, h2⟩
    refine sp_trans h2 (fun i hi => ?_)
    obtain ⟨z, hz, e⟩ := (hP _).mp (h1 i hi)
    obtain ⟨q, hq, eq⟩ := hv.2 z hz
    rw [e, ← eq]; exact sp_mem _ _ q hq
  · intro h2
    refine ⟨_, _, fun i hi => ?_, h2⟩
    obtain ⟨z, hz, e⟩ := hv.1 i hi
    exact (hP _).mpr ⟨z, hz, e⟩
/-- nobody is told who is not there -/
theorem un_out {n : Nat} {L : Nat → Nat → Int} {j : Nat} (hj : j < 20) (h : ∀ i, i < n → L i j = 0) : ¬ spG n L (unG j) := by
  rintro ⟨a, ha⟩
  have h1 := ha j hj
  rw [sm_zero n _ (fun i hi => by rw [h i hi, Int.mul_zero])] at h1
  have e : unG j j = 1 := by simp [unG]
  rw [e] at h1
  exact absurd h1 (by decide)
end G87b
end
end
section
noncomputable section
/-! ===== THE GUARD, 88: what holds ===== -/
theorem d1 {g : Nat → Int} {a : Nat} {x k : Int} (h : dot g [(a, x)] ≤ k) : x * g a ≤ k := by
  simp only [dot] at h; omega
theorem d2 {g : Nat → Int} {a b : Nat} {x y k : Int} (h : dot g [(a, x), (b, y)] ≤ k) : x * g a + y * g b ≤ k := by
  simp only [dot] at h; omega
theorem d3 {g : Nat → Int} {a b c : Nat} {x y z k : Int} (h : dot g [(a, x), (b, y), (c, z)] ≤ k) : x * g a + y * g b + z * g c ≤ k := by
  simp only [dot] at h; omega
theorem d4 {g : Nat → Int} {a b c e : Nat} {x y z w k : Int} (h : dot g [(a, x), (b, y), (c, z), (e, w)] ≤ k) : x * g a + y * g b + z * g c + w * g e ≤ k := by
  simp only [dot] at h; omega
theorem dV5 {g : Nat → Int} {a b c e f : Nat} {x y z w u k : Int} (h : dot g [(a, x), (b, y), (c, z), (e, w), (f, u)] ≤ k) : x * g a + y * g b + z * g c + w * g e + u * g f ≤ k := by
  simp only [dot] at h; omega
theorem f1 {g : Nat → Int} {a : Nat} {x k : Int} (h : x * g a ≤ k) : dot g [(a, x)] ≤ k := by
  simp only [dot]; omega
theorem f2 {g : Nat → Int} {a b : Nat} {x y k : Int} (h : x * g a + y * g b ≤ k) : dot g [(a, x), (b, y)] ≤ k := by
  simp only [dot]; omega
theorem no9 {α : Type} {o : Option α} {a : α} {P : Prop} (h : o = none) (h' : o = some a) : P := by rw [h] at h'; cases h'
theorem inj9 {α : Type} {o : Option α} {a b : α} (h : o = some a) (h' : o = some b) : b = a := Option.some.inj (h'.symm.trans h)
theorem f4 {g : Nat → Int} {a b c e : Nat} {x y z w k : Int} (h : x * g a + y * g b + z * g c + w * g e ≤ k) : dot g [(a, x), (b, y), (c, z), (e, w)] ≤ k := by
  simp only [dot]; omega
theorem f3 {g : Nat → Int} {a b c : Nat} {x y z k : Int} (h : x * g a + y * g b + z * g c ≤ k) : dot g [(a, x), (b, y), (c, z)] ≤ k := by
  simp only [dot]; omega
/-- a word and a word; a long, shifted -/
def R830 (x y v : Int) : Prop := v = (Int32.ofInt x &&& Int32.ofInt y).toInt
theorem R840x {t o b : Int} (h : R840 t o b) (h0 : 0 ≤ o) (h1 : o < 20) : b = bxG t o.toNat := by
  obtain ⟨x, hx, hq⟩ := h
  rw [hq o.toNat (by omega) (by omega), ← hx]
  show b2i (bitN x o.toNat) = b2i (bitN (Int32.ofInt x.toInt) o.toNat)
  rw [Int32.ofInt_toInt]
def R833 (x y v : Int) : Prop := v = (Int64.ofInt x >>> ((Int32.ofInt y).toInt64 &&& 63)).toInt
theorem bits_out {x : Int} {p c : Nat} (h0 : 0 ≤ x) (h : x.toNat < 2 ^ p) (hc : p ≤ c) : bvG x c = 0 := by
  unfold bvG
  split
  · have h1 : x.toNat < 2 ^ c := Nat.lt_of_lt_of_le h (Nat.pow_le_pow_right (by decide) hc)
    have hb : bitN (Int32.ofInt x) c = false := by
      show (Int32.ofInt x).toBitVec.getLsbD c = false
      have e : (Int32.ofInt x).toBitVec = BitVec.ofNat 32 x.toNat := by
        have ex : x = ((x.toNat : Nat) : Int) := by omega
        conv => lhs; rw [ex]
        exact BitVec.ofInt_natCast 32 x.toNat
      rw [e, BitVec.getLsbD_ofNat, Nat.testBit_lt_two_pow h1, Bool.and_false]
    rw [hb]; rfl
  · rfl
theorem shr9 {x y v : Int} (h : R833 x y v) (hv : v = 0) (hx : 1 ≤ x) (hx2 : x ≤ 9223372036854775807) (hy : 0 ≤ y ∧ y ≤ 20) : x.toNat < 2 ^ y.toNat := by
  have hX : (Int64.ofInt x).toInt = x := by
    have hz : ((Int64.size : Nat) : Int) = 18446744073709551616 := rfl
    rw [Int64.toInt_ofInt, Int.bmod_def, hz]
    split <;> omega
  have hw : v = (Int64.ofInt x >>> ((Int32.ofInt y).toInt64 &&& 63)).toInt := h
  have ey : y = ((y.toNat : Nat) : Int) := by omega
  have hs : (Int64.ofInt x >>> ((Int32.ofInt y).toInt64 &&& 63)).toInt = x >>> y.toNat := by
    have key : ∀ n, n < 21 → (((Int32.ofInt ((n : Nat) : Int)).toInt64 &&& 63).toBitVec.smod 64#64).toNat = n := by decide
    have e2 : Int32.ofInt y = Int32.ofInt ((y.toNat : Nat) : Int) := by rw [← ey]
    rw [e2]
    show ((Int64.ofInt x).toBitVec.sshiftRight (((Int32.ofInt ((y.toNat : Nat) : Int)).toInt64 &&& 63).toBitVec.smod 64#64).toNat).toInt = _
    rw [key _ (by omega), BitVec.toInt_sshiftRight]
    show (Int64.ofInt x).toInt >>> y.toNat = _
    rw [hX]
  rw [hs, Int.shiftRight_eq_div_pow] at hw
  have hp : (0 : Int) < ((2 ^ y.toNat : Nat) : Int) := by have := Nat.two_pow_pos y.toNat; omega
  have h1 := Int.lt_ediv_add_one_mul_self x hp
  rw [← hw, hv] at h1
  omega
theorem and4 : ∀ (x : Fin 16) (q i : Fin 4), (0 ≤ (Int32.ofInt (x.val : Int) &&& Int32.ofInt ((2 ^ q.val : Nat) - 1 : Int)).toInt ∧ (Int32.ofInt (x.val : Int) &&& Int32.ofInt ((2 ^ q.val : Nat) - 1 : Int)).toInt ≤ (2 ^ q.val : Nat) - 1) ∧ (bxG (Int32.ofInt (x.val : Int) &&& Int32.ofInt ((2 ^ q.val : Nat) - 1 : Int)).toInt i.val = 1 ↔ bxG (x.val : Int) i.val = 1 ∧ i.val < q.val) := by decide +kernel
theorem or4 : ∀ (x y : Fin 16) (i : Fin 4), (0 ≤ (Int32.ofInt (x.val : Int) ||| Int32.ofInt (y.val : Int)).toInt ∧ (Int32.ofInt (x.val : Int) ||| Int32.ofInt (y.val : Int)).toInt ≤ 15) ∧ (bxG (Int32.ofInt (x.val : Int) ||| Int32.ofInt (y.val : Int)).toInt i.val = 1 ↔ bxG (x.val : Int) i.val = 1 ∨ bxG (y.val : Int) i.val = 1) := by decide +kernel
theorem andx {x v : Int} (q : Nat) (hq : q < 4) (h0 : 0 ≤ x) (h1 : x ≤ 15) (h : R830 x (((2 ^ q : Nat) : Int) - 1) v) (i : Nat) (hi : i < 4) : (0 ≤ v ∧ v ≤ ((2 ^ q : Nat) : Int) - 1) ∧ (bxG v i = 1 ↔ bxG x i = 1 ∧ i < q) := by
  have e : x = ((⟨x.toNat, by omega⟩ : Fin 16).val : Int) := by show x = (x.toNat : Int); omega
  have h9 := and4 ⟨x.toNat, by omega⟩ ⟨q, hq⟩ ⟨i, hi⟩
  rw [← e] at h9
  unfold R830 at h
  rw [h]
  exact h9
theorem orx9 {x y v : Int} (h0 : 0 ≤ x ∧ x ≤ 15) (h1 : 0 ≤ y ∧ y ≤ 15) (h : R847 x y v) (i : Nat) (hi : i < 4) : (0 ≤ v ∧ v ≤ 15) ∧ (bxG v i = 1 ↔ bxG x i = 1 ∨ bxG y i = 1) := by
  obtain ⟨X, Y, hX, hY, hv⟩ := h
  have eX : X = Int32.ofInt x := by rw [← hX, Int32.ofInt_toInt]
  have eY : Y = Int32.ofInt y := by rw [← hY, Int32.ofInt_toInt]
  have e : x = ((⟨x.toNat, by omega⟩ : Fin 16).val : Int) := by show x = (x.toNat : Int); omega
  have e2 : y = ((⟨y.toNat, by omega⟩ : Fin 16).val : Int) := by show y = (y.toNat : Int); omega
  have h9 := or4 ⟨x.toNat, by omega⟩ ⟨y.toNat, by omega⟩ ⟨i, hi⟩
  rw [← e, ← e2, ← eX, ← eY, hv] at h9
  exact h9
/-- the told sets are such, each once -/
def TdG (m : Mt) : Prop := (0 ≤ m 110 6 ∧ m 110 6 ≤ 20) ∧ ∀ y : Nat, y < 4 → (0 ≤ m 199 y ∧ m 199 y ≤ 40) ∧ ∀ i : Nat, (i : Int) < m 199 y → (1 ≤ m 198 (40 * y + i) ∧ m 198 (40 * y + i) ≤ 1048575) ∧ (∀ c : Nat, m 110 6 ≤ (c : Int) → bvG (m 198 (40 * y + i)) c = 0) ∧ ∀ j : Nat, j < i → m 198 (40 * y + j) ≠ m 198 (40 * y + i)
/-- the rows with one more, so far: U rows, V of the next one -/
def UpG (m : Mt) (F G : Option Int) (P : (Nat → Int) → Prop) (w Y N U V : Int) : Prop := ∃ (q : Nat → Nat) (d : Int) (B : Nat → Nat → Int), (GA P N.toNat q d B ∧ (0 ≤ N ∧ N ≤ 19) ∧ (0 ≤ Y ∧ Y ≤ 19) ∧ (0 ≤ U ∧ U ≤ N) ∧ 0 ≤ V ∧ V ≤ 20) ∧ (lfG N.toNat q d B (bvG w) Y.toNat ≠ 0 ∧ ∀ c : Nat, c < 20 → m 97 c = lfG N.toNat q d B (bvG w) c) ∧ (∀ r c : Nat, r ≤ N.toNat → c < 20 → if (r : Int) < U ∨ ((r : Int) = U ∧ (c : Int) < V) then BGm m r c = nbG N.toNat q d B (bvG w) Y.toNat r c else r < N.toNat → BGm m r c = B r c) ∧ (∀ r c : Nat, 20 ≤ c → B r c = 0) ∧ (∀ f, F = some f → f = B U.toNat Y.toNat) ∧ ((∀ r : Nat, r < N.toNat → m 96 r = (q r : Int)) ∧ m 1000 7 = d) ∧ ((G = none ∧ m 70 6 = N) ∨ (G = some 1 ∧ (U = N ∧ V = 20) ∧ m 70 6 = N ∧ m 96 N.toNat = Y) ∨ (G = some 2 ∧ (U = N ∧ V = 20) ∧ m 70 6 = N + 1 ∧ m 96 N.toNat = Y))
/-- rows are exchanged -/
def SwG (m : Mt) (sv h : Option Int) (N s r j p k : Int) : Prop := (h = none ∧ SWG N.toNat (fmG m s) r.toNat j.toNat p.toNat k.toNat false (MmG m) ∧ ∀ v, sv = some v → k ≤ 19 ∧ v = MmG m p.toNat k.toNat) ∨ (h ≠ none ∧ k ≤ 19 ∧ ∃ M0, (ELm N.toNat (fmG m s) r.toNat j.toNat M0 ∧ ¬ pG ∣ M0 p.toNat j.toNat) ∧ (∀ i c, MmG m i c = if c < k.toNat ∨ (c = k.toNat ∧ i = p.toNat) then swG p.toNat r.toNat M0 i c else M0 i c) ∧ ∀ v, sv = some v → v = M0 p.toNat k.toNat)
/-- a row is worked off -/
def RwG (m : Mt) (N s r j i f k B : Int) : Prop := ∃ M0, ELm N.toNat (fmG m s) r.toNat j.toNat M0 ∧ (¬ pG ∣ M0 r.toNat j.toNat ∧ pG ∣ M0 r.toNat j.toNat * B - 1 ∧ ∀ q : Nat, q < N.toNat → r.toNat < q → (q : Int) < i → M0 q j.toNat = 0) ∧ f = (M0 i.toNat j.toNat * B) % pG ∧ (∀ q c, q ≠ i.toNat → MmG m q c = M0 q c) ∧ ∀ c, MmG m i.toNat c = if j.toNat ≤ c ∧ c < k.toNat then (M0 i.toNat c + (pG - f) * M0 r.toNat c) % pG else M0 i.toNat c
/-- who shares is joined, so far -/
def JnG (m : Mt) (S : Option Int) (qa qb qc n : Int) : Prop := ((0 ≤ qa ∧ qa ≤ 3) ∧ (0 ≤ qb ∧ qb ≤ 3) ∧ 0 ≤ qc ∧ qc ≤ 15) ∧ (0 ≤ n ∧ n ≤ 4) ∧ ∃ m0 : Mt, SyG m0 ∧ (∀ u v : Nat, u < 4 → v < 4 → (m 200 (4 * u + v) ≠ 0 ↔ m0 200 (4 * u + v) ≠ 0 ∨ (S ≠ none ∧ (u : Int) = qa ∧ (v : Int) = qb))) ∧ (∀ x : Nat, x < 4 → (bxG qc x = 1 ↔ inG m0 qa qb x)) ∧ (S ≠ none → n = 4) ∧ ∀ y x : Nat, y < 4 → x < 4 → (0 ≤ m 74 y ∧ m 74 y ≤ 15) ∧ (((y : Int) < n ∧ inG m0 qa qb y ∧ m 74 y = qc) ∨ (((y : Int) ≥ n ∨ ¬ inG m0 qa qb y) ∧ (bxG (m 74 y) x = 1 ↔ RSG m0 y x)))
def g_b (τ : Tf) (m : Mt) : Prop := (∀ bx bo bb : Int, τ 840 = some bx → τ 841 = some bo → τ 842 = some bb → R840 bx bo bb) ∧ (∀ oz oo ow oc : Int, τ 843 = some oz → τ 844 = some oo → τ 845 = some ow → τ 846 = some oc → R843 oz oo ow oc) ∧ (∀ ox oy ov : Int, τ 847 = some ox → τ 848 = some oy → τ 849 = some ov → R847 ox oy ov) ∧ (∀ nx ny nv : Int, τ 830 = some nx → τ 831 = some ny → τ 832 = some nv → R830 nx ny nv) ∧ (∀ sx sy sv : Int, τ 833 = some sx → τ 834 = some sy → τ 835 = some sv → R833 sx sy sv) ∧ (∀ ma mb mv : Int, τ 850 = some ma → τ 851 = some mb → τ 852 = some mv → mv = ma * mb) ∧ (∀ na nb nv : Int, τ 853 = some na → τ 854 = some nb → τ 855 = some nv → nv = na * nb) ∧ (∀ da db dv : Int, τ 856 = some da → τ 857 = some db → τ 858 = some dv → dv = da.tdiv db) ∧ (∀ ra rp rv : Int, τ 859 = some ra → τ 860 = some rp → τ 861 = some rv → rv = ra % rp) ∧ (∀ sa sp sv : Int, τ 865 = some sa → τ 866 = some sp → τ 867 = some sv → sv = sa % sp) ∧ (∀ z : Int, τ 869 = some z → z ≠ 0)
def g_q (τ : Tf) (m : Mt) : Prop := (∀ s : Int, τ 870 = some s → (1 ≤ s ∧ s ≤ 1048575) ∧ ∀ c : Nat, m 110 6 ≤ (c : Int) → bvG s c = 0) ∧ (∀ qa qb qc : Int, τ 871 = some qa → τ 872 = some qb → τ 873 = some qc → τ 981 = none → ((0 ≤ qa ∧ qa ≤ 3) ∧ 0 ≤ qb ∧ qb ≤ 3) ∧ (0 ≤ qc ∧ qc ≤ 15) ∧ ∀ x : Nat, x < 4 → (bxG qc x = 1 ↔ inG m qa qb x)) ∧ (∀ qa qb qs qr : Int, τ 871 = some qa → τ 872 = some qb → τ 874 = some qs → τ 875 = some qr → (0 ≤ qr ∧ qr ≤ 1) ∧ (qr = 1 ↔ ∃ j, j < 20 ∧ spS (PxG m qa qb qs) (unG j))) ∧ (∀ qa qb qk : Int, τ 871 = some qa → τ 872 = some qb → τ 876 = some qk → 0 ≤ qk ∧ ∃ q d B, GA (PfG m qa qb 4 0) qk.toNat q d B) ∧ (∀ qa qb qn : Int, τ 871 = some qa → τ 872 = some qb → τ 877 = some qn → 0 ≤ qn ∧ ∃ L, enG (tsG m qa qb 4 0) qn.toNat L) ∧ (∀ ua uo ub : Int, τ 878 = some ua → τ 879 = some uo → τ 868 = some ub → (0 ≤ ua ∧ ua ≤ 3) ∧ (0 ≤ ub ∧ ub ≤ 1) ∧ (ub = 1 ↔ RSG m ua.toNat uo.toNat))
def g_c (τ : Tf) (m : Mt) : Prop := (∀ qa qb A I : Int, τ 871 = some qa → τ 872 = some qb → τ 880 = some A → τ 881 = some I → ((0 ≤ A ∧ A ≤ 4) ∧ 0 ≤ I) ∧ (τ 892 = none → τ 899 = none → GAm m (PfG m qa qb A I))) ∧ (∀ qa qb A in9 : Int, τ 871 = some qa → τ 872 = some qb → τ 880 = some A → τ 885 = some in9 → A ≤ 3 ∧ inG m qa qb A.toNat) ∧ (∀ qa qb A I w ls9 : Int, τ 871 = some qa → τ 872 = some qb → τ 880 = some A → τ 881 = some I → τ 883 = some w → τ 884 = some ls9 → (A ≤ 3 ∧ I < m 199 A.toNat ∧ I < 40) ∧ inG m qa qb A.toNat ∧ w = m 198 (40 * A.toNat + I.toNat)) ∧ (∀ qa qb A I D ls9 : Int, τ 871 = some qa → τ 872 = some qb → τ 880 = some A → τ 881 = some I → τ 899 = some D → τ 884 = some ls9 → (A ≤ 3 ∧ I < m 199 A.toNat ∧ I < 40) ∧ inG m qa qb A.toNat ∧ D = m 198 (40 * A.toNat + I.toNat)) ∧ (∀ w : Int, τ 883 = some w → 0 ≤ w ∧ w ≤ 1048575) ∧ (∀ w P : Int, τ 883 = some w → τ 886 = some P → (0 ≤ P ∧ P ≤ 20) ∧ ∀ c : Nat, P ≤ (c : Int) → c < 20 → m 97 c = lfm m w c) ∧ (∀ w K L : Int, τ 883 = some w → τ 887 = some K → τ 888 = some L → (0 ≤ K ∧ K ≤ 20) ∧ ((L = -4 ∧ ∀ c : Nat, K ≤ (c : Int) → c < 20 → lfm m w c = 0) ∨ ((0 ≤ L ∧ L ≤ 19) ∧ lfm m w L.toNat ≠ 0))) ∧ (∀ w P Rr S : Int, τ 883 = some w → τ 886 = some P → τ 889 = some Rr → τ 890 = some S → (0 ≤ Rr ∧ Rr ≤ (kGm m : Int)) ∧ 1 ≤ P ∧ S = psG m w Rr.toNat (P.toNat - 1)) ∧ (∀ w P E : Int, τ 883 = some w → τ 886 = some P → τ 891 = some E → P ≤ 19 ∧ E = lfm m w P.toNat) ∧ (∀ qa qb A I w Y N U V : Int, τ 871 = some qa → τ 872 = some qb → τ 880 = some A → τ 881 = some I → τ 883 = some w → τ 892 = some Y → τ 893 = some N → τ 894 = some U → τ 895 = some V → UpG m (τ 896) (τ 897) (PfG m qa qb A I) w Y N U V) ∧ (∀ qa qb A I D : Int, τ 871 = some qa → τ 872 = some qb → τ 880 = some A → τ 881 = some I → τ 899 = some D → (0 ≤ D ∧ D ≤ 1048575) ∧ GAm m (fun x => PfG m qa qb A I x ∨ x = bvG D)) ∧ (∀ qa qb Z : Int, τ 871 = some qa → τ 872 = some qb → τ 882 = some Z → GAm m (PxG m qa qb Z)) ∧ (∀ Z s : Int, τ 882 = some Z → τ 905 = some s → 0 ≤ s ∧ ∀ r : Nat, (r : Int) < s → r < kGm m → nzG (BGm m r) 20 ≠ 1) ∧ (∀ s p c : Int, τ 905 = some s → τ 906 = some p → τ 907 = some c → (0 ≤ p ∧ p ≤ 20) ∧ c = nzG (BGm m s.toNat) p.toNat)
def g_d (τ : Tf) (m : Mt) : Prop := (∀ qa qb A I n : Int, τ 871 = some qa → τ 872 = some qb → τ 920 = some A → τ 921 = some I → τ 922 = some n → ((0 ≤ A ∧ A ≤ 4) ∧ 0 ≤ I) ∧ 0 ≤ n ∧ ∃ L, enG (tsG m qa qb A I) n.toNat L) ∧ (∀ qa qb A in9 : Int, τ 871 = some qa → τ 872 = some qb → τ 920 = some A → τ 923 = some in9 → A ≤ 3 ∧ inG m qa qb A.toNat) ∧ (∀ qa qb A hd : Int, τ 871 = some qa → τ 872 = some qb → τ 920 = some A → τ 924 = some hd → ∀ x : Nat, x < 4 → (bxG hd x = 1 ↔ inG m qa qb x ∧ (x : Int) < A)) ∧ (∀ qa qb A I w : Int, τ 871 = some qa → τ 872 = some qb → τ 920 = some A → τ 921 = some I → τ 925 = some w → (A ≤ 3 ∧ I < m 199 A.toNat ∧ I < 40) ∧ w = m 198 (40 * A.toNat + I.toNat)) ∧ (∀ qa qb A w X : Int, τ 871 = some qa → τ 872 = some qb → τ 920 = some A → τ 925 = some w → τ 926 = some X → 0 ≤ X ∧ ∀ y i : Nat, (y : Int) < X → y < 4 → inG m qa qb y → (y : Int) < A → (i : Int) < m 199 y → i < 40 → m 198 (40 * y + i) ≠ w) ∧ (∀ qa qb A X gg : Int, τ 871 = some qa → τ 872 = some qb → τ 920 = some A → τ 926 = some X → τ 929 = some gg → (0 ≤ X ∧ X ≤ 3) ∧ inG m qa qb X.toNat ∧ X < A) ∧ (∀ w X Y : Int, τ 925 = some w → τ 926 = some X → τ 927 = some Y → 0 ≤ Y ∧ ∀ i : Nat, (i : Int) < Y → m 198 (40 * X.toNat + i) ≠ w) ∧ (∀ qa qb A w f : Int, τ 871 = some qa → τ 872 = some qb → τ 920 = some A → τ 925 = some w → τ 928 = some f → (f = 1 ∧ tsG m qa qb A 0 w) ∨ (f = 0 ∧ ¬ tsG m qa qb A 0 w))
def g_l (τ : Tf) (m : Mt) : Prop := (∀ La Lb : Int, τ 930 = some La → τ 931 = some Lb → (0 ≤ La ∧ La ≤ 3) ∧ 0 ≤ Lb ∧ Lb ≤ 3) ∧ (∀ La Lb k : Int, τ 930 = some La → τ 931 = some Lb → τ 932 = some k → 0 ≤ k ∧ ∀ x : Nat, (x : Int) < k → (m 201 x ≠ 0 ↔ (x : Int) = La ∨ (x : Int) = Lb)) ∧ (∀ La Lb g9 : Int, τ 930 = some La → τ 931 = some Lb → τ 933 = some g9 → (∀ x : Nat, x < 4 → m 201 x ≠ 0 → inG m La Lb x) ∧ m 201 La.toNat ≠ 0 ∧ m 201 Lb.toNat ≠ 0) ∧ (∀ g9 p : Int, τ 933 = some g9 → τ 934 = some p → 0 ≤ p ∧ ∀ u v : Nat, u < 4 → v < 4 → 4 * (u : Int) + v < p → m 201 u ≠ 0 → m 200 (4 * u + v) ≠ 0 → m 201 v ≠ 0) ∧ (∀ La Lb g9 b9 : Int, τ 930 = some La → τ 931 = some Lb → τ 933 = some g9 → τ 935 = some b9 → (0 ≤ b9 ∧ b9 ≤ 3) ∧ inG m La Lb b9.toNat) ∧ (∀ La Lb c9 : Int, τ 930 = some La → τ 931 = some Lb → τ 936 = some c9 → ∀ x : Nat, x < 4 → (m 201 x ≠ 0 ↔ inG m La Lb x))
def g_k (τ : Tf) (m : Mt) : Prop := (∀ La Lb A I : Int, τ 930 = some La → τ 931 = some Lb → τ 937 = some A → τ 938 = some I → ((0 ≤ A ∧ A ≤ 4) ∧ 0 ≤ I) ∧ 0 ≤ m 110 134 ∧ (τ 913 = none → τ 914 = none → τ 915 = none → enG (tsG m La Lb A I) (m 110 134).toNat (fun i => m 202 i))) ∧ (∀ s : Int, τ 939 = some s → 1 ≤ s ∧ s ≤ 1048575) ∧ (∀ s K : Int, τ 939 = some s → τ 910 = some K → 0 ≤ K ∧ ∀ i : Nat, (i : Int) < K → (i : Int) < m 110 134 → m 202 i ≠ s) ∧ (∀ La Lb A I s ls9 : Int, τ 930 = some La → τ 931 = some Lb → τ 937 = some A → τ 938 = some I → τ 939 = some s → τ 912 = some ls9 → (A ≤ 3 ∧ I < m 199 A.toNat ∧ I < 40) ∧ inG m La Lb A.toNat ∧ s = m 198 (40 * A.toNat + I.toNat)) ∧ (∀ La Lb A I s K w9 : Int, τ 930 = some La → τ 931 = some Lb → τ 937 = some A → τ 938 = some I → τ 939 = some s → τ 910 = some K → τ 913 = some w9 → m 110 134 ≤ K ∧ m 202 (m 110 134).toNat = s ∧ τ 914 = none ∧ τ 915 = none ∧ enG (tsG m La Lb A I) (m 110 134).toNat (fun i => m 202 i)) ∧ (∀ La Lb A I s D : Int, τ 930 = some La → τ 931 = some Lb → τ 937 = some A → τ 938 = some I → τ 939 = some s → τ 914 = some D → τ 915 = none ∧ enG (fun z => tsG m La Lb A I z ∨ z = s) (m 110 134).toNat (fun i => m 202 i)) ∧ (∀ La Lb s : Int, τ 930 = some La → τ 931 = some Lb → τ 915 = some s → (1 ≤ s ∧ s ≤ 1048575) ∧ 0 ≤ m 110 134 ∧ enG (fun z => tsG m La Lb 4 0 z ∨ z = s) (m 110 134).toNat (fun i => m 202 i))
def g_e (τ : Tf) (m : Mt) : Prop := (∀ N9 s : Int, τ 940 = some N9 → τ 941 = some s → ((0 ≤ s ∧ s ≤ 1048575) ∧ 0 ≤ m 110 134) ∧ N9 = m 110 134 + if s = 0 then 0 else 1) ∧ (∀ N9 s I J : Int, τ 940 = some N9 → τ 941 = some s → τ 942 = some I → τ 943 = some J → (0 ≤ I ∧ 0 ≤ J ∧ J ≤ 20) ∧ ∀ i c : Nat, c < 20 → ((i : Int) < I ∨ ((i : Int) = I ∧ (c : Int) < J)) → m 203 (20 * i + c) = fmG m s i c) ∧ (∀ s I w : Int, τ 941 = some s → τ 942 = some I → τ 944 = some w → bvG w = fmG m s I.toNat) ∧ (∀ N9 s r j : Int, τ 940 = some N9 → τ 941 = some s → τ 945 = some r → τ 946 = some j → ((0 ≤ r ∧ r ≤ N9) ∧ 0 ≤ j ∧ j ≤ 20) ∧ (τ 949 = none → τ 961 = none → ELm N9.toNat (fmG m s) r.toNat j.toNat (MmG m))) ∧ (∀ N9 s r j p : Int, τ 940 = some N9 → τ 941 = some s → τ 945 = some r → τ 946 = some j → τ 947 = some p → r ≤ p ∧ (τ 949 = none → ∀ i : Nat, i < N9.toNat → r ≤ (i : Int) → (i : Int) < p → MmG m i j.toNat = 0)) ∧ (∀ N9 s r j p z9 : Int, τ 940 = some N9 → τ 941 = some s → τ 945 = some r → τ 946 = some j → τ 947 = some p → τ 948 = some z9 → p < N9 ∧ j ≤ 19 ∧ (τ 949 = none → ¬ pG ∣ MmG m p.toNat j.toNat)) ∧ (∀ N9 s r j p z9 k : Int, τ 940 = some N9 → τ 941 = some s → τ 945 = some r → τ 946 = some j → τ 947 = some p → τ 948 = some z9 → τ 949 = some k → (0 ≤ k ∧ k ≤ 20) ∧ SwG m (τ 950) (τ 951) N9 s r j p k) ∧ (∀ N9 s r j d9 : Int, τ 940 = some N9 → τ 941 = some s → τ 945 = some r → τ 946 = some j → τ 952 = some d9 → (r < N9 ∧ j ≤ 19) ∧ (τ 961 = none → ¬ pG ∣ MmG m r.toNat j.toNat)) ∧ (∀ x rr b k : Int, τ 953 = some x → τ 954 = some rr → τ 955 = some b → τ 956 = some k → (1 ≤ x ∧ x < pG) ∧ (0 ≤ rr ∧ rr < pG) ∧ (0 ≤ b ∧ b < pG) ∧ 0 ≤ k ∧ PwG x rr b k.toNat) ∧ (∀ x v : Int, τ 957 = some x → τ 958 = some v → (0 ≤ v ∧ v < pG) ∧ (¬ pG ∣ x → pG ∣ x * v - 1)) ∧ (∀ N9 s r j d9 B : Int, τ 940 = some N9 → τ 941 = some s → τ 945 = some r → τ 946 = some j → τ 952 = some d9 → τ 959 = some B → (0 ≤ B ∧ B < pG) ∧ (τ 961 = none → pG ∣ MmG m r.toNat j.toNat * B - 1)) ∧ (∀ N9 s r j d9 B i : Int, τ 940 = some N9 → τ 941 = some s → τ 945 = some r → τ 946 = some j → τ 952 = some d9 → τ 959 = some B → τ 960 = some i → r < i ∧ (τ 961 = none → ∀ q : Nat, q < N9.toNat → r < (q : Int) → (q : Int) < i → MmG m q j.toNat = 0)) ∧ (∀ N9 s r j d9 B i f k : Int, τ 940 = some N9 → τ 941 = some s → τ 945 = some r → τ 946 = some j → τ 952 = some d9 → τ 959 = some B → τ 960 = some i → τ 961 = some f → τ 962 = some k → ((i < N9 ∧ j ≤ k ∧ k ≤ 20) ∧ 0 ≤ f ∧ f < pG) ∧ RwG m N9 s r j i f k B) ∧ (∀ rr s : Int, τ 963 = some rr → τ 964 = some s → (0 ≤ rr ∧ rr ≤ 20) ∧ (0 ≤ s ∧ s ≤ 1048575) ∧ 0 ≤ m 110 134 ∧ RKG (m 110 134 + if s = 0 then 0 else 1).toNat (fmG m s) rr.toNat)
def g_t (τ : Tf) (m : Mt) : Prop := (∀ R0 : Int, τ 970 = some R0 → 0 ≤ R0 ∧ 0 ≤ m 110 134 ∧ RKG (m 110 134).toNat (fmG m 0) R0.toNat) ∧ (∀ R0 J : Int, τ 970 = some R0 → τ 971 = some J → 0 ≤ J ∧ ∀ j : Nat, (j : Int) < J → j < 20 → ¬ spG (m 110 134).toNat (fmG m 0) (unG j)) ∧ (∀ J w : Int, τ 971 = some J → τ 972 = some w → (0 ≤ J ∧ J ≤ 19) ∧ (1 ≤ w ∧ w ≤ 1048575) ∧ bvG w = unG J.toNat) ∧ (∀ R0 t9 : Int, τ 970 = some R0 → τ 973 = some t9 → ∃ j : Nat, (j : Int) < m 110 6 ∧ j < 20 ∧ spG (m 110 134).toNat (fmG m 0) (unG j))
def g_n (τ : Tf) (m : Mt) : Prop := (∀ a w k : Int, τ 975 = some a → τ 976 = some w → τ 977 = some k → (0 ≤ a ∧ a ≤ 3) ∧ 0 ≤ k ∧ ∀ i : Nat, (i : Int) < k → (i : Int) < m 199 a.toNat → m 198 (40 * a.toNat + i) ≠ w) ∧ (∀ a w g9 : Int, τ 975 = some a → τ 976 = some w → τ 978 = some g9 → m 198 (40 * a.toNat + (m 199 a.toNat).toNat) = w)
def g_j (τ : Tf) (m : Mt) : Prop := (∀ qa qb qc n : Int, τ 871 = some qa → τ 872 = some qb → τ 873 = some qc → τ 980 = some n → JnG m (τ 981) qa qb qc n)
def SGd (τ : Tf) (m : Mt) : Prop := ((τ 980 = none → ∀ a x : Nat, a < 4 → x < 4 → (0 ≤ m 74 a ∧ m 74 a ≤ 15) ∧ (bxG (m 74 a) x = 1 ↔ RSG m a x)) ∧ (τ 981 = none → SyG m) ∧ TdG m) ∧ g_b τ m ∧ g_q τ m ∧ g_c τ m ∧ g_d τ m ∧ g_l τ m ∧ g_k τ m ∧ g_e τ m ∧ g_t τ m ∧ g_n τ m ∧ g_j τ m
end
end
