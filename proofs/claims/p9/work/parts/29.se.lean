noncomputable section
/-! ===== GROUPS, 45: bits that are worked out ===== -/
def PBt (J : Jt) : Prop := (∀ H σ t o b, R840 t o b → J H σ → J ((840, t) :: (841, o) :: (842, b) :: hdel 840 (hdel 841 (hdel 842 H))) σ) ∧ (∀ H σ t o w c, R843 t o w c → J H σ → J ((843, t) :: (844, o) :: (845, w) :: (846, c) :: hdel 843 (hdel 844 (hdel 845 (hdel 846 H)))) σ) ∧ ∀ H σ x y v, R847 x y v → J H σ → J ((847, x) :: (848, y) :: (849, v) :: hdel 847 (hdel 848 (hdel 849 H))) σ
theorem rsT_cons {lo hi t : Nat} {x : Int} {H : List (Nat × Int)} (ht : inTg lo hi t = true) : rsT lo hi ((t, x) :: H) = set1 t (some x) (rsT lo hi H) := rsT_set ht (fun u => lk_cons)
theorem rsT_del {lo hi t : Nat} {H : List (Nat × Int)} (ht : inTg lo hi t = true) : rsT lo hi (hdel t H) = set1 t none (rsT lo hi H) := rsT_set ht (fun u => lk_hdel)
theorem rsT_nil {lo hi t : Nat} : rsT lo hi [] t = none := by
  unfold rsT
  cases Nat.ble lo t && Nat.ble t hi <;> rfl
section G45
variable {T : Jx} {G : Gl} {cs : List Cp} {RW : List Nat} {W : List (Nat × List Ru)}
theorem g_set (hP : PH T G cs (cR 840 999 RW SG W)) {H H' : List (Nat × Int)} {σ : zS} (hJ : Jf T G (cS cs) H σ) (l : ∀ u, ¬ (840 ≤ u ∧ u ≤ 999) → lk H' u = lk H u) (hn : SG (rsT 840 999 H') (rsM RW σ)) : Jf T G (cS cs) H' σ := Jf_part hP.1 hP.2.1 hP.2.2.2 (fun t ht => (hP.2.1 _ hP.2.2.1).1 t ht) (fun u hu => l u (fun q => by
  have hu : (Nat.ble 840 u && Nat.ble u 999) = false := hu
  rw [Nat.ble_eq_true_of_le q.1, Nat.ble_eq_true_of_le q.2] at hu
  cases hu)) hJ hn
theorem pbg_ok (hP : PH T G cs (cR 840 999 RW SG W)) : PBt (Jf T G (cS cs)) := by
  refine ⟨fun H σ t o b hR hJ => ?_, fun H σ t o w c hR hJ => ?_, fun H σ x y v hR hJ => ?_⟩
  · refine g_set hP hJ (fun u h => by rw [lk_cons, if_neg (by omega), lk_cons, if_neg (by omega), lk_cons, if_neg (by omega), lk_hdel, if_neg (by omega), lk_hdel, if_neg (by omega), lk_hdel, if_neg (by omega)]) ?_
    obtain ⟨⟨hA, hB⟩, hC, hD, hE⟩ := (hJ.2.2 _ hP.2.2.1 : SG (rsT 840 999 H) (rsM RW σ))
    rw [rsT_cons rfl, rsT_cons rfl, rsT_cons rfl, rsT_del rfl, rsT_del rfl, rsT_del rfl]
    refine ⟨⟨hA, fun t' o' b' h1 h2 h3 => ?_, hB.2.1, hB.2.2.1, hB.2.2.2⟩, hC, hD, hE⟩
    rw [← Option.some.inj (show some t = some t' from h1), ← Option.some.inj (show some o = some o' from h2), ← Option.some.inj (show some b = some b' from h3)]
    exact hR
  · refine g_set hP hJ (fun u h => by rw [lk_cons, if_neg (by omega), lk_cons, if_neg (by omega), lk_cons, if_neg (by omega), lk_cons, if_neg (by omega), lk_hdel, if_neg (by omega), lk_hdel, if_neg (by omega), lk_hdel, if_neg (by omega), lk_hdel, if_neg (by omega)]) ?_
    obtain ⟨⟨hA, hB⟩, hC, hD, hE⟩ := (hJ.2.2 _ hP.2.2.1 : SG (rsT 840 999 H) (rsM RW σ))
    rw [rsT_cons rfl, rsT_cons rfl, rsT_cons rfl, rsT_cons rfl, rsT_del rfl, rsT_del rfl, rsT_del rfl, rsT_del rfl]
    refine ⟨⟨hA, hB.1, fun t' o' w' c' h1 h2 h3 h4 => ?_, hB.2.2.1, hB.2.2.2⟩, hC, hD, hE⟩
    rw [← Option.some.inj (show some t = some t' from h1), ← Option.some.inj (show some o = some o' from h2), ← Option.some.inj (show some w = some w' from h3), ← Option.some.inj (show some c = some c' from h4)]
    exact hR
  · refine g_set hP hJ (fun u h => by rw [lk_cons, if_neg (by omega), lk_cons, if_neg (by omega), lk_cons, if_neg (by omega), lk_hdel, if_neg (by omega), lk_hdel, if_neg (by omega), lk_hdel, if_neg (by omega)]) ?_
    obtain ⟨⟨hA, hB⟩, hC, hD, hE⟩ := (hJ.2.2 _ hP.2.2.1 : SG (rsT 840 999 H) (rsM RW σ))
    rw [rsT_cons rfl, rsT_cons rfl, rsT_cons rfl, rsT_del rfl, rsT_del rfl, rsT_del rfl]
    refine ⟨⟨hA, hB.1, hB.2.1, fun x' y' v' h1 h2 h3 => ?_, hB.2.2.2⟩, hC, hD, hE⟩
    rw [← Option.some.inj (show some x = some x' from h1), ← Option.some.inj (show some y = some y' from h2), ← Option.some.inj (show some v = some v' from h3)]
    exact hR
end G45
end
