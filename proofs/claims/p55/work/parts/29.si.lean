section
noncomputable section
/-! ===== LENDS, 48: hints that reach from one part to another: 209 what q holds, as a new number; 206, 207: what is held, what is under, for the rules; 210 owners ===== -/
section L48
variable {T : Jx} {G : Gl} {cs : List Cp} {s : Sy} {ρ : List Int} {σ : zS} {kT kH kF jB kE kP kC : Nat} {RW : List Nat} {W : List (Nat × List Ru)}
noncomputable def h209 (q o : AV) (s : Sy) : Sy := bif (q.isI && o.isI) && ((!(isS (lk s.hl 855)) && !(isS (lk s.hl 856))) && (!(isS (lk s.hl 861)) && !(isS (lk s.hl 862)))) then (s.new [(0, 1)]).seth ((855, q) :: (861, o) :: (862, .i s.nx 0) :: s.hl) else s
theorem h209_ok (hP : PH T G cs (cC9 kT kH kF jB kE)) {a b : AV} {x y : Int} (ha : ev ρ a = some x) (hb : ev ρ b = some y) (ho : Ok (Jf T G (cS cs)) s ρ σ) : ∃ ρ', Pre ρ ρ' ∧ Ok (Jf T G (cS cs)) (h209 a b s) ρ' σ := by
  unfold h209
  cases hc : (a.isI && b.isI) && ((!(isS (lk s.hl 855)) && !(isS (lk s.hl 856))) && (!(isS (lk s.hl 861)) && !(isS (lk s.hl 862)))) with
  | false => exact ⟨ρ, Pre.rf, ho⟩
  | true =>
    simp only [Bool.and_eq_true] at hc
    obtain ⟨H, i1, i2⟩ := ho.inv
    have n6 := no_tag i1 hc.2.1.2
    obtain ⟨hB, ⟨g0, g1, g2, g3⟩, g4⟩ := (i2.2.2 _ hP.2.2.1 : cS9b kT kH kF jB kE H σ)
    obtain ⟨r, hr0, hr1⟩ : ∃ r : Int, (r = 0 ∨ r = 1) ∧ (r = 1 ↔ Wp (Eb kT σ) 6 x.toNat y.toNat) := by
      by_cases h : Wp (Eb kT σ) 6 x.toNat y.toNat
      · exact ⟨1, Or.inr rfl, fun _ => h, fun _ => rfl⟩
      · exact ⟨0, Or.inl rfl, fun e => (by cases e), fun q => absurd q h⟩
    have hq := ho.new (x := r) (d := [(0, 1)]) ⟨_, List.mem_cons_self .., by dsimp only; omega, by dsimp only; omega⟩
    have hp : Pre ρ (ρ ++ [r]) := ⟨_, rfl⟩
    have l : ∀ u, u ≠ 855 → u ≠ 861 → u ≠ 862 → lk ((855, x) :: (861, y) :: (862, r) :: H) u = lk H u := fun u h1 h2 h3 => by rw [lk_cons, if_neg h1, lk_cons, if_neg h2, lk_cons, if_neg h3]
    have l5 : lk ((855, x) :: (861, y) :: (862, r) :: H) 855 = some x := by rw [lk_cons, if_pos rfl]
    have la : lk ((855, x) :: (861, y) :: (862, r) :: H) 861 = some y := by rw [lk_cons, if_neg (by decide), lk_cons, if_pos rfl]
    have lb : lk ((855, x) :: (861, y) :: (862, r) :: H) 862 = some r := by rw [lk_cons, if_neg (by decide), lk_cons, if_neg (by decide), lk_cons, if_pos rfl]
    refine ⟨ρ ++ [r], hp, c_hint hP hq i2 (H' := (855, x) :: (861, y) :: (862, r) :: H) ⟨⟨rfl, ev.mono hp ha⟩, ⟨rfl, ev.mono hp hb⟩, ⟨rfl, ho.new_i⟩, i1.mono hp⟩ (fun u hu => l u (by omega) (by omega) (by omega)) ⟨bS9_k (fun u hu => l u (by omega) (by omega) (by omega)) hB, ?_⟩⟩
    unfold cC
    rw [l5, la, lb, l 850 (by decide) (by decide) (by decide), l 851 (by decide) (by decide) (by decide), l 852 (by decide) (by decide) (by decide), l 853 (by decide) (by decide) (by decide), l 847 (by decide) (by decide) (by decide), l 848 (by decide) (by decide) (by decide), l 849 (by decide) (by decide) (by decide), l 856 (by decide) (by decide) (by decide), l 857 (by decide) (by decide) (by decide), l 858 (by decide) (by decide) (by decide), l 859 (by decide) (by decide) (by decide), l 860 (by decide) (by decide) (by decide)]
    refine ⟨⟨g0, g1, g2, g3⟩, fun _ _ _ h => (by rw [n6] at h; cases h), g4.2.1, fun _ _ _ _ h => (by rw [n6] at h; cases h), fun q c d h1 h2 h3 Q O e1 e2 hO => ?_⟩
    have h1 := Option.some.inj h1
    have h2 := Option.some.inj h2
    have h3 := Option.some.inj h3
    have eQ : x.toNat = Q := by omega
    have eO : y.toNat = O := by omega
    rw [eQ, eO] at hr1
    rw [← h3]
    exact ⟨hr0, hr1⟩
theorem rsT_nil {lo hi t : Nat} : rsT lo hi [] t = none := by
  unfold rsT
  cases Nat.ble lo t && Nat.ble t hi <;> rfl
theorem rsM_at {k : Nat} (h : RW.any (Nat.beq k) = true) : rsM RW σ k = fun j => (σ.1 k j).toInt := by
  funext j
  show (bif RW.any (Nat.beq k) then (σ.1 k j).toInt else 0) = _
  rw [h]; rfl
theorem bt6_of {x : Int32} {g : Nat} : bt6 x.toInt g = bitN x g := by unfold bt6; rw [Int32.ofInt_toInt]
theorem Hd_of (h : RW.any (Nat.beq 15) = true) {a b : Nat} : Hd (rsM RW σ) a b ↔ Wp (Eb 15 σ) 6 a b := by
  have e : (fun x y => x < 6 ∧ y < 6 ∧ bt6 (rsM RW σ 15 x) y = true) = Eb 15 σ := by
    funext x y
    rw [rsM_at h]
    show (x < 6 ∧ y < 6 ∧ bt6 (σ.1 15 x).toInt y = true) = (x < 6 ∧ y < 6 ∧ bitN (σ.1 15 x) y = true)
    rw [bt6_of]
  unfold Hd
  rw [e]
theorem hins3 {lo hi t1 t2 t3 : Nat} {a b c : Int} {H : List (Nat × Int)} (h1 : inTg lo hi t1 = true) (h2 : inTg lo hi t2 = true) (h3 : inTg lo hi t3 = true) : rsT lo hi (hins t3 c (hins t2 b (hins t1 a H))) = set1 t3 (some c) (set1 t2 (some b) (set1 t1 (some a) (rsT lo hi H))) := by
  rw [rsT_set h3 (fun u => lk_hins), rsT_set h2 (fun u => lk_hins), rsT_set h1 (fun u => lk_hins)]
theorem out3 {lo hi t1 t2 t3 : Nat} {a b c : Int} {H : List (Nat × Int)} (h1 : inTg lo hi t1 = true) (h2 : inTg lo hi t2 = true) (h3 : inTg lo hi t3 = true) {u : Nat} (hu : inTg lo hi u = false) : lk (hins t3 c (hins t2 b (hins t1 a H))) u = lk H u := by
  have ne : ∀ {t : Nat}, inTg lo hi t = true → u ≠ t := fun h e => by rw [e, h] at hu; cases hu
  rw [lk_hins, if_neg (ne h3), lk_hins, if_neg (ne h2), lk_hins, if_neg (ne h1)]
noncomputable def h206 (s : Sy) : Sy := match lk s.hl 855, lk s.hl 861, lk s.hl 862 with
  | some q, some o, some b => bif ((!(isS (lk s.hl 890)) && !(isS (lk s.hl 891))) && !(isS (lk s.hl 892))) && ((leAV s (.c 0) q && leAV s q (.c 5)) && (leAV s (.c 0) o && leAV s o (.c 5))) then s.seth (hins 892 b (hins 891 o (hins 890 q s.hl))) else s
  | _, _, _ => s
theorem h206_ok (hC : PH T G cs (cC9 15 kH kF jB kE)) (hP : PH T G cs (cR 870 999 RW SL W)) (hr : RW.any (Nat.beq 15) = true) (ho : Ok (Jf T G (cS cs)) s ρ σ) : Ok (Jf T G (cS cs)) (h206 s) ρ σ := by
  unfold h206
  split
  · rename_i q o b qq qo qb
    cases hc : ((!(isS (lk s.hl 890)) && !(isS (lk s.hl 891))) && !(isS (lk s.hl 892))) && ((leAV s (.c 0) q && leAV s q (.c 5)) && (leAV s (.c 0) o && leAV s o (.c 5))) with
    | false => exact ho
    | true =>
      simp only [Bool.and_eq_true] at hc
      obtain ⟨H, i1, i2⟩ := ho.inv
      obtain ⟨zq, t1, t2⟩ := tag_get ho i1 qq
      obtain ⟨zo, o1, o2⟩ := tag_get ho i1 qo
      obtain ⟨zb, b1, b2⟩ := tag_get ho i1 qb
      have f1 := leAV_ok ho hc.2.1.1 (x := 0) rfl t2
      have f2 := leAV_ok ho hc.2.1.2 t2 (y := 5) rfl
      have f3 := leAV_ok ho hc.2.2.1 (x := 0) rfl o2
      have f4 := leAV_ok ho hc.2.2.2 o2 (y := 5) rfl
      obtain ⟨_, _, g4⟩ := (i2.2.2 _ hC.2.2.1 : cS9b 15 kH kF jB kE H σ)
      obtain ⟨k1, k2⟩ := g4.2.2.2 zq zo zb t1 o1 b1 zq.toNat zo.toNat (by omega) (by omega) (by omega)
      refine ph_set hP ho i2 (H' := hins 892 zb (hins 891 zo (hins 890 zq H))) (Hl.ins b2 (Hl.ins o2 (Hl.ins t2 i1))) (fun u hu => out3 rfl rfl rfl hu) ?_
      obtain ⟨⟨hA, hZ, hG⟩, hK, hW, hQ, hB⟩ := (i2.2.2 _ hP.2.2.1 : SL (rsT 870 999 H) (rsM RW σ))
      show SL (rsT 870 999 _) (rsM RW σ)
      rw [hins3 rfl rfl rfl]
      refine ⟨⟨hA, hZ, hG⟩, hK, hW, hQ, fun q' o' b' h1 h2 h3 => ?_, hB.2⟩
      have h1 := Option.some.inj (show some zq = some q' from h1)
      have h2 := Option.some.inj (show some zo = some o' from h2)
      have h3 := Option.some.inj (show some zb = some b' from h3)
      rw [← h1, ← h2, ← h3]
      exact ⟨zq.toNat, zo.toNat, by omega, by omega, k1, k2.trans (Hd_of hr).symm⟩
  · exact ho
noncomputable def h207 (s : Sy) : Sy := match lk s.hl 530, lk s.hl 531, lk s.hl 533 with
  | some z, some q, some r => bif (!(isS (lk s.hl 893)) && !(isS (lk s.hl 894))) && !(isS (lk s.hl 895)) then s.seth (hins 895 r (hins 894 q (hins 893 z s.hl))) else s
  | _, _, _ => s
theorem h207_ok (hC : PH T G cs (cw9 11 13)) (hP : PH T G cs (cR 870 999 RW SL W)) (hr : RW.any (Nat.beq 11) = true) (hr2 : RW.any (Nat.beq 13) = true) (ho : Ok (Jf T G (cS cs)) s ρ σ) : Ok (Jf T G (cS cs)) (h207 s) ρ σ := by
  unfold h207
  split
  · rename_i z q r qz qq qr
    cases hc : (!(isS (lk s.hl 893)) && !(isS (lk s.hl 894))) && !(isS (lk s.hl 895)) with
    | false => exact ho
    | true =>
      obtain ⟨H, i1, i2⟩ := ho.inv
      obtain ⟨zz, t1, t2⟩ := tag_get ho i1 qz
      obtain ⟨zq, o1, o2⟩ := tag_get ho i1 qq
      obtain ⟨zr, b1, b2⟩ := tag_get ho i1 qr
      obtain ⟨k1, k2⟩ := (i2.2.2 _ hC.2.2.1 : wS 11 13 H σ).2 zz zq zr t1 o1 b1
      refine ph_set hP ho i2 (H' := hins 895 zr (hins 894 zq (hins 893 zz H))) (Hl.ins b2 (Hl.ins o2 (Hl.ins t2 i1))) (fun u hu => out3 rfl rfl rfl hu) ?_
      obtain ⟨⟨hA, hZ, hG⟩, hK, hW, hQ, hB⟩ := (i2.2.2 _ hP.2.2.1 : SL (rsT 870 999 H) (rsM RW σ))
      show SL (rsT 870 999 _) (rsM RW σ)
      rw [hins3 rfl rfl rfl]
      refine ⟨⟨hA, hZ, hG⟩, hK, hW, hQ, hB.1, fun z' q' r' h1 h2 h3 => ?_⟩
      have h1 := Option.some.inj (show some zz = some z' from h1)
      have h2 := Option.some.inj (show some zq = some q' from h2)
      have h3 := Option.some.inj (show some zr = some r' from h3)
      rw [← h1, ← h2, ← h3]
      refine ⟨k1, ?_⟩
      unfold Und
      rw [rsM_at hr, rsM_at hr2]
      exact k2
  · exact ho
noncomputable def h210 (t kO kM kF jB : Nat) (p : AV) (s : Sy) : Sy := match mget s.me kF (.c (jB : Int)) with
  | some b => bif ((b.isI && eqA s b (.c 1)) && (!(isS (lk s.hl t)) && !(isS (lk s.hl 595)))) && ((leAV s (.c 0) p && leAV s p (.c 39)) && eqA s p (pl s p)) then (match mget s.me kO (pl s p), mget s.me kM (pl s p) with
    | some v, none => bif v.isI then s.add kM (pl s p) v else s
    | none, some w => bif w.isI then s.add kO (pl s p) w else s
    | _, _ => s) else s
  | none => s
theorem h210_ok {t kO kM kF jB : Nat} (hE : ∀ H σ, Jf T G (cS cs) H σ → eS t kO 1 kM 1 39 H σ) (hK : ck kO 0 (-4) ∈ cs) (hV : cv9 kM kF jB ∈ cs) {p : AV} {z : Int} (hz : ev ρ p = some z) (ho : Ok (Jf T G (cS cs)) s ρ σ) : Ok (Jf T G (cS cs)) (h210 t kO kM kF jB p s) ρ σ := by
  unfold h210
  split
  · rename_i b hb
    cases hc : ((b.isI && eqA s b (.c 1)) && (!(isS (lk s.hl t)) && !(isS (lk s.hl 595)))) && ((leAV s (.c 0) p && leAV s p (.c 39)) && eqA s p (pl s p)) with
    | false => exact ho
    | true =>
      simp only [Bool.and_eq_true] at hc
      obtain ⟨⟨⟨c1, c2⟩, c3, c4⟩, ⟨c5, c6⟩, c7⟩ := hc
      obtain ⟨H, i1, i2⟩ := ho.inv
      have n1 := no_tag i1 c3
      have n2 := no_tag i1 c4
      have f5 := leAV_ok ho c5 (x := 0) rfl hz
      have f6 := leAV_ok ho c6 hz (y := 39) rfl
      obtain ⟨y, hy⟩ := pl_ev (s := s) hz
      have ey := eqA_ok ho c7 hz hy
      have hbv := eqA_ok ho c2 (me_at ho hb rfl c1) (y := 1) rfl
      have hj : ev ρ (pl s p) = some ((z.toNat : Nat) : Int) := hy.trans (congrArg some (by omega))
      have eq : σ.1 kO z.toNat = σ.1 kM z.toNat := by
        by_cases e : z.toNat = 0
        · rw [e]
          have a1 : (σ.1 kO 0).toInt = -4 := i2.2.2 _ hK
          have a2 : (σ.1 kM 0).toInt = -4 := (i2.2.2 _ hV : vS9 kM kF jB H σ) hbv n2
          exact Int32.toInt_inj.mp (a1.trans a2.symm)
        · have := (hE H σ i2).1 n1 (z.toNat - 1) (by omega)
          rw [show 1 + (z.toNat - 1) = z.toNat by omega] at this
          exact this
      simp only [cond_true]
      split
      · rename_i v hv _
        cases hi : v.isI with
        | false => exact ho
        | true => exact ho.addm ⟨z.toNat, hj, Or.inl ⟨hi, by rw [← eq]; exact me_at ho hv hj hi⟩⟩
      · rename_i w _ hw
        cases hi : w.isI with
        | false => exact ho
        | true => exact ho.addm ⟨z.toNat, hj, Or.inl ⟨hi, by rw [eq]; exact me_at ho hw hj hi⟩⟩
      · exact ho
  · exact ho
end L48
end
end
section
/-! ===== PRODUCTS, 0: rules of any judgement that goes with steps ===== -/
noncomputable def mixD (D : Nat → Bool) (σ τ : zS) : zS := (fun k => bif D k then σ.1 k else τ.1 k, fun k => bif D k then σ.2 k else τ.2 k)
noncomputable def agD (D : Nat → Bool) (σ σ' : zS) : Prop := ∀ k, D k = false → σ'.1 k = σ.1 k ∧ σ'.2 k = σ.2 k
noncomputable abbrev Tt : Type := Nat → Nat → List (Nat × Value) → List Value → zS → Prop
/-- T goes with steps that look at the cells of D alone -/
noncomputable def Lft (E : xV) (Yf : Nat → xY) (D : Nat → Bool) (T : Tt) : Prop := ∀ (m pc : Nat) (l : List (Nat × Value)) (v : List Value) (σ : zS) (pc' : Nat) (l' : List (Nat × Value)) (v' : List Value) (σ' : zS), agD D σ σ' → (∀ (τ : zS) (K : zKt), Wz E (Yf m) pc' l' v' (mixD D σ' τ) K → Wz E (Yf m) pc l v (mixD D σ τ) K) → T m pc' l' v' σ' → T m pc l v σ
section PZ
variable {E : xV} {Yf : Nat → xY} {D : Nat → Bool} {T : Tt} {m pc pc' : Nat} {lv lv' : List (Nat × Value)} {st : List Value} {σ τ : zS}
theorem agD.rf : agD D σ σ := fun _ _ => ⟨rfl, rfl⟩
theorem agD.tr {a b c : zS} (h : agD D a b) (h' : agD D b c) : agD D a c := fun k q => ⟨(h' k q).1.trans (h k q).1, (h' k q).2.trans (h k q).2⟩
theorem mix1 {k : Nat} (h : D k = true) : (mixD D σ τ).1 k = σ.1 k := by simp only [mixD, h, cond_true]
theorem mix2 {k : Nat} (h : D k = true) : (mixD D σ τ).2 k = σ.2 k := by simp only [mixD, h, cond_true]
theorem mixIr {k : Nat} {f : Nat → Int32} (h : D k = true) : zIr (mixD D σ τ) k f = mixD D (zIr σ k f) τ := by
  refine Prod.ext (funext fun q => ?_) rfl
  simp only [zIr, mixD, xup]
  by_cases e : q = k
  · subst e; simp only [h, cond_true, if_true]
  · simp only [if_neg e]
theorem mixJr {k : Nat} {f : Nat → Int64} (h : D k = true) : zJr (mixD D σ τ) k f = mixD D (zJr σ k f) τ := by
  refine Prod.ext rfl (funext fun q => ?_)
  simp only [zJr, mixD, xup]
  by_cases e : q = k
  · subst e; simp only [h, cond_true, if_true]
  · simp only [if_neg e]
theorem mixI {k j : Nat} {x : Int32} (h : D k = true) : zI (mixD D σ τ) k j x = mixD D (zI σ k j x) τ := by
  show zIr (mixD D σ τ) k (upd ((mixD D σ τ).1 k) j x) = _
  rw [mix1 h]
  exact mixIr h
theorem mixJ {k j : Nat} {x : Int64} (h : D k = true) : zJ (mixD D σ τ) k j x = mixD D (zJ σ k j x) τ := by
  show zJr (mixD D σ τ) k (vp_updL ((mixD D σ τ).2 k) j x) = _
  rw [mix2 h]
  exact mixJr h
theorem agIr {k : Nat} {f : Nat → Int32} (h : D k = true) : agD D σ (zIr σ k f) := fun q hq => ⟨by
  have e : q ≠ k := fun e => by rw [e, h] at hq; cases hq
  simp only [zIr, xup, if_neg e], rfl⟩
theorem agJr {k : Nat} {f : Nat → Int64} (h : D k = true) : agD D σ (zJr σ k f) := fun q hq => ⟨rfl, by
  have e : q ≠ k := fun e => by rw [e, h] at hq; cases hq
  simp only [zJr, xup, if_neg e]⟩
theorem agI {k j : Nat} {x : Int32} (h : D k = true) : agD D σ (zI σ k j x) := agIr h
theorem agJ {k j : Nat} {x : Int64} (h : D k = true) : agD D σ (zJ σ k j x) := agJr h
theorem g_aald (hT : Lft E Yf D T) {k z i' : Nat} {i : Int32} (hk : k < 215) (hd : KD k = (103, [z])) (hi : vp_in i z) (hr : RF k i.toNatClampNeg = i' + 1) (d : decode (Yf m).2.1 pc = .ok (.aaload, 1) ∧ pc + 1 = pc') (kk : T m pc' lv (.ref i' :: st) σ) : T m pc lv (.int i :: .ref k :: st) σ := hT _ _ _ _ _ _ _ _ _ agD.rf (fun τ K q => z_aald hk hd hi hr d q) kk
theorem g_aload (hT : Lft E Yf D T) {i q : Nat} {x : Nat} (d : decode (Yf m).2.1 pc = .ok (.aload i, 2) ∧ pc + 2 = pc') (hq : lv[q]? = some (i, .ref x)) (k : T m pc' lv (.ref x :: st) σ) : T m pc lv st σ := hT _ _ _ _ _ _ _ _ _ agD.rf (fun τ K q => z_aload d hq q) k
theorem g_aload_n (hT : Lft E Yf D T) {f : Fin 4} {i q : Nat} {x : Nat} (d : decode (Yf m).2.1 pc = .ok (.aload_n f, 1) ∧ pc + 1 = pc') (hi : (f : Nat) = i) (hq : lv[q]? = some (i, .ref x)) (k : T m pc' lv (.ref x :: st) σ) : T m pc lv st σ := hT _ _ _ _ _ _ _ _ _ agD.rf (fun τ K q => z_aload_n d hi hq q) k
theorem g_astore_n (hT : Lft E Yf D T) {f : Fin 4} {i : Nat} {x : Nat} (d : decode (Yf m).2.1 pc = .ok (.astore_n f, 1) ∧ pc + 1 = pc') (hi : (f : Nat) = i) (hn : i < (Yf m).2.2.1) (hl' : (i, Value.ref x) :: lv.filter (fun q => !(q.1 == i) && !(q.1 + 1 == i && q.2.category == 2)) = lv') (k : T m pc' lv' st σ) : T m pc lv (.ref x :: st) σ := hT _ _ _ _ _ _ _ _ _ agD.rf (fun τ K q => z_astore_n d hi hn hl' q) k
theorem g_bipush (hT : Lft E Yf D T) {i : Int} {v : Int32} (d : decode (Yf m).2.1 pc = .ok (.bipush i, 2) ∧ pc + 2 = pc') (hv : (Int8.ofInt i).toInt32 = v) (k : T m pc' lv (.int v :: st) σ) : T m pc lv st σ := hT _ _ _ _ _ _ _ _ _ agD.rf (fun τ K q => z_bipush d hv q) k
theorem g_copyi (hT : Lft E Yf D T) {idx k0 k1 z0 z1 : Nat} {sp dp v : Int32} (hD0 : D k0 = true) (hD1 : D k1 = true) (w1 : Cond.methodLink (Yf m).1.cls idx arraycopyName ∈ TBg) (w2 : Cond.native arraycopyName ∈ TBg) (w3 : Cond.static arraycopyName ∈ TBg) (w4 : Cond.initialized "java/lang/System" ∈ TBg) (hk0 : k0 < 215) (hk1 : k1 < 215) (hd0 : KD k0 = (100, [z0])) (hd1 : KD k1 = (100, [z1])) (hb : ¬ sp < 0 ∧ ¬ dp < 0 ∧ ¬ v < 0 ∧ sp.toNatClampNeg + v.toNatClampNeg ≤ z0 ∧ dp.toNatClampNeg + v.toNatClampNeg ≤ z1) (hfr : 1 ≤ (Yf m).2.2.2.2.frames) (hlo : 40 ≤ (Yf m).2.2.2.2.locals) (hcat : (st.map fun v => v.category).sum ≤ 8) (d : decode (Yf m).2.1 pc = .ok (.invokestatic idx, 3) ∧ pc + 3 = pc') (kk : T m pc' lv st (zIr σ k1 (va_cpy (σ.1 k0) (σ.1 k1) sp.toNatClampNeg dp.toNatClampNeg v.toNatClampNeg)))  : T m pc lv (.int v :: .int dp :: .ref k1 :: .int sp :: .ref k0 :: st) σ := hT _ _ _ _ _ _ _ _ _ (agIr hD1) (fun τ K q => z_copyi w1 w2 w3 w4 hk0 hk1 hd0 hd1 hb hfr hlo hcat d (by rw [mix1 hD0, mix1 hD1, mixIr hD1]; exact q)) kk
theorem g_copyl (hT : Lft E Yf D T) {idx k0 k1 z0 z1 : Nat} {sp dp v : Int32} (hD0 : D k0 = true) (hD1 : D k1 = true) (w1 : Cond.methodLink (Yf m).1.cls idx arraycopyName ∈ TBg) (w2 : Cond.native arraycopyName ∈ TBg) (w3 : Cond.static arraycopyName ∈ TBg) (w4 : Cond.initialized "java/lang/System" ∈ TBg) (hk0 : k0 < 215) (hk1 : k1 < 215) (hd0 : KD k0 = (101, [z0])) (hd1 : KD k1 = (101, [z1])) (hb : ¬ sp < 0 ∧ ¬ dp < 0 ∧ ¬ v < 0 ∧ sp.toNatClampNeg + v.toNatClampNeg ≤ z0 ∧ dp.toNatClampNeg + v.toNatClampNeg ≤ z1) (hfr : 1 ≤ (Yf m).2.2.2.2.frames) (hlo : 40 ≤ (Yf m).2.2.2.2.locals) (hcat : (st.map fun v => v.category).sum ≤ 8) (d : decode (Yf m).2.1 pc = .ok (.invokestatic idx, 3) ∧ pc + 3 = pc') (kk : T m pc' lv st (zJr σ k1 (va_cpy (σ.2 k0) (σ.2 k1) sp.toNatClampNeg dp.toNatClampNeg v.toNatClampNeg)))  : T m pc lv (.int v :: .int dp :: .ref k1 :: .int sp :: .ref k0 :: st) σ := hT _ _ _ _ _ _ _ _ _ (agJr hD1) (fun τ K q => z_copyl w1 w2 w3 w4 hk0 hk1 hd0 hd1 hb hfr hlo hcat d (by rw [mix2 hD0, mix2 hD1, mixJr hD1]; exact q)) kk
theorem g_dup2ir (hT : Lft E Yf D T) {i : Int32} {x : Nat} (d : decode (Yf m).2.1 pc = .ok (.dup2, 1) ∧ pc + 1 = pc') (k : T m pc' lv (.int i :: .ref x :: .int i :: .ref x :: st) σ) : T m pc lv (.int i :: .ref x :: st) σ := hT _ _ _ _ _ _ _ _ _ agD.rf (fun τ K q => z_dup2ir d q) k
theorem g_dup2l (hT : Lft E Yf D T) {x : Int64} (d : decode (Yf m).2.1 pc = .ok (.dup2, 1) ∧ pc + 1 = pc') (k : T m pc' lv (.long x :: .long x :: st) σ) : T m pc lv (.long x :: st) σ := hT _ _ _ _ _ _ _ _ _ agD.rf (fun τ K q => z_dup2l d q) k
theorem g_dupi (hT : Lft E Yf D T) {x : Int32} (d : decode (Yf m).2.1 pc = .ok (.dup, 1) ∧ pc + 1 = pc') (k : T m pc' lv (.int x :: .int x :: st) σ) : T m pc lv (.int x :: st) σ := hT _ _ _ _ _ _ _ _ _ agD.rf (fun τ K q => z_dupi d q) k
theorem g_dupr (hT : Lft E Yf D T) {x : Nat} (d : decode (Yf m).2.1 pc = .ok (.dup, 1) ∧ pc + 1 = pc') (k : T m pc' lv (.ref x :: .ref x :: st) σ) : T m pc lv (.ref x :: st) σ := hT _ _ _ _ _ _ _ _ _ agD.rf (fun τ K q => z_dupr d q) k
theorem g_geti (hT : Lft E Yf D T) {k j idx ci : Nat} {l : List Nat} {ty : FieldType} {fin : Bool} (hD : D k = true) (F : xFl (Yf m).1.cls idx ci j ty fin) (hk : k < 215) (hd : KD k = (ci, l)) (hc : ci < 100) (hj : l[j]? = some 0) (d : decode (Yf m).2.1 pc = .ok (.getfield idx, 3) ∧ pc + 3 = pc') (kk : T m pc' lv (.int (σ.1 k j) :: st) σ) : T m pc lv (.ref k :: st) σ := hT _ _ _ _ _ _ _ _ _ agD.rf (fun τ K q => z_geti F hk hd hc hj d (by rw [mix1 hD]; exact q)) kk
theorem g_getj (hT : Lft E Yf D T) {k j idx ci : Nat} {l : List Nat} {ty : FieldType} {fin : Bool} (hD : D k = true) (F : xFl (Yf m).1.cls idx ci j ty fin) (hk : k < 215) (hd : KD k = (ci, l)) (hc : ci < 100) (hj : l[j]? = some 1) (d : decode (Yf m).2.1 pc = .ok (.getfield idx, 3) ∧ pc + 3 = pc') (kk : T m pc' lv (.long (σ.2 k j) :: st) σ) : T m pc lv (.ref k :: st) σ := hT _ _ _ _ _ _ _ _ _ agD.rf (fun τ K q => z_getj F hk hd hc hj d (by rw [mix2 hD]; exact q)) kk
theorem g_getr (hT : Lft E Yf D T) {k j i idx ci : Nat} {l : List Nat} {ty : FieldType} {fin : Bool} (F : xFl (Yf m).1.cls idx ci j ty fin) (hk : k < 215) (hd : KD k = (ci, l)) (hc : ci < 100) (hj : l[j]? = some 2) (hr : RF k j = i + 1) (d : decode (Yf m).2.1 pc = .ok (.getfield idx, 3) ∧ pc + 3 = pc') (kk : T m pc' lv (.ref i :: st) σ) : T m pc lv (.ref k :: st) σ := hT _ _ _ _ _ _ _ _ _ agD.rf (fun τ K q => z_getr F hk hd hc hj hr d q) kk
theorem g_getsC (hT : Lft E Yf D T) {idx : Nat} (hl : Cond.fieldLink (Yf m).1.cls idx "java/lang/String" "COMPACT_STRINGS" "Z" ∈ TBg) (d : decode (Yf m).2.1 pc = .ok (.getstatic idx, 3) ∧ pc + 3 = pc') (k : T m pc' lv (.int 1 :: st) σ) : T m pc lv st σ := hT _ _ _ _ _ _ _ _ _ agD.rf (fun τ K q => z_getsC hl d q) k
theorem g_getsR (hT : Lft E Yf D T) {idx : Nat} (hl : Cond.fieldLink (Yf m).1.cls idx "RightsHouse$Judge" "RANK" "[I" ∈ TBg) (d : decode (Yf m).2.1 pc = .ok (.getstatic idx, 3) ∧ pc + 3 = pc') (k : T m pc' lv (.ref 3001 :: st) σ) : T m pc lv st σ := hT _ _ _ _ _ _ _ _ _ agD.rf (fun τ K q => z_getsR hl d q) k
theorem g_goto (hT : Lft E Yf D T) {off : Int} {tgt : Nat} (d : decode (Yf m).2.1 pc = .ok (.goto off, 3) ∧ (pc : Int) + off = (tgt : Int) ∧ pc + 3 = pc') (k : T m tgt lv st σ) : T m pc lv st σ := hT _ _ _ _ _ _ _ _ _ agD.rf (fun τ K q => z_goto d q) k
theorem g_i2b (hT : Lft E Yf D T) {x v : Int32} (d : decode (Yf m).2.1 pc = .ok (.i2b, 1) ∧ pc + 1 = pc') (hv : x.toInt8.toInt32 = v) (k : T m pc' lv (.int v :: st) σ) : T m pc lv (.int x :: st) σ := hT _ _ _ _ _ _ _ _ _ agD.rf (fun τ K q => z_i2b d hv q) k
theorem g_i2c (hT : Lft E Yf D T) {x : Int32} {v : Int32} (d : decode (Yf m).2.1 pc = .ok (.i2c, 1) ∧ pc + 1 = pc') (hv : (x.toUInt32 % 65536).toInt32 = v) (k : T m pc' lv (.int v :: st) σ) : T m pc lv (.int x :: st) σ := hT _ _ _ _ _ _ _ _ _ agD.rf (fun τ K q => z_i2c d hv q) k
theorem g_i2l (hT : Lft E Yf D T) {x : Int32} {v : Int64} (d : decode (Yf m).2.1 pc = .ok (.i2l, 1) ∧ pc + 1 = pc') (hv : x.toInt64 = v) (k : T m pc' lv (.long v :: st) σ) : T m pc lv (.int x :: st) σ := hT _ _ _ _ _ _ _ _ _ agD.rf (fun τ K q => z_i2l d hv q) k
theorem g_iadd (hT : Lft E Yf D T) {x y : Int32} (d : decode (Yf m).2.1 pc = .ok (.iadd, 1) ∧ pc + 1 = pc') (k : T m pc' lv (.int (x + y) :: st) σ) : T m pc lv (.int y :: .int x :: st) σ := hT _ _ _ _ _ _ _ _ _ agD.rf (fun τ K q => z_iadd d q) k
theorem g_iald (hT : Lft E Yf D T) {k z : Nat} {i : Int32} (hD : D k = true) (hk : k < 215) (hd : KD k = (100, [z])) (hi : vp_in i z) (d : decode (Yf m).2.1 pc = .ok (.iaload, 1) ∧ pc + 1 = pc') (kk : T m pc' lv (.int (σ.1 k i.toNatClampNeg) :: st) σ) : T m pc lv (.int i :: .ref k :: st) σ := hT _ _ _ _ _ _ _ _ _ agD.rf (fun τ K q => z_iald hk hd hi d (by rw [mix1 hD]; exact q)) kk
theorem g_iand (hT : Lft E Yf D T) {x y : Int32} (d : decode (Yf m).2.1 pc = .ok (.iand, 1) ∧ pc + 1 = pc') (k : T m pc' lv (.int (x &&& y) :: st) σ) : T m pc lv (.int y :: .int x :: st) σ := hT _ _ _ _ _ _ _ _ _ agD.rf (fun τ K q => z_iand d q) k
theorem g_iast (hT : Lft E Yf D T) {k z : Nat} {i : Int32} {x : Int32} (hD : D k = true) (hk : k < 215) (hd : KD k = (100, [z])) (hi : vp_in i z) (d : decode (Yf m).2.1 pc = .ok (.iastore, 1) ∧ pc + 1 = pc') (kk : T m pc' lv st (zI σ k i.toNatClampNeg x)) : T m pc lv (.int x :: .int i :: .ref k :: st) σ := hT _ _ _ _ _ _ _ _ _ (agI hD) (fun τ K q => z_iast hk hd hi d (by rw [mixI hD]; exact q)) kk
theorem g_icmp_eq (hT : Lft E Yf D T) {x y : Int32} {off : Int} {tgt : Nat} (d : decode (Yf m).2.1 pc = .ok (.if_icmp .eq off, 3) ∧ (pc : Int) + off = (tgt : Int) ∧ pc + 3 = pc') (kt : x = y → T m tgt lv st σ) (kf : ¬ x = y → T m pc' lv st σ) : T m pc lv (.int y :: .int x :: st) σ := by
  by_cases h : x = y
  · exact hT _ _ _ _ _ _ _ _ _ agD.rf (fun τ K q => z_icmp_eq d (fun _ => q) (fun h9 => absurd h h9)) (kt h)
  · exact hT _ _ _ _ _ _ _ _ _ agD.rf (fun τ K q => z_icmp_eq d (fun h9 => absurd h9 h) (fun _ => q)) (kf h)
theorem g_icmp_ge (hT : Lft E Yf D T) {x y : Int32} {off : Int} {tgt : Nat} (d : decode (Yf m).2.1 pc = .ok (.if_icmp .ge off, 3) ∧ (pc : Int) + off = (tgt : Int) ∧ pc + 3 = pc') (kt : y ≤ x → T m tgt lv st σ) (kf : ¬ y ≤ x → T m pc' lv st σ) : T m pc lv (.int y :: .int x :: st) σ := by
  by_cases h : y ≤ x
  · exact hT _ _ _ _ _ _ _ _ _ agD.rf (fun τ K q => z_icmp_ge d (fun _ => q) (fun h9 => absurd h h9)) (kt h)
  · exact hT _ _ _ _ _ _ _ _ _ agD.rf (fun τ K q => z_icmp_ge d (fun h9 => absurd h9 h) (fun _ => q)) (kf h)
theorem g_icmp_gt (hT : Lft E Yf D T) {x y : Int32} {off : Int} {tgt : Nat} (d : decode (Yf m).2.1 pc = .ok (.if_icmp .gt off, 3) ∧ (pc : Int) + off = (tgt : Int) ∧ pc + 3 = pc') (kt : y < x → T m tgt lv st σ) (kf : ¬ y < x → T m pc' lv st σ) : T m pc lv (.int y :: .int x :: st) σ := by
  by_cases h : y < x
  · exact hT _ _ _ _ _ _ _ _ _ agD.rf (fun τ K q => z_icmp_gt d (fun _ => q) (fun h9 => absurd h h9)) (kt h)
  · exact hT _ _ _ _ _ _ _ _ _ agD.rf (fun τ K q => z_icmp_gt d (fun h9 => absurd h9 h) (fun _ => q)) (kf h)
theorem g_icmp_le (hT : Lft E Yf D T) {x y : Int32} {off : Int} {tgt : Nat} (d : decode (Yf m).2.1 pc = .ok (.if_icmp .le off, 3) ∧ (pc : Int) + off = (tgt : Int) ∧ pc + 3 = pc') (kt : x ≤ y → T m tgt lv st σ) (kf : ¬ x ≤ y → T m pc' lv st σ) : T m pc lv (.int y :: .int x :: st) σ := by
  by_cases h : x ≤ y
  · exact hT _ _ _ _ _ _ _ _ _ agD.rf (fun τ K q => z_icmp_le d (fun _ => q) (fun h9 => absurd h h9)) (kt h)
  · exact hT _ _ _ _ _ _ _ _ _ agD.rf (fun τ K q => z_icmp_le d (fun h9 => absurd h9 h) (fun _ => q)) (kf h)
theorem g_icmp_lt (hT : Lft E Yf D T) {x y : Int32} {off : Int} {tgt : Nat} (d : decode (Yf m).2.1 pc = .ok (.if_icmp .lt off, 3) ∧ (pc : Int) + off = (tgt : Int) ∧ pc + 3 = pc') (kt : x < y → T m tgt lv st σ) (kf : ¬ x < y → T m pc' lv st σ) : T m pc lv (.int y :: .int x :: st) σ := by
  by_cases h : x < y
  · exact hT _ _ _ _ _ _ _ _ _ agD.rf (fun τ K q => z_icmp_lt d (fun _ => q) (fun h9 => absurd h h9)) (kt h)
  · exact hT _ _ _ _ _ _ _ _ _ agD.rf (fun τ K q => z_icmp_lt d (fun h9 => absurd h9 h) (fun _ => q)) (kf h)
theorem g_icmp_ne (hT : Lft E Yf D T) {x y : Int32} {off : Int} {tgt : Nat} (d : decode (Yf m).2.1 pc = .ok (.if_icmp .ne off, 3) ∧ (pc : Int) + off = (tgt : Int) ∧ pc + 3 = pc') (kt : ¬ x = y → T m tgt lv st σ) (kf : x = y → T m pc' lv st σ) : T m pc lv (.int y :: .int x :: st) σ := by
  by_cases h : x = y
  · exact hT _ _ _ _ _ _ _ _ _ agD.rf (fun τ K q => z_icmp_ne d (fun h9 => absurd h h9) (fun _ => q)) (kf h)
  · exact hT _ _ _ _ _ _ _ _ _ agD.rf (fun τ K q => z_icmp_ne d (fun _ => q) (fun h9 => absurd h9 h)) (kt h)
theorem g_iconst (hT : Lft E Yf D T) {i : Int} {v : Int32} (d : decode (Yf m).2.1 pc = .ok (.iconst i, 1) ∧ pc + 1 = pc') (hv : Int32.ofInt i = v) (k : T m pc' lv (.int v :: st) σ) : T m pc lv st σ := hT _ _ _ _ _ _ _ _ _ agD.rf (fun τ K q => z_iconst d hv q) k
theorem g_idiv (hT : Lft E Yf D T) {x y : Int32} (d : decode (Yf m).2.1 pc = .ok (.idiv, 1) ∧ pc + 1 = pc') (hne : ¬ y = 0) (k : T m pc' lv (.int (x / y) :: st) σ) : T m pc lv (.int y :: .int x :: st) σ := hT _ _ _ _ _ _ _ _ _ agD.rf (fun τ K q => z_idiv d hne q) k
theorem g_if_eq (hT : Lft E Yf D T) {x : Int32} {off : Int} {tgt : Nat} (d : decode (Yf m).2.1 pc = .ok (.ifCond .eq off, 3) ∧ (pc : Int) + off = (tgt : Int) ∧ pc + 3 = pc') (kt : x = 0 → T m tgt lv st σ) (kf : ¬ x = 0 → T m pc' lv st σ) : T m pc lv (.int x :: st) σ := by
  by_cases h : x = 0
  · exact hT _ _ _ _ _ _ _ _ _ agD.rf (fun τ K q => z_if_eq d (fun _ => q) (fun h9 => absurd h h9)) (kt h)
  · exact hT _ _ _ _ _ _ _ _ _ agD.rf (fun τ K q => z_if_eq d (fun h9 => absurd h9 h) (fun _ => q)) (kf h)
theorem g_if_ge (hT : Lft E Yf D T) {x : Int32} {off : Int} {tgt : Nat} (d : decode (Yf m).2.1 pc = .ok (.ifCond .ge off, 3) ∧ (pc : Int) + off = (tgt : Int) ∧ pc + 3 = pc') (kt : 0 ≤ x → T m tgt lv st σ) (kf : ¬ 0 ≤ x → T m pc' lv st σ) : T m pc lv (.int x :: st) σ := by
  by_cases h : 0 ≤ x
  · exact hT _ _ _ _ _ _ _ _ _ agD.rf (fun τ K q => z_if_ge d (fun _ => q) (fun h9 => absurd h h9)) (kt h)
  · exact hT _ _ _ _ _ _ _ _ _ agD.rf (fun τ K q => z_if_ge d (fun h9 => absurd h9 h) (fun _ => q)) (kf h)
theorem g_if_gt (hT : Lft E Yf D T) {x : Int32} {off : Int} {tgt : Nat} (d : decode (Yf m).2.1 pc = .ok (.ifCond .gt off, 3) ∧ (pc : Int) + off = (tgt : Int) ∧ pc + 3 = pc') (kt : 0 < x → T m tgt lv st σ) (kf : ¬ 0 < x → T m pc' lv st σ) : T m pc lv (.int x :: st) σ := by
  by_cases h : 0 < x
  · exact hT _ _ _ _ _ _ _ _ _ agD.rf (fun τ K q => z_if_gt d (fun _ => q) (fun h9 => absurd h h9)) (kt h)
  · exact hT _ _ _ _ _ _ _ _ _ agD.rf (fun τ K q => z_if_gt d (fun h9 => absurd h9 h) (fun _ => q)) (kf h)
theorem g_if_le (hT : Lft E Yf D T) {x : Int32} {off : Int} {tgt : Nat} (d : decode (Yf m).2.1 pc = .ok (.ifCond .le off, 3) ∧ (pc : Int) + off = (tgt : Int) ∧ pc + 3 = pc') (kt : x ≤ 0 → T m tgt lv st σ) (kf : ¬ x ≤ 0 → T m pc' lv st σ) : T m pc lv (.int x :: st) σ := by
  by_cases h : x ≤ 0
  · exact hT _ _ _ _ _ _ _ _ _ agD.rf (fun τ K q => z_if_le d (fun _ => q) (fun h9 => absurd h h9)) (kt h)
  · exact hT _ _ _ _ _ _ _ _ _ agD.rf (fun τ K q => z_if_le d (fun h9 => absurd h9 h) (fun _ => q)) (kf h)
theorem g_if_lt (hT : Lft E Yf D T) {x : Int32} {off : Int} {tgt : Nat} (d : decode (Yf m).2.1 pc = .ok (.ifCond .lt off, 3) ∧ (pc : Int) + off = (tgt : Int) ∧ pc + 3 = pc') (kt : x < 0 → T m tgt lv st σ) (kf : ¬ x < 0 → T m pc' lv st σ) : T m pc lv (.int x :: st) σ := by
  by_cases h : x < 0
  · exact hT _ _ _ _ _ _ _ _ _ agD.rf (fun τ K q => z_if_lt d (fun _ => q) (fun h9 => absurd h h9)) (kt h)
  · exact hT _ _ _ _ _ _ _ _ _ agD.rf (fun τ K q => z_if_lt d (fun h9 => absurd h9 h) (fun _ => q)) (kf h)
theorem g_if_ne (hT : Lft E Yf D T) {x : Int32} {off : Int} {tgt : Nat} (d : decode (Yf m).2.1 pc = .ok (.ifCond .ne off, 3) ∧ (pc : Int) + off = (tgt : Int) ∧ pc + 3 = pc') (kt : ¬ x = 0 → T m tgt lv st σ) (kf : x = 0 → T m pc' lv st σ) : T m pc lv (.int x :: st) σ := by
  by_cases h : x = 0
  · exact hT _ _ _ _ _ _ _ _ _ agD.rf (fun τ K q => z_if_ne d (fun h9 => absurd h h9) (fun _ => q)) (kf h)
  · exact hT _ _ _ _ _ _ _ _ _ agD.rf (fun τ K q => z_if_ne d (fun _ => q) (fun h9 => absurd h9 h)) (kt h)
theorem g_iinc (hT : Lft E Yf D T) {i q : Nat} {z : Int} {x v : Int32} (d : decode (Yf m).2.1 pc = .ok (.iinc i z, 3) ∧ pc + 3 = pc') (hq : lv[q]? = some (i, .int x)) (hv : x + Int32.ofInt z = v) (hn : i < (Yf m).2.2.1) (hl' : (i, Value.int v) :: lv.filter (fun q => !(q.1 == i) && !(q.1 + 1 == i && q.2.category == 2)) = lv') (k : T m pc' lv' st σ) : T m pc lv st σ := hT _ _ _ _ _ _ _ _ _ agD.rf (fun τ K q => z_iinc d hq hv hn hl' q) k
theorem g_iload (hT : Lft E Yf D T) {i q : Nat} {x : Int32} (d : decode (Yf m).2.1 pc = .ok (.iload i, 2) ∧ pc + 2 = pc') (hq : lv[q]? = some (i, .int x)) (k : T m pc' lv (.int x :: st) σ) : T m pc lv st σ := hT _ _ _ _ _ _ _ _ _ agD.rf (fun τ K q => z_iload d hq q) k
theorem g_iload_n (hT : Lft E Yf D T) {f : Fin 4} {i q : Nat} {x : Int32} (d : decode (Yf m).2.1 pc = .ok (.iload_n f, 1) ∧ pc + 1 = pc') (hi : (f : Nat) = i) (hq : lv[q]? = some (i, .int x)) (k : T m pc' lv (.int x :: st) σ) : T m pc lv st σ := hT _ _ _ _ _ _ _ _ _ agD.rf (fun τ K q => z_iload_n d hi hq q) k
theorem g_imul (hT : Lft E Yf D T) {x y : Int32} (d : decode (Yf m).2.1 pc = .ok (.imul, 1) ∧ pc + 1 = pc') (k : T m pc' lv (.int (x * y) :: st) σ) : T m pc lv (.int y :: .int x :: st) σ := hT _ _ _ _ _ _ _ _ _ agD.rf (fun τ K q => z_imul d q) k
theorem g_ineg (hT : Lft E Yf D T) {x : Int32} (d : decode (Yf m).2.1 pc = .ok (.ineg, 1) ∧ pc + 1 = pc') (k : T m pc' lv (.int (-x) :: st) σ) : T m pc lv (.int x :: st) σ := hT _ _ _ _ _ _ _ _ _ agD.rf (fun τ K q => z_ineg d q) k
theorem g_ior (hT : Lft E Yf D T) {x y : Int32} (d : decode (Yf m).2.1 pc = .ok (.ior, 1) ∧ pc + 1 = pc') (k : T m pc' lv (.int (x ||| y) :: st) σ) : T m pc lv (.int y :: .int x :: st) σ := hT _ _ _ _ _ _ _ _ _ agD.rf (fun τ K q => z_ior d q) k
theorem g_irem (hT : Lft E Yf D T) {x y : Int32} (d : decode (Yf m).2.1 pc = .ok (.irem, 1) ∧ pc + 1 = pc') (hne : ¬ y = 0) (k : T m pc' lv (.int (x - x / y * y) :: st) σ) : T m pc lv (.int y :: .int x :: st) σ := hT _ _ _ _ _ _ _ _ _ agD.rf (fun τ K q => z_irem d hne q) k
theorem g_ishl (hT : Lft E Yf D T) {x y : Int32} (d : decode (Yf m).2.1 pc = .ok (.ishl, 1) ∧ pc + 1 = pc') (k : T m pc' lv (.int (x <<< (y &&& 31)) :: st) σ) : T m pc lv (.int y :: .int x :: st) σ := hT _ _ _ _ _ _ _ _ _ agD.rf (fun τ K q => z_ishl d q) k
theorem g_ishr (hT : Lft E Yf D T) {x y : Int32} (d : decode (Yf m).2.1 pc = .ok (.ishr, 1) ∧ pc + 1 = pc') (k : T m pc' lv (.int (x >>> (y &&& 31)) :: st) σ) : T m pc lv (.int y :: .int x :: st) σ := hT _ _ _ _ _ _ _ _ _ agD.rf (fun τ K q => z_ishr d q) k
theorem g_istore (hT : Lft E Yf D T) {i : Nat} {x : Int32} (d : decode (Yf m).2.1 pc = .ok (.istore i, 2) ∧ pc + 2 = pc') (hn : i < (Yf m).2.2.1) (hl' : (i, Value.int x) :: lv.filter (fun q => !(q.1 == i) && !(q.1 + 1 == i && q.2.category == 2)) = lv') (k : T m pc' lv' st σ) : T m pc lv (.int x :: st) σ := hT _ _ _ _ _ _ _ _ _ agD.rf (fun τ K q => z_istore d hn hl' q) k
theorem g_istore_n (hT : Lft E Yf D T) {f : Fin 4} {i : Nat} {x : Int32} (d : decode (Yf m).2.1 pc = .ok (.istore_n f, 1) ∧ pc + 1 = pc') (hi : (f : Nat) = i) (hn : i < (Yf m).2.2.1) (hl' : (i, Value.int x) :: lv.filter (fun q => !(q.1 == i) && !(q.1 + 1 == i && q.2.category == 2)) = lv') (k : T m pc' lv' st σ) : T m pc lv (.int x :: st) σ := hT _ _ _ _ _ _ _ _ _ agD.rf (fun τ K q => z_istore_n d hi hn hl' q) k
theorem g_isub (hT : Lft E Yf D T) {x y : Int32} (d : decode (Yf m).2.1 pc = .ok (.isub, 1) ∧ pc + 1 = pc') (k : T m pc' lv (.int (x - y) :: st) σ) : T m pc lv (.int y :: .int x :: st) σ := hT _ _ _ _ _ _ _ _ _ agD.rf (fun τ K q => z_isub d q) k
theorem g_iushr (hT : Lft E Yf D T) {x y v : Int32} (d : decode (Yf m).2.1 pc = .ok (.iushr, 1) ∧ pc + 1 = pc') (hv : (x.toUInt32 >>> (y.toUInt32 &&& Int32.toUInt32 31)).toInt32 = v) (k : T m pc' lv (.int v :: st) σ) : T m pc lv (.int y :: .int x :: st) σ := hT _ _ _ _ _ _ _ _ _ agD.rf (fun τ K q => z_iushr d hv q) k
theorem g_ixor (hT : Lft E Yf D T) {x y : Int32} (d : decode (Yf m).2.1 pc = .ok (.ixor, 1) ∧ pc + 1 = pc') (k : T m pc' lv (.int (x ^^^ y) :: st) σ) : T m pc lv (.int y :: .int x :: st) σ := hT _ _ _ _ _ _ _ _ _ agD.rf (fun τ K q => z_ixor d q) k
theorem g_l2i (hT : Lft E Yf D T) {x : Int64} {v : Int32} (d : decode (Yf m).2.1 pc = .ok (.l2i, 1) ∧ pc + 1 = pc') (hv : x.toInt32 = v) (k : T m pc' lv (.int v :: st) σ) : T m pc lv (.long x :: st) σ := hT _ _ _ _ _ _ _ _ _ agD.rf (fun τ K q => z_l2i d hv q) k
theorem g_ladd (hT : Lft E Yf D T) {x y : Int64} (d : decode (Yf m).2.1 pc = .ok (.ladd, 1) ∧ pc + 1 = pc') (k : T m pc' lv (.long (x + y) :: st) σ) : T m pc lv (.long y :: .long x :: st) σ := hT _ _ _ _ _ _ _ _ _ agD.rf (fun τ K q => z_ladd d q) k
theorem g_lald (hT : Lft E Yf D T) {k z : Nat} {i : Int32} (hD : D k = true) (hk : k < 215) (hd : KD k = (101, [z])) (hi : vp_in i z) (d : decode (Yf m).2.1 pc = .ok (.laload, 1) ∧ pc + 1 = pc') (kk : T m pc' lv (.long (σ.2 k i.toNatClampNeg) :: st) σ) : T m pc lv (.int i :: .ref k :: st) σ := hT _ _ _ _ _ _ _ _ _ agD.rf (fun τ K q => z_lald hk hd hi d (by rw [mix2 hD]; exact q)) kk
theorem g_land (hT : Lft E Yf D T) {x y : Int64} (d : decode (Yf m).2.1 pc = .ok (.land, 1) ∧ pc + 1 = pc') (k : T m pc' lv (.long (x &&& y) :: st) σ) : T m pc lv (.long y :: .long x :: st) σ := hT _ _ _ _ _ _ _ _ _ agD.rf (fun τ K q => z_land d q) k
theorem g_last (hT : Lft E Yf D T) {k z : Nat} {i : Int32} {x : Int64} (hD : D k = true) (hk : k < 215) (hd : KD k = (101, [z])) (hi : vp_in i z) (d : decode (Yf m).2.1 pc = .ok (.lastore, 1) ∧ pc + 1 = pc') (kk : T m pc' lv st (zJ σ k i.toNatClampNeg x)) : T m pc lv (.long x :: .int i :: .ref k :: st) σ := hT _ _ _ _ _ _ _ _ _ (agJ hD) (fun τ K q => z_last hk hd hi d (by rw [mixJ hD]; exact q)) kk
theorem g_lcmp (hT : Lft E Yf D T) {x y : Int64} (d : decode (Yf m).2.1 pc = .ok (.lcmp, 1) ∧ pc + 1 = pc') (k : T m pc' lv (.int (lg_cmp x y) :: st) σ) : T m pc lv (.long y :: .long x :: st) σ := hT _ _ _ _ _ _ _ _ _ agD.rf (fun τ K q => z_lcmp d q) k
theorem g_lconst (hT : Lft E Yf D T) {i : Fin 2} {v : Int64} (d : decode (Yf m).2.1 pc = .ok (.lconst i, 1) ∧ pc + 1 = pc') (hv : Int64.ofNat (i : Nat) = v) (k : T m pc' lv (.long v :: st) σ) : T m pc lv st σ := hT _ _ _ _ _ _ _ _ _ agD.rf (fun τ K q => z_lconst d hv q) k
theorem g_ldc (hT : Lft E Yf D T) {i : Nat} {v : Int32} (d : decode (Yf m).2.1 pc = .ok (.ldc i, 2) ∧ pc + 2 = pc') (hw : Cond.constant (Yf m).1.cls i v ∈ TBg) (k : T m pc' lv (.int v :: st) σ) : T m pc lv st σ := hT _ _ _ _ _ _ _ _ _ agD.rf (fun τ K q => z_ldc d hw q) k
theorem g_ldc2 (hT : Lft E Yf D T) {i : Nat} {v : Int64} (d : decode (Yf m).2.1 pc = .ok (.ldc2_w i, 3) ∧ pc + 3 = pc') (hw : Cond.constantLong (Yf m).1.cls i v ∈ TBg) (k : T m pc' lv (.long v :: st) σ) : T m pc lv st σ := hT _ _ _ _ _ _ _ _ _ agD.rf (fun τ K q => z_ldc2 d hw q) k
theorem g_ldcS (hT : Lft E Yf D T) {i : Nat} {q : String × (Nat × String)} (hq : STR[i]? = some q) (hY : (Yf m).1.cls = q.1) (d : decode (Yf m).2.1 pc = .ok (.ldc q.2.1, 2) ∧ pc + 2 = pc') (k : T m pc' lv (.ref (1000 + i) :: st) σ) : T m pc lv st σ := hT _ _ _ _ _ _ _ _ _ agD.rf (fun τ K q => z_ldcS hq hY d q) k
theorem g_ldcw (hT : Lft E Yf D T) {i : Nat} {v : Int32} (d : decode (Yf m).2.1 pc = .ok (.ldc_w i, 3) ∧ pc + 3 = pc') (hw : Cond.constant (Yf m).1.cls i v ∈ TBg) (k : T m pc' lv (.int v :: st) σ) : T m pc lv st σ := hT _ _ _ _ _ _ _ _ _ agD.rf (fun τ K q => z_ldcw d hw q) k
theorem g_ldcwS (hT : Lft E Yf D T) {i : Nat} {q : String × (Nat × String)} (hq : STR[i]? = some q) (hY : (Yf m).1.cls = q.1) (d : decode (Yf m).2.1 pc = .ok (.ldc_w q.2.1, 3) ∧ pc + 3 = pc') (k : T m pc' lv (.ref (1000 + i) :: st) σ) : T m pc lv st σ := hT _ _ _ _ _ _ _ _ _ agD.rf (fun τ K q => z_ldcwS hq hY d q) k
theorem g_ldiv (hT : Lft E Yf D T) {x y : Int64} (d : decode (Yf m).2.1 pc = .ok (.ldiv, 1) ∧ pc + 1 = pc') (hne : ¬ y = 0) (k : T m pc' lv (.long (x / y) :: st) σ) : T m pc lv (.long y :: .long x :: st) σ := hT _ _ _ _ _ _ _ _ _ agD.rf (fun τ K q => z_ldiv d hne q) k
theorem g_lload (hT : Lft E Yf D T) {i q : Nat} {x : Int64} (d : decode (Yf m).2.1 pc = .ok (.lload i, 2) ∧ pc + 2 = pc') (hq : lv[q]? = some (i, .long x)) (k : T m pc' lv (.long x :: st) σ) : T m pc lv st σ := hT _ _ _ _ _ _ _ _ _ agD.rf (fun τ K q => z_lload d hq q) k
theorem g_lload_n (hT : Lft E Yf D T) {f : Fin 4} {i q : Nat} {x : Int64} (d : decode (Yf m).2.1 pc = .ok (.lload_n f, 1) ∧ pc + 1 = pc') (hi : (f : Nat) = i) (hq : lv[q]? = some (i, .long x)) (k : T m pc' lv (.long x :: st) σ) : T m pc lv st σ := hT _ _ _ _ _ _ _ _ _ agD.rf (fun τ K q => z_lload_n d hi hq q) k
theorem g_lmul (hT : Lft E Yf D T) {x y : Int64} (d : decode (Yf m).2.1 pc = .ok (.lmul, 1) ∧ pc + 1 = pc') (k : T m pc' lv (.long (x * y) :: st) σ) : T m pc lv (.long y :: .long x :: st) σ := hT _ _ _ _ _ _ _ _ _ agD.rf (fun τ K q => z_lmul d q) k
theorem g_lneg (hT : Lft E Yf D T) {x : Int64} (d : decode (Yf m).2.1 pc = .ok (.lneg, 1) ∧ pc + 1 = pc') (k : T m pc' lv (.long (-x) :: st) σ) : T m pc lv (.long x :: st) σ := hT _ _ _ _ _ _ _ _ _ agD.rf (fun τ K q => z_lneg d q) k
theorem g_lookup (hT : Lft E Yf D T) {dflt : Int} {ps : Array (Int × Int)} {len : Nat} {x : Int32} {off : Int} {tgt : Nat} (d : decode (Yf m).2.1 pc = .ok (.lookupswitch dflt ps, len)) (hp : (ps.toList.zip (ps.toList.drop 1)).all (fun (a, next) => a.1 < next.1) = true) (ho : Op.lookupswitch.offset ps.toList dflt x.toInt = off) (ht : (pc : Int) + off = (tgt : Int)) (k : T m tgt lv st σ) : T m pc lv (.int x :: st) σ := hT _ _ _ _ _ _ _ _ _ agD.rf (fun τ K q => z_lookup d hp ho ht q) k
theorem g_lor (hT : Lft E Yf D T) {x y : Int64} (d : decode (Yf m).2.1 pc = .ok (.lor, 1) ∧ pc + 1 = pc') (k : T m pc' lv (.long (x ||| y) :: st) σ) : T m pc lv (.long y :: .long x :: st) σ := hT _ _ _ _ _ _ _ _ _ agD.rf (fun τ K q => z_lor d q) k
theorem g_lrem (hT : Lft E Yf D T) {x y : Int64} (d : decode (Yf m).2.1 pc = .ok (.lrem, 1) ∧ pc + 1 = pc') (hne : ¬ y = 0) (k : T m pc' lv (.long (x - x / y * y) :: st) σ) : T m pc lv (.long y :: .long x :: st) σ := hT _ _ _ _ _ _ _ _ _ agD.rf (fun τ K q => z_lrem d hne q) k
theorem g_lshl (hT : Lft E Yf D T) {x v : Int64} {y : Int32} (d : decode (Yf m).2.1 pc = .ok (.lshl, 1) ∧ pc + 1 = pc') (hv : x <<< (y.toInt64 &&& 63) = v) (k : T m pc' lv (.long v :: st) σ) : T m pc lv (.int y :: .long x :: st) σ := hT _ _ _ _ _ _ _ _ _ agD.rf (fun τ K q => z_lshl d hv q) k
theorem g_lshr (hT : Lft E Yf D T) {x v : Int64} {y : Int32} (d : decode (Yf m).2.1 pc = .ok (.lshr, 1) ∧ pc + 1 = pc') (hv : x >>> (y.toInt64 &&& 63) = v) (k : T m pc' lv (.long v :: st) σ) : T m pc lv (.int y :: .long x :: st) σ := hT _ _ _ _ _ _ _ _ _ agD.rf (fun τ K q => z_lshr d hv q) k
theorem g_lstore (hT : Lft E Yf D T) {i : Nat} {x : Int64} (d : decode (Yf m).2.1 pc = .ok (.lstore i, 2) ∧ pc + 2 = pc') (hn : i + 1 < (Yf m).2.2.1) (hl' : (i, Value.long x) :: lv.filter (fun q => !(q.1 == i) && (!(q.1 == i + 1) && !(q.1 + 1 == i && q.2.category == 2))) = lv') (k : T m pc' lv' st σ) : T m pc lv (.long x :: st) σ := hT _ _ _ _ _ _ _ _ _ agD.rf (fun τ K q => z_lstore d hn hl' q) k
theorem g_lstore_n (hT : Lft E Yf D T) {f : Fin 4} {i : Nat} {x : Int64} (d : decode (Yf m).2.1 pc = .ok (.lstore_n f, 1) ∧ pc + 1 = pc') (hi : (f : Nat) = i) (hn : i + 1 < (Yf m).2.2.1) (hl' : (i, Value.long x) :: lv.filter (fun q => !(q.1 == i) && (!(q.1 == i + 1) && !(q.1 + 1 == i && q.2.category == 2))) = lv') (k : T m pc' lv' st σ) : T m pc lv (.long x :: st) σ := hT _ _ _ _ _ _ _ _ _ agD.rf (fun τ K q => z_lstore_n d hi hn hl' q) k
theorem g_lsub (hT : Lft E Yf D T) {x y : Int64} (d : decode (Yf m).2.1 pc = .ok (.lsub, 1) ∧ pc + 1 = pc') (k : T m pc' lv (.long (x - y) :: st) σ) : T m pc lv (.long y :: .long x :: st) σ := hT _ _ _ _ _ _ _ _ _ agD.rf (fun τ K q => z_lsub d q) k
theorem g_lushr (hT : Lft E Yf D T) {x v : Int64} {y : Int32} (d : decode (Yf m).2.1 pc = .ok (.lushr, 1) ∧ pc + 1 = pc') (hv : (x.toUInt64 >>> (y.toInt64.toUInt64 &&& Int64.toUInt64 63)).toInt64 = v) (k : T m pc' lv (.long v :: st) σ) : T m pc lv (.int y :: .long x :: st) σ := hT _ _ _ _ _ _ _ _ _ agD.rf (fun τ K q => z_lushr d hv q) k
theorem g_lxor (hT : Lft E Yf D T) {x y : Int64} (d : decode (Yf m).2.1 pc = .ok (.lxor, 1) ∧ pc + 1 = pc') (k : T m pc' lv (.long (x ^^^ y) :: st) σ) : T m pc lv (.long y :: .long x :: st) σ := hT _ _ _ _ _ _ _ _ _ agD.rf (fun τ K q => z_lxor d q) k
theorem g_mmax (hT : Lft E Yf D T) {pc pc' idx : Nat} {x y : Int32} (w1 : Cond.methodLink (Yf m).1.cls idx Lib.Math.max.name ∈ TBg) (w2 : Cond.static Lib.Math.max.name ∈ TBg) (w3 : Cond.initialized "java/lang/Math" ∈ TBg) (w4 : Cond.code Lib.Math.max.name Lib.Math.max.code 2 (some .int) ∈ TBg) (hfr : 1 ≤ (Yf m).2.2.2.2.frames) (hlo : 40 ≤ (Yf m).2.2.2.2.locals) (hcat : (st.map fun v => v.category).sum ≤ 8) (d : decode (Yf m).2.1 pc = .ok (.invokestatic idx, 3) ∧ pc + 3 = pc') (k : T m pc' lv (.int (if x < y then y else x) :: st) σ) : T m pc lv (.int y :: .int x :: st) σ := hT _ _ _ _ _ _ _ _ _ agD.rf (fun τ K q => z_mmax w1 w2 w3 w4 hfr hlo hcat d q) k
theorem g_mmin (hT : Lft E Yf D T) {pc pc' idx : Nat} {x y : Int32} (w1 : Cond.methodLink (Yf m).1.cls idx Lib.Math.min.name ∈ TBg) (w2 : Cond.static Lib.Math.min.name ∈ TBg) (w3 : Cond.initialized "java/lang/Math" ∈ TBg) (w4 : Cond.code Lib.Math.min.name Lib.Math.min.code 2 (some .int) ∈ TBg) (hfr : 1 ≤ (Yf m).2.2.2.2.frames) (hlo : 40 ≤ (Yf m).2.2.2.2.locals) (hcat : (st.map fun v => v.category).sum ≤ 8) (d : decode (Yf m).2.1 pc = .ok (.invokestatic idx, 3) ∧ pc + 3 = pc') (k : T m pc' lv (.int (if y < x then y else x) :: st) σ) : T m pc lv (.int y :: .int x :: st) σ := hT _ _ _ _ _ _ _ _ _ agD.rf (fun τ K q => z_mmin w1 w2 w3 w4 hfr hlo hcat d q) k
theorem g_popi (hT : Lft E Yf D T) {x : Int32} (d : decode (Yf m).2.1 pc = .ok (.pop, 1) ∧ pc + 1 = pc') (k : T m pc' lv st σ) : T m pc lv (.int x :: st) σ := hT _ _ _ _ _ _ _ _ _ agD.rf (fun τ K q => z_popi d q) k
theorem g_puti (hT : Lft E Yf D T) {k j idx ci : Nat} {l : List Nat} {ty : FieldType} {v : Int32} (hD : D k = true) (F : xFl (Yf m).1.cls idx ci j ty false) (hk : k < 215) (hd : KD k = (ci, l)) (hc : ci < 100) (hj : l[j]? = some 0) (hw : narrow ty (.int v) = .int v) (hf : fits ty (.int v) = true) (d : decode (Yf m).2.1 pc = .ok (.putfield idx, 3) ∧ pc + 3 = pc') (kk : T m pc' lv st (zI σ k j v)) : T m pc lv (.int v :: .ref k :: st) σ := hT _ _ _ _ _ _ _ _ _ (agI hD) (fun τ K q => z_puti F hk hd hc hj hw hf d (by rw [mixI hD]; exact q)) kk
theorem g_putj (hT : Lft E Yf D T) {k j idx ci : Nat} {l : List Nat} {v : Int64} (hD : D k = true) (F : xFl (Yf m).1.cls idx ci j .long false) (hk : k < 215) (hd : KD k = (ci, l)) (hc : ci < 100) (hj : l[j]? = some 1) (d : decode (Yf m).2.1 pc = .ok (.putfield idx, 3) ∧ pc + 3 = pc') (kk : T m pc' lv st (zJ σ k j v)) : T m pc lv (.long v :: .ref k :: st) σ := hT _ _ _ _ _ _ _ _ _ (agJ hD) (fun τ K q => z_putj F hk hd hc hj d (by rw [mixJ hD]; exact q)) kk
theorem g_rald (hT : Lft E Yf D T) {x : Int32} (hx : vp_in x 4) (d : decode (Yf m).2.1 pc = .ok (.iaload, 1) ∧ pc + 1 = pc') (k : T m pc' lv (.int (RNK.getD x.toNatClampNeg 0) :: st) σ) : T m pc lv (.int x :: .ref 3001 :: st) σ := hT _ _ _ _ _ _ _ _ _ agD.rf (fun τ K q => z_rald hx d q) k
theorem g_sald (hT : Lft E Yf D T) {i : Nat} {x : Int32} (hi : i < 21) (hx : vp_in x (SLN.getD i 0)) (d : decode (Yf m).2.1 pc = .ok (.baload, 1) ∧ pc + 1 = pc') (k : T m pc' lv (.int ((SBY.getD i []).getD x.toNatClampNeg 0) :: st) σ) : T m pc lv (.int x :: .ref (2000 + i) :: st) σ := hT _ _ _ _ _ _ _ _ _ agD.rf (fun τ K q => z_sald hi hx d q) k
theorem g_sgetc (hT : Lft E Yf D T) {idx i : Nat} (hi : i < 21) (hl : Cond.fieldLink (Yf m).1.cls idx "java/lang/String" "coder" "B" ∈ TBg) (d : decode (Yf m).2.1 pc = .ok (.getfield idx, 3) ∧ pc + 3 = pc') (k : T m pc' lv (.int 0 :: st) σ) : T m pc lv (.ref (1000 + i) :: st) σ := hT _ _ _ _ _ _ _ _ _ agD.rf (fun τ K q => z_sgetc hi hl d q) k
theorem g_sgetv (hT : Lft E Yf D T) {idx i : Nat} (hi : i < 21) (hl : Cond.fieldLink (Yf m).1.cls idx "java/lang/String" "value" "[B" ∈ TBg) (d : decode (Yf m).2.1 pc = .ok (.getfield idx, 3) ∧ pc + 3 = pc') (k : T m pc' lv (.ref (2000 + i) :: st) σ) : T m pc lv (.ref (1000 + i) :: st) σ := hT _ _ _ _ _ _ _ _ _ agD.rf (fun τ K q => z_sgetv hi hl d q) k
theorem g_sipush (hT : Lft E Yf D T) {i : Int} {v : Int32} (d : decode (Yf m).2.1 pc = .ok (.sipush i, 3) ∧ pc + 3 = pc') (hv : (Int16.ofInt i).toInt32 = v) (k : T m pc' lv (.int v :: st) σ) : T m pc lv st σ := hT _ _ _ _ _ _ _ _ _ agD.rf (fun τ K q => z_sipush d hv q) k
theorem g_slen (hT : Lft E Yf D T) {i : Nat} {v : Int32} (hi : i < 21) (hv : Int32.ofNat (SLN.getD i 0) = v) (d : decode (Yf m).2.1 pc = .ok (.arraylength, 1) ∧ pc + 1 = pc') (k : T m pc' lv (.int v :: st) σ) : T m pc lv (.ref (2000 + i) :: st) σ := hT _ _ _ _ _ _ _ _ _ agD.rf (fun τ K q => z_slen hi hv d q) k
theorem g_tableIn (hT : Lft E Yf D T) {dflt lo hi : Int} {offs : Array Int} {len : Nat} {x : Int32} {off : Int} {tgt : Nat} (d : decode (Yf m).2.1 pc = .ok (.tableswitch dflt lo hi offs, len)) (h1 : ¬ x.toInt < lo) (h2 : ¬ hi < x.toInt) (ho : offs[(x.toInt - lo).toNat]? = some off) (ht : (pc : Int) + off = (tgt : Int)) (k : T m tgt lv st σ) : T m pc lv (.int x :: st) σ := hT _ _ _ _ _ _ _ _ _ agD.rf (fun τ K q => z_tableIn d h1 h2 ho ht q) k
theorem g_tableOut (hT : Lft E Yf D T) {dflt lo hi : Int} {offs : Array Int} {len : Nat} {x : Int32} {tgt : Nat} (d : decode (Yf m).2.1 pc = .ok (.tableswitch dflt lo hi offs, len)) (h : x.toInt < lo ∨ hi < x.toInt) (ht : (pc : Int) + dflt = (tgt : Int)) (k : T m tgt lv st σ) : T m pc lv (.int x :: st) σ := hT _ _ _ _ _ _ _ _ _ agD.rf (fun τ K q => z_tableOut d h ht q) k
theorem g_zald (hT : Lft E Yf D T) {k z : Nat} {i : Int32} (hD : D k = true) (hk : k < 215) (hd : KD k = (102, [z])) (hi : vp_in i z) (d : decode (Yf m).2.1 pc = .ok (.baload, 1) ∧ pc + 1 = pc') (kk : T m pc' lv (.int (σ.1 k i.toNatClampNeg) :: st) σ) : T m pc lv (.int i :: .ref k :: st) σ := hT _ _ _ _ _ _ _ _ _ agD.rf (fun τ K q => z_zald hk hd hi d (by rw [mix1 hD]; exact q)) kk
theorem g_zast (hT : Lft E Yf D T) {k z : Nat} {i : Int32} {x : Int32} (hD : D k = true) (hk : k < 215) (hd : KD k = (102, [z])) (hi : vp_in i z) (d : decode (Yf m).2.1 pc = .ok (.bastore, 1) ∧ pc + 1 = pc') (kk : T m pc' lv st (zI σ k i.toNatClampNeg (vp_nar .boolean x))) : T m pc lv (.int x :: .int i :: .ref k :: st) σ := hT _ _ _ _ _ _ _ _ _ (agI hD) (fun τ K q => z_zast hk hd hi d (by rw [mixI hD]; exact q)) kk
end PZ
end
