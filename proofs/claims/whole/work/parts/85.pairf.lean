theorem m1_nn : ¬ (0 : Int32) ≤ -1 := by decide
/-- one number of the table -/
theorem most_eq {N n m i U : Nat} {G T dg dt : Nat → Nat} {w : zS} (y1 y2 y3 y4 : Int32) (hN : 1000000000 ≤ N) (hM : MM w n m G T dg dt) (hi : i < n) (hU : U < 2 ^ m) (hR : RT w n m (nrD dg dt) (apD dg dt) (i + 1)) (K : Int32 → Int32 → zS → Option (Int32 × zS)) : lX8_pairThose_104 N y1 y2 y3 y4 (nI n) (nI m) (nI i) (nI U) K N (nI (Bf n m (nrD dg dt) (apD dg dt) (n - (i + 1)) U), (0 : Int32), w) = K (nI (Bf n m (nrD dg dt) (apD dg dt) (n - i) U)) (nI m) w := by
  obtain ⟨a3, a4, a5, a6⟩ := id hM
  obtain ⟨-, p256, -⟩ := bits3 m (by omega)
  obtain ⟨r, hr⟩ : ∃ r, n - i = r + 1 := ⟨n - i - 1, by omega⟩
  have hr2 : n - (i + 1) = r := by omega
  have hri : n - r - 1 = i := by omega
  have bd := fun V => Bf_bd (ap := apD dg dt) (nr := nrD dg dt) a3 a4 apD_3 (show r ≤ n by omega) V
  have eB : Bf n m (nrD dg dt) (apD dg dt) (n - i) U = mxN (fun j => if nrD dg dt i j = true ∧ U.testBit j = false then 1000 - apD dg dt i j + Bf n m (nrD dg dt) (apD dg dt) r (U ||| 2 ^ j) else 0) (Bf n m (nrD dg dt) (apD dg dt) r U) m := by
    rw [hr]
    show mxN _ _ _ = _
    rw [hri]
  rw [eB, hr2]
  unfold RT at hR
  rw [hr2] at hR
  unfold lX8_pairThose_104
  refine zlp_for (st := fun j => (nI (mxN (fun j => if nrD dg dt i j = true ∧ U.testBit j = false then 1000 - apD dg dt i j + Bf n m (nrD dg dt) (apD dg dt) r (U ||| 2 ^ j) else 0) (Bf n m (nrD dg dt) (apD dg dt) r U) j), nI j, w)) (E := m) (fun j hj rc => ?_) (fun rc => ?_) N 0 (by omega) (by omega)
  · obtain ⟨X, eX⟩ : ∃ X, X = mxN (fun j => if nrD dg dt i j = true ∧ U.testBit j = false then 1000 - apD dg dt i j + Bf n m (nrD dg dt) (apD dg dt) r (U ||| 2 ^ j) else 0) (Bf n m (nrD dg dt) (apD dg dt) r U) j := ⟨_, rfl⟩
    have hX : X ≤ 9000 := by
      rw [eX]
      rcases mxN_at (fun j => if nrD dg dt i j = true ∧ U.testBit j = false then 1000 - apD dg dt i j + Bf n m (nrD dg dt) (apD dg dt) r (U ||| 2 ^ j) else 0) (Bf n m (nrD dg dt) (apD dg dt) r U) j with z | ⟨u, z1, z2⟩
      · rw [z]; have := bd U; omega
      · rw [z2]
        have := bd (U ||| 2 ^ u)
        split <;> omega
    obtain ⟨t1, t2, -⟩ := bits2 U (by omega) j (by omega)
    simp only [bX8_pairThose_104, if_neg (nI_ge hj (show m < 2 ^ 31 by omega)), t1, t2, if_neg m1_nn, nI_1, mxN, ← eX]
    by_cases q : U.testBit j = true
    · have q0 : ¬ (nrD dg dt i j = true ∧ U.testBit j = false) := fun z => by rw [q] at z; exact absurd z.2 (by decide)
      rw [if_pos q, if_pos (show (1 : Int32) = 1 from rfl), if_pos (nI_pos' (by omega)), if_neg q0, Nat.max_eq_left (by omega)]
    · have qf : U.testBit j = false := by simpa using q
      rw [if_neg q, if_neg (show ¬ (0 : Int32) = 1 by decide), worth_eq hM hi hj]
      simp only [zbi]
      by_cases q2 : nrD dg dt i j = true
      · have hU2 : U ||| 2 ^ j < 2 ^ m := bits6 hU hj
        have bb := bd (U ||| 2 ^ j)
        rw [if_pos q2, if_pos (nI_pos' (by omega)), if_pos (show nrD dg dt i j = true ∧ U.testBit j = false from ⟨q2, qf⟩), i256, zld_at (by omega) (by omega), hR _ hU2, nI_add]
        by_cases q3 : 1000 - apD dg dt i j + Bf n m (nrD dg dt) (apD dg dt) r (U ||| 2 ^ j) ≤ X
        · rw [if_pos (nI_le q3 (by omega)), Nat.max_eq_left q3]
        · rw [if_neg (nI_ge (by omega) (by omega)), Nat.max_eq_right (by omega)]
      · have q0 : ¬ (nrD dg dt i j = true ∧ U.testBit j = false) := fun z => q2 z.1
        rw [if_neg q2, if_neg m1_nn, if_pos (nI_pos' (by omega)), if_neg q0, Nat.max_eq_left (by omega)]
  · simp only [bX8_pairThose_104, if_pos (nI_le (Nat.le_refl m) (show m < 2 ^ 31 by omega))]
theorem MM_fm {w w' : zS} {n m : Nat} {G T dg dt : Nat → Nat} {L : List Nat} (hM : MM w n m G T dg dt) (hF : Fm L w w') (h1 : 27 ∉ L) (h2 : 28 ∉ L) (h3 : 14 ∉ L) : MM w' n m G T dg dt := by
  unfold MM at hM ⊢
  rw [hF.2 0 27 (fun z => h1 z.2), hF.2 0 28 (fun z => h2 z.2), hF.2 0 14 (fun z => h3 z.2)]
  exact hM
/-- the whole table -/
theorem table_eq {N n m : Nat} {G T dg dt : Nat → Nat} {w : zS} (y1 y2 y3 y4 : Int32) (hN : 1000000000 ≤ N) (hM : MM w n m G T dg dt) (K : Int32 → zS → Option (Int32 × zS)) : ∃ y w', lX8_pairThose_31 N y1 y2 y3 y4 (nI n) (nI m) (fun _ w7 => lX8_pairThose_66 N y1 y2 y3 y4 (nI n) (nI m) K N ((nI n - (1 : Int32)), w7)) N ((0 : Int32), w) = K y w' ∧ Fm [29] w w' ∧ ∀ i, i ≤ n → RT w' n m (nrD dg dt) (apD dg dt) i := by
  obtain ⟨a3, a4, a5, a6⟩ := id hM
  obtain ⟨b1, p256, p1⟩ := bits3 m (by omega)
  have l31 : ∀ K' : Int32 → zS → Option (Int32 × zS), ∃ y w1, lX8_pairThose_31 N y1 y2 y3 y4 (nI n) (nI m) K' N ((0 : Int32), w) = K' y w1 ∧ Fm [29] w w1 ∧ RT w1 n m (nrD dg dt) (apD dg dt) n := by
    intro K'
    unfold lX8_pairThose_31
    refine zlp_inv (fun k z => ∃ w1, z = (nI k, w1) ∧ k ≤ 256 ∧ Fm [29] w w1 ∧ ∀ u, u < k → w1.1 0 29 (256 * n + u) = 0) (fun r => ∃ y w1, r = K' y w1 ∧ Fm [29] w w1 ∧ RT w1 n m (nrD dg dt) (apD dg dt) n) 256 ?_ N 0 _ ⟨w, rfl, by omega, Fm_refl _ _, fun u hu => by omega⟩ (by omega)
    rintro k z rc ⟨w1, rfl, hk, f1, h1⟩
    simp only [bX8_pairThose_31]
    by_cases c1 : k = 256
    · right
      subst c1
      rw [if_pos (by decide)]
      refine ⟨_, w1, rfl, f1, fun U hU => ?_⟩
      rw [h1 U (by omega), Nat.sub_self]
      rfl
    · left
      refine ⟨by omega, ?_⟩
      rw [if_neg (show ¬ (256 : Int32) ≤ nI k from nI_ge (b := 256) (by omega) (by omega)), i256, zst_at (by omega) (by omega), nI_1]
      refine ⟨_, ⟨_, rfl, by omega, Fm_st f1 (by decide) _ _, fun u hu => ?_⟩, rfl⟩
      rw [zsI_at]
      by_cases e : u = k
      · subst e; rw [pk_us]
      · rw [pk_un (by omega)]; exact h1 u (by omega)
  obtain ⟨y, w1, e1, f1, r1⟩ := l31 (fun _ w7 => lX8_pairThose_66 N y1 y2 y3 y4 (nI n) (nI m) K N ((nI n - (1 : Int32)), w7))
  rw [e1]
  unfold lX8_pairThose_66
  refine zlp_inv (fun k z => ∃ w2, z = (nI (n - k) - 1, w2) ∧ k ≤ n ∧ Fm [29] w w2 ∧ ∀ i, n - k ≤ i → i ≤ n → RT w2 n m (nrD dg dt) (apD dg dt) i) (fun r => ∃ y w', r = K y w' ∧ Fm [29] w w' ∧ ∀ i, i ≤ n → RT w' n m (nrD dg dt) (apD dg dt) i) n ?_ N 0 _ ⟨w1, rfl, by omega, f1, fun i h1 h2 => (show i = n by omega) ▸ r1⟩ (by omega)
  rintro k z rc ⟨w2, rfl, hk, f2, h2⟩
  simp only [bX8_pairThose_66]
  by_cases c1 : k = n
  · right
    subst c1
    rw [Nat.sub_self] at h2 ⊢
    rw [if_pos (by decide)]
    exact ⟨_, w2, rfl, f2, fun i hi => h2 i (by omega) hi⟩
  · left
    refine ⟨by omega, ?_⟩
    obtain ⟨i, ei⟩ : ∃ i, n - k = i + 1 := ⟨n - k - 1, by omega⟩
    have ex : nI (n - k) - 1 = nI i := by rw [ei, nI_pred]
    rw [ex, if_neg (nI_pos (by omega))]
    have hi : i < n := by omega
    have l74 : ∀ K' : Int32 → zS → Option (Int32 × zS), ∃ y w3, lX8_pairThose_74 N y1 y2 y3 y4 (nI n) (nI m) (nI i) K' N ((0 : Int32), w2) = K' y w3 ∧ Fm [29] w w3 ∧ ∀ i', i ≤ i' → i' ≤ n → RT w3 n m (nrD dg dt) (apD dg dt) i' := by
      intro K'
      unfold lX8_pairThose_74
      refine zlp_inv (fun u z => ∃ w3, z = (nI u, w3) ∧ u ≤ 2 ^ m ∧ Fm [29] w w3 ∧ (∀ i', i + 1 ≤ i' → i' ≤ n → RT w3 n m (nrD dg dt) (apD dg dt) i') ∧ ∀ U, U < u → w3.1 0 29 (256 * i + U) = nI (Bf n m (nrD dg dt) (apD dg dt) (n - i) U)) (fun r => ∃ y w3, r = K' y w3 ∧ Fm [29] w w3 ∧ ∀ i', i ≤ i' → i' ≤ n → RT w3 n m (nrD dg dt) (apD dg dt) i') (2 ^ m) ?_ N 0 _ ⟨w2, rfl, by omega, f2, fun i' g1 g2 => h2 i' (by omega) g2, fun U hU => by omega⟩ (by omega)
      rintro u z rc2 ⟨w3, rfl, hu, f3, h3, h4⟩
      simp only [bX8_pairThose_74, b1]
      by_cases c2 : u = 2 ^ m
      · right
        rw [if_pos (nI_le (by omega) (by omega))]
        refine ⟨_, w3, rfl, f3, fun i' g1 g2 => ?_⟩
        by_cases e : i' = i
        · subst e; exact fun U hU => h4 U (by omega)
        · exact h3 i' (by omega) g2
      · left
        refine ⟨by omega, ?_⟩
        have M3 : MM w3 n m G T dg dt := MM_fm hM f3 (by decide) (by decide) (by decide)
        rw [if_neg (nI_ge (by omega) (by omega))]
        have e256 : (256 : Int32) * (nI i + 1) + nI u = nI (256 * (i + 1) + u) := by rw [nI_1, i256]
        rw [e256, zld_at (by omega) (by omega), h3 (i + 1) (by omega) (by omega) u (by omega), most_eq y1 y2 y3 y4 hN M3 hi (by omega) (h3 (i + 1) (by omega) (by omega)), i256, zst_at (by omega) (by omega), nI_1]
        refine ⟨_, ⟨_, rfl, by omega, Fm_st f3 (by decide) _ _, fun i' g1 g2 U hU => ?_, fun U hU => ?_⟩, rfl⟩
        · rw [zsI_at, pk_un (by omega)]
          exact h3 i' g1 g2 U hU
        · rw [zsI_at]
          by_cases e : U = u
          · subst e; rw [pk_us]
          · rw [pk_un (by omega)]; exact h4 U (by omega)
    obtain ⟨y', w3, e3, f3, h3⟩ := l74 (fun y17 w18 => rc (nI i + -1, w18))
    rw [e3]
    refine ⟨_, ⟨w3, rfl, by omega, f3, fun i' g1 g2 => h3 i' (by omega) g2⟩, ?_⟩
    rw [show n - (k + 1) = i by omega, Int32.sub_eq_add_neg]
/-- the reference's choice at a give -/
theorem found_eq {N n m i U : Nat} {G T dg dt : Nat → Nat} {w : zS} (y1 y2 y3 y4 y8 : Int32) (hN : 1000000000 ≤ N) (hM : MM w n m G T dg dt) (hi : i < n) (hU : U < 2 ^ m) (hR : ∀ i, i ≤ n → RT w n m (nrD dg dt) (apD dg dt) i) (K : Int32 → Int32 → zS → Option (Int32 × zS)) : ∃ y j, lX8_pairThose_253 N y1 y2 y3 y4 (nI n) (nI m) (nI U) y8 (nI i) K N ((-1 : Int32), (nI m - (1 : Int32)), w) = K (if j = 8 then -1 else nI j) y w ∧ GR n m (nrD dg dt) (apD dg dt) (n - i - 1) U j := by
  obtain ⟨a3, a4, a5, a6⟩ := id hM
  obtain ⟨b1, p256, p1⟩ := bits3 m (by omega)
  obtain ⟨r, hr⟩ : ∃ r, n - i = r + 1 := ⟨n - i - 1, by omega⟩
  have hr1 : n - i - 1 = r := by omega
  have hr2 : n - (i + 1) = r := by omega
  have hri : n - r - 1 = i := by omega
  have R0 := hR i (by omega)
  have R1 := hR (i + 1) (by omega)
  unfold RT at R0 R1
  rw [hr] at R0
  rw [hr2] at R1
  rw [hr1]
  unfold GR
  rw [hri]
  unfold lX8_pairThose_253
  refine zlp_inv (fun k z => ∃ j, z = ((if j = 8 then -1 else nI j), nI (m - k) - 1, w) ∧ k ≤ m ∧ ((j = 8 ∧ ∀ j', m - k ≤ j' → j' < m → okk (nrD dg dt) i U j' → 1000 - apD dg dt i j' + Bf n m (nrD dg dt) (apD dg dt) r (U ||| 2 ^ j') ≠ Bf n m (nrD dg dt) (apD dg dt) (r + 1) U) ∨ (j < m ∧ okk (nrD dg dt) i U j ∧ 1000 - apD dg dt i j + Bf n m (nrD dg dt) (apD dg dt) r (U ||| 2 ^ j) = Bf n m (nrD dg dt) (apD dg dt) (r + 1) U ∧ ∀ j', m - k ≤ j' → j' < j → okk (nrD dg dt) i U j' → 1000 - apD dg dt i j' + Bf n m (nrD dg dt) (apD dg dt) r (U ||| 2 ^ j') ≠ Bf n m (nrD dg dt) (apD dg dt) (r + 1) U))) (fun q => ∃ y j, q = K (if j = 8 then -1 else nI j) y w ∧ ((j = 8 ∧ ∀ j', j' < m → okk (nrD dg dt) i U j' → 1000 - apD dg dt i j' + Bf n m (nrD dg dt) (apD dg dt) r (U ||| 2 ^ j') ≠ Bf n m (nrD dg dt) (apD dg dt) (r + 1) U) ∨ (j < m ∧ okk (nrD dg dt) i U j ∧ 1000 - apD dg dt i j + Bf n m (nrD dg dt) (apD dg dt) r (U ||| 2 ^ j) = Bf n m (nrD dg dt) (apD dg dt) (r + 1) U ∧ ∀ j', j' < j → okk (nrD dg dt) i U j' → 1000 - apD dg dt i j' + Bf n m (nrD dg dt) (apD dg dt) r (U ||| 2 ^ j') ≠ Bf n m (nrD dg dt) (apD dg dt) (r + 1) U))) m ?_ N 0 _ ⟨8, rfl, by omega, Or.inl ⟨rfl, fun j' g1 g2 => by omega⟩⟩ (by omega)
  rintro k z rc ⟨j, rfl, hk, hj⟩
  simp only [bX8_pairThose_253]
  by_cases c1 : k = m
  · right
    subst c1
    rw [Nat.sub_self] at hj ⊢
    rw [if_pos (by decide)]
    refine ⟨_, j, rfl, ?_⟩
    rcases hj with ⟨q1, q2⟩ | ⟨q1, q2, q3, q4⟩
    · exact Or.inl ⟨q1, fun j' g1 => q2 j' (by omega) g1⟩
    · exact Or.inr ⟨q1, q2, q3, fun j' g1 => q4 j' (by omega) g1⟩
  left
  obtain ⟨u, eu⟩ : ∃ u, m - k = u + 1 := ⟨m - k - 1, by omega⟩
  have ex : nI (m - k) - 1 = nI u := by rw [eu, nI_pred]
  have hu : u < m := by omega
  have ek : m - (k + 1) = u := by omega
  have en : nI u + -1 = nI (m - (k + 1)) - 1 := by rw [ek, Int32.sub_eq_add_neg]
  rw [ex, if_neg (nI_pos (by omega)), en]
  refine ⟨by omega, ?_⟩
  obtain ⟨t1, t2, -⟩ := bits2 U (by omega) u (by omega)
  rw [t1, t2]
  have keep : (okk (nrD dg dt) i U u → 1000 - apD dg dt i u + Bf n m (nrD dg dt) (apD dg dt) r (U ||| 2 ^ u) ≠ Bf n m (nrD dg dt) (apD dg dt) (r + 1) U) → ∃ s', (∃ j, s' = ((if j = 8 then -1 else nI j), nI (m - (k + 1)) - 1, w) ∧ k + 1 ≤ m ∧ ((j = 8 ∧ ∀ j', m - (k + 1) ≤ j' → j' < m → okk (nrD dg dt) i U j' → 1000 - apD dg dt i j' + Bf n m (nrD dg dt) (apD dg dt) r (U ||| 2 ^ j') ≠ Bf n m (nrD dg dt) (apD dg dt) (r + 1) U) ∨ (j < m ∧ okk (nrD dg dt) i U j ∧ 1000 - apD dg dt i j + Bf n m (nrD dg dt) (apD dg dt) r (U ||| 2 ^ j) = Bf n m (nrD dg dt) (apD dg dt) (r + 1) U ∧ ∀ j', m - (k + 1) ≤ j' → j' < j → okk (nrD dg dt) i U j' → 1000 - apD dg dt i j' + Bf n m (nrD dg dt) (apD dg dt) r (U ||| 2 ^ j') ≠ Bf n m (nrD dg dt) (apD dg dt) (r + 1) U))) ∧ rc ((if j = 8 then -1 else nI j), nI (m - (k + 1)) - 1, w) = rc s' := by
    intro hk2
    refine ⟨_, ⟨j, rfl, by omega, ?_⟩, rfl⟩
    rcases hj with ⟨q1, q2⟩ | ⟨q1, q2, q3, q4⟩
    · refine Or.inl ⟨q1, fun j' g1 g2 g3 => ?_⟩
      by_cases e : j' = u
      · subst e; exact hk2 g3
      · exact q2 j' (by omega) g2 g3
    · refine Or.inr ⟨q1, q2, q3, fun j' g1 g2 g3 => ?_⟩
      by_cases e : j' = u
      · subst e; exact hk2 g3
      · exact q4 j' (by omega) g2 g3
  by_cases q : U.testBit u = true
  · rw [if_pos q, if_pos rfl, if_pos (by decide)]
    exact keep (fun z => by rw [z.2] at q; cases q)
  have qf : U.testBit u = false := by simpa using q
  rw [if_neg q, if_neg (show ¬ (0 : Int32) = 1 by decide), worth_eq hM hi hu]
  simp only [zbi]
  by_cases q2 : nrD dg dt i u = true
  · have hU2 : U ||| 2 ^ u < 2 ^ m := bits6 hU hu
    have bb := Bf_bd (ap := apD dg dt) (nr := nrD dg dt) a3 a4 apD_3 (show r ≤ n by omega) (U ||| 2 ^ u)
    have bb2 := Bf_bd (ap := apD dg dt) (nr := nrD dg dt) a3 a4 apD_3 (show r + 1 ≤ n by omega) U
    have e256 : (256 : Int32) * (nI i + 1) + nI (U ||| 2 ^ u) = nI (256 * (i + 1) + (U ||| 2 ^ u)) := by rw [nI_1, i256]
    rw [if_pos q2, if_neg (nI_pos (by omega)), e256, zld_at (by omega) (by omega), R1 _ hU2, i256, zld_at (by omega) (by omega), R0 U hU, nI_add]
    by_cases q3 : 1000 - apD dg dt i u + Bf n m (nrD dg dt) (apD dg dt) r (U ||| 2 ^ u) = Bf n m (nrD dg dt) (apD dg dt) (r + 1) U
    · rw [if_pos (by rw [q3])]
      refine ⟨(nI u, nI (m - (k + 1)) - 1, w), ⟨u, by rw [if_neg (by omega)], by omega, Or.inr ⟨hu, ⟨q2, qf⟩, q3, fun j' g1 g2 => by omega⟩⟩, rfl⟩
    · rw [if_neg (fun e => q3 ((nI_eq (by omega) (by omega)).mp e))]
      exact keep (fun _ => q3)
  · rw [if_neg q2, if_pos (by decide)]
    exact keep (fun z => absurd z.1 q2)
