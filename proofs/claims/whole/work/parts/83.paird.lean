theorem PA_bd {n m g s : Nat} {nr : Nat → Nat → Bool} {ap : Nat → Nat → Nat} {β : Nat → Option Nat} {v : Option Nat} (hm : m ≤ 8) (hg : g < n) (hF : FI n m nr ap g β) (hs : s < 2 ^ m) (hA : PA m nr ap g β s m v) {b : Nat} (hb : v = some b) : b ≤ Sf n m nr ap n 0 := by
  have p256 : 2 ^ m ≤ 256 := (bits3 m (by omega)).2.1
  obtain ⟨r, hr⟩ : ∃ r, n - g = r + 1 := ⟨n - g - 1, by omega⟩
  have hgi : n - r - 1 = g := by omega
  obtain ⟨f1, -⟩ := hF
  rw [hr] at f1
  rcases hA.2.2 b hb with z | ⟨t, c, z1, z2, z3, z4, z5⟩
  · have := f1 s b hs z
    omega
  · obtain ⟨y1, y2, y3⟩ := (bits1 s (by omega) t (by omega)).1 z2
    have := f1 (s - 2 ^ t) c (by omega) z4
    have h2 := mxN_le (fun j => if nr (n - r - 1) j = true ∧ (s - 2 ^ t).testBit j = false then vl ap (n - r - 1) j + Sf n m nr ap r ((s - 2 ^ t) ||| 2 ^ j) else 0) (Sf n m nr ap r (s - 2 ^ t)) z1
    rw [hgi] at h2
    simp only [if_pos (show nr g t = true ∧ (s - 2 ^ t).testBit t = false from ⟨z3, y1⟩)] at h2
    have e : Sf n m nr ap (r + 1) (s - 2 ^ t) = mxN (fun j => if nr g j = true ∧ (s - 2 ^ t).testBit j = false then vl ap g j + Sf n m nr ap r ((s - 2 ^ t) ||| 2 ^ j) else 0) (Sf n m nr ap r (s - 2 ^ t)) m := by
      rw [← hgi]; rfl
    rw [← e] at h2
    omega
theorem addGive_eq {N n m g : Nat} {G T dg dt : Nat → Nat} {w0 w : zS} {β : Nat → Option Nat} (hN : 1000000000 ≤ N) (hM : MX w0 n m G T dg dt) (hF : FL w0 w) (hg : g < n) (hI : FI n m (nrD dg dt) (apD dg dt) g β) (hR : RB w m β) (h23 : ∀ t, t < m → w.2.1 0 23 t = bo (if nrD dg dt g t = true then some (vl (apD dg dt) g t) else none)) : ∃ w' β', fX4_addGive N (nI (2 ^ m)) w = some w' ∧ FL w0 w' ∧ w'.2.1 0 3 = w.2.1 0 3 ∧ RB w' m β' ∧ FI n m (nrD dg dt) (apD dg dt) (g + 1) β' := by
  obtain ⟨a1, a2, a3, a4, a5, a6⟩ := id hM
  have p256 := (bits3 m (by omega)).2.1
  have p1 := (bits3 m (by omega)).2.2
  have sb := Sf_bd (ap := apD dg dt) (nr := nrD dg dt) a3 a4 apD_3 (Nat.le_refl n) 0
  unfold fX4_addGive lX4_addGive_12
  have e1 : ((if (256 : Int32) < nI (2 ^ m) then (256 : Int32) else nI (2 ^ m)) - 1) = nI (2 ^ m - 1) := by
    rw [if_neg (show ¬ (256 : Int32) < nI (2 ^ m) from nI_nlt (a := 256) p256 (by omega)), show (1 : Int32) = nI 1 from rfl, pk_sub p1]
  rw [e1]
  refine zlp_inv (fun i z => ∃ w1 β1, z = (nI (2 ^ m - 1 - i), w1) ∧ i ≤ 2 ^ m - 1 ∧ FL w0 w1 ∧ w1.2.1 0 3 = w.2.1 0 3 ∧ w1.2.1 0 23 = w.2.1 0 23 ∧ RB w1 m β1 ∧ (∀ u, u ≤ 2 ^ m - 1 - i → β1 u = β u) ∧ ∀ u, 2 ^ m - 1 - i < u → u < 2 ^ m → PA m (nrD dg dt) (apD dg dt) g β u m (β1 u)) (fun r => ∃ w' β', r = some w' ∧ FL w0 w' ∧ w'.2.1 0 3 = w.2.1 0 3 ∧ RB w' m β' ∧ FI n m (nrD dg dt) (apD dg dt) (g + 1) β') (2 ^ m - 1) ?_ N 0 _ ⟨w, β, rfl, by omega, hF, rfl, rfl, hR, fun u _ => rfl, fun u h1 h2 => by omega⟩ (by omega)
  rintro i z rc ⟨w1, β1, rfl, hi, f1, k3, k23, k22, hlo, hhi⟩
  simp only [bX4_addGive_12]
  by_cases c1 : i = 2 ^ m - 1
  · right
    rw [if_pos ((nI_le0 (by omega)).mpr (by omega))]
    refine ⟨w1, β1, rfl, f1, k3, k22, FI_step a4 hg hI (fun s hs => ?_)⟩
    rcases Nat.eq_zero_or_pos s with z | z
    · subst z
      rw [hlo 0 (by omega)]
      refine ⟨fun b hb => ⟨b, hb, Nat.le_refl b⟩, fun u b hu h1 => ?_, fun b' hb' => Or.inl hb'⟩
      rw [Nat.zero_testBit] at h1
      cases h1
    · exact hhi s (by omega) hs
  · left
    refine ⟨by omega, ?_⟩
    obtain ⟨s, es⟩ : ∃ s, s = 2 ^ m - 1 - i := ⟨_, rfl⟩
    rw [← es] at hlo hhi ⊢
    have hs : s < 2 ^ m := by omega
    have hs0 : 0 < s := by omega
    rw [if_neg (fun e => by have := (nI_le0 (by omega)).mp e; omega)]
    have hb1 : ∀ u b, u < 2 ^ m → β1 u = some b → b < 17592186044416 := by
      intro u b hu hb
      rcases Nat.lt_or_ge s u with q | q
      · have := PA_bd a4 hg hI hu (hhi u q hu) hb
        omega
      · rw [hlo u q] at hb
        have := hI.1 u b hu hb
        omega
    obtain ⟨y', w', v, e, f2, m23, m3, m22, hP⟩ := addT (β := β1) (w := w1) (g := g) (s := s) (nI (2 ^ m)) hN hM f1 hs hb1 k22 (fun t ht => by rw [k23]; exact h23 t ht) (fun y7 w8 => rc (nI s + -1, w8))
    rw [e]
    have hP' : PA m (nrD dg dt) (apD dg dt) g β s m v := by
      obtain ⟨q1, q2, q3⟩ := hP
      have es2 : ∀ u, β1 (s - 2 ^ u) = β (s - 2 ^ u) := fun u => hlo _ (Nat.sub_le _ _)
      refine ⟨fun b hb => q1 b (by rw [hlo s (Nat.le_refl s)]; exact hb), fun u b hu h1 h2 h3 => q2 u b hu h1 h2 (by rw [es2]; exact h3), fun b' hb' => ?_⟩
      rcases q3 b' hb' with z | ⟨u, b, z1, z2, z3, z4, z5⟩
      · rw [hlo s (Nat.le_refl s)] at z; exact Or.inl z
      · rw [es2] at z4; exact Or.inr ⟨u, b, z1, z2, z3, z4, z5⟩
    have e2 : 2 ^ m - 1 - (i + 1) = s - 1 := by omega
    rw [e2]
    refine ⟨_, ⟨w', fun u => if u = s then v else β1 u, rfl, by omega, f2, by rw [m3]; exact k3, by rw [m23]; exact k23, m22, fun u hu => ?_, fun u h1 h2 => ?_⟩, ?_⟩
    · simp only [if_neg (show ¬ u = s by omega)]
      exact hlo u (by omega)
    · by_cases q : u = s
      · subst q; simp only [if_true]; exact hP'
      · simp only [if_neg q]; exact hhi u (by omega) h2
    · have : nI s + -1 = nI (s - 1) := by
        rw [show s = (s - 1) + 1 by omega, pk_m1, Nat.add_sub_cancel]
      rw [this]
theorem solve_eq {N n m : Nat} {G T dg dt : Nat → Nat} {w : zS} (hN : 1000000000 ≤ N) (hM : MX w n m G T dg dt) (h0 : w.2.1 0 3 6 = 0) : ∃ w', fX4_solve N w = some w' ∧ FL w w' ∧ w'.2.1 0 3 6 = lN (Sf n m (nrD dg dt) (apD dg dt) n 0) := by
  obtain ⟨a1, a2, a3, a4, a5, a6⟩ := id hM
  obtain ⟨b1, p256, p1⟩ := bits3 m (by omega)
  have sb := Sf_bd (ap := apD dg dt) (nr := nrD dg dt) a3 a4 apD_3 (Nat.le_refl n) 0
  unfold fX4_solve
  rw [a2, b1]
  have l9 : ∀ K : Int32 → zS → Option zS, ∃ y w1, lX4_solve_9 N (nI (2 ^ m)) K N ((0 : Int32), w) = K y w1 ∧ FL w w1 ∧ w1.2.1 0 3 = w.2.1 0 3 ∧ RB w1 m (fun _ => none) := by
    intro K
    unfold lX4_solve_9
    refine zlp_inv (fun k z => ∃ w1, z = (nI k, w1) ∧ k ≤ 2 ^ m ∧ FL w w1 ∧ w1.2.1 0 3 = w.2.1 0 3 ∧ ∀ s, s < k → w1.2.1 0 22 s = -1) (fun r => ∃ y w1, r = K y w1 ∧ FL w w1 ∧ w1.2.1 0 3 = w.2.1 0 3 ∧ RB w1 m (fun _ => none)) (2 ^ m) ?_ N 0 _ ⟨w, rfl, by omega, FL_refl w, rfl, fun s hs => by omega⟩ (by omega)
    rintro k z rc ⟨w1, rfl, hk, f1, k3, k22⟩
    simp only [bX4_solve_9]
    by_cases c1 : k = 2 ^ m
    · right
      rw [if_pos (nI_le (by omega) (by omega))]
      exact ⟨_, w1, rfl, f1, k3, fun s hs => k22 s (by omega)⟩
    · left
      refine ⟨by omega, ?_⟩
      rw [if_neg (nI_ge (by omega) (by omega)), if_neg (show ¬ (256 : Int32) ≤ nI k from nI_ge (b := 256) (by omega) (by omega)), zstJ_at (by omega) (by omega), nI_1]
      refine ⟨_, ⟨_, rfl, by omega, FL_st f1 (by omega) _ _, by rw [zsJ_ne _ _ _ (by decide)]; exact k3, fun s hs => ?_⟩, rfl⟩
      rw [zsJ_at]
      by_cases q : s = k
      · subst q; rw [pk_uLs]
      · rw [pk_uLn q]; exact k22 s (by omega)
  obtain ⟨y, w1, e1, f1, k3, k22⟩ := l9 (fun y2 w3 => zstJ w3 22 256 (0 : Int32) (0 : Int64) fun w4 => lX4_solve_47 N (nI (2 ^ m)) (fun y11 w12 => lX4_solve_96 N (nI (2 ^ m)) (fun y15 w16 => some w16) N ((0 : Int32), w12)) N ((0 : Int32), w4))
  rw [e1, show (0 : Int32) = nI 0 from rfl, zstJ_at (by omega) (by omega)]
  have F0 : FI n m (nrD dg dt) (apD dg dt) 0 (fun s => if s = 0 then some 0 else none) := by
    refine ⟨fun s b hs hb => ?_, 0, 0, Nat.two_pow_pos m, rfl, by rw [Nat.sub_zero]; omega⟩
    by_cases q : s = 0
    · subst q
      simp only [if_true] at hb
      cases hb
      rw [Nat.sub_zero]
      omega
    · simp only [if_neg q] at hb
      cases hb
  unfold lX4_solve_47
  refine zlp_inv (fun g z => ∃ w2 β, z = (nI g, w2) ∧ g ≤ n ∧ FL w w2 ∧ w2.2.1 0 3 = w.2.1 0 3 ∧ RB w2 m β ∧ FI n m (nrD dg dt) (apD dg dt) g β) (fun r => ∃ w', r = some w' ∧ FL w w' ∧ w'.2.1 0 3 6 = lN (Sf n m (nrD dg dt) (apD dg dt) n 0)) n ?_ N 0 _ ⟨_, fun s => if s = 0 then some 0 else none, rfl, by omega, FL_st f1 (by omega) _ _, by rw [zsJ_ne _ _ _ (by decide)]; exact k3, fun s hs => ?_, F0⟩ (by omega)
  · rintro g z rc ⟨w2, β, rfl, hg, f2, m3, m22, hI⟩
    have e4 : w2.1 0 3 4 = nI n := by rw [f2.1]; exact a1
    simp only [bX4_solve_47, e4]
    by_cases c1 : g = n
    · right
      rw [if_pos (nI_le (by omega) (by omega))]
      subst c1
      unfold lX4_solve_96
      obtain ⟨i1, s0, c0, i2, i3, i4⟩ := hI
      rw [Nat.sub_self] at i1 i4
      have z0 : ∀ s, Sf g m (nrD dg dt) (apD dg dt) 0 s = 0 := fun s => rfl
      refine zlp_inv (fun k z => ∃ w3 x, z = (nI k, w3) ∧ k ≤ 2 ^ m ∧ FL w w3 ∧ w3.2.1 0 22 = w2.2.1 0 22 ∧ w3.2.1 0 3 6 = lN x ∧ x ≤ Sf g m (nrD dg dt) (apD dg dt) g 0 ∧ ∀ u b, u < k → u < 2 ^ m → β u = some b → b ≤ x) (fun r => ∃ w', r = some w' ∧ FL w w' ∧ w'.2.1 0 3 6 = lN (Sf g m (nrD dg dt) (apD dg dt) g 0)) (2 ^ m) ?_ N 0 _ ⟨w2, 0, rfl, by omega, f2, rfl, by rw [m3, h0]; rfl, by omega, fun u b hu => by omega⟩ (by omega)
      rintro k z rc2 ⟨w3, x, rfl, hk, f3, q22, q6, hx, hp⟩
      simp only [bX4_solve_96]
      by_cases c2 : k = 2 ^ m
      · right
        rw [if_pos (nI_le (by omega) (by omega))]
        refine ⟨w3, rfl, f3, ?_⟩
        have := hp s0 c0 (by omega) i2 i3
        have := z0 s0
        rw [q6]
        congr 1
        omega
      · left
        refine ⟨by omega, ?_⟩
        rw [if_neg (nI_ge (by omega) (by omega)), if_neg (show ¬ (256 : Int32) ≤ nI k from nI_ge (b := 256) (by omega) (by omega)), zldJ_at (by omega) (by omega), q22, m22 k (by omega), q6, nI_1]
        simp only [zlet]
        obtain ⟨x', ex, hx1, hx2, hx3⟩ : ∃ x', (if bo (β k) < lN x then lN x else bo (β k)) = lN x' ∧ x ≤ x' ∧ x' ≤ Sf g m (nrD dg dt) (apD dg dt) g 0 ∧ ∀ b, β k = some b → b ≤ x' := by
          cases hb : β k with
          | none =>
            refine ⟨x, ?_, Nat.le_refl x, hx, fun b e => by cases e⟩
            rw [if_pos]
            rw [Int64.lt_iff_toInt_lt, pf_lI (by omega)]
            have : (bo none).toInt = -1 := rfl
            omega
          | some b =>
            have hbb := i1 k b (by omega) hb
            by_cases q : b < x
            · exact ⟨x, by rw [if_pos (show bo (some b) < lN x from (pk_lLT (by omega) (by omega)).mpr q)], Nat.le_refl x, hx, fun b' e => by cases e; omega⟩
            · exact ⟨b, by rw [if_neg (show ¬ bo (some b) < lN x from fun z => q ((pk_lLT (by omega) (by omega)).mp z))]; rfl, by omega, by omega, fun b' e => by cases e; omega⟩
        rw [ex]
        refine ⟨_, ⟨_, x', rfl, by omega, FL_st f3 (by omega) _ _, by rw [zsJ_ne _ _ _ (by decide)]; exact q22, by rw [zsJ_at, pk_uLs], hx2, fun u b hu h1 h2 => ?_⟩, rfl⟩
        by_cases q : u = k
        · subst q; exact hx3 b h2
        · have := hp u b (by omega) h1 h2
          omega
    · left
      have hg2 : g < n := by omega
      refine ⟨hg2, ?_⟩
      rw [if_neg (nI_ge hg2 (by omega))]
      have l57 : ∀ K : Int32 → zS → Option zS, ∃ y w3, lX4_solve_57 N (nI (2 ^ m)) (nI g) K N ((0 : Int32), w2) = K y w3 ∧ FL w w3 ∧ w3.2.1 0 3 = w2.2.1 0 3 ∧ w3.2.1 0 22 = w2.2.1 0 22 ∧ ∀ t, t < m → w3.2.1 0 23 t = bo (if nrD dg dt g t = true then some (vl (apD dg dt) g t) else none) := by
        intro K
        unfold lX4_solve_57
        refine zlp_inv (fun k z => ∃ w3, z = (nI k, w3) ∧ k ≤ m ∧ FL w w3 ∧ w3.2.1 0 3 = w2.2.1 0 3 ∧ w3.2.1 0 22 = w2.2.1 0 22 ∧ ∀ t, t < k → w3.2.1 0 23 t = bo (if nrD dg dt g t = true then some (vl (apD dg dt) g t) else none)) (fun r => ∃ y w3, r = K y w3 ∧ FL w w3 ∧ w3.2.1 0 3 = w2.2.1 0 3 ∧ w3.2.1 0 22 = w2.2.1 0 22 ∧ ∀ t, t < m → w3.2.1 0 23 t = bo (if nrD dg dt g t = true then some (vl (apD dg dt) g t) else none)) m ?_ N 0 _ ⟨w2, rfl, by omega, f2, rfl, rfl, fun t ht => by omega⟩ (by omega)
        rintro k z rc2 ⟨w3, rfl, hk, f3, q3, q22, q23⟩
        have e5 : w3.1 0 3 5 = nI m := by rw [f3.1]; exact a2
        simp only [bX4_solve_57, e5]
        by_cases c2 : k = m
        · right
          rw [if_pos (nI_le (by omega) (by omega))]
          subst c2
          exact ⟨_, w3, rfl, f3, q3, q22, q23⟩
        · left
          refine ⟨by omega, ?_⟩
          rw [if_neg (nI_ge (by omega) (by omega)), score_eq (MX_fl hM f3) hg2 (show k < m by omega)]
          simp only [zbi]
          rw [zstJ_at (by omega) (by omega), nI_1]
          refine ⟨_, ⟨_, rfl, by omega, FL_st f3 (by omega) _ _, by rw [zsJ_ne _ _ _ (by decide)]; exact q3, by rw [zsJ_ne _ _ _ (by decide)]; exact q22, fun t ht => ?_⟩, rfl⟩
          rw [zsJ_at]
          by_cases q : t = k
          · subst q; rw [pk_uLs]
          · rw [pk_uLn q]; exact q23 t (by omega)
      obtain ⟨y2, w3, e3, f3, q3, q22, q23⟩ := l57 (fun y8 w9 => zbv (fX4_addGive N (nI (2 ^ m)) w9) fun w10 => rc (nI g + 1, w10))
      rw [e3]
      obtain ⟨w4, β', e4', f4, r3, r22, hI'⟩ := addGive_eq (w0 := w) (w := w3) hN hM f3 hg2 hI (fun s hs => by rw [q22]; exact m22 s hs) q23
      rw [e4']
      simp only [zbv, nI_1]
      exact ⟨_, ⟨w4, β', rfl, by omega, f4, by rw [r3, q3]; exact m3, r22, hI'⟩, rfl⟩
  · rw [zsJ_at]
    by_cases q : s = 0
    · subst q; simp [pk_uLs, bo]; rfl
    · rw [pk_uLn q, k22 s hs]
      simp only [if_neg q]
theorem takeFor_eq {N n m i : Nat} {G T dg dt : Nat → Nat} {w : zS} (hM : MX w n m G T dg dt) (h6 : w.2.1 0 3 6 = lN (Sf n m (nrD dg dt) (apD dg dt) n 0)) (hi : i < n) : fX4_takeFor N (nI i) w = some (if chs n m (nrD dg dt) (apD dg dt) i = 8 then none else some (T (chs n m (nrD dg dt) (apD dg dt) i)), w) := by
  obtain ⟨a1, a2, a3, a4, a5, a6⟩ := id hM
  have sb := Sf_bd (ap := apD dg dt) (nr := nrD dg dt) a3 a4 apD_3 (Nat.le_refl n) 0
  have dg' := digit (ap := apD dg dt) (nr := nrD dg dt) a3 a4 apD_3 hi
  unfold fX4_takeFor
  rw [if_neg (nI_pos (by omega)), a1, if_pos (nI_lt hi (by omega))]
  simp only [fX4_shiftOf, zbi, h6]
  have e1 : ((lN (Sf n m (nrD dg dt) (apD dg dt) n 0) >>> (((4 : Int32) * ((7 : Int32) - nI i)).toInt64 &&& 63)).toInt32 &&& 15) = nI (if chs n m (nrD dg dt) (apD dg dt) i = 8 then 0 else 8 - chs n m (nrD dg dt) (apD dg dt) i) := by
    rw [pf_shr (bits5 i (by omega)) (by omega), lN_i, pk_and _ 4 (by decide), ← dg']
    congr 1
    have : (nI (Sf n m (nrD dg dt) (apD dg dt) n 0 / 2 ^ (4 * (7 - i)))).toBitVec.toNat = Sf n m (nrD dg dt) (apD dg dt) n 0 / 2 ^ (4 * (7 - i)) % 2 ^ 32 := rfl
    rw [this, Nat.mod_mod_of_dvd _ (by decide : 2 ^ 4 ∣ 2 ^ 32), Nat.pow_mul]
  rw [e1]
  rcases chs_lt (n := n) (m := m) (nr := nrD dg dt) (ap := apD dg dt) i with z | z
  · rw [if_pos z, if_pos (show nI 0 = 0 from rfl), if_pos z]
  · rw [if_neg (show ¬ chs n m (nrD dg dt) (apD dg dt) i = 8 by omega), if_neg (fun e => by have := (nI_eq0 (by omega)).mp e; omega), if_neg (show ¬ chs n m (nrD dg dt) (apD dg dt) i = 8 by omega)]
    rw [show (8 : Int32) = nI 8 from rfl, pk_sub (by omega), show 8 - (8 - chs n m (nrD dg dt) (apD dg dt) i) = chs n m (nrD dg dt) (apD dg dt) i by omega, take_in hM z]
