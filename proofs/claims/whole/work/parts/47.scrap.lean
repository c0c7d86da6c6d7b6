theorem isum_one {f g : Nat → Int} {n j : Nat} (hj : j < n) (h : ∀ i, i < n → i ≠ j → g i = f i) : isum g n = isum f n - f j + g j := by
  induction n with
  | zero => omega
  | succ n ih =>
    simp only [isum]
    by_cases e : j = n
    · subst e
      rw [isum_congr (g := f) (fun i hi => h i (by omega) (by omega))]
      omega
    · rw [ih (by omega) (fun i hi hn => h i (by omega) hn), h n (by omega) (fun q => e q.symm)]
      omega
theorem isum_nonneg {f : Nat → Int} {n : Nat} (h : ∀ i, i < n → 0 ≤ f i) : 0 ≤ isum f n := by
  induction n with
  | zero => simp [isum]
  | succ n ih =>
    simp only [isum]
    have := ih (fun i hi => h i (by omega))
    have := h n (by omega)
    omega
theorem isum_ge {f : Nat → Int} {n j : Nat} (hj : j < n) (h : ∀ i, i < n → 0 ≤ f i) : f j ≤ isum f n := by
  induction n with
  | zero => omega
  | succ n ih =>
    simp only [isum]
    have h0 := h n (by omega)
    by_cases e : j = n
    · subst e
      have := isum_nonneg (f := f) (n := j) (fun i hi => h i (by omega))
      omega
    · have := ih (by omega) (fun i hi => h i (by omega))
      omega
theorem JA_lo {d h kn ru ne cl nt np : Nat} {σ μ : zS} (hA : JA d h kn ru ne cl nt np σ μ) {j : Nat} (hj : j < 6 * h) (v : Int32) : JA d h kn ru ne cl nt np (zsI σ 0 10 j v) (zsI μ 0 21 j v) := by
  obtain ⟨h1, h2, h3, h4, h5, h6, h7, h8, h9⟩ := hA
  refine ⟨by simpa [Js, zsI] using h1, ?_, by simpa [zsI] using h3, by simpa [zsI] using h4, by simpa [Jt, zsI] using h5, by simpa [Jp, zsI] using h6, h7, ⟨by simpa [zsI] using h8.1, fun i hi => by simpa [zsI, upd, show i ≠ j by omega] using h8.2 i hi⟩, by simpa [zsI] using h9⟩
  obtain ⟨u1, u2, u3, u4, u5, u6, u7, u8, u9, u10, u11⟩ := h2
  exact ⟨by simpa [zsI] using u1, by simpa [zsI] using u2, by simpa [zsI] using u3, by simpa [zsI] using u4, by simp [zsI, u5], by simpa [zsI] using u6, u7, by simpa [zsI] using u8, by simpa [zsI] using u9, by simpa [zsI] using u10, by simpa [zsI] using u11⟩
theorem go_scrap {k N : Nat} {σ μ : zS} (x y z : Int32) (hN : 1000000000 ≤ N) (hk : k < 512) (hJ : JJ k σ μ) : ∃ r τ ν, fX7_scrap N x y z σ = some (r, τ) ∧ fX8_scrap N x y z μ = some (r, ν) ∧ JJ (k + 1) τ ν := by
  obtain ⟨d, h, kn, ru, ne, cl, nt, np, hA, hB⟩ := JJ_A hJ
  obtain ⟨h1, h2, h3, h4, -⟩ := id hA
  obtain ⟨b0, b1, b2, b3, b4, b5, b6, b7⟩ := JJ_b h1
  have e1 : ∀ N x, fX7_isHouse N x σ = some (if 0 ≤ x ∧ x < nI h then 1 else 0, σ) := fun N x => by rw [fX7_isHouse_eq, h1.2.1.1]
  have e2 : ∀ N x, fX8_isHouse N x μ = some (if 0 ≤ x ∧ x < nI h then 1 else 0, μ) := fun N x => fX8_isHouse_eq N x μ (by omega) h1.2.1.2
  have e3 : ∀ N x, fX7_isKind N x σ = some (if 0 ≤ x ∧ x < nI kn then 1 else 0, σ) := fun N x => by rw [fX7_isKind_eq, h1.2.2.1.1]
  have e4 : ∀ N x, fX8_isKind N x μ = some (if 0 ≤ x ∧ x < nI kn then 1 else 0, μ) := fun N x => fX8_isKind_eq N x μ (by omega) h1.2.2.1.2
  have no : ∀ j, JJ (k + 1) (zrefX σ j) (zrefM μ j) := fun j => JJ_ref hJ
  unfold fX7_scrap fX8_scrap
  simp only [zbi, e1, e2, e3, e4, raX1, raX4, raX5, raX6, rbM1, rbM4, rbM5, rbM6]
  rcases zix x (n := h) (by omega) with ⟨a, ha, rfl, ca⟩ | ca
  rcases zix y (n := kn) (by omega) with ⟨b, hb, rfl, cb⟩ | cb
  · simp only [if_pos ca, if_pos cb, if_neg c10]
    by_cases c1 : (1 : Int32) ≤ z
    · obtain ⟨g1, g2, g3⟩ := id hB
      have gA := g1 a b
      obtain ⟨A, eA⟩ : ∃ A, A = zacc ne (μ.1 0 3) (μ.1 0 4) (μ.1 0 6) a b := ⟨_, rfl⟩
      rw [← eA] at gA
      have tA : (Int32.ofInt A).toInt = A := ofInt_bd (by omega) (by omega)
      simp only [if_pos c1, show σ.1 0 0 0 = nI d from h1.1.1, show μ.1 0 0 0 = nI d from h1.1.2, sumUpTo_eq h1 h2 h4 hN (nI d) (show a < 10 by omega) (show b < 6 by omega), accountOf_eq h1.2.2.2.2.1.2 b4 hN, acc_today b0 h4 a b, ← eA, roomX h1.2.2.2.2.1.1 b4]
      by_cases c2 : z ≤ Int32.ofInt A
      · simp only [if_pos c2]
        obtain ⟨n, hn1, hn2, rfl⟩ : ∃ n : Nat, 1 ≤ n ∧ (n : Int) ≤ A ∧ z = nI n := by
          have d1 := Int32.le_iff_toInt_le.mp c1
          have d2 := Int32.le_iff_toInt_le.mp c2
          rw [tA] at d2
          have : (1 : Int32).toInt = 1 := rfl
          obtain ⟨n, q1, q2, q3⟩ := nI_range (z := z) (M := A.toNat) (by omega) c1 (by rw [Int32.le_iff_toInt_le, nI_toInt (by omega)]; omega)
          exact ⟨n, q1, by omega, q3⟩
        by_cases q : ne < 2000
        · have c3 : (1 : Int32) ≤ nI (2000 - ne) := nI_le (a := 1) (by omega) (by omega)
          have c4 : ¬ nI ne = 2000 := fun e => by have := (nI_eq (a := ne) (b := 2000) (by omega) (by omega)).mp e; omega
          simp only [if_pos c3, show μ.1 0 0 5 = nI ne from h1.2.2.2.2.1.2, if_neg c4, show σ.1 0 0 0 = nI d from h1.1.1, show μ.1 0 0 0 = nI d from h1.1.2, enterX (N := N) h1.2.2.2.2.1.1 h1.2.2.2.2.2.1.1 q (show cl ≤ 20 by omega) (a := a) (b := b) (x := d) b0 (-(nI n)), enterM (N := N) h1.2.2.2.2.1.2 h1.2.2.2.2.2.1.2 q (show cl ≤ 20 by omega) (a := a) (b := b) (x := d) b0 (-(nI n)), zbv, Nat.max_eq_left b5, zld_at (show b < 6 by omega) (show 6 < 2 ^ 31 by omega), zst_at (show b < 6 by omega) (show 6 < 2 ^ 31 by omega), zldJ_at (show b < 6 by omega) (show 6 < 2 ^ 31 by omega), zstJ_at (show b < 6 by omega) (show 6 < 2 ^ 31 by omega)]
          have f9 : (entX σ ne (6 * a + b) d (-(nI n))).1 0 9 = σ.1 0 9 := by simp [entX, zsI]
          have f7 : (entM μ ne a b d (-(nI n))).2.1 0 7 = μ.2.1 0 7 := by simp [entM, zsI]
          have hA' := JA_bo (JA_ent hA ha hb (Nat.le_refl d) q (-(nI n))) (Or.inr rfl) b (σ.1 0 9 b + nI n) b (μ.2.1 0 7 b - (nI n).toInt64)
          rw [f9, f7]
          obtain ⟨τ, hτ⟩ : ∃ τ, τ = zsI (entX σ ne (6 * a + b) d (-(nI n))) 0 9 b (σ.1 0 9 b + nI n) := ⟨_, rfl⟩
          obtain ⟨ν, hν⟩ : ∃ ν, ν = zsJ (entM μ ne a b d (-(nI n))) 0 7 b (μ.2.1 0 7 b - (nI n).toInt64) := ⟨_, rfl⟩
          rw [← hτ, ← hν] at hA' ⊢
          refine ⟨zsum (sA ν (nI a) (nI b) (nI d)) (ne + 1), τ, ν, ?_, ?_, JJ_of hA' ?_⟩
          · rw [show τ.1 0 0 0 = nI d from hA'.1.1.1, sumUpTo_eq hA'.1 hA'.2.1 hA'.2.2.2.1 hN (nI d) (by omega) (by omega)]
          · rw [show ν.1 0 0 0 = nI d from hA'.1.1.2, accountOf_eq hA'.1.2.2.2.2.1.2 (by omega) hN]
          · have r3 : ν.1 0 3 = upd (μ.1 0 3) ne (nI a) := by rw [hν]; simp [zsJ, entM, zsI]
            have r4 : ν.1 0 4 = upd (μ.1 0 4) ne (nI b) := by rw [hν]; simp [zsJ, entM, zsI]
            have r6 : ν.1 0 6 = upd (μ.1 0 6) ne (-(nI n)) := by rw [hν]; simp [zsJ, entM, zsI]
            have r21 : ν.1 0 21 = μ.1 0 21 := by rw [hν]; simp [zsJ, entM, zsI]
            have r8 : τ.1 0 8 = σ.1 0 8 := by rw [hτ]; simp [entX, zsI]
            have r9 : τ.1 0 9 = upd (σ.1 0 9) b (σ.1 0 9 b + nI n) := by rw [hτ]; simp [entX, zsI]
            have r7 : ν.2.1 0 7 = vp_updL (μ.2.1 0 7) b (μ.2.1 0 7 b - (nI n).toInt64) := by rw [hν]; simp [zsJ, entM, zsI]
            rw [r3, r4, r6, r21, r8, r9, r7]
            have en : (nI n).toInt = n := nI_toInt (by omega)
            have em : (-(nI n)).toInt = -(n : Int) := by rw [neg32 (by rw [en]; omega), en]
            refine ⟨fun a' b' => ?_, by omega, fun b' hb' => ?_⟩
            · rw [zacc_ent, em]
              have := g1 a' b'
              split
              next c =>
                rw [← zacc_nI c.1 c.2, ← eA]
                omega
              next => omega
            · obtain ⟨m1, m2, m3, m4, m5, m6⟩ := g3 b' hb'
              rw [ksum_ent, em]
              by_cases w : b' = b
              · subst w
                simp only [pk_us, pk_uLs, if_true]
                have t1 : (σ.1 0 9 b' + nI n).toInt = (σ.1 0 9 b').toInt + n := by rw [add32 (by rw [en]; omega) (by rw [en]; omega), en]
                have t2 : (μ.2.1 0 7 b' - (nI n).toInt64).toInt = (μ.2.1 0 7 b').toInt - n := by rw [sub64 (by rw [Int32.toInt_toInt64, en]; omega) (by rw [Int32.toInt_toInt64, en]; omega), Int32.toInt_toInt64, en]
                rw [t1, t2]
                omega
              · have w2 : ¬ nI b = nI b' := fun e => w ((nI_eq (by omega) (by omega)).mp e).symm
                rw [pk_un w, pk_uLn w, if_neg w2]
                omega
        · have c3 : ¬ (1 : Int32) ≤ nI (2000 - ne) := by
            have : 2000 - ne = 0 := by omega
            rw [this]; decide
          have c4 : nI ne = 2000 := by
            have : ne = 2000 := by omega
            rw [this]; rfl
          simp only [if_neg c3, show μ.1 0 0 5 = nI ne from h1.2.2.2.2.1.2, if_pos c4]
          exact ⟨_, _, _, rfl, rfl, no 6⟩
      · simp only [if_neg c2]
        exact ⟨_, _, _, rfl, rfl, no 5⟩
    · simp only [if_neg c1]
      exact ⟨_, _, _, rfl, rfl, no 4⟩
  · simp only [if_pos ca, if_neg cb, if_neg c10]
    exact ⟨_, _, _, rfl, rfl, no 1⟩
  · simp only [if_neg ca]
    exact ⟨_, _, _, rfl, rfl, no 1⟩
theorem go_found {k N : Nat} {σ μ : zS} (x y z : Int32) (hN : 1000000000 ≤ N) (hk : k < 512) (hJ : JJ k σ μ) : ∃ r τ ν, fX7_found N x y z σ = some (r, τ) ∧ fX8_found N x y z μ = some (r, ν) ∧ JJ (k + 1) τ ν := by
  obtain ⟨d, h, kn, ru, ne, cl, nt, np, hA, hB⟩ := JJ_A hJ
  obtain ⟨h1, h2, h3, h4, -⟩ := id hA
  obtain ⟨b0, b1, b2, b3, b4, b5, b6, b7⟩ := JJ_b h1
  have e1 : ∀ N x, fX7_isHouse N x σ = some (if 0 ≤ x ∧ x < nI h then 1 else 0, σ) := fun N x => by rw [fX7_isHouse_eq, h1.2.1.1]
  have e2 : ∀ N x, fX8_isHouse N x μ = some (if 0 ≤ x ∧ x < nI h then 1 else 0, μ) := fun N x => fX8_isHouse_eq N x μ (by omega) h1.2.1.2
  have e3 : ∀ N x, fX7_isKind N x σ = some (if 0 ≤ x ∧ x < nI kn then 1 else 0, σ) := fun N x => by rw [fX7_isKind_eq, h1.2.2.1.1]
  have e4 : ∀ N x, fX8_isKind N x μ = some (if 0 ≤ x ∧ x < nI kn then 1 else 0, μ) := fun N x => fX8_isKind_eq N x μ (by omega) h1.2.2.1.2
  have no : ∀ j, JJ (k + 1) (zrefX σ j) (zrefM μ j) := fun j => JJ_ref hJ
  unfold fX7_found fX8_found
  simp only [zbi, e1, e2, e3, e4, raX1, raX4, raX6, rbM1, rbM4, rbM6, roomX h1.2.2.2.2.1.1 b4]
  rcases zix x (n := h) (by omega) with ⟨a, ha, rfl, ca⟩ | ca
  rcases zix y (n := kn) (by omega) with ⟨b, hb, rfl, cb⟩ | cb
  · simp only [if_pos ca, if_pos cb, if_neg c10]
    by_cases c1 : 0 ≤ z
    · simp only [if_pos c1]
      by_cases c2 : (100000 : Int32) < z
      · simp only [if_pos c2]
        exact ⟨_, _, _, rfl, rfl, no 6⟩
      simp only [if_neg c2]
      obtain ⟨n, hn, rfl⟩ := nI_of2 (M := 100000) (n := 100000) rfl (Int32.not_lt.mpr c1) (Int32.not_lt.mp c2)
      by_cases q : ne < 2000
      · have c3 : (1 : Int32) ≤ nI (2000 - ne) := nI_le (a := 1) (by omega) (by omega)
        have c4 : ¬ nI ne = 2000 := fun e => by have := (nI_eq (a := ne) (b := 2000) (by omega) (by omega)).mp e; omega
        obtain ⟨g1, g2, g3⟩ := id hB
        have gA := g1 a b
        obtain ⟨A, eA⟩ : ∃ A, A = zacc ne (μ.1 0 3) (μ.1 0 4) (μ.1 0 6) a b := ⟨_, rfl⟩
        rw [← eA] at gA
        have tA : (Int32.ofInt A).toInt = A := ofInt_bd (by omega) (by omega)
        simp only [if_pos c3, show μ.1 0 0 5 = nI ne from h1.2.2.2.2.1.2, if_neg c4, show σ.1 0 0 0 = nI d from h1.1.1, show μ.1 0 0 0 = nI d from h1.1.2, sumUpTo_eq h1 h2 h4 hN (nI d) (show a < 10 by omega) (show b < 6 by omega), accountOf_eq h1.2.2.2.2.1.2 b4 hN, acc_today b0 h4 a b, ← eA]
        by_cases c5 : Int32.ofInt A = nI n
        · simp only [if_pos c5]
          exact ⟨_, _, _, rfl, rfl, JJ_mono hJ⟩
        have en : (nI n).toInt = n := nI_toInt (by omega)
        have tv : (nI n - Int32.ofInt A).toInt = n - A := by rw [sub32 (by rw [en, tA]; omega) (by rw [en, tA]; omega), en, tA]
        have tw : (Int32.ofInt A - nI n).toInt = A - n := by rw [sub32 (by rw [en, tA]; omega) (by rw [en, tA]; omega), en, tA]
        simp only [if_neg c5, enterX (N := N) h1.2.2.2.2.1.1 h1.2.2.2.2.2.1.1 q (show cl ≤ 20 by omega) (a := a) (b := b) (x := d) b0 (nI n - Int32.ofInt A), enterM (N := N) h1.2.2.2.2.1.2 h1.2.2.2.2.2.1.2 q (show cl ≤ 20 by omega) (a := a) (b := b) (x := d) b0 (nI n - Int32.ofInt A), zbv, Nat.max_eq_left b5, i6, i6', zld_at (show 6 * a + b < 60 by omega) (show 60 < 2 ^ 31 by omega), zst_at (show 6 * a + b < 60 by omega) (show 60 < 2 ^ 31 by omega)]
        have f10 : (entX σ ne (6 * a + b) d (nI n - Int32.ofInt A)).1 0 10 = μ.1 0 21 := by rw [← show σ.1 0 10 = μ.1 0 21 from h2.2.2.2.2.1]; simp [entX, zsI]
        have f21 : (entM μ ne a b d (nI n - Int32.ofInt A)).1 0 21 = μ.1 0 21 := by simp [entM, zsI]
        have hA' := JA_lo (JA_ent hA ha hb (Nat.le_refl d) q (nI n - Int32.ofInt A)) (j := 6 * a + b) (by omega) (μ.1 0 21 (6 * a + b) + (Int32.ofInt A - nI n))
        rw [f10, f21]
        obtain ⟨τ, hτ⟩ : ∃ τ, τ = zsI (entX σ ne (6 * a + b) d (nI n - Int32.ofInt A)) 0 10 (6 * a + b) (μ.1 0 21 (6 * a + b) + (Int32.ofInt A - nI n)) := ⟨_, rfl⟩
        obtain ⟨ν, hν⟩ : ∃ ν, ν = zsI (entM μ ne a b d (nI n - Int32.ofInt A)) 0 21 (6 * a + b) (μ.1 0 21 (6 * a + b) + (Int32.ofInt A - nI n)) := ⟨_, rfl⟩
        rw [← hτ, ← hν] at hA' ⊢
        refine ⟨_, τ, ν, rfl, rfl, JJ_of hA' ?_⟩
        have r3 : ν.1 0 3 = upd (μ.1 0 3) ne (nI a) := by rw [hν]; simp [entM, zsI]
        have r4 : ν.1 0 4 = upd (μ.1 0 4) ne (nI b) := by rw [hν]; simp [entM, zsI]
        have r6 : ν.1 0 6 = upd (μ.1 0 6) ne (nI n - Int32.ofInt A) := by rw [hν]; simp [entM, zsI]
        have r21 : ν.1 0 21 = upd (μ.1 0 21) (6 * a + b) (μ.1 0 21 (6 * a + b) + (Int32.ofInt A - nI n)) := by rw [hν]; simp [entM, zsI]
        have r8 : τ.1 0 8 = σ.1 0 8 := by rw [hτ]; simp [entX, zsI]
        have r9 : τ.1 0 9 = σ.1 0 9 := by rw [hτ]; simp [entX, zsI]
        have r7 : ν.2.1 0 7 = μ.2.1 0 7 := by rw [hν]; simp [entM, zsI]
        rw [r3, r4, r6, r21, r8, r9, r7]
        have lb := isum_ge (f := fun i => ((μ.1 0 21 i).toInt.natAbs : Int)) (n := 60) (j := 6 * a + b) (by omega) (fun i _ => by omega)
        have tl : (μ.1 0 21 (6 * a + b) + (Int32.ofInt A - nI n)).toInt = (μ.1 0 21 (6 * a + b)).toInt + (A - n) := by rw [add32 (by rw [tw]; omega) (by rw [tw]; omega), tw]
        refine ⟨fun a' b' => ?_, ?_, fun b' hb' => ?_⟩
        · rw [zacc_ent, tv]
          have := g1 a' b'
          split
          next c =>
            rw [← zacc_nI c.1 c.2, ← eA]
            omega
          next => omega
        · rw [isum_one (f := fun i => ((μ.1 0 21 i).toInt.natAbs : Int)) (j := 6 * a + b) (by omega) (fun i hi hn => by simp only [pk_un hn])]
          simp only [pk_us, tl]
          omega
        · obtain ⟨m1, m2, m3, m4, m5, m6⟩ := g3 b' hb'
          rw [ksum_ent, tv]
          by_cases w : b' = b
          · subst w
            rw [isum_one (f := fun i => (μ.1 0 21 (6 * i + b')).toInt) (n := 10) (j := a) (by omega) (fun i hi hn => by rw [pk_un (show 6 * i + b' ≠ 6 * a + b' by omega)])]
            simp only [pk_us, tl, if_true]
            omega
          · have w2 : ¬ nI b = nI b' := fun e => w ((nI_eq (by omega) (by omega)).mp e).symm
            rw [isum_congr (g := fun i => (μ.1 0 21 (6 * i + b')).toInt) (n := 10) (fun i hi => by rw [pk_un (show 6 * i + b' ≠ 6 * a + b by omega)]), if_neg w2]
            omega
      · have c3 : ¬ (1 : Int32) ≤ nI (2000 - ne) := by
          have : 2000 - ne = 0 := by omega
          rw [this]; decide
        have c4 : nI ne = 2000 := by
          have : ne = 2000 := by omega
          rw [this]; rfl
        simp only [if_neg c3, show μ.1 0 0 5 = nI ne from h1.2.2.2.2.1.2, if_pos c4]
        exact ⟨_, _, _, rfl, rfl, no 6⟩
    · simp only [if_neg c1]
      exact ⟨_, _, _, rfl, rfl, no 4⟩
  · simp only [if_pos ca, if_neg cb, if_neg c10]
    exact ⟨_, _, _, rfl, rfl, no 1⟩
  · simp only [if_neg ca]
    exact ⟨_, _, _, rfl, rfl, no 1⟩
