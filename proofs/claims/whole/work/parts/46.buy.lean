theorem bmod32 {a : Int} (h1 : -2147483648 ≤ a) (h2 : a < 2147483648) : a.bmod (2 ^ 32) = a := by
  simp only [Int.bmod]
  split <;> omega
theorem bmod64 {a : Int} (h1 : -9223372036854775808 ≤ a) (h2 : a < 9223372036854775808) : a.bmod (2 ^ 64) = a := by
  simp only [Int.bmod]
  split <;> omega
theorem add32 {x y : Int32} (h1 : -2147483648 ≤ x.toInt + y.toInt) (h2 : x.toInt + y.toInt < 2147483648) : (x + y).toInt = x.toInt + y.toInt := by rw [Int32.toInt_add, bmod32 h1 h2]
theorem sub32 {x y : Int32} (h1 : -2147483648 ≤ x.toInt - y.toInt) (h2 : x.toInt - y.toInt < 2147483648) : (x - y).toInt = x.toInt - y.toInt := by rw [Int32.toInt_sub, bmod32 h1 h2]
theorem add64 {x y : Int64} (h1 : -9223372036854775808 ≤ x.toInt + y.toInt) (h2 : x.toInt + y.toInt < 9223372036854775808) : (x + y).toInt = x.toInt + y.toInt := by rw [Int64.toInt_add, bmod64 h1 h2]
theorem sub64 {x y : Int64} (h1 : -9223372036854775808 ≤ x.toInt - y.toInt) (h2 : x.toInt - y.toInt < 9223372036854775808) : (x - y).toInt = x.toInt - y.toInt := by rw [Int64.toInt_sub, bmod64 h1 h2]
theorem neg32 {x : Int32} (h : -2147483648 < x.toInt) : (-x).toInt = -x.toInt := by
  have := Int32.toInt_lt x
  rw [Int32.toInt_neg, bmod32 (by omega) (by omega)]
theorem JA_bo {d h kn ru ne cl nt np : Nat} {σ μ : zS} (hA : JA d h kn ru ne cl nt np σ μ) {c : Nat} (hc : c = 8 ∨ c = 9) (j : Nat) (v : Int32) (j' : Nat) (w : Int64) : JA d h kn ru ne cl nt np (zsI σ 0 c j v) (zsJ μ 0 7 j' w) := by
  obtain ⟨h1, h2, h3, h4, h5, h6, h7, h8, h9⟩ := hA
  rcases hc with rfl | rfl
  · exact ⟨by simpa [Js, zsI, zsJ] using h1, by simpa [Je, zsI, zsJ] using h2, h3, by simpa [zsI, zsJ] using h4, by simpa [Jt, zsI, zsJ] using h5, ⟨by simpa [zsI, zsJ] using h6.1, h6.2⟩, h7, h8, h9⟩
  · exact ⟨by simpa [Js, zsI, zsJ] using h1, by simpa [Je, zsI, zsJ] using h2, h3, by simpa [zsI, zsJ] using h4, by simpa [Jt, zsI, zsJ] using h5, ⟨by simpa [zsI, zsJ] using h6.1, h6.2⟩, h7, h8, h9⟩
theorem nI_range {z : Int32} {M : Nat} (hM : M < 2 ^ 31) (c1 : (1 : Int32) ≤ z) (c2 : z ≤ nI M) : ∃ n : Nat, 1 ≤ n ∧ n ≤ M ∧ z = nI n := by
  rw [Int32.le_iff_toInt_le] at c1
  have e1 : (1 : Int32).toInt = 1 := rfl
  have c0 : ¬ z < 0 := fun q => by
    have q1 := Int32.lt_iff_toInt_lt.mp q
    have : (0 : Int32).toInt = 0 := rfl
    omega
  obtain ⟨n, hn, rfl⟩ := nI_of2 (M := nI M) (n := M) (nI_toInt hM) c0 c2
  rw [nI_toInt (by omega)] at c1
  exact ⟨n, by omega, hn, rfl⟩
theorem roomX {ne : Nat} {σ : zS} (e : σ.1 0 1 4 = nI ne) (hne : ne ≤ 2000) (N : Nat) : fX3_room N σ = some (nI (2000 - ne), σ) := by
  unfold fX3_room
  rw [e, show (2000 : Int32) = nI 2000 from rfl, pk_sub hne]
theorem go_buy {k N : Nat} {σ μ : zS} (x y z : Int32) (hN : 1000000000 ≤ N) (hk : k < 512) (hJ : JJ k σ μ) : ∃ r τ ν, fX7_buy N x y z σ = some (r, τ) ∧ fX8_buy N x y z μ = some (r, ν) ∧ JJ (k + 1) τ ν := by
  obtain ⟨d, h, kn, ru, ne, cl, nt, np, hA, hB⟩ := JJ_A hJ
  obtain ⟨h1, h2, h3, h4, -⟩ := id hA
  obtain ⟨b0, b1, b2, b3, b4, b5, b6, b7⟩ := JJ_b h1
  have e1 : ∀ N x, fX7_isHouse N x σ = some (if 0 ≤ x ∧ x < nI h then 1 else 0, σ) := fun N x => by rw [fX7_isHouse_eq, h1.2.1.1]
  have e2 : ∀ N x, fX8_isHouse N x μ = some (if 0 ≤ x ∧ x < nI h then 1 else 0, μ) := fun N x => fX8_isHouse_eq N x μ (by omega) h1.2.1.2
  have e3 : ∀ N x, fX7_isKind N x σ = some (if 0 ≤ x ∧ x < nI kn then 1 else 0, σ) := fun N x => by rw [fX7_isKind_eq, h1.2.2.1.1]
  have e4 : ∀ N x, fX8_isKind N x μ = some (if 0 ≤ x ∧ x < nI kn then 1 else 0, μ) := fun N x => fX8_isKind_eq N x μ (by omega) h1.2.2.1.2
  have no : ∀ j, JJ (k + 1) (zrefX σ j) (zrefM μ j) := fun j => JJ_ref hJ
  unfold fX7_buy fX8_buy
  simp only [zbi, e1, e2, e3, e4, raX1, raX4, raX6, rbM1, rbM4, rbM6, roomX h1.2.2.2.2.1.1 b4]
  rcases zix x (n := h) (by omega) with ⟨a, ha, rfl, ca⟩ | ca
  rcases zix y (n := kn) (by omega) with ⟨b, hb, rfl, cb⟩ | cb
  · simp only [if_pos ca, if_pos cb, if_neg c10]
    by_cases c1 : (1 : Int32) ≤ z
    · simp only [if_pos c1]
      by_cases c2 : (1000 : Int32) < z
      · simp only [if_pos c2]
        exact ⟨_, _, _, rfl, rfl, no 6⟩
      simp only [if_neg c2]
      obtain ⟨n, hn1, hn2, rfl⟩ := nI_range (M := 1000) (by omega) c1 (Int32.not_lt.mp c2)
      by_cases q : ne < 2000
      · have c3 : (1 : Int32) ≤ nI (2000 - ne) := nI_le (a := 1) (by omega) (by omega)
        have c4 : ¬ nI ne = 2000 := fun e => by have := (nI_eq (a := ne) (b := 2000) (by omega) (by omega)).mp e; omega
        simp only [if_pos c3, show μ.1 0 0 5 = nI ne from h1.2.2.2.2.1.2, if_neg c4, show σ.1 0 0 0 = nI d from h1.1.1, show μ.1 0 0 0 = nI d from h1.1.2, enterX (N := N) h1.2.2.2.2.1.1 h1.2.2.2.2.2.1.1 q (show cl ≤ 20 by omega) (a := a) (b := b) (x := d) b0 (nI n), enterM (N := N) h1.2.2.2.2.1.2 h1.2.2.2.2.2.1.2 q (show cl ≤ 20 by omega) (a := a) (b := b) (x := d) b0 (nI n), zbv, Nat.max_eq_left b5, zld_at (show b < 6 by omega) (show 6 < 2 ^ 31 by omega), zst_at (show b < 6 by omega) (show 6 < 2 ^ 31 by omega), zldJ_at (show b < 6 by omega) (show 6 < 2 ^ 31 by omega), zstJ_at (show b < 6 by omega) (show 6 < 2 ^ 31 by omega)]
        have f8 : (entX σ ne (6 * a + b) d (nI n)).1 0 8 = σ.1 0 8 := by simp [entX, zsI]
        have f7 : (entM μ ne a b d (nI n)).2.1 0 7 = μ.2.1 0 7 := by simp [entM, zsI]
        have hA' := JA_bo (JA_ent hA ha hb (Nat.le_refl d) q (nI n)) (Or.inl rfl) b (σ.1 0 8 b + nI n) b (μ.2.1 0 7 b + (nI n).toInt64)
        rw [f8, f7]
        obtain ⟨τ, hτ⟩ : ∃ τ, τ = zsI (entX σ ne (6 * a + b) d (nI n)) 0 8 b (σ.1 0 8 b + nI n) := ⟨_, rfl⟩
        obtain ⟨ν, hν⟩ : ∃ ν, ν = zsJ (entM μ ne a b d (nI n)) 0 7 b (μ.2.1 0 7 b + (nI n).toInt64) := ⟨_, rfl⟩
        rw [← hτ, ← hν] at hA' ⊢
        refine ⟨zsum (sA ν (nI a) (nI b) (nI d)) (ne + 1), τ, ν, ?_, ?_, JJ_of hA' ?_⟩
        · rw [show τ.1 0 0 0 = nI d from hA'.1.1.1, sumUpTo_eq hA'.1 hA'.2.1 hA'.2.2.2.1 hN (nI d) (by omega) (by omega)]
        · rw [show ν.1 0 0 0 = nI d from hA'.1.1.2, accountOf_eq hA'.1.2.2.2.2.1.2 (by omega) hN]
        · have r3 : ν.1 0 3 = upd (μ.1 0 3) ne (nI a) := by rw [hν]; simp [zsJ, entM, zsI]
          have r4 : ν.1 0 4 = upd (μ.1 0 4) ne (nI b) := by rw [hν]; simp [zsJ, entM, zsI]
          have r6 : ν.1 0 6 = upd (μ.1 0 6) ne (nI n) := by rw [hν]; simp [zsJ, entM, zsI]
          have r21 : ν.1 0 21 = μ.1 0 21 := by rw [hν]; simp [zsJ, entM, zsI]
          have r8 : τ.1 0 8 = upd (σ.1 0 8) b (σ.1 0 8 b + nI n) := by rw [hτ]; simp [entX, zsI]
          have r9 : τ.1 0 9 = σ.1 0 9 := by rw [hτ]; simp [entX, zsI]
          have r7 : ν.2.1 0 7 = vp_updL (μ.2.1 0 7) b (μ.2.1 0 7 b + (nI n).toInt64) := by rw [hν]; simp [zsJ, entM, zsI]
          rw [r3, r4, r6, r21, r8, r9, r7]
          obtain ⟨g1, g2, g3⟩ := hB
          have en : (nI n).toInt = n := nI_toInt (by omega)
          refine ⟨fun a' b' => ?_, by omega, fun b' hb' => ?_⟩
          · rw [zacc_ent, en]
            have := g1 a' b'
            split <;> omega
          · obtain ⟨m1, m2, m3, m4, m5, m6⟩ := g3 b' hb'
            rw [ksum_ent, en]
            by_cases w : b' = b
            · subst w
              simp only [pk_us, pk_uLs, if_true]
              have t1 : (σ.1 0 8 b' + nI n).toInt = (σ.1 0 8 b').toInt + n := by rw [add32 (by rw [en]; omega) (by rw [en]; omega), en]
              have t2 : (μ.2.1 0 7 b' + (nI n).toInt64).toInt = (μ.2.1 0 7 b').toInt + n := by rw [add64 (by rw [Int32.toInt_toInt64, en]; omega) (by rw [Int32.toInt_toInt64, en]; omega), Int32.toInt_toInt64, en]
              rw [t1, t2]
              omega
            · have w2 : ¬ nI b = nI b' := fun e => w ((nI_eq (by omega) (by omega)).mp e).symm
              rw [pk_un w, pk_uLn w, if_neg w2]
              omega
      · have c3 : ¬ (1 : Int32) ≤ nI (2000 - ne) := by
          have : 2000 - ne = 0 := by omega
          rw [this]; decide
        have c4 : nI ne = 2000 := by
          have : ne = 2000 := by omega
          rw [this]; rfl
        simp only [if_neg c3, show μ.1 0 0 5 = nI ne from h1.2.2.2.2.1.2, if_pos c4]
        exact ⟨_, _, _, rfl, rfl, no 6⟩
    · simp only [if_neg c1]
      exact ⟨_, _, _, rfl, rfl, no 4⟩
  · simp only [if_pos ca, if_neg cb, if_neg c10]
    exact ⟨_, _, _, rfl, rfl, no 1⟩
  · simp only [if_neg ca]
    exact ⟨_, _, _, rfl, rfl, no 1⟩
theorem go_account {k N : Nat} {σ μ : zS} (x y z : Int32) (hN : 1000000000 ≤ N) (hJ : JJ k σ μ) : ∃ r τ ν, fX7_account N x y z σ = some (r, τ) ∧ fX8_account N x y z μ = some (r, ν) ∧ JJ (k + 1) τ ν := by
  obtain ⟨d, h, kn, ru, ne, cl, nt, np, hA, hB⟩ := JJ_A hJ
  obtain ⟨h1, h2, h3, h4, -⟩ := id hA
  obtain ⟨b0, b1, b2, b3, b4, b5, b6, b7⟩ := JJ_b h1
  have e1 : ∀ N x, fX7_isHouse N x σ = some (if 0 ≤ x ∧ x < nI h then 1 else 0, σ) := fun N x => by rw [fX7_isHouse_eq, h1.2.1.1]
  have e2 : ∀ N x, fX8_isHouse N x μ = some (if 0 ≤ x ∧ x < nI h then 1 else 0, μ) := fun N x => fX8_isHouse_eq N x μ (by omega) h1.2.1.2
  have e3 : ∀ N x, fX7_isKind N x σ = some (if 0 ≤ x ∧ x < nI kn then 1 else 0, σ) := fun N x => by rw [fX7_isKind_eq, h1.2.2.1.1]
  have e4 : ∀ N x, fX8_isKind N x μ = some (if 0 ≤ x ∧ x < nI kn then 1 else 0, μ) := fun N x => fX8_isKind_eq N x μ (by omega) h1.2.2.1.2
  have no : ∀ j, JJ (k + 1) (zrefX σ j) (zrefM μ j) := fun j => JJ_ref hJ
  unfold fX7_account fX8_account
  simp only [zbi, e1, e2, e3, e4, raX1, raX4, raX6, rbM1, rbM4, rbM6, accountOf_eq h1.2.2.2.2.1.2 b4 hN]
  rcases zix x (n := h) (by omega) with ⟨a, ha, rfl, ca⟩ | ca
  rcases zix y (n := kn) (by omega) with ⟨b, hb, rfl, cb⟩ | cb
  · simp only [if_pos ca, if_pos cb, if_neg c10, sumUpTo_eq h1 h2 h4 hN z (show a < 10 by omega) (show b < 6 by omega)]
    by_cases c1 : 0 ≤ z
    · simp only [if_pos c1]
      by_cases c2 : z ≤ 599
      · have c3 : z < 600 := by
          rw [Int32.le_iff_toInt_le] at c2
          rw [Int32.lt_iff_toInt_lt]
          have : (599 : Int32).toInt = 599 := rfl
          have : (600 : Int32).toInt = 600 := rfl
          omega
        simp only [if_pos c2, if_pos c3]
        exact ⟨_, _, _, rfl, rfl, JJ_mono hJ⟩
      · have c3 : ¬ z < 600 := by
          rw [Int32.le_iff_toInt_le] at c2
          rw [Int32.lt_iff_toInt_lt]
          have : (599 : Int32).toInt = 599 := rfl
          have : (600 : Int32).toInt = 600 := rfl
          omega
        simp only [if_neg c2, if_neg c3]
        exact ⟨_, _, _, rfl, rfl, no 6⟩
    · simp only [if_neg c1]
      exact ⟨_, _, _, rfl, rfl, no 4⟩
  · simp only [if_pos ca, if_neg cb, if_neg c10]
    exact ⟨_, _, _, rfl, rfl, no 1⟩
  · simp only [if_neg ca]
    exact ⟨_, _, _, rfl, rfl, no 1⟩
