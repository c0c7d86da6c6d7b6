theorem go_way {k N : Nat} {σ μ : zS} (x y z : Int32) (hJ : JJ k σ μ) : ∃ r τ ν, fX7_way N x y z σ = some (r, τ) ∧ fX8_way N x y z μ = some (r, ν) ∧ JJ (k + 1) τ ν := by
  obtain ⟨d, h, kn, ru, ne, cl, nt, np, h1, h2, h3, h4, h5, h6, h7, h8, h9, h10⟩ := id hJ
  obtain ⟨-, b1, -⟩ := JJ_b h1
  have e1 : ∀ N x y, fX7_areTwoHouses N x y σ = _ := fun N x y => areTwo_eq N x y σ h1.2.1.1
  have e2 : ∀ N x, fX8_isHouse N x μ = some (if 0 ≤ x ∧ x < nI h then 1 else 0, μ) := fun N x => fX8_isHouse_eq N x μ (by omega) h1.2.1.2
  have no : ∀ j, JJ (k + 1) (zrefX σ j) (zrefM μ j) := fun j => JJ_ref hJ
  unfold fX7_way fX8_way
  simp only [zbi, e1, e2, rfX1, rfX4, rfX6, rfM1, rfM4, rfM6]
  rcases zix x (n := h) (by omega) with ⟨a, ha, rfl, ca⟩ | ca
  rcases zix y (n := h) (by omega) with ⟨b, hb, rfl, cb⟩ | cb
  · by_cases hab : a = b
    · subst hab
      exact ⟨-1, _, _, by simp, by simp [ca], no 1⟩
    have nab : nI a ≠ nI b := fun e => hab ((nI_eq (by omega) (by omega)).mp e)
    simp only [if_pos ca, if_pos cb, if_neg nab, if_pos (show (0 ≤ nI a ∧ nI a < nI h) ∧ (0 ≤ nI b ∧ nI b < nI h) ∧ nI a ≠ nI b from ⟨ca, cb, nab⟩), if_neg c10]
    by_cases c1 : 0 ≤ z
    · by_cases c2 : z ≤ 1000
      · obtain ⟨p, hp, rfl⟩ := nI_of2 (M := 1000) (n := 1000) rfl (Int32.not_lt.mpr c1) c2
        have eq : σ.1 0 30 = μ.1 0 25 := h2.2.2.2.2.2.2.2.2.2.2
        refine ⟨μ.1 0 25 (10 * a + b), zsI (zsI σ 0 30 (10 * a + b) (nI p)) 0 30 (10 * b + a) (nI p), zsI (zsI μ 0 25 (10 * a + b) (nI p)) 0 25 (10 * b + a) (nI p), ?_, ?_, d, h, kn, ru, ne, cl, nt, np, ?_, ?_, ?_, ?_, ?_, ?_, ?_, ?_, ?_, Jb_mono (k := k) (Nat.le_succ k) (Nat.le_refl _) ?_⟩
        · simp only [if_pos c1, if_pos c2, i10]
          rw [zld_at (by omega) (by omega), zst_at (by omega) (by omega), zst_at (by omega) (by omega), eq]
        · simp only [if_pos c1, if_pos c2, i10']
          rw [zld_at (by omega) (by omega), zst_at (by omega) (by omega), zst_at (by omega) (by omega)]
        · simpa [Js, zsI] using h1
        · obtain ⟨u1, u2, u3, u4, u5, u6, u7, u8, u9, u10, u11⟩ := h2
          exact ⟨by simpa [zsI] using u1, by simpa [zsI] using u2, by simpa [zsI] using u3, by simpa [zsI] using u4, by simpa [zsI] using u5, by simpa [zsI] using u6, u7, by simpa [zsI] using u8, by simpa [zsI] using u9, by simpa [zsI] using u10, by simp [zsI, u11]⟩
        · simpa [zsI] using h3
        · simpa [zsI] using h4
        · simpa [Jt, zsI] using h5
        · simpa [Jp, zsI] using h6
        · exact h7
        · simpa [zsI] using h8
        · refine ⟨by simpa [zsI] using h9.1, fun u v hu hv => ?_⟩
          obtain ⟨q, g1, g2, g3⟩ := h9.2 u v hu hv
          by_cases w1 : 10 * u + v = 10 * b + a
          · refine ⟨p, hp, by simp [zsI, upd, w1], fun e => absurd e (by omega)⟩
          · by_cases w2 : 10 * u + v = 10 * a + b
            · refine ⟨p, hp, by simp [zsI, upd, w2], fun e => absurd e (by omega)⟩
            · exact ⟨q, g1, by simpa [zsI, upd, w1, w2] using g2, g3⟩
        · simpa [zsI] using h10
      · exact ⟨_, _, _, by rw [if_pos c1, if_neg c2], by rw [if_pos c1, if_neg c2], no 6⟩
    · exact ⟨_, _, _, by rw [if_neg c1], by rw [if_neg c1], no 4⟩
  · exact ⟨-1, _, _, by simp [cb], by simp [ca, cb], no 1⟩
  · exact ⟨-1, _, _, by simp [ca], by simp [ca], no 1⟩
theorem go_owe {k N : Nat} {σ μ : zS} (x y c z : Int32) (hJ : JJ k σ μ) : ∃ r τ ν, fX7_owe N x y c z σ = some (r, τ) ∧ fX8_owe N x y c z μ = some (r, ν) ∧ JJ (k + 1) τ ν := by
  obtain ⟨d, h, kn, ru, ne, cl, nt, np, h1, h2, h3, h4, h5, h6, h7, h8, h9, h10⟩ := id hJ
  obtain ⟨-, b1, b2, -⟩ := JJ_b h1
  have e1 : ∀ N x y, fX7_areTwoHouses N x y σ = _ := fun N x y => areTwo_eq N x y σ h1.2.1.1
  have e2 : ∀ N x, fX8_isHouse N x μ = some (if 0 ≤ x ∧ x < nI h then 1 else 0, μ) := fun N x => fX8_isHouse_eq N x μ (by omega) h1.2.1.2
  have e3 : ∀ N x, fX7_isKind N x σ = some (if 0 ≤ x ∧ x < nI kn then 1 else 0, σ) := fun N x => by rw [fX7_isKind_eq, h1.2.2.1.1]
  have e4 : ∀ N x, fX8_isKind N x μ = some (if 0 ≤ x ∧ x < nI kn then 1 else 0, μ) := fun N x => fX8_isKind_eq N x μ (by omega) h1.2.2.1.2
  have no : ∀ j, JJ (k + 1) (zrefX σ j) (zrefM μ j) := fun j => JJ_ref hJ
  unfold fX7_owe fX8_owe
  simp only [zbi, e1, e2, e3, e4, rfX1, rfX4, rfX6, rfM1, rfM4, rfM6]
  rcases zix x (n := h) (by omega) with ⟨a, ha, rfl, ca⟩ | ca
  rcases zix y (n := h) (by omega) with ⟨b, hb, rfl, cb⟩ | cb
  · by_cases hab : a = b
    · subst hab
      exact ⟨-1, _, _, by simp, by simp [ca], no 1⟩
    have nab : nI a ≠ nI b := fun e => hab ((nI_eq (by omega) (by omega)).mp e)
    simp only [if_pos ca, if_pos cb, if_neg nab, if_pos (show (0 ≤ nI a ∧ nI a < nI h) ∧ (0 ≤ nI b ∧ nI b < nI h) ∧ nI a ≠ nI b from ⟨ca, cb, nab⟩), if_neg c10]
    rcases zix c (n := kn) (by omega) with ⟨c, hc, rfl, cc⟩ | cc
    · simp only [if_pos cc, if_neg c10]
      by_cases c1 : (1 : Int32) ≤ z
      · simp only [if_pos c1]
        have eq : σ.1 0 24 = μ.1 0 22 := h2.2.2.2.2.2.2.2.1
        obtain ⟨v, hv, ev, zv⟩ := h8.1 c a b (by omega) (by omega)
        simp only [debtX N c a b _ (show c < 6 by omega) (show a < 10 by omega) (show b < 10 by omega), debtM N c a b _ (show c < 6 by omega) (show a < 10 by omega) (show b < 10 by omega), eq, ev]
        rw [show (100000 : Int32) - nI v = nI (100000 - v) from pk_sub (a := 100000) hv]
        by_cases c2 : z ≤ nI (100000 - v)
        · have c0 : ¬ z < 0 := fun q => by
            have q1 := Int32.lt_iff_toInt_lt.mp q
            have q2 := Int32.le_iff_toInt_le.mp c1
            have : (1 : Int32).toInt = 1 := rfl
            have : (0 : Int32).toInt = 0 := rfl
            omega
          obtain ⟨p, hp, rfl⟩ := nI_of2 (M := nI (100000 - v)) (n := 100000 - v) (nI_toInt (by omega)) c0 c2
          simp only [if_pos c2]
          refine ⟨nI (v + p), zsI σ 0 24 (100 * c + 10 * a + b) (nI (v + p)), zsI μ 0 22 (100 * c + 10 * a + b) (nI (v + p)), ?_, ?_, d, h, kn, ru, ne, cl, nt, np, ?_, ?_, ?_, ?_, ?_, ?_, ?_, ?_, ?_, Jb_mono (k := k) (Nat.le_succ k) (Nat.le_refl _) ?_⟩
          · unfold fX1_add
            rw [i100, zld_at (by omega) (by omega), zst_at (by omega) (by omega), eq, ev, nI_add]
            simp only [zbv, zbi, debtX N c a b _ (show c < 6 by omega) (show a < 10 by omega) (show b < 10 by omega), zsI_at, pk_us]
          · rw [i100', zld_at (by omega) (by omega), zst_at (by omega) (by omega), ev, nI_add]
            simp only [zsI_at, pk_us]
          · simpa [Js, zsI] using h1
          · obtain ⟨u1, u2, u3, u4, u5, u6, u7, u8, u9, u10, u11⟩ := h2
            exact ⟨by simpa [zsI] using u1, by simpa [zsI] using u2, by simpa [zsI] using u3, by simpa [zsI] using u4, by simpa [zsI] using u5, by simpa [zsI] using u6, u7, by simp [zsI, u8], by simpa [zsI] using u9, by simpa [zsI] using u10, by simpa [zsI] using u11⟩
          · simpa [zsI] using h3
          · simpa [zsI] using h4
          · simpa [Jt, zsI] using h5
          · simpa [Jp, zsI] using h6
          · exact h7
          · refine ⟨fun k' a' b' ha' hb' => ?_, by simpa [zsI] using h8.2⟩
            obtain ⟨q, g1, g2, g3⟩ := h8.1 k' a' b' ha' hb'
            by_cases w : 100 * k' + 10 * a' + b' = 100 * c + 10 * a + b
            · have w1 : k' = c := by omega
              have w2 : a' = a := by omega
              have w3 : b' = b := by omega
              refine ⟨v + p, by omega, by simp [zsI, upd, w], fun e => absurd e (by omega)⟩
            · exact ⟨q, g1, by simpa [zsI, upd, w] using g2, g3⟩
          · simpa [zsI] using h9
          · simpa [zsI] using h10
        · simp only [if_neg c2]
          exact ⟨_, _, _, rfl, rfl, no 6⟩
      · simp only [if_neg c1]
        exact ⟨_, _, _, rfl, rfl, no 4⟩
    · simp only [if_neg cc]
      exact ⟨_, _, _, rfl, rfl, no 1⟩
  · exact ⟨-1, _, _, by simp [cb], by simp [ca, cb], no 1⟩
  · exact ⟨-1, _, _, by simp [ca], by simp [ca], no 1⟩
