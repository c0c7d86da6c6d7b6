theorem off_joint {N c h : Nat} (hN : 1000000000 ≤ N) (hc : c < 6) (hh : h ≤ 10) : ∀ (P : Nat) (σ μ : zS) (r nX nM : Nat), μ.1 0 0 1 = nI h → σ.1 0 24 = μ.1 0 22 → Jd1 h (μ.1 0 22) → cntD (μ.1 0 22) c ≤ P → r + P ≤ 100 → P + 1 < nX → P + 1 < nM → ∃ T σ' μ', lX1_takeOff_4 N (nI c) (fun y3 y4 w5 => some (y3, w5)) nX (nI r, nI r, σ) = some (nI T, σ') ∧ (zbv (fX8_findRing N (nI c) μ) fun w5 => lX8_off_21 N (nI c) (fun y20 w21 => some (y20, w21)) nM (nI r, w5)) = some (nI T, μ') ∧ Fm [4, 24, 25, 26, 27] σ σ' ∧ Fm [0, 22, 30, 31] μ μ' ∧ (∀ j, j ≠ 38 → μ'.1 0 0 j = μ.1 0 0 j) ∧ σ'.1 0 24 = μ'.1 0 22 ∧ Jd1 h (μ'.1 0 22) := by
  intro P
  induction P with
  | zero =>
    intro σ μ r nX nM eh eq hJ hcn hr hX hM
    obtain ⟨n, R, σ1, μ1, a1, a2, a3, a4, a5, a6, a7, a8⟩ := off_step hN hc hh eh eq hJ
    have hn : n = 0 := by
      rcases Nat.eq_zero_or_pos n with q | q
      · exact q
      · obtain ⟨-, -, row, -, -, -, z⟩ := a8 (by omega)
        have := cntD_bd row c
        omega
    obtain ⟨mX, rfl⟩ : ∃ mX, nX = mX + 1 := ⟨nX - 1, by omega⟩
    obtain ⟨mM, rfl⟩ : ∃ mM, nM = mM + 1 := ⟨nM - 1, by omega⟩
    rw [a2]
    simp only [zbv]
    have eM : lX8_off_21 N (nI c) (fun y20 w21 => some (y20, w21)) (mM + 1) (nI r, μ1) = some (nI r, μ1) := by
      show bX8_off_21 N (nI c) (fun y20 w21 => some (y20, w21)) _ (nI r) μ1 = _
      simp only [bX8_off_21, a6]
      rw [if_pos ((nI_le0 (by omega)).mpr hn)]
    have mm : μ1.1 0 22 = μ.1 0 22 := a4.1.2 0 22 (by decide)
    rw [eM]
    by_cases q : r = 100
    · have eX : lX1_takeOff_4 N (nI c) (fun y3 y4 w5 => some (y3, w5)) (mX + 1) (nI r, nI r, σ) = some (nI r, σ) := by
        show bX1_takeOff_4 N (nI c) (fun y3 y4 w5 => some (y3, w5)) _ (nI r) (nI r) σ = _
        simp only [bX1_takeOff_4]
        rw [if_pos (by rw [q]; decide)]
      rw [eX]
      exact ⟨r, σ, μ1, rfl, rfl, Fm_refl _ _, Fm_sub a4.1 (by decide), a4.2, by rw [mm]; exact eq, by rw [mm]; exact hJ⟩
    · have eX : lX1_takeOff_4 N (nI c) (fun y3 y4 w5 => some (y3, w5)) (mX + 1) (nI r, nI r, σ) = some (nI r, σ1) := by
        show bX1_takeOff_4 N (nI c) (fun y3 y4 w5 => some (y3, w5)) _ (nI r) (nI r) σ = _
        simp only [bX1_takeOff_4]
        rw [if_neg (show ¬ (100 : Int32) ≤ nI r from nI_ge (b := 100) (by omega) (by omega)), a1]
        simp only [zbv, a5]
        rw [if_pos ((nI_eq0 (by omega)).mpr hn)]
      rw [eX]
      exact ⟨r, σ1, μ1, rfl, rfl, Fm_sub a3 (by decide), Fm_sub a4.1 (by decide), a4.2, by rw [mm, a3.2 0 24 (by decide)]; exact eq, by rw [mm]; exact hJ⟩
  | succ P ih =>
    intro σ μ r nX nM eh eq hJ hcn hr hX hM
    obtain ⟨n, R, σ1, μ1, a1, a2, a3, a4, a5, a6, a7, a8⟩ := off_step hN hc hh eh eq hJ
    obtain ⟨mX, rfl⟩ : ∃ mX, nX = mX + 1 := ⟨nX - 1, by omega⟩
    obtain ⟨mM, rfl⟩ : ∃ mM, nM = mM + 1 := ⟨nM - 1, by omega⟩
    rw [a2]
    simp only [zbv]
    have mm : μ1.1 0 22 = μ.1 0 22 := a4.1.2 0 22 (by decide)
    by_cases hn : n = 0
    · have eM : lX8_off_21 N (nI c) (fun y20 w21 => some (y20, w21)) (mM + 1) (nI r, μ1) = some (nI r, μ1) := by
        show bX8_off_21 N (nI c) (fun y20 w21 => some (y20, w21)) _ (nI r) μ1 = _
        simp only [bX8_off_21, a6]
        rw [if_pos ((nI_le0 (by omega)).mpr hn)]
      have eX : lX1_takeOff_4 N (nI c) (fun y3 y4 w5 => some (y3, w5)) (mX + 1) (nI r, nI r, σ) = some (nI r, σ1) := by
        show bX1_takeOff_4 N (nI c) (fun y3 y4 w5 => some (y3, w5)) _ (nI r) (nI r) σ = _
        simp only [bX1_takeOff_4]
        rw [if_neg (show ¬ (100 : Int32) ≤ nI r from nI_ge (b := 100) (by omega) (by omega)), a1]
        simp only [zbv, a5]
        rw [if_pos ((nI_eq0 (by omega)).mpr hn)]
      rw [eX, eM]
      exact ⟨r, σ1, μ1, rfl, rfl, Fm_sub a3 (by decide), Fm_sub a4.1 (by decide), a4.2, by rw [mm, a3.2 0 24 (by decide)]; exact eq, by rw [mm]; exact hJ⟩
    · obtain ⟨-, -, row, x1, x2, x3, x4⟩ := a8 hn
      have eM : lX8_off_21 N (nI c) (fun y20 w21 => some (y20, w21)) (mM + 1) (nI r, μ1) = zbv (fX8_findRing N (nI c) (zrow μ1 22 row)) fun w5 => lX8_off_21 N (nI c) (fun y20 w21 => some (y20, w21)) mM (nI (r + 1), w5) := by
        show bX8_off_21 N (nI c) (fun y20 w21 => some (y20, w21)) _ (nI r) μ1 = _
        simp only [bX8_off_21, a6]
        rw [if_neg (fun e => hn ((nI_le0 (by omega)).mp e)), x2, nI_1]
        rfl
      have eX : lX1_takeOff_4 N (nI c) (fun y3 y4 w5 => some (y3, w5)) (mX + 1) (nI r, nI r, σ) = lX1_takeOff_4 N (nI c) (fun y3 y4 w5 => some (y3, w5)) mX (nI (r + 1), nI (r + 1), zrow σ1 24 row) := by
        show bX1_takeOff_4 N (nI c) (fun y3 y4 w5 => some (y3, w5)) _ (nI r) (nI r) σ = _
        simp only [bX1_takeOff_4]
        rw [if_neg (show ¬ (100 : Int32) ≤ nI r from nI_ge (b := 100) (by omega) (by omega)), a1]
        simp only [zbv, a5]
        rw [if_neg (fun e => hn ((nI_eq0 (by omega)).mp e)), x1, nI_1]
        rfl
      rw [eX, eM]
      have fx : Fm [4, 24, 25, 26, 27] σ (zrow σ1 24 row) := Fm_row (Fm_sub a3 (by decide)) (by decide) _
      have fm : Fm [0, 22, 30, 31] μ (zrow μ1 22 row) := Fm_row (Fm_sub a4.1 (by decide)) (by decide) _
      have f0 : ∀ j, j ≠ 38 → (zrow μ1 22 row).1 0 0 j = μ.1 0 0 j := fun j hj => by rw [zrow_ne μ1 row (by omega)]; exact a4.2 j hj
      obtain ⟨T, σ', μ', t1, t2, t3, t4, t5, t6, t7⟩ := ih (zrow σ1 24 row) (zrow μ1 22 row) (r + 1) mX mM (by rw [f0 1 (by decide)]; exact eh) (by rw [zrow_at, zrow_at]) (by rw [zrow_at]; exact x3) (by rw [zrow_at]; omega) (by omega) (by omega) (by omega)
      exact ⟨T, σ', μ', t1, t2, Fm_tr fx t3, Fm_tr fm t4, fun j hj => (t5 j hj).trans (f0 j hj), t6, t7⟩
theorem go_off {k N : Nat} {σ μ : zS} (x : Int32) (hN : 1000000000 ≤ N) (hJ : JJ k σ μ) : ∃ r τ ν, fX7_off N x σ = some (r, τ) ∧ fX8_off N x μ = some (r, ν) ∧ JJ (k + 1) τ ν := by
  obtain ⟨d, h, kn, ru, ne, cl, nt, np, hA, hB⟩ := JJ_A hJ
  obtain ⟨h1, h2, h3, h4, h5, h6, h7, h8, h9⟩ := id hA
  obtain ⟨b0, b1, b2, b3, b4, b5, b6, b7⟩ := JJ_b h1
  have e3 : ∀ N x, fX7_isKind N x σ = some (if 0 ≤ x ∧ x < nI kn then 1 else 0, σ) := fun N x => by rw [fX7_isKind_eq, h1.2.2.1.1]
  have e4 : ∀ N x, fX8_isKind N x μ = some (if 0 ≤ x ∧ x < nI kn then 1 else 0, μ) := fun N x => fX8_isKind_eq N x μ (by omega) h1.2.2.1.2
  unfold fX7_off fX8_off
  simp only [zbi, e3, e4, rfX1, rfM1]
  rcases zix x (n := kn) (by omega) with ⟨c, hc, rfl, cc⟩ | cc
  · simp only [if_pos cc, if_neg c10]
    have cb := cntD_bd (μ.1 0 22) c
    obtain ⟨T, σ', μ', t1, t2, t3, t4, t5, t6, t7⟩ := off_joint (c := c) hN (by omega) b1 100 σ μ 0 N N h1.2.1.2 h2.2.2.2.2.2.2.2.1 h8.1 (by omega) (by omega) (by omega) (by omega)
    have yes : JJ (k + 1) σ' μ' := JJ_ring hJ h1.2.1.2 b1 t3 t4 t5 t6 t7
    unfold fX1_takeOff
    rw [show (0 : Int32) = nI 0 from rfl, t1, t2]
    exact ⟨_, _, _, rfl, rfl, yes⟩
  · simp only [if_neg cc]
    exact ⟨_, _, _, rfl, rfl, JJ_ref hJ⟩
