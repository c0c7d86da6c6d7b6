theorem zix (x : Int32) {n : Nat} (hn : n < 2 ^ 31) : (∃ a : Nat, a < n ∧ x = nI a ∧ (0 ≤ x ∧ x < nI n)) ∨ ¬ (0 ≤ x ∧ x < nI n) := by
  rcases pk_ix x hn with q | q | ⟨j, hj, rfl⟩
  · exact Or.inr (fun z => Int32.not_le.mpr q z.1)
  · exact Or.inr (fun z => Int32.not_lt.mpr q z.2)
  · exact Or.inl ⟨j, hj, rfl, nI_pos' (by omega), nI_lt hj hn⟩
/-- house and kind: both sides see the same -/
theorem JJ_hk {k : Nat} {σ μ : zS} (hJ : JJ k σ μ) : ∃ h kn : Nat, h ≤ 10 ∧ kn ≤ 6 ∧ (∀ N x, fX7_isHouse N x σ = some (if 0 ≤ x ∧ x < nI h then 1 else 0, σ)) ∧ (∀ N x, fX8_isHouse N x μ = some (if 0 ≤ x ∧ x < nI h then 1 else 0, μ)) ∧ (∀ N x, fX7_isKind N x σ = some (if 0 ≤ x ∧ x < nI kn then 1 else 0, σ)) ∧ (∀ N x, fX8_isKind N x μ = some (if 0 ≤ x ∧ x < nI kn then 1 else 0, μ)) := by
  obtain ⟨d, h, kn, ru, ne, cl, nt, np, h1, -⟩ := hJ
  have b1 := h1.2.2.2.2.2.2.2.2.2.2.1
  have b2 := h1.2.2.2.2.2.2.2.2.2.2.2.1
  refine ⟨h, kn, b1, b2, fun N x => ?_, fun N x => fX8_isHouse_eq N x μ (by omega) h1.2.1.2, fun N x => ?_, fun N x => fX8_isKind_eq N x μ (by omega) h1.2.2.1.2⟩
  · rw [fX7_isHouse_eq, h1.2.1.1]
  · rw [fX7_isKind_eq, h1.2.2.1.1]
theorem go_lost {k N : Nat} {σ μ : zS} (x y : Int32) (hJ : JJ k σ μ) : ∃ r τ ν, fX7_lost N x y σ = some (r, τ) ∧ fX8_lost N x y μ = some (r, ν) ∧ JJ (k + 1) τ ν := by
  obtain ⟨h, kn, b1, b2, e1, e2, e3, e4⟩ := JJ_hk hJ
  have eq : σ.1 0 10 = μ.1 0 21 := by obtain ⟨d, h, kn, ru, ne, cl, nt, np, -, h2, -⟩ := hJ; exact h2.2.2.2.2.1
  have rx := fX7_refuseAmount_eq N σ 1 (by omega) (by omega)
  have rm := fX8_refuseBig_eq N μ 1 (by omega) (by omega)
  rw [show -(nI 1) = (-1 : Int32) from rfl] at rx rm
  have no : JJ (k + 1) (zrefX σ 1) (zrefM μ 1) := JJ_ref hJ
  unfold fX7_lost fX8_lost
  rw [e1, e2]
  simp only [zbi, e3, e4, rx, rm]
  rcases zix x (n := h) (by omega) with ⟨a, ha, rfl, ca⟩ | ca
  · rcases zix y (n := kn) (by omega) with ⟨b, hb, rfl, cb⟩ | cb
    · have i1 : nI a * 6 + nI b = nI (6 * a + b) := by rw [show (6 : Int32) = nI 6 from rfl, pk_mul, nI_add, Nat.mul_comm]
      have i2 : (6 : Int32) * nI a + nI b = nI (6 * a + b) := by rw [show (6 : Int32) = nI 6 from rfl, pk_mul, nI_add]
      refine ⟨μ.1 0 21 (6 * a + b), σ, μ, ?_, ?_, JJ_mono hJ⟩
      · rw [if_pos ca, if_pos cb, if_neg (by decide), if_neg (by decide), i1, zld_at (by omega) (by omega), eq]
      · rw [if_pos ca, if_pos cb, if_neg (by decide), if_neg (by decide), i2, zld_at (by omega) (by omega)]
    · exact ⟨_, _, _, by rw [if_pos ca, if_neg cb, if_neg (by decide), if_pos rfl], by rw [if_pos ca, if_neg cb, if_neg (by decide), if_pos rfl], no⟩
  · exact ⟨_, _, _, by rw [if_neg ca, if_pos rfl], by rw [if_neg ca, if_pos rfl], no⟩
