theorem go_rule {k N : Nat} {σ μ : zS} (x : Int32) (hJ : JJ k σ μ) : ∃ r τ ν, fX7_rule N x σ = some (r, τ) ∧ fX8_rule N x μ = some (r, ν) ∧ JJ (k + 1) τ ν := by
  obtain ⟨d, h, kn, ru, ne, cl, nt, np, h1, h2, h3, h4, h5, h6, h7, h8, h9, h10⟩ := id hJ
  have hX : σ.1 0 0 3 = nI ru := h1.2.2.2.1.1
  have hM : μ.1 0 0 22 = nI ru := h1.2.2.2.1.2
  have rx := fX7_refuse_eq N σ 2 (by omega) (by omega)
  have rm := fX8_refuse_eq N μ 2 (by omega) (by omega)
  rw [show -(nI 2) = (-2 : Int32) from rfl] at rx rm
  unfold fX7_rule fX8_rule
  rw [fX8_in_eq, rx, hX]
  simp only [zbi, rm, hM]
  by_cases c1 : x < 0
  · have c2 : ¬ (0 ≤ x) := Int32.not_le.mpr c1
    exact ⟨-2, zrefX σ 2, zrefM μ 2, by simp [c1], by simp [c2], JJ_ref hJ⟩
  · have c2 : 0 ≤ x := Int32.not_lt.mp c1
    by_cases c3 : x ≤ 3
    · obtain ⟨r, hr, rfl⟩ := nI_of2 (M := 3) (n := 3) rfl c1 c3
      refine ⟨nI ru, zsI σ 0 0 3 (nI r), zsI μ 0 0 22 (nI r), by simp [c1, c3, zlet], by simp [c2, c3, zlet], d, h, kn, r, ne, cl, nt, np, ?_, ?_, ?_, ?_, ?_, ?_, ?_, ?_, ?_, Jb_mono (k := k) (Nat.le_succ k) (Nat.le_refl _) ?_⟩
      · obtain ⟨a1, a2, a3, a4, a5, a6, a7, a8, a9, a10⟩ := h1
        exact ⟨by simpa [zsI, upd] using a1, by simpa [zsI, upd] using a2, by simpa [zsI, upd] using a3, ⟨by simp [zsI, upd], by simp [zsI, upd]⟩, by simpa [zsI, upd] using a5, by simpa [zsI, upd] using a6, by simpa [zsI, upd] using a7, by simpa [zsI, upd] using a8, a9, by omega⟩
      · simpa [Je, zsI] using h2
      · simpa [zsI] using h3
      · simpa [zsI] using h4
      · simpa [Jt, zsI] using h5
      · simpa [Jp, zsI] using h6
      · exact h7
      · simpa [zsI] using h8
      · simpa [zsI] using h9
      · simpa [zsI] using h10
    · exact ⟨-2, zrefX σ 2, zrefM μ 2, by simp [c1, c3], by simp [c3], JJ_ref hJ⟩
