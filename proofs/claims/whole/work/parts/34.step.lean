theorem Jb_mono {k k' np np' ne : Nat} {eh ek em lo bo br : Nat → Int32} {mb : Nat → Int64} (hk : k ≤ k') (hp : np ≤ np') (h : Jb k np ne eh ek em lo bo br mb) : Jb k' np' ne eh ek em lo bo br mb := by
  obtain ⟨h1, h2, h3⟩ := h
  refine ⟨fun a b => ?_, by omega, fun b hb => ?_⟩
  · have := h1 a b; omega
  · obtain ⟨g1, g2, g3, g4, g5, g6⟩ := h3 b hb
    exact ⟨g1, g2, g3, by omega, g5, by omega⟩
theorem JJ_mono {k : Nat} {σ μ : zS} (h : JJ k σ μ) : JJ (k + 1) σ μ := by
  obtain ⟨d, h, kn, ru, ne, cl, nt, np, h1, h2, h3, h4, h5, h6, h7, h8, h9, h10⟩ := h
  exact ⟨d, h, kn, ru, ne, cl, nt, np, h1, h2, h3, h4, h5, h6, h7, h8, h9, Jb_mono (by omega) (Nat.le_refl _) h10⟩
theorem JJ_ref {k j : Nat} {σ μ : zS} (h : JJ k σ μ) : JJ (k + 1) (zrefX σ j) (zrefM μ j) := by
  obtain ⟨d, h, kn, ru, ne, cl, nt, np, h1, h2, h3, h4, h5, h6, h7, h8, h9, h10⟩ := h
  have e26 : σ.1 0 11 = μ.1 0 26 := h2.2.2.2.2.2.1
  refine ⟨d, h, kn, ru, ne, cl, nt, np, ?_, ?_, ?_, ?_, ?_, ?_, ?_, ?_, ?_, Jb_mono (k := k) (Nat.le_succ k) (Nat.le_refl _) ?_⟩
  · simpa [Js, zrefX, zrefM, zsI] using h1
  · simpa [Je, zrefX, zrefM, zsI, e26] using h2
  · simpa [zrefM, zsI] using h3
  · simpa [zrefX, zrefM, zsI] using h4
  · simpa [Jt, zrefX, zrefM, zsI] using h5
  · simpa [Jp, zrefX, zrefM, zsI] using h6
  · exact h7
  · simpa [zrefM, zsI] using h8
  · simpa [zrefM, zsI] using h9
  · simpa [zrefX, zrefM, zsI] using h10
theorem go_house {k N : Nat} {σ μ : zS} (hJ : JJ k σ μ) : ∃ r τ ν, fX7_house N σ = some (r, τ) ∧ fX8_house N μ = some (r, ν) ∧ JJ (k + 1) τ ν := by
  obtain ⟨d, h, kn, ru, ne, cl, nt, np, h1, h2, h3, h4, h5, h6, h7, h8, h9, h10⟩ := id hJ
  have hX : σ.1 0 0 1 = nI h := h1.2.1.1
  have hM : μ.1 0 0 1 = nI h := h1.2.1.2
  have hb : h ≤ 10 := h1.2.2.2.2.2.2.2.2.2.2.1
  unfold fX7_house fX8_house
  rw [hX, hM]
  rcases Nat.lt_or_ge h 10 with q | q
  · rw [if_pos (show nI h < 10 from nI_lt (b := 10) q (by omega)), if_neg (show ¬ nI h = 10 from fun e => by have := (nI_eq (a := h) (b := 10) (by omega) (by omega)).mp e; omega)]
    refine ⟨nI h, zsI σ 0 0 1 (nI h + 1), zsI μ 0 0 1 (nI h + 1), ?_, ?_, d, h + 1, kn, ru, ne, cl, nt, np, ?_, ?_, ?_, ?_, ?_, ?_, ?_, ?_, ?_, Jb_mono (k := k) (Nat.le_succ k) (Nat.le_refl _) ?_⟩
    · simp [zlet, zsI, upd]
    · simp [zlet, zsI, upd]
    · obtain ⟨a1, a2, a3, a4, a5, a6, a7, a8, a9, a10⟩ := h1
      exact ⟨by simpa [zsI, upd] using a1, ⟨by simp [zsI, upd, nI_1], by simp [zsI, upd, nI_1]⟩, by simpa [zsI, upd] using a3, by simpa [zsI, upd] using a4, by simpa [zsI, upd] using a5, by simpa [zsI, upd] using a6, by simpa [zsI, upd] using a7, by simpa [zsI, upd] using a8, a9, by omega⟩
    · simpa [Je, zsI] using h2
    · simpa [zsI] using h3
    · simp only [zsI]
      intro e he
      obtain ⟨a, b, x, g1, g2⟩ := h4 e he
      exact ⟨a, b, x, by omega, by simpa using g2⟩
    · refine ⟨fun t ht => ?_, by simpa [zsI] using h5.2⟩
      obtain ⟨g1, g2, g3, ⟨a, b, c, u1, u2, u3⟩, g5⟩ := h5.1 t ht
      exact ⟨by simpa [zsI] using g1, by simpa [zsI] using g2, by simpa [zsI] using g3, ⟨a, b, c, by omega, by omega, by simpa [zsI] using u3⟩, by simpa [zsI] using g5⟩
    · simpa [Jp, zsI] using h6
    · exact h7
    · refine ⟨fun k a b ha hb => ?_, fun i hi => ?_⟩
      · obtain ⟨x, g1, g2, g3⟩ := h8.1 k a b ha hb
        exact ⟨x, g1, by simpa [zsI] using g2, fun e => g3 (by omega)⟩
      · have := h8.2 i (by omega)
        simpa [zsI] using this
    · refine ⟨fun i => ?_, by simpa [zsI] using h9.2⟩
      obtain ⟨x, y, g1, g2, g3, g4, g5⟩ := h9.1 i
      exact ⟨x, y, g1, g2, by simpa [zsI] using g3, by simpa [zsI] using g4, fun e => g5 (by omega)⟩
    · simpa [zsI] using h10
  · have hh : h = 10 := by omega
    subst hh
    refine ⟨-(nI 6), zrefX σ 6, zrefM μ 6, ?_, ?_, JJ_ref hJ⟩
    · rw [if_neg (by decide), show (-6 : Int32) = -(nI 6) from rfl, fX7_refuse_eq N σ 6 (by omega) (by omega)]; rfl
    · rw [if_pos (by decide), show (-6 : Int32) = -(nI 6) from rfl, fX8_refuse_eq N μ 6 (by omega) (by omega)]; rfl
