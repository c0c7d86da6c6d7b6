theorem go_days {k N : Nat} {σ μ : zS} (x : Int32) (hJ : JJ k σ μ) : ∃ r τ ν, fX7_days N x σ = some (r, τ) ∧ fX8_days N x μ = some (r, ν) ∧ JJ (k + 1) τ ν := by
  obtain ⟨d, h, kn, ru, ne, cl, nt, np, h1, h2, h3, h4, h5, h6, h7, h8, h9, h10⟩ := id hJ
  have hX : σ.1 0 0 0 = nI d := h1.1.1
  have hM : μ.1 0 0 0 = nI d := h1.1.2
  have hd : d ≤ 599 := h1.2.2.2.2.2.2.2.2.2.1
  have rx4 := fX7_refuse_eq N σ 4 (by omega) (by omega)
  have rm4 := fX8_refuse_eq N μ 4 (by omega) (by omega)
  have rx6 := fX7_refuse_eq N σ 6 (by omega) (by omega)
  have rm6 := fX8_refuse_eq N μ 6 (by omega) (by omega)
  rw [show -(nI 4) = (-4 : Int32) from rfl] at rx4 rm4
  rw [show -(nI 6) = (-6 : Int32) from rfl] at rx6 rm6
  unfold fX7_days fX8_days
  rw [rx4, rx6, rm4, rm6, hX, hM]
  simp only [zbi]
  by_cases c1 : (1 : Int32) ≤ x
  · have e1 : (599 : Int32) - nI d = nI (599 - d) := pk_sub (a := 599) (b := d) hd
    rw [e1]
    by_cases c2 : x ≤ nI (599 - d)
    · have c0 : ¬ x < 0 := fun q => by
        have q1 := Int32.lt_iff_toInt_lt.mp q
        have q2 := Int32.le_iff_toInt_le.mp c1
        have : (1 : Int32).toInt = 1 := rfl
        have : (0 : Int32).toInt = 0 := rfl
        omega
      obtain ⟨n, hn, rfl⟩ := nI_of2 (M := nI (599 - d)) (n := 599 - d) (nI_toInt (by omega)) c0 c2
      refine ⟨nI (d + n), zsI σ 0 0 0 (nI d + nI n), zsI μ 0 0 0 (nI d + nI n), by simp [c1, c2, zlet, zsI, upd, nI_add], by simp [c1, c2, zlet, zsI, upd, nI_add], d + n, h, kn, ru, ne, cl, nt, np, ?_, ?_, ?_, ?_, ?_, ?_, ?_, ?_, ?_, Jb_mono (k := k) (Nat.le_succ k) (Nat.le_refl _) ?_⟩
      · obtain ⟨a1, a2, a3, a4, a5, a6, a7, a8, a9, a10⟩ := h1
        exact ⟨⟨by simp [zsI, upd, nI_add], by simp [zsI, upd, nI_add]⟩, by simpa [zsI, upd] using a2, by simpa [zsI, upd] using a3, by simpa [zsI, upd] using a4, by simpa [zsI, upd] using a5, by simpa [zsI, upd] using a6, by simpa [zsI, upd] using a7, by simpa [zsI, upd] using a8, a9, by omega⟩
      · simpa [Je, zsI] using h2
      · simpa [zsI] using h3
      · intro e he
        obtain ⟨a, b, y, g1, g2, g3, g4⟩ := h4 e he
        exact ⟨a, b, y, g1, g2, by omega, by simpa [zsI] using g4⟩
      · refine ⟨fun t ht => ?_, by simpa [zsI] using h5.2⟩
        obtain ⟨g1, g2, g3, g4, g5, ⟨y, u1, u2⟩, g7⟩ := h5.1 t ht
        exact ⟨by simpa [zsI] using g1, by simpa [zsI] using g2, by simpa [zsI] using g3, by simpa [zsI] using g4, by simpa [zsI] using g5, ⟨y, by omega, by simpa [zsI] using u2⟩, by simpa [zsI] using g7⟩
      · simpa [Jp, zsI] using h6
      · exact h7
      · simpa [zsI] using h8
      · simpa [zsI] using h9
      · simpa [zsI] using h10
    · exact ⟨-6, zrefX σ 6, zrefM μ 6, by simp [c1, c2], by simp [c1, c2], JJ_ref hJ⟩
  · exact ⟨-4, zrefX σ 4, zrefM μ 4, by simp [c1], by simp [c1], JJ_ref hJ⟩
