theorem go_kind {k N : Nat} {σ μ : zS} (x y : Int32) (hJ : JJ k σ μ) : ∃ r τ ν, fX7_kind N x y σ = some (r, τ) ∧ fX8_kind N x y μ = some (r, ν) ∧ JJ (k + 1) τ ν := by
  obtain ⟨d, h, kn, ru, ne, cl, nt, np, h1, h2, h3, h4, h5, h6, h7, h8, h9, h10⟩ := id hJ
  have hX : σ.1 0 0 2 = nI kn := h1.2.2.1.1
  have hM : μ.1 0 0 2 = nI kn := h1.2.2.1.2
  have hk6 : kn ≤ 6 := h1.2.2.2.2.2.2.2.2.2.2.2.1
  have rx4 := fX7_refuse_eq N σ 4 (by omega) (by omega)
  have rm4 := fX8_refuse_eq N μ 4 (by omega) (by omega)
  have rx6 := fX7_refuse_eq N σ 6 (by omega) (by omega)
  have rm6 := fX8_refuse_eq N μ 6 (by omega) (by omega)
  rw [show -(nI 4) = (-4 : Int32) from rfl] at rx4 rm4
  rw [show -(nI 6) = (-6 : Int32) from rfl] at rx6 rm6
  have no4 : JJ (k + 1) (zrefX σ 4) (zrefM μ 4) := JJ_ref hJ
  have no6 : JJ (k + 1) (zrefX σ 6) (zrefM μ 6) := JJ_ref hJ
  unfold fX7_kind fX8_kind
  rw [rx4, rx6, rm4, rm6, hX, hM]
  simp only [zbi]
  by_cases c1 : x < 1
  · exact ⟨-4, _, _, by simp [c1], by simp [c1], no4⟩
  by_cases c2 : 0 ≤ y
  · by_cases c3 : (1000 : Int32) < x
    · exact ⟨-6, _, _, by simp [c1, c2, c3], by simp [c1, c2, c3], no6⟩
    by_cases c4 : (100 : Int32) < y
    · exact ⟨-6, _, _, by simp [c1, c2, c3, c4], by simp [c1, c2, c3, c4], no6⟩
    rcases Nat.lt_or_ge kn 6 with q | q
    · have c5 : nI kn < 6 := nI_lt (b := 6) q (by omega)
      have c6 : ¬ nI kn = 6 := fun e => by have := (nI_eq (a := kn) (b := 6) (by omega) (by omega)).mp e; omega
      have x0 : ¬ x < 0 := fun q => c1 (by
        rw [Int32.lt_iff_toInt_lt] at q ⊢
        have : (1 : Int32).toInt = 1 := rfl
        have : (0 : Int32).toInt = 0 := rfl
        omega)
      obtain ⟨a, ha, rfl⟩ := nI_of2 (M := 1000) (n := 1000) rfl x0 (Int32.not_lt.mp c3)
      obtain ⟨b, hb, rfl⟩ := nI_of2 (M := 100) (n := 100) rfl (Int32.not_lt.mpr c2) (Int32.not_lt.mp c4)
      have ha1 : 1 ≤ a := by
        rcases Nat.lt_or_ge a 1 with z | z
        · have : a = 0 := by omega
          subst this
          exact absurd (by decide) c1
        · exact z
      refine ⟨nI kn, zsI (zsI (zsI σ 0 6 kn (nI a)) 0 7 kn (nI b)) 0 0 2 (nI kn + 1), zsI (zsI (zsI μ 0 1 kn (nI a)) 0 2 kn (nI b)) 0 0 2 (nI kn + 1), ?_, ?_, d, h, kn + 1, ru, ne, cl, nt, np, ?_, ?_, ?_, ?_, ?_, ?_, ?_, ?_, ?_, Jb_mono (k := k) (Nat.le_succ k) (Nat.le_refl _) ?_⟩
      · rw [if_neg c1, if_pos c2, if_neg c3, if_neg c4, if_pos c5, zst_at q (by omega)]
        have e1 : (zsI σ 0 6 kn (nI a)).1 0 0 2 = nI kn := by simpa [zsI] using hX
        rw [e1, zst_at q (by omega)]
        have e2 : (zsI (zsI σ 0 6 kn (nI a)) 0 7 kn (nI b)).1 0 0 2 = nI kn := by simpa [zsI] using hX
        simp only [zlet, e2]
        simp [zsI, upd]
      · rw [if_neg c1, if_pos c2, if_neg c3, if_neg c4, if_neg c6, zst_at q (by omega)]
        have e1 : (zsI μ 0 1 kn (nI a)).1 0 0 2 = nI kn := by simpa [zsI] using hM
        rw [e1, zst_at q (by omega)]
        have e2 : (zsI (zsI μ 0 1 kn (nI a)) 0 2 kn (nI b)).1 0 0 2 = nI kn := by simpa [zsI] using hM
        simp only [zlet, e2]
        simp [zsI, upd]
      · obtain ⟨a1, a2, a3, a4, a5, a6, a7, a8, a9, a10⟩ := h1
        exact ⟨by simpa [zsI, upd] using a1, by simpa [zsI, upd] using a2, ⟨by simp [zsI, upd, nI_1], by simp [zsI, upd, nI_1]⟩, by simpa [zsI, upd] using a4, by simpa [zsI, upd] using a5, by simpa [zsI, upd] using a6, by simpa [zsI, upd] using a7, by simpa [zsI, upd] using a8, a9, by omega⟩
      · obtain ⟨u1, u2, u3⟩ := h2
        refine ⟨by simp [zsI, u1], by simp [zsI, u2], by simpa [zsI] using u3⟩
      · refine ⟨fun i hi => ?_, fun i hi => ?_⟩
        · by_cases z : i = kn
          · subst z
            exact ⟨a, b, by simp [zsI, upd], by simp [zsI, upd], ha1, ha, hb⟩
          · obtain ⟨p, q, g1, g2, g3⟩ := h3.1 i (by omega)
            exact ⟨p, q, by simpa [zsI, upd, z] using g1, by simpa [zsI, upd, z] using g2, g3⟩
        · have z : i ≠ kn := by omega
          have := h3.2 i (by omega)
          simpa [zsI, upd, z] using this
      · intro e he
        obtain ⟨p, r, y, g1, g2, g3⟩ := h4 e he
        exact ⟨p, r, y, g1, by omega, by simpa [zsI] using g3⟩
      · refine ⟨fun t ht => ?_, by simpa [zsI] using h5.2⟩
        obtain ⟨g1, g2, g3, ⟨p, r, z, u1, u2, u3, u4, u5⟩, g5⟩ := h5.1 t ht
        exact ⟨by simpa [zsI] using g1, by simpa [zsI] using g2, by simpa [zsI] using g3, ⟨p, r, z, u1, u2, u3, by omega, by simpa [zsI] using u5⟩, by simpa [zsI] using g5⟩
      · simpa [Jp, zsI] using h6
      · exact h7
      · simpa [zsI] using h8
      · simpa [zsI] using h9
      · simpa [zsI] using h10
    · have hh : kn = 6 := by omega
      subst hh
      have c5 : ¬ nI 6 < 6 := by decide
      have c6 : nI 6 = 6 := rfl
      exact ⟨-6, _, _, by simp [c1, c2, c3, c4, c5], by simp [c1, c2, c3, c4, c6], no6⟩
  · exact ⟨-4, _, _, by simp [c1, c2], by simp [c1, c2], no4⟩
