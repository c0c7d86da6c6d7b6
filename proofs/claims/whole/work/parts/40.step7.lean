theorem go_want {k N : Nat} {σ μ : zS} (x y z : Int32) (hJ : JJ k σ μ) : ∃ r τ ν, fX7_want N x y z σ = some (r, τ) ∧ fX8_want N x y z μ = some (r, ν) ∧ JJ (k + 1) τ ν := by
  obtain ⟨d, h, kn, ru, ne, cl, nt, np, h1, h2, h3, h4, h5, h6, h7, h8, h9, h10⟩ := id hJ
  have b1 : h ≤ 10 := h1.2.2.2.2.2.2.2.2.2.2.1
  have e1 : ∀ N x, fX7_isHouse N x σ = some (if 0 ≤ x ∧ x < nI h then 1 else 0, σ) := fun N x => by rw [fX7_isHouse_eq, h1.2.1.1]
  have e2 : ∀ N x, fX8_isHouse N x μ = some (if 0 ≤ x ∧ x < nI h then 1 else 0, μ) := fun N x => fX8_isHouse_eq N x μ (by omega) h1.2.1.2
  have rx1 := fX7_refuse_eq N σ 1 (by omega) (by omega)
  have rm1 := fX8_refuse_eq N μ 1 (by omega) (by omega)
  have rx4 := fX7_refuse_eq N σ 4 (by omega) (by omega)
  have rm4 := fX8_refuse_eq N μ 4 (by omega) (by omega)
  have rx6 := fX7_refuse_eq N σ 6 (by omega) (by omega)
  have rm6 := fX8_refuse_eq N μ 6 (by omega) (by omega)
  rw [show -(nI 1) = (-1 : Int32) from rfl] at rx1 rm1
  rw [show -(nI 4) = (-4 : Int32) from rfl] at rx4 rm4
  rw [show -(nI 6) = (-6 : Int32) from rfl] at rx6 rm6
  have no : ∀ j, JJ (k + 1) (zrefX σ j) (zrefM μ j) := fun j => JJ_ref hJ
  unfold fX7_want fX8_want
  simp only [zbi, e1, e2, rx1, rm1, rx4, rm4, rx6, rm6]
  rcases zix x (n := h) (by omega) with ⟨a, ha, rfl, ca⟩ | ca
  · simp only [if_pos ca, if_neg (show ¬ (1 : Int32) = 0 by decide)]
    by_cases c1 : y < 0
    · exact ⟨_, _, _, by rw [if_pos c1], by rw [if_pos c1], no 4⟩
    simp only [if_neg c1]
    by_cases c2 : 0 ≤ z
    · simp only [if_pos c2]
      by_cases c3 : (100 : Int32) < y
      · exact ⟨_, _, _, by rw [if_pos c3], by rw [if_pos c3], no 6⟩
      simp only [if_neg c3]
      by_cases c4 : z ≤ 100
      · simp only [if_pos c4]
        obtain ⟨p, hp, rfl⟩ := nI_of2 (M := 100) (n := 100) rfl c1 (Int32.not_lt.mp c3)
        obtain ⟨q, hq, rfl⟩ := nI_of2 (M := 100) (n := 100) rfl (Int32.not_lt.mpr c2) c4
        refine ⟨1, zsI (zsI σ 0 28 a (nI p)) 0 29 a (nI q), zsI (zsI μ 0 23 a (nI p)) 0 24 a (nI q), by rw [zst_at (by omega) (by omega), zst_at (by omega) (by omega)], by rw [zst_at (by omega) (by omega), zst_at (by omega) (by omega)], d, h, kn, ru, ne, cl, nt, np, ?_, ?_, ?_, ?_, ?_, ?_, ?_, ?_, ?_, Jb_mono (k := k) (Nat.le_succ k) (Nat.le_refl _) ?_⟩
        · simpa [Js, zsI] using h1
        · obtain ⟨u1, u2, u3, u4, u5, u6, u7, u8, u9, u10, u11⟩ := h2
          exact ⟨by simpa [zsI] using u1, by simpa [zsI] using u2, by simpa [zsI] using u3, by simpa [zsI] using u4, by simpa [zsI] using u5, by simpa [zsI] using u6, u7, by simpa [zsI] using u8, by simp [zsI, u9], by simp [zsI, u10], by simpa [zsI] using u11⟩
        · simpa [zsI] using h3
        · simpa [zsI] using h4
        · simpa [Jt, zsI] using h5
        · simpa [Jp, zsI] using h6
        · exact h7
        · simpa [zsI] using h8
        · refine ⟨fun i => ?_, by simpa [zsI] using h9.2⟩
          by_cases hi : i = a
          · subst hi
            exact ⟨p, q, hp, hq, by simp [zsI, upd], by simp [zsI, upd], fun e => absurd e (by omega)⟩
          · obtain ⟨u, v, g1, g2, g3, g4, g5⟩ := h9.1 i
            exact ⟨u, v, g1, g2, by simpa [zsI, upd, hi] using g3, by simpa [zsI, upd, hi] using g4, g5⟩
        · simpa [zsI] using h10
      · exact ⟨_, _, _, by rw [if_neg c4], by rw [if_neg c4], no 6⟩
    · exact ⟨_, _, _, by rw [if_neg c2], by rw [if_neg c2], no 4⟩
  · exact ⟨_, _, _, by rw [if_neg ca, if_pos rfl], by rw [if_neg ca, if_pos rfl], no 1⟩
