theorem go_owes {k N : Nat} {σ μ : zS} (x y z : Int32) (hJ : JJ k σ μ) : ∃ r τ ν, fX7_owes N x y z σ = some (r, τ) ∧ fX8_owes N x y z μ = some (r, ν) ∧ JJ (k + 1) τ ν := by
  obtain ⟨h, kn, b1, b2, e1, e2, e3, e4⟩ := JJ_hk hJ
  have eq : σ.1 0 24 = μ.1 0 22 := by obtain ⟨d, h, kn, ru, ne, cl, nt, np, -, h2, -⟩ := hJ; exact h2.2.2.2.2.2.2.2.1
  have rx := fX7_refuse_eq N σ 1 (by omega) (by omega)
  have rm := fX8_refuse_eq N μ 1 (by omega) (by omega)
  rw [show -(nI 1) = (-1 : Int32) from rfl] at rx rm
  have no : JJ (k + 1) (zrefX σ 1) (zrefM μ 1) := JJ_ref hJ
  unfold fX7_owes fX8_owes
  simp only [zbi, e1, e2, e3, e4, rx, rm]
  rcases zix x (n := h) (by omega) with ⟨a, ha, rfl, ca⟩ | ca
  · rcases zix y (n := h) (by omega) with ⟨b, hb, rfl, cb⟩ | cb
    · rcases zix z (n := kn) (by omega) with ⟨c, hc, rfl, cc⟩ | cc
      · have i1 : (nI c * 10 + nI a) * 10 + nI b = nI (100 * c + 10 * a + b) := by rw [show (10 : Int32) = nI 10 from rfl, pk_mul, nI_add, pk_mul, nI_add]; congr 1; omega
        have i2 : (100 : Int32) * nI c + (10 : Int32) * nI a + nI b = nI (100 * c + 10 * a + b) := by rw [show (100 : Int32) = nI 100 from rfl, show (10 : Int32) = nI 10 from rfl, pk_mul, pk_mul, nI_add, nI_add]
        refine ⟨μ.1 0 22 (100 * c + 10 * a + b), σ, μ, ?_, ?_, JJ_mono hJ⟩
        · rw [if_pos ca, if_pos cb, if_pos cc, if_neg (by decide), if_neg (by decide), if_neg (by decide)]
          unfold fX1_debt
          rw [i1, zld_at (by omega) (by omega), eq]
        · rw [if_pos ca, if_pos cb, if_pos cc, if_neg (by decide), if_neg (by decide), if_neg (by decide)]
          unfold fX8_debt
          rw [i2, zld_at (by omega) (by omega)]
      · exact ⟨_, _, _, by rw [if_pos ca, if_pos cb, if_neg cc, if_neg (by decide), if_neg (by decide), if_pos rfl], by rw [if_pos ca, if_pos cb, if_neg cc, if_neg (by decide), if_neg (by decide), if_pos rfl], no⟩
    · exact ⟨_, _, _, by rw [if_pos ca, if_neg cb, if_neg (by decide), if_pos rfl], by rw [if_pos ca, if_neg cb, if_neg (by decide), if_pos rfl], no⟩
  · exact ⟨_, _, _, by rw [if_neg ca, if_pos rfl], by rw [if_neg ca, if_pos rfl], no⟩
