/-! tools: loops by invariant; refusals in figures; rows -/
theorem zlp_inv {S α : Type} {b : (S → Option α) → S → Option α} (I : Nat → S → Prop) (Q : Option α → Prop) (E : Nat) (h : ∀ i s rc, I i s → (i < E ∧ ∃ s', I (i + 1) s' ∧ b rc s = rc s') ∨ Q (b rc s)) : ∀ n i s, I i s → E - i < n → Q (zlp b n s) := by
  intro n
  induction n with
  | zero => intro i s _ hn; omega
  | succ n ih =>
    intro i s hi hn
    show Q (b (zlp b n) s)
    rcases h i s (zlp b n) hi with ⟨hE, s', hs, e⟩ | q
    · rw [e]; exact ih (i + 1) s' hs (by omega)
    · exact q
theorem rfX1 (N : Nat) (w : zS) : fX7_refuse N (-1) w = some (-1, zrefX w 1) := fX7_refuse_eq N w 1 (by omega) (by omega)
theorem rfX2 (N : Nat) (w : zS) : fX7_refuse N (-2) w = some (-2, zrefX w 2) := fX7_refuse_eq N w 2 (by omega) (by omega)
theorem rfX3 (N : Nat) (w : zS) : fX7_refuse N (-3) w = some (-3, zrefX w 3) := fX7_refuse_eq N w 3 (by omega) (by omega)
theorem rfX4 (N : Nat) (w : zS) : fX7_refuse N (-4) w = some (-4, zrefX w 4) := fX7_refuse_eq N w 4 (by omega) (by omega)
theorem rfX5 (N : Nat) (w : zS) : fX7_refuse N (-5) w = some (-5, zrefX w 5) := fX7_refuse_eq N w 5 (by omega) (by omega)
theorem rfX6 (N : Nat) (w : zS) : fX7_refuse N (-6) w = some (-6, zrefX w 6) := fX7_refuse_eq N w 6 (by omega) (by omega)
theorem rfM1 (N : Nat) (w : zS) : fX8_refuse N (-1) w = some (-1, zrefM w 1) := fX8_refuse_eq N w 1 (by omega) (by omega)
theorem rfM2 (N : Nat) (w : zS) : fX8_refuse N (-2) w = some (-2, zrefM w 2) := fX8_refuse_eq N w 2 (by omega) (by omega)
theorem rfM3 (N : Nat) (w : zS) : fX8_refuse N (-3) w = some (-3, zrefM w 3) := fX8_refuse_eq N w 3 (by omega) (by omega)
theorem rfM4 (N : Nat) (w : zS) : fX8_refuse N (-4) w = some (-4, zrefM w 4) := fX8_refuse_eq N w 4 (by omega) (by omega)
theorem rfM5 (N : Nat) (w : zS) : fX8_refuse N (-5) w = some (-5, zrefM w 5) := fX8_refuse_eq N w 5 (by omega) (by omega)
theorem rfM6 (N : Nat) (w : zS) : fX8_refuse N (-6) w = some (-6, zrefM w 6) := fX8_refuse_eq N w 6 (by omega) (by omega)
theorem raX1 (N : Nat) (w : zS) : fX7_refuseAmount N (-1) w = some (1000000000 - -1, zrefX w 1) := fX7_refuseAmount_eq N w 1 (by omega) (by omega)
theorem raX4 (N : Nat) (w : zS) : fX7_refuseAmount N (-4) w = some (1000000000 - -4, zrefX w 4) := fX7_refuseAmount_eq N w 4 (by omega) (by omega)
theorem raX5 (N : Nat) (w : zS) : fX7_refuseAmount N (-5) w = some (1000000000 - -5, zrefX w 5) := fX7_refuseAmount_eq N w 5 (by omega) (by omega)
theorem raX6 (N : Nat) (w : zS) : fX7_refuseAmount N (-6) w = some (1000000000 - -6, zrefX w 6) := fX7_refuseAmount_eq N w 6 (by omega) (by omega)
theorem rbM1 (N : Nat) (w : zS) : fX8_refuseBig N (-1) w = some (1000000000 - -1, zrefM w 1) := fX8_refuseBig_eq N w 1 (by omega) (by omega)
theorem rbM4 (N : Nat) (w : zS) : fX8_refuseBig N (-4) w = some (1000000000 - -4, zrefM w 4) := fX8_refuseBig_eq N w 4 (by omega) (by omega)
theorem rbM5 (N : Nat) (w : zS) : fX8_refuseBig N (-5) w = some (1000000000 - -5, zrefM w 5) := fX8_refuseBig_eq N w 5 (by omega) (by omega)
theorem rbM6 (N : Nat) (w : zS) : fX8_refuseBig N (-6) w = some (1000000000 - -6, zrefM w 6) := fX8_refuseBig_eq N w 6 (by omega) (by omega)
theorem c10 : ¬ (1 : Int32) = 0 := by decide
/-- an index in a count: the reference's test -/
theorem fX8_in0 (N : Nat) (x : Int32) (w : zS) {h : Nat} (hh : h < 2 ^ 30) : fX8_in N x 0 (nI h - 1) w = some (if 0 ≤ x ∧ x < nI h then 1 else 0, w) := by
  rw [fX8_in_eq]
  have h1 : x ≤ nI h - 1 ↔ x < nI h := by
    have := nI_pred_lt hh x
    rw [← Int32.not_lt, this, Int32.not_le]
  simp only [h1]
theorem areTwo_eq (N : Nat) (x y : Int32) (w : zS) {h : Nat} (e : w.1 0 0 1 = nI h) : fX7_areTwoHouses N x y w = some (if (0 ≤ x ∧ x < nI h) ∧ (0 ≤ y ∧ y < nI h) ∧ x ≠ y then 1 else 0, w) := by
  unfold fX7_areTwoHouses
  simp only [fX7_isHouse_eq, zbi, e]
  by_cases c1 : 0 ≤ x ∧ x < nI h
  · by_cases c2 : 0 ≤ y ∧ y < nI h
    · by_cases c3 : x = y
      · simp [c2, c3]
      · simp [c1, c2, c3]
    · simp [c1, c2]
  · simp [c1]
/-- names for what JJ says of the small numbers -/
theorem JJ_b {d h kn ru ne cl nt np : Nat} {σ μ : zS} (h1 : Js d h kn ru ne cl nt np σ μ) : d ≤ 599 ∧ h ≤ 10 ∧ kn ≤ 6 ∧ ru ≤ 3 ∧ ne ≤ 2000 ∧ 30 * cl ≤ d ∧ nt ≤ 400 ∧ 2 * np ≤ nt := h1.2.2.2.2.2.2.2.2.2
theorem JJ_cnt {d h kn ru ne cl nt np : Nat} {σ μ : zS} (h1 : Js d h kn ru ne cl nt np σ μ) : σ.2.2.2 = (nt, np) := h1.2.2.2.2.2.2.2.2.1
theorem i6 (a b : Nat) : nI a * 6 + nI b = nI (6 * a + b) := by rw [show (6 : Int32) = nI 6 from rfl, pk_mul, nI_add, Nat.mul_comm]
theorem i6' (a b : Nat) : (6 : Int32) * nI a + nI b = nI (6 * a + b) := by rw [show (6 : Int32) = nI 6 from rfl, pk_mul, nI_add]
theorem i10 (a b : Nat) : nI a * 10 + nI b = nI (10 * a + b) := by rw [show (10 : Int32) = nI 10 from rfl, pk_mul, nI_add, Nat.mul_comm]
theorem i10' (a b : Nat) : (10 : Int32) * nI a + nI b = nI (10 * a + b) := by rw [show (10 : Int32) = nI 10 from rfl, pk_mul, nI_add]
theorem i20 (a b : Nat) : nI a * 20 + nI b = nI (20 * a + b) := by rw [show (20 : Int32) = nI 20 from rfl, pk_mul, nI_add, Nat.mul_comm]
theorem i20' (a b : Nat) : (20 : Int32) * nI a + nI b = nI (20 * a + b) := by rw [show (20 : Int32) = nI 20 from rfl, pk_mul, nI_add]
theorem i100 (c a b : Nat) : (nI c * 10 + nI a) * 10 + nI b = nI (100 * c + 10 * a + b) := by rw [show (10 : Int32) = nI 10 from rfl, pk_mul, nI_add, pk_mul, nI_add]; congr 1; omega
theorem i100' (c a b : Nat) : (100 : Int32) * nI c + (10 : Int32) * nI a + nI b = nI (100 * c + 10 * a + b) := by rw [show (100 : Int32) = nI 100 from rfl, show (10 : Int32) = nI 10 from rfl, pk_mul, pk_mul, nI_add, nI_add]
theorem debtX (N : Nat) (c a b : Nat) (σ : zS) (hc : c < 6) (ha : a < 10) (hb : b < 10) : fX1_debt N (nI c) (nI a) (nI b) σ = some (σ.1 0 24 (100 * c + 10 * a + b), σ) := by
  unfold fX1_debt
  rw [i100, zld_at (by omega) (by omega)]
theorem debtM (N : Nat) (c a b : Nat) (σ : zS) (hc : c < 6) (ha : a < 10) (hb : b < 10) : fX8_debt N (nI c) (nI a) (nI b) σ = some (σ.1 0 22 (100 * c + 10 * a + b), σ) := by
  unfold fX8_debt
  rw [i100', zld_at (by omega) (by omega)]
