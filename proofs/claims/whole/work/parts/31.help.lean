theorem nI_pred_lt {h : Nat} (hh : h < 2 ^ 30) (x : Int32) : nI h - 1 < x ↔ nI h ≤ x := by
  rw [Int32.lt_iff_toInt_lt, Int32.le_iff_toInt_le, show (1 : Int32) = nI 1 from rfl, pk_sub_toInt hh (by omega), nI_toInt (by omega)]
  omega
theorem fX7_isKind_eq (N : Nat) (x : Int32) (w : zS) : fX7_isKind N x w = some (if 0 ≤ x ∧ x < w.1 0 0 2 then 1 else 0, w) := by
  unfold fX7_isKind
  by_cases h1 : x < 0
  · have h2 : ¬ (0 ≤ x) := Int32.not_le.mpr h1
    simp [h1, h2]
  · have h2 : 0 ≤ x := Int32.not_lt.mp h1
    by_cases h3 : w.1 0 0 2 ≤ x
    · have h4 : ¬ x < w.1 0 0 2 := Int32.not_lt.mpr h3
      simp [h1, h2, h3, h4]
    · have h4 : x < w.1 0 0 2 := Int32.not_le.mp h3
      simp [h1, h2, h3, h4]
theorem fX8_in_eq (N : Nat) (x a b : Int32) (w : zS) : fX8_in N x a b w = some (if a ≤ x ∧ x ≤ b then 1 else 0, w) := by
  unfold fX8_in
  by_cases h1 : x < a
  · have h2 : ¬ (a ≤ x) := Int32.not_le.mpr h1
    simp [h1, h2]
  · have h2 : a ≤ x := Int32.not_lt.mp h1
    by_cases h3 : b < x
    · have h4 : ¬ x ≤ b := Int32.not_le.mpr h3
      simp [h1, h2, h3, h4]
    · have h4 : x ≤ b := Int32.not_lt.mp h3
      simp [h1, h2, h3, h4]
theorem fX8_isHouse_eq (N : Nat) (x : Int32) (w : zS) {h : Nat} (hh : h < 2 ^ 30) (e : w.1 0 0 1 = nI h) : fX8_isHouse N x w = some (if 0 ≤ x ∧ x < nI h then 1 else 0, w) := by
  unfold fX8_isHouse
  rw [fX8_in_eq, e]
  have h1 : x ≤ nI h - 1 ↔ x < nI h := by
    have := nI_pred_lt hh x
    rw [← Int32.not_lt, this, Int32.not_le]
  simp only [zbi, h1]
  split <;> simp
theorem fX8_isKind_eq (N : Nat) (x : Int32) (w : zS) {h : Nat} (hh : h < 2 ^ 30) (e : w.1 0 0 2 = nI h) : fX8_isKind N x w = some (if 0 ≤ x ∧ x < nI h then 1 else 0, w) := by
  unfold fX8_isKind
  rw [fX8_in_eq, e]
  have h1 : x ≤ nI h - 1 ↔ x < nI h := by
    have := nI_pred_lt hh x
    rw [← Int32.not_lt, this, Int32.not_le]
  simp only [zbi, h1]
  split <;> simp
/-- a refusal: its count grows by one -/
def zrefX (σ : zS) (j : Nat) : zS := zsI σ 0 11 j (σ.1 0 11 j + 1)
def zrefM (σ : zS) (j : Nat) : zS := zsI σ 0 26 j (σ.1 0 26 j + 1)
theorem fX7_refuse_eq (N : Nat) (w : zS) (j : Nat) (h1 : 1 ≤ j) (h6 : j ≤ 6) : fX7_refuse N (-(nI j)) w = some (-(nI j), zrefX w j) := by
  rcases (show j = 1 ∨ j = 2 ∨ j = 3 ∨ j = 4 ∨ j = 5 ∨ j = 6 by omega) with rfl | rfl | rfl | rfl | rfl | rfl <;> rfl
theorem fX8_refuse_eq (N : Nat) (w : zS) (j : Nat) (h1 : 1 ≤ j) (h6 : j ≤ 6) : fX8_refuse N (-(nI j)) w = some (-(nI j), zrefM w j) := by
  rcases (show j = 1 ∨ j = 2 ∨ j = 3 ∨ j = 4 ∨ j = 5 ∨ j = 6 by omega) with rfl | rfl | rfl | rfl | rfl | rfl <;> rfl
theorem fX8_refuseBig_eq (N : Nat) (w : zS) (j : Nat) (h1 : 1 ≤ j) (h6 : j ≤ 6) : fX8_refuseBig N (-(nI j)) w = some (1000000000 - -(nI j), zrefM w j) := by
  rcases (show j = 1 ∨ j = 2 ∨ j = 3 ∨ j = 4 ∨ j = 5 ∨ j = 6 by omega) with rfl | rfl | rfl | rfl | rfl | rfl <;> rfl
theorem fX7_refuseAmount_eq (N : Nat) (w : zS) (j : Nat) (h1 : 1 ≤ j) (h6 : j ≤ 6) : fX7_refuseAmount N (-(nI j)) w = some (1000000000 - -(nI j), zrefX w j) := by
  unfold fX7_refuseAmount
  rw [fX7_refuse_eq N w j h1 h6]
  rfl
