/-! PURE: loops whose states are known one by one -/
theorem zlp_for {S α : Type} {b : (S → Option α) → S → Option α} {st : Nat → S} {E : Nat} {r : Option α} (hs : ∀ i, i < E → ∀ rc, b rc (st i) = rc (st (i + 1))) (he : ∀ rc, b rc (st E) = r) : ∀ (n i : Nat), i ≤ E → E - i < n → zlp b n (st i) = r := by
  intro n
  induction n with
  | zero => intro i _ h; omega
  | succ n ih =>
    intro i hi h
    show b (zlp b n) (st i) = r
    rcases Nat.lt_or_ge i E with q | q
    · rw [hs i q]; exact ih (i + 1) q (by omega)
    · have : i = E := by omega
      subst this
      exact he _
/-- a sum over the first n -/
def zsum (f : Nat → Int32) : Nat → Int32
  | 0 => 0
  | n + 1 => zsum f n + f n
theorem zsum_congr {f g : Nat → Int32} {n : Nat} (h : ∀ i, i < n → f i = g i) : zsum f n = zsum g n := by
  induction n with
  | zero => rfl
  | succ n ih => simp only [zsum]; rw [ih (fun i hi => h i (by omega)), h n (by omega)]
theorem zld_at {α : Type} {σ : zS} {c n j : Nat} {k : Int32 → Option α} (hj : j < n) (hn : n < 2 ^ 31) : zld σ c n (nI j) k = k (σ.1 0 c j) := by
  unfold zld
  rw [if_neg (nI_in hj hn), nI_clamp (by omega)]
theorem zst_at {α : Type} {σ : zS} {c n j : Nat} {v : Int32} {k : zS → Option α} (hj : j < n) (hn : n < 2 ^ 31) : zst σ c n (nI j) v k = k (zsI σ 0 c j v) := by
  unfold zst
  rw [if_neg (nI_in hj hn), nI_clamp (by omega)]
theorem zldJ_at {α : Type} {σ : zS} {c n j : Nat} {k : Int64 → Option α} (hj : j < n) (hn : n < 2 ^ 31) : zldJ σ c n (nI j) k = k (σ.2.1 0 c j) := by
  unfold zldJ
  rw [if_neg (nI_in hj hn), nI_clamp (by omega)]
theorem zstJ_at {α : Type} {σ : zS} {c n j : Nat} {v : Int64} {k : zS → Option α} (hj : j < n) (hn : n < 2 ^ 31) : zstJ σ c n (nI j) v k = k (zsJ σ 0 c j v) := by
  unfold zstJ
  rw [if_neg (nI_in hj hn), nI_clamp (by omega)]
theorem zldR_at {α : Type} {σ : zS} {c n j : Nat} {k : Option Nat → Option α} (hj : j < n) (hn : n < 2 ^ 31) : zldR σ c n (nI j) k = k (σ.2.2.1 0 c j) := by
  unfold zldR
  rw [if_neg (nI_in hj hn), nI_clamp (by omega)]
theorem fX7_isHouse_eq (N : Nat) (x : Int32) (w : zS) : fX7_isHouse N x w = some (if 0 ≤ x ∧ x < w.1 0 0 1 then 1 else 0, w) := by
  unfold fX7_isHouse
  by_cases h1 : x < 0
  · have h2 : ¬ (0 ≤ x) := Int32.not_le.mpr h1
    simp [h1, h2]
  · have h2 : 0 ≤ x := Int32.not_lt.mp h1
    by_cases h3 : w.1 0 0 1 ≤ x
    · have h4 : ¬ x < w.1 0 0 1 := Int32.not_lt.mpr h3
      simp [h1, h2, h3, h4]
    · have h4 : x < w.1 0 0 1 := Int32.not_le.mp h3
      simp [h1, h2, h3, h4]
