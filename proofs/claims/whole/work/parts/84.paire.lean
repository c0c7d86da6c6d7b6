/-! open tellings of a group, in order -/
/-- those among the last j of nt -/
def LL (op : Nat → Bool) (nt : Nat) : Nat → List Nat
  | 0 => []
  | j + 1 => if op (nt - j - 1) = true then (nt - j - 1) :: LL op nt j else LL op nt j
/-- c, and of l as many as 8 in all allow -/
def tk8 (l c : List Nat) : List Nat := c ++ l.take (8 - c.length)
theorem tk8_nil (c : List Nat) : tk8 [] c = c := by simp [tk8]
theorem tk8_full {l c : List Nat} (h : 8 ≤ c.length) : tk8 l c = c := by
  have : 8 - c.length = 0 := by omega
  simp [tk8, this]
theorem tk8_cons {x : Nat} {l c : List Nat} (h : c.length < 8) : tk8 (x :: l) c = tk8 l (c ++ [x]) := by
  unfold tk8
  obtain ⟨k, hk⟩ : ∃ k, 8 - c.length = k + 1 := ⟨8 - c.length - 1, by omega⟩
  have : 8 - (c ++ [x]).length = k := by simp; omega
  rw [hk, this, List.take_succ_cons, List.append_assoc]
  rfl
theorem tk8_len (l : List Nat) {c : List Nat} (h : c.length ≤ 8) : (tk8 l c).length ≤ 8 := by
  unfold tk8
  simp
  omega
/-- what the reference asks of a telling -/
def opM (μ : zS) (g a b k : Nat) (t : Nat) : Bool := decide (μ.1 0 9 t = nI g ∧ μ.1 0 15 t = 0 ∧ μ.1 0 10 t = nI a ∧ μ.1 0 11 t = nI b ∧ μ.1 0 12 t = nI k)
def RLI (row : Nat → Int32) (c : List Nat) : Prop := ∀ i, i < c.length → row i = nI (c.getD i 0)
theorem getD_app {c : List Nat} {x i : Nat} (h : i < c.length) : (c ++ [x]).getD i 0 = c.getD i 0 := by
  simp [List.getD, List.getElem?_append_left h]
theorem getD_last (c : List Nat) (x : Nat) : (c ++ [x]).getD c.length 0 = x := by
  simp [List.getD]
theorem gather27 {N nt g a b k : Nat} {w : zS} (hN : 1000000000 ≤ N) (hnt : nt ≤ 400) (e13 : w.1 0 0 13 = nI nt) : ∃ w', fX8_gather_c27 N (nI g) (nI a) (nI b) (nI k) w = some (nI (tk8 (LL (opM w g a b k) nt nt) []).length, w') ∧ Fm [27] w w' ∧ RLI (w'.1 0 27) (tk8 (LL (opM w g a b k) nt nt) []) := by
  unfold fX8_gather_c27 lX8_gather_c27_6
  refine zlp_inv (fun t z => ∃ w1 c, z = (nI c.length, nI t, w1) ∧ t ≤ nt ∧ c.length ≤ 8 ∧ Fm [27] w w1 ∧ RLI (w1.1 0 27) c ∧ tk8 (LL (opM w g a b k) nt nt) [] = tk8 (LL (opM w g a b k) nt (nt - t)) c) (fun r => ∃ w', r = some (nI (tk8 (LL (opM w g a b k) nt nt) []).length, w') ∧ Fm [27] w w' ∧ RLI (w'.1 0 27) (tk8 (LL (opM w g a b k) nt nt) [])) nt ?_ N 0 _ ⟨w, [], rfl, by omega, by simp, Fm_refl _ _, fun i hi => by simp at hi, rfl⟩ (by omega)
  rintro t z rc ⟨w1, c, rfl, ht, hc, f1, hR, hE⟩
  have k13 : w1.1 0 0 13 = nI nt := by rw [f1.2 0 0 (by decide)]; exact e13
  simp only [bX8_gather_c27_6, k13]
  by_cases c1 : t = nt
  · right
    rw [if_pos (nI_le (by omega) (by omega))]
    subst c1
    rw [Nat.sub_self] at hE
    rw [hE, LL, tk8_nil]
    exact ⟨w1, rfl, f1, hR⟩
  rw [if_neg (nI_ge (by omega) (by omega))]
  by_cases c2 : c.length = 8
  · right
    rw [if_pos (show (8 : Int32) ≤ nI c.length from nI_le (a := 8) (by omega) (by omega)), hE, tk8_full (by omega)]
    exact ⟨w1, rfl, f1, hR⟩
  left
  refine ⟨by omega, ?_⟩
  have ht2 : t < nt := by omega
  have r9 : w1.1 0 9 = w.1 0 9 := f1.2 0 9 (by decide)
  have r10 : w1.1 0 10 = w.1 0 10 := f1.2 0 10 (by decide)
  have r11 : w1.1 0 11 = w.1 0 11 := f1.2 0 11 (by decide)
  have r12 : w1.1 0 12 = w.1 0 12 := f1.2 0 12 (by decide)
  have r15 : w1.1 0 15 = w.1 0 15 := f1.2 0 15 (by decide)
  rw [if_neg (show ¬ (8 : Int32) ≤ nI c.length from nI_ge (b := 8) (by omega) (by omega))]
  simp only [zld_at (show t < 400 by omega) (show 400 < 2 ^ 31 by omega), r9, r10, r11, r12, r15, nI_1]
  have step : LL (opM w g a b k) nt (nt - t) = if opM w g a b k t = true then t :: LL (opM w g a b k) nt (nt - (t + 1)) else LL (opM w g a b k) nt (nt - (t + 1)) := by
    rw [show nt - t = (nt - (t + 1)) + 1 by omega]
    simp only [LL]
    rw [show nt - (nt - (t + 1)) - 1 = t by omega]
  have skip : opM w g a b k t = false → ∃ s', (∃ w1 c, s' = (nI c.length, nI (t + 1), w1) ∧ t + 1 ≤ nt ∧ c.length ≤ 8 ∧ Fm [27] w w1 ∧ RLI (w1.1 0 27) c ∧ tk8 (LL (opM w g a b k) nt nt) [] = tk8 (LL (opM w g a b k) nt (nt - (t + 1))) c) ∧ rc (nI c.length, nI (t + 1), w1) = rc s' := by
    intro ho
    rw [ho] at step
    simp only [if_neg (show ¬ false = true by decide)] at step
    exact ⟨_, ⟨w1, c, rfl, by omega, hc, f1, hR, by rw [hE, step]⟩, rfl⟩
  by_cases q1 : w.1 0 9 t = nI g
  · by_cases q2 : w.1 0 15 t = 0
    · by_cases q3 : w.1 0 10 t = nI a
      · by_cases q4 : w.1 0 11 t = nI b
        · by_cases q5 : w.1 0 12 t = nI k
          · rw [if_pos q1, if_pos q2, if_pos q3, if_pos q4, if_pos q5, zst_at (by omega) (by omega)]
            have ho : opM w g a b k t = true := by simp [opM, q1, q2, q3, q4, q5]
            rw [ho] at step
            simp only [if_true] at step
            refine ⟨_, ⟨zsI w1 0 27 c.length (nI t), c ++ [t], by simp, by omega, by simp; omega, Fm_st f1 (by decide) _ _, fun i hi => ?_, by rw [hE, step, tk8_cons (by omega)]⟩, rfl⟩
            rw [zsI_at]
            simp at hi
            by_cases e : i = c.length
            · subst e; rw [pk_us, getD_last]
            · rw [pk_un e, getD_app (by omega)]; exact hR i (by omega)
          · rw [if_pos q1, if_pos q2, if_pos q3, if_pos q4, if_neg q5]
            exact skip (by simp [opM, q5])
        · rw [if_pos q1, if_pos q2, if_pos q3, if_neg q4]
          exact skip (by simp [opM, q4])
      · rw [if_pos q1, if_pos q2, if_neg q3]
        exact skip (by simp [opM, q3])
    · rw [if_pos q1, if_neg q2]
      exact skip (by simp [opM, q2])
  · rw [if_neg q1]
    exact skip (by simp [opM, q1])
theorem gather28 {N nt g a b k : Nat} {w : zS} (hN : 1000000000 ≤ N) (hnt : nt ≤ 400) (e13 : w.1 0 0 13 = nI nt) : ∃ w', fX8_gather_c28 N (nI g) (nI a) (nI b) (nI k) w = some (nI (tk8 (LL (opM w g a b k) nt nt) []).length, w') ∧ Fm [28] w w' ∧ RLI (w'.1 0 28) (tk8 (LL (opM w g a b k) nt nt) []) := by
  unfold fX8_gather_c28 lX8_gather_c28_6
  refine zlp_inv (fun t z => ∃ w1 c, z = (nI c.length, nI t, w1) ∧ t ≤ nt ∧ c.length ≤ 8 ∧ Fm [28] w w1 ∧ RLI (w1.1 0 28) c ∧ tk8 (LL (opM w g a b k) nt nt) [] = tk8 (LL (opM w g a b k) nt (nt - t)) c) (fun r => ∃ w', r = some (nI (tk8 (LL (opM w g a b k) nt nt) []).length, w') ∧ Fm [28] w w' ∧ RLI (w'.1 0 28) (tk8 (LL (opM w g a b k) nt nt) [])) nt ?_ N 0 _ ⟨w, [], rfl, by omega, by simp, Fm_refl _ _, fun i hi => by simp at hi, rfl⟩ (by omega)
  rintro t z rc ⟨w1, c, rfl, ht, hc, f1, hR, hE⟩
  have k13 : w1.1 0 0 13 = nI nt := by rw [f1.2 0 0 (by decide)]; exact e13
  simp only [bX8_gather_c28_6, k13]
  by_cases c1 : t = nt
  · right
    rw [if_pos (nI_le (by omega) (by omega))]
    subst c1
    rw [Nat.sub_self] at hE
    rw [hE, LL, tk8_nil]
    exact ⟨w1, rfl, f1, hR⟩
  rw [if_neg (nI_ge (by omega) (by omega))]
  by_cases c2 : c.length = 8
  · right
    rw [if_pos (show (8 : Int32) ≤ nI c.length from nI_le (a := 8) (by omega) (by omega)), hE, tk8_full (by omega)]
    exact ⟨w1, rfl, f1, hR⟩
  left
  refine ⟨by omega, ?_⟩
  have ht2 : t < nt := by omega
  have r9 : w1.1 0 9 = w.1 0 9 := f1.2 0 9 (by decide)
  have r10 : w1.1 0 10 = w.1 0 10 := f1.2 0 10 (by decide)
  have r11 : w1.1 0 11 = w.1 0 11 := f1.2 0 11 (by decide)
  have r12 : w1.1 0 12 = w.1 0 12 := f1.2 0 12 (by decide)
  have r15 : w1.1 0 15 = w.1 0 15 := f1.2 0 15 (by decide)
  rw [if_neg (show ¬ (8 : Int32) ≤ nI c.length from nI_ge (b := 8) (by omega) (by omega))]
  simp only [zld_at (show t < 400 by omega) (show 400 < 2 ^ 31 by omega), r9, r10, r11, r12, r15, nI_1]
  have step : LL (opM w g a b k) nt (nt - t) = if opM w g a b k t = true then t :: LL (opM w g a b k) nt (nt - (t + 1)) else LL (opM w g a b k) nt (nt - (t + 1)) := by
    rw [show nt - t = (nt - (t + 1)) + 1 by omega]
    simp only [LL]
    rw [show nt - (nt - (t + 1)) - 1 = t by omega]
  have skip : opM w g a b k t = false → ∃ s', (∃ w1 c, s' = (nI c.length, nI (t + 1), w1) ∧ t + 1 ≤ nt ∧ c.length ≤ 8 ∧ Fm [28] w w1 ∧ RLI (w1.1 0 28) c ∧ tk8 (LL (opM w g a b k) nt nt) [] = tk8 (LL (opM w g a b k) nt (nt - (t + 1))) c) ∧ rc (nI c.length, nI (t + 1), w1) = rc s' := by
    intro ho
    rw [ho] at step
    simp only [if_neg (show ¬ false = true by decide)] at step
    exact ⟨_, ⟨w1, c, rfl, by omega, hc, f1, hR, by rw [hE, step]⟩, rfl⟩
  by_cases q1 : w.1 0 9 t = nI g
  · by_cases q2 : w.1 0 15 t = 0
    · by_cases q3 : w.1 0 10 t = nI a
      · by_cases q4 : w.1 0 11 t = nI b
        · by_cases q5 : w.1 0 12 t = nI k
          · rw [if_pos q1, if_pos q2, if_pos q3, if_pos q4, if_pos q5, zst_at (by omega) (by omega)]
            have ho : opM w g a b k t = true := by simp [opM, q1, q2, q3, q4, q5]
            rw [ho] at step
            simp only [if_true] at step
            refine ⟨_, ⟨zsI w1 0 28 c.length (nI t), c ++ [t], by simp, by omega, by simp; omega, Fm_st f1 (by decide) _ _, fun i hi => ?_, by rw [hE, step, tk8_cons (by omega)]⟩, rfl⟩
            rw [zsI_at]
            simp at hi
            by_cases e : i = c.length
            · subst e; rw [pk_us, getD_last]
            · rw [pk_un e, getD_app (by omega)]; exact hR i (by omega)
          · rw [if_pos q1, if_pos q2, if_pos q3, if_pos q4, if_neg q5]
            exact skip (by simp [opM, q5])
        · rw [if_pos q1, if_pos q2, if_pos q3, if_neg q4]
          exact skip (by simp [opM, q4])
      · rw [if_pos q1, if_pos q2, if_neg q3]
        exact skip (by simp [opM, q3])
    · rw [if_pos q1, if_neg q2]
      exact skip (by simp [opM, q2])
  · rw [if_neg q1]
    exact skip (by simp [opM, q1])
/-- gives and takes as the reference has gathered them -/
def MM (w : zS) (n m : Nat) (G T dg dt : Nat → Nat) : Prop := n ≤ 8 ∧ m ≤ 8 ∧ (∀ i, i < n → w.1 0 27 i = nI (G i) ∧ G i < 400 ∧ w.1 0 14 (G i) = nI (dg i) ∧ dg i ≤ 599) ∧ ∀ j, j < m → w.1 0 28 j = nI (T j) ∧ T j < 400 ∧ w.1 0 14 (T j) = nI (dt j) ∧ dt j ≤ 599
theorem worth_eq {N n m i j : Nat} {G T dg dt : Nat → Nat} {w : zS} (hM : MM w n m G T dg dt) (hi : i < n) (hj : j < m) : fX8_worthOf N (nI i) (nI j) w = some (if nrD dg dt i j = true then nI (1000 - apD dg dt i j) else -1, w) := by
  obtain ⟨a3, a4, a5, a6⟩ := hM
  obtain ⟨b1, b2, b3, b4⟩ := a5 i hi
  obtain ⟨c1, c2, c3, c4⟩ := a6 j hj
  unfold fX8_worthOf
  simp only [zld_at (show i < 8 by omega) (show 8 < 2 ^ 31 by omega), b1, zld_at b2 (show 400 < 2 ^ 31 by omega), b3, zld_at (show j < 8 by omega) (show 8 < 2 ^ 31 by omega), c1, zld_at c2 (show 400 < 2 ^ 31 by omega), c3]
  have k1 : abd (dg i) (dt j) ≤ 599 := by unfold abd; omega
  have fin : (if nI (abd (dg i) (dt j)) ≤ 3 then some ((1000 : Int32) - nI (abd (dg i) (dt j)), w) else some (-1, w)) = some (if nrD dg dt i j = true then nI (1000 - apD dg dt i j) else -1, w) := by
    by_cases q : nrD dg dt i j = true
    · have q3 := nrD_t.mp q
      rw [if_pos (show nI (abd (dg i) (dt j)) ≤ 3 from nI_le (b := 3) q3 (by omega)), if_pos q, show (1000 : Int32) = nI 1000 from rfl, pk_sub (by omega)]
      rfl
    · have q3 : ¬ abd (dg i) (dt j) ≤ 3 := fun z => q (nrD_t.mpr z)
      rw [if_neg (show ¬ nI (abd (dg i) (dt j)) ≤ 3 from fun z => q3 ((nI_leI (b := 3) (by omega) (by omega)).mp z)), if_neg q]
  rw [← fin]
  by_cases q : 0 ≤ nI (dg i) - nI (dt j)
  · have e : nI (dg i) - nI (dt j) = nI (abd (dg i) (dt j)) := by have := abd_X b4 c4; rw [if_pos q] at this; exact this
    rw [if_pos q, e]
  · have e : -(nI (dg i) - nI (dt j)) = nI (abd (dg i) (dt j)) := by have := abd_X b4 c4; rw [if_neg q, Int32.zero_sub] at this; exact this
    rw [if_neg q, e]
/-- the reference's table -/
def RT (w : zS) (n m : Nat) (nr : Nat → Nat → Bool) (ap : Nat → Nat → Nat) (i : Nat) : Prop := ∀ U, U < 2 ^ m → w.1 0 29 (256 * i + U) = nI (Bf n m nr ap (n - i) U)
theorem Bf_bd {n m : Nat} {nr : Nat → Nat → Bool} {ap : Nat → Nat → Nat} (hn : n ≤ 8) (hm : m ≤ 8) (hap : ∀ i j, nr i j = true → ap i j ≤ 3) {r : Nat} (hr : r ≤ n) (U : Nat) : Bf n m nr ap r U ≤ 8000 := by
  obtain ⟨c, a, C, d1, -, -, -, d5⟩ := (SB (ap := ap) (nr := nr) hn hm hap r hr U).1
  omega
theorem i256 (a b : Nat) : (256 : Int32) * nI a + nI b = nI (256 * a + b) := by rw [show (256 : Int32) = nI 256 from rfl, pk_mul, nI_add]
