def Jd1 (h : Nat) (de : Nat → Int32) : Prop := ∀ k a b : Nat, a < 10 → b < 10 → ∃ x : Nat, x ≤ 100000 ∧ de (100 * k + 10 * a + b) = nI x ∧ (h ≤ a ∨ h ≤ b ∨ a = b → x = 0)
theorem Jd_D {h : Nat} {de : Nat → Int32} (hJ : Jd1 h de) (c : Nat) : ∃ D, DB de c D ∧ ∀ a b, h ≤ a ∨ h ≤ b ∨ a = b → D a b = 0 := by
  refine ⟨fun a b => if a < 10 ∧ b < 10 then (de (100 * c + 10 * a + b)).toNatClampNeg else 0, ⟨fun a b ha hb => ?_, fun a b => ?_⟩, fun a b hab => ?_⟩
  · obtain ⟨x, h1, h2, h3⟩ := hJ c a b ha hb
    simp only [if_pos (show a < 10 ∧ b < 10 from ⟨ha, hb⟩), h2, nI_clamp (show x < 2 ^ 31 by omega)]
  · by_cases q : a < 10 ∧ b < 10
    · obtain ⟨x, h1, h2, h3⟩ := hJ c a b q.1 q.2
      simp only [if_pos q, h2, nI_clamp (show x < 2 ^ 31 by omega)]
      exact h1
    · simp only [if_neg q]; omega
  · by_cases q : a < 10 ∧ b < 10
    · obtain ⟨x, h1, h2, h3⟩ := hJ c a b q.1 q.2
      simp only [if_pos q, h2, nI_clamp (show x < 2 ^ 31 by omega)]
      exact h3 hab
    · simp only [if_neg q]
def nx (R : Nat → Nat) (n i : Nat) : Nat := if i + 1 < n then R (i + 1) else R 0
def mnR (D : Nat → Nat → Nat) (R : Nat → Nat) (n : Nat) : Nat → Nat
  | 0 => 100000
  | i + 1 => min (mnR D R n i) (D (R i) (nx R n i))
def rwL (row : Nat → Int32) (c : Nat) (R : Nat → Nat) (n l : Nat) : Nat → Nat → Int32
  | 0 => row
  | i + 1 => upd (rwL row c R n l i) (100 * c + 10 * R i + nx R n i) (rwL row c R n l i (100 * c + 10 * R i + nx R n i) - nI l)
theorem mnR_le (D : Nat → Nat → Nat) (R : Nat → Nat) (n : Nat) : ∀ m i, i < m → mnR D R n m ≤ D (R i) (nx R n i) := by
  intro m
  induction m with
  | zero => intro i h; omega
  | succ m ih =>
    intro i h
    simp only [mnR]
    by_cases e : i = m
    · subst e; exact Nat.min_le_right _ _
    · exact Nat.le_trans (Nat.min_le_left _ _) (ih i (by omega))
theorem mnR_bd (D : Nat → Nat → Nat) (R : Nat → Nat) (n : Nat) : ∀ m, mnR D R n m ≤ 100000 := by
  intro m
  induction m with
  | zero => simp [mnR]
  | succ m ih => simp only [mnR]; exact Nat.le_trans (Nat.min_le_left _ _) ih
theorem mnR_at (D : Nat → Nat → Nat) (R : Nat → Nat) (n : Nat) : ∀ m, mnR D R n m = 100000 ∨ ∃ i, i < m ∧ mnR D R n m = D (R i) (nx R n i) := by
  intro m
  induction m with
  | zero => left; rfl
  | succ m ih =>
    simp only [mnR]
    rcases Nat.le_total (mnR D R n m) (D (R m) (nx R n m)) with q | q
    · rw [Nat.min_eq_left q]
      rcases ih with z | ⟨i, z1, z2⟩
      · left; exact z
      · right; exact ⟨i, by omega, z2⟩
    · rw [Nat.min_eq_right q]
      right; exact ⟨m, by omega, rfl⟩
theorem lessX {N c n : Nat} {D : Nat → Nat → Nat} {R : Nat → Nat} {w : zS} (hN : 1000000000 ≤ N) (hc : c < 6) (hn : n ≤ 10) (hn0 : n ≠ 0) (hD : DB (w.1 0 24) c D) (h4 : w.1 0 4 4 = nI n) (h25 : Rw w 25 n R) (hR : ∀ i, i < n → R i < 10) : fX1_lessenRing N (nI c) w = some (zrow w 24 (rwL (w.1 0 24) c R n (mnR D R n n) n)) := by
  have hx : ∀ i, i < n → nx R n i < 10 := by
    intro i hi
    unfold nx
    split
    · exact hR _ (by omega)
    · exact hR 0 (by omega)
  have aft : ∀ (w1 : zS), w1.1 0 4 4 = nI n → Rw w1 25 n R → ∀ i, i < n → fX1_afterInRing N (nI i) w1 = some (nI (nx R n i), w1) := by
    intro w1 k4 k25 i hi
    unfold fX1_afterInRing nx
    rw [k4, nI_1]
    by_cases q : i + 1 < n
    · rw [if_neg (nI_ge q (by omega)), zld_at (by omega) (by omega), k25 (i + 1) q, if_pos q]
    · rw [if_pos (nI_le (by omega) (by omega)), show (0 : Int32) = nI 0 from rfl, zld_at (by omega) (by omega), k25 0 (by omega), if_neg q]
  unfold fX1_lessenRing
  have l1 : ∀ K : Int32 → Int32 → zS → Option zS, lX1_lessenRing_5 N (nI c) K N ((100000 : Int32), (0 : Int32), w) = K (nI (mnR D R n n)) (nI n) w := by
    intro K
    unfold lX1_lessenRing_5
    refine zlp_for (st := fun i => (nI (mnR D R n i), nI i, w)) (E := n) (fun i hi rc => ?_) (fun rc => ?_) N 0 (by omega) (by omega)
    · have m1 := mnR_bd D R n i
      have m2 := hD.2 (R i) (nx R n i)
      simp only [bX1_lessenRing_5, h4, if_neg (nI_ge hi (show n < 2 ^ 31 by omega)), zld_at (show i < 10 by omega) (show 10 < 2 ^ 31 by omega), h25 i hi, aft w h4 h25 i hi, zbi, debtX N c (R i) (nx R n i) w hc (hR i hi) (hx i hi), hD.1 (R i) (nx R n i) (hR i hi) (hx i hi), nI_1, mnR]
      by_cases q : D (R i) (nx R n i) < mnR D R n i
      · rw [if_pos (nI_lt q (by omega)), Nat.min_eq_right (by omega)]
      · rw [if_neg (nI_nlt (by omega) (by omega)), Nat.min_eq_left (by omega)]
    · simp only [bX1_lessenRing_5, h4, if_pos (nI_le (Nat.le_refl n) (show n < 2 ^ 31 by omega))]
  rw [l1]
  unfold lX1_lessenRing_42
  have := zlp_for (st := fun i => (nI i, zrow w 24 (rwL (w.1 0 24) c R n (mnR D R n n) i))) (E := n) (b := fun rc s => bX1_lessenRing_42 N (nI c) (nI (mnR D R n n)) (fun y13 w14 => some w14) rc s.1 s.2) (r := some (zrow w 24 (rwL (w.1 0 24) c R n (mnR D R n n) n))) (fun i hi rc => ?_) (fun rc => ?_) N 0 (by omega) (by omega)
  · have e : zrow w 24 (rwL (w.1 0 24) c R n (mnR D R n n) 0) = w := zrow_self w 24
    rw [e] at this
    exact this
  · have k4 : ∀ f, (zrow w 24 f).1 0 4 4 = nI n := fun f => by rw [zrow_ne w f (by omega)]; exact h4
    have k25 : ∀ f, Rw (zrow w 24 f) 25 n R := fun f j hj => by rw [zrow_ne w f (by omega)]; exact h25 j hj
    have ri := hR i hi
    have xi := hx i hi
    simp only [bX1_lessenRing_42, k4, if_neg (nI_ge hi (show n < 2 ^ 31 by omega)), zld_at (show i < 10 by omega) (show 10 < 2 ^ 31 by omega), k25 _ i hi, aft _ (k4 _) (k25 _) i hi, zbi, fX1_add, i100, zld_at (show 100 * c + 10 * R i + nx R n i < 600 by omega) (show 600 < 2 ^ 31 by omega), zst_at (show 100 * c + 10 * R i + nx R n i < 600 by omega) (show 600 < 2 ^ 31 by omega), zbv, zrow_st, zrow_at, nI_1, ← Int32.sub_eq_add_neg]
    rfl
  · have k4 : ∀ f, (zrow w 24 f).1 0 4 4 = nI n := fun f => by rw [zrow_ne w f (by omega)]; exact h4
    simp only [bX1_lessenRing_42, k4, if_pos (nI_le (Nat.le_refl n) (show n < 2 ^ 31 by omega))]
theorem lessM {N c n : Nat} {D : Nat → Nat → Nat} {R : Nat → Nat} {w : zS} (hN : 1000000000 ≤ N) (hc : c < 6) (hn : n ≤ 10) (hn0 : n ≠ 0) (hD : DB (w.1 0 22) c D) (h38 : w.1 0 0 38 = nI n) (h30 : Rw w 30 n R) (hR : ∀ i, i < n → R i < 10) (x : Int32) (K : Int32 → zS → Option (Int32 × zS)) : lX8_off_34 N (nI c) x (fun y10 y11 w12 => lX8_off_93 N (nI c) x y10 K N ((0 : Int32), w12)) N ((100000 : Int32), (0 : Int32), w) = K (nI n) (zrow w 22 (rwL (w.1 0 22) c R n (mnR D R n n) n)) := by
  have hx : ∀ i, i < n → nx R n i < 10 := by
    intro i hi
    unfold nx
    split
    · exact hR _ (by omega)
    · exact hR 0 (by omega)
  have hm : ∀ i, i < n → nI (i + 1) - nI (i + 1) / nI n * nI n = nI (if i + 1 < n then i + 1 else 0) := by
    intro i hi
    rw [pk_rem (by omega) (by omega) (by omega)]
    congr 1
    by_cases q : i + 1 < n
    · rw [if_pos q, Nat.mod_eq_of_lt q]
    · rw [if_neg q, show i + 1 = n by omega, Nat.mod_self]
  have hm2 : ∀ i, i < n → (if i + 1 < n then i + 1 else 0) < n := by
    intro i hi
    split <;> omega
  have hr2 : ∀ i, i < n → R (if i + 1 < n then i + 1 else 0) = nx R n i := by
    intro i hi
    unfold nx
    split <;> rfl
  have nz : ¬ nI n = 0 := fun e => hn0 ((nI_eq0 (by omega)).mp e)
  have l1 : ∀ K : Int32 → Int32 → zS → Option (Int32 × zS), lX8_off_34 N (nI c) x K N ((100000 : Int32), (0 : Int32), w) = K (nI (mnR D R n n)) (nI n) w := by
    intro K
    unfold lX8_off_34
    refine zlp_for (st := fun i => (nI (mnR D R n i), nI i, w)) (E := n) (fun i hi rc => ?_) (fun rc => ?_) N 0 (by omega) (by omega)
    · have m1 := mnR_bd D R n i
      have m2 := hD.2 (R i) (nx R n i)
      have q1 := hm2 i hi
      simp only [bX8_off_34, h38, if_neg (nI_ge hi (show n < 2 ^ 31 by omega)), zld_at (show i < 10 by omega) (show 10 < 2 ^ 31 by omega), h30 i hi, znz, if_neg nz, nI_1, hm i hi, zld_at (show (if i + 1 < n then i + 1 else 0) < 10 by omega) (show 10 < 2 ^ 31 by omega), h30 _ q1, hr2 i hi, zbi, debtM N c (R i) (nx R n i) w hc (hR i hi) (hx i hi), hD.1 (R i) (nx R n i) (hR i hi) (hx i hi), mnR]
      by_cases q : mnR D R n i ≤ D (R i) (nx R n i)
      · rw [if_pos (nI_le q (by omega)), Nat.min_eq_left (by omega)]
      · rw [if_neg (nI_ge (by omega) (by omega)), Nat.min_eq_right (by omega)]
    · simp only [bX8_off_34, h38, if_pos (nI_le (Nat.le_refl n) (show n < 2 ^ 31 by omega))]
  rw [l1]
  unfold lX8_off_93
  have := zlp_for (st := fun i => (nI i, zrow w 22 (rwL (w.1 0 22) c R n (mnR D R n n) i))) (E := n) (b := fun rc s => bX8_off_93 N (nI c) x (nI (mnR D R n n)) K rc s.1 s.2) (r := K (nI n) (zrow w 22 (rwL (w.1 0 22) c R n (mnR D R n n) n))) (fun i hi rc => ?_) (fun rc => ?_) N 0 (by omega) (by omega)
  · have e : zrow w 22 (rwL (w.1 0 22) c R n (mnR D R n n) 0) = w := zrow_self w 22
    rw [e] at this
    exact this
  · have k4 : ∀ f, (zrow w 22 f).1 0 0 38 = nI n := fun f => by rw [zrow_ne w f (by omega)]; exact h38
    have k25 : ∀ f, Rw (zrow w 22 f) 30 n R := fun f j hj => by rw [zrow_ne w f (by omega)]; exact h30 j hj
    have ri := hR i hi
    have xi := hx i hi
    have q1 := hm2 i hi
    simp only [bX8_off_93, k4, if_neg (nI_ge hi (show n < 2 ^ 31 by omega)), zld_at (show i < 10 by omega) (show 10 < 2 ^ 31 by omega), k25 _ i hi, znz, if_neg nz, nI_1, hm i hi, zld_at (show (if i + 1 < n then i + 1 else 0) < 10 by omega) (show 10 < 2 ^ 31 by omega), k25 _ _ q1, hr2 i hi, i100', zld_at (show 100 * c + 10 * R i + nx R n i < 600 by omega) (show 600 < 2 ^ 31 by omega), zst_at (show 100 * c + 10 * R i + nx R n i < 600 by omega) (show 600 < 2 ^ 31 by omega), zrow_st, zrow_at]
    rfl
  · have k4 : ∀ f, (zrow w 22 f).1 0 0 38 = nI n := fun f => by rw [zrow_ne w f (by omega)]; exact h38
    simp only [bX8_off_93, k4, if_pos (nI_le (Nat.le_refl n) (show n < 2 ^ 31 by omega))]
