def abd (a b : Nat) : Nat := (a - b) + (b - a)
def nrD (dg dt : Nat → Nat) (i j : Nat) : Bool := decide (abd (dg i) (dt j) ≤ 3)
def apD (dg dt : Nat → Nat) (i j : Nat) : Nat := abd (dg i) (dt j)
theorem nrD_t {dg dt : Nat → Nat} {i j : Nat} : nrD dg dt i j = true ↔ abd (dg i) (dt j) ≤ 3 := by simp [nrD]
theorem apD_3 {dg dt : Nat → Nat} : ∀ i j, nrD dg dt i j = true → apD dg dt i j ≤ 3 := fun _ _ h => nrD_t.mp h
theorem abd_X {a b : Nat} (ha : a ≤ 599) (hb : b ≤ 599) : (if 0 ≤ nI a - nI b then nI a - nI b else 0 - (nI a - nI b)) = nI (abd a b) := by
  unfold abd
  rcases Nat.le_total b a with q | q
  · rw [pk_sub q, if_pos (nI_pos' (by omega))]
    congr 1
    omega
  · by_cases e : a = b
    · subst e
      rw [pk_sub (Nat.le_refl a), if_pos (nI_pos' (by omega))]
      congr 1
      omega
    · have hl : nI a - nI b < 0 := pk_sneg (by omega) (by omega)
      rw [if_neg (Int32.not_le.mpr hl)]
      have : (0 : Int32) - (nI a - nI b) = nI b - nI a := by rw [Int32.zero_sub, Int32.neg_sub]
      rw [this, pk_sub q]
      congr 1
      omega
/-- gives and takes as the class has gathered them -/
def MX (w : zS) (n m : Nat) (G T dg dt : Nat → Nat) : Prop := w.1 0 3 4 = nI n ∧ w.1 0 3 5 = nI m ∧ n ≤ 8 ∧ m ≤ 8 ∧ (∀ i, i < n → w.2.2.1 0 20 i = some (G i) ∧ G i < w.2.2.2.1 ∧ w.1 1 (G i) 6 = nI (dg i) ∧ dg i ≤ 599) ∧ ∀ j, j < m → w.2.2.1 0 21 j = some (T j) ∧ T j < w.2.2.2.1 ∧ w.1 1 (T j) 6 = nI (dt j) ∧ dt j ≤ 599
/-- only the matching's longs change -/
def FL (w0 w : zS) : Prop := w.1 = w0.1 ∧ w.2.2 = w0.2.2 ∧ ∀ q c, ¬ (q = 0 ∧ (c = 3 ∨ c = 22 ∨ c = 23)) → w.2.1 q c = w0.2.1 q c
theorem FL_refl (w : zS) : FL w w := ⟨rfl, rfl, fun _ _ _ => rfl⟩
theorem FL_tr {u v w : zS} (h1 : FL u v) (h2 : FL v w) : FL u w := ⟨h2.1.trans h1.1, h2.2.1.trans h1.2.1, fun q c hn => (h2.2.2 q c hn).trans (h1.2.2 q c hn)⟩
theorem FL_st {w0 w : zS} (h : FL w0 w) {c : Nat} (hc : c = 3 ∨ c = 22 ∨ c = 23) (j : Nat) (v : Int64) : FL w0 (zsJ w 0 c j v) := by
  refine ⟨h.1, h.2.1, fun q' c' hn => ?_⟩
  have : ¬ (q' = 0 ∧ c' = c) := fun e => hn ⟨e.1, by rw [e.2]; exact hc⟩
  simp only [zsJ, if_neg this]
  exact h.2.2 q' c' hn
theorem MX_fl {w0 w : zS} {n m : Nat} {G T dg dt : Nat → Nat} (hM : MX w0 n m G T dg dt) (hF : FL w0 w) : MX w n m G T dg dt := by
  unfold MX at hM ⊢
  rw [hF.1, hF.2.1]
  exact hM
section MC
variable {w : zS} {n m : Nat} {G T dg dt : Nat → Nat} {N : Nat}
theorem give_in (hM : MX w n m G T dg dt) {i : Nat} (hi : i < n) : fX4_giveAt N (nI i) w = some (some (G i), w) := by
  obtain ⟨a1, a2, a3, a4, a5, a6⟩ := hM
  unfold fX4_giveAt
  rw [if_neg (nI_pos (by omega)), a1, if_neg (nI_ge hi (by omega)), zldR_at (by omega) (by omega), (a5 i hi).1]
theorem give_out (hM : MX w n m G T dg dt) {i : Nat} (hi : n ≤ i) (hi2 : i < 2 ^ 31) : fX4_giveAt N (nI i) w = some (none, w) := by
  obtain ⟨a1, a2, a3, a4, a5, a6⟩ := hM
  unfold fX4_giveAt
  rw [if_neg (nI_pos hi2), a1, if_pos (nI_le hi hi2)]
theorem take_in (hM : MX w n m G T dg dt) {j : Nat} (hj : j < m) : fX4_takeAt N (nI j) w = some (some (T j), w) := by
  obtain ⟨a1, a2, a3, a4, a5, a6⟩ := hM
  unfold fX4_takeAt
  rw [if_neg (nI_pos (by omega)), a2, if_neg (nI_ge hj (by omega)), zldR_at (by omega) (by omega), (a6 j hj).1]
theorem near_eq (hM : MX w n m G T dg dt) {i j : Nat} (hi : i < n) (hj : j < m) : fX4_areNear N (some (G i)) (some (T j)) w = some (if nrD dg dt i j = true then 1 else 0, w) := by
  obtain ⟨a1, a2, a3, a4, a5, a6⟩ := hM
  obtain ⟨b1, b2, b3, b4⟩ := a5 i hi
  obtain ⟨c1, c2, c3, c4⟩ := a6 j hj
  unfold fX4_areNear
  simp only [zon, zrT, zgT, if_pos b2, if_pos c2, b3, c3, zbi, abd_X b4 c4]
  by_cases q : nrD dg dt i j = true
  · have := nrD_t.mp q
    rw [if_neg (show ¬ (3 : Int32) < nI (abd (dg i) (dt j)) from nI_nlt (a := 3) this (by omega)), if_pos q]
    try rfl
  · have : 3 < abd (dg i) (dt j) := by
      rcases Nat.lt_or_ge 3 (abd (dg i) (dt j)) with z | z
      · exact z
      · exact absurd (nrD_t.mpr z) q
    rw [if_pos (show (3 : Int32) < nI (abd (dg i) (dt j)) from nI_lt (a := 3) this (by unfold abd; omega)), if_neg q]
    try rfl
theorem hasNear_eq (hM : MX w n m G T dg dt) (hN : 1000000000 ≤ N) : ∃ f : Int32, fX4_hasNear N w = some (f, w) ∧ ((f = 0 ∧ ∀ i j, i < n → j < m → nrD dg dt i j = false) ∨ f = 1) := by
  obtain ⟨a1, a2, a3, a4, -⟩ := id hM
  have inn : ∀ (i : Nat) (K : Int32 → zS → Option (Int32 × zS)), i < n → lX4_hasNear_12 N (nI i) K N ((0 : Int32), w) = some (1, w) ∨ ∃ y, lX4_hasNear_12 N (nI i) K N ((0 : Int32), w) = K y w ∧ ∀ j, j < m → nrD dg dt i j = false := by
    intro i K hi
    unfold lX4_hasNear_12
    refine zlp_inv (fun k z => z = (nI k, w) ∧ k ≤ m ∧ ∀ j, j < k → nrD dg dt i j = false) (fun r => r = some (1, w) ∨ ∃ y, r = K y w ∧ ∀ j, j < m → nrD dg dt i j = false) m ?_ N 0 _ ⟨rfl, by omega, fun j hj => by omega⟩ (by omega)
    rintro k z rc ⟨rfl, hk, hp⟩
    simp only [bX4_hasNear_12, a2]
    by_cases c1 : k = m
    · right
      rw [if_pos (nI_le (by omega) (by omega))]
      subst c1
      exact Or.inr ⟨_, rfl, hp⟩
    · have hk2 : k < m := by omega
      rw [if_neg (nI_ge hk2 (by omega)), give_in hM hi]
      simp only [zbi]
      rw [take_in hM hk2]
      simp only []
      rw [near_eq hM hi hk2]
      simp only []
      by_cases q : nrD dg dt i k = true
      · right
        rw [if_pos q, if_neg c10]
        exact Or.inl rfl
      · left
        rw [if_neg q, if_pos rfl, nI_1]
        refine ⟨hk2, _, ⟨rfl, by omega, fun j hj => ?_⟩, rfl⟩
        by_cases e : j = k
        · subst e; simpa using q
        · exact hp j (by omega)
  unfold fX4_hasNear lX4_hasNear_2
  refine zlp_inv (fun k z => z = (nI k, w) ∧ k ≤ n ∧ ∀ i j, i < k → j < m → nrD dg dt i j = false) (fun r => ∃ f : Int32, r = some (f, w) ∧ ((f = 0 ∧ ∀ i j, i < n → j < m → nrD dg dt i j = false) ∨ f = 1)) n ?_ N 0 _ ⟨rfl, by omega, fun i j hi => by omega⟩ (by omega)
  rintro k z rc ⟨rfl, hk, hp⟩
  simp only [bX4_hasNear_2, a1]
  by_cases c1 : k = n
  · right
    rw [if_pos (nI_le (by omega) (by omega))]
    subst c1
    exact ⟨0, rfl, Or.inl ⟨rfl, hp⟩⟩
  · have hk2 : k < n := by omega
    rw [if_neg (nI_ge hk2 (by omega))]
    rcases inn k (fun y7 w8 => rc (nI k + 1, w8)) hk2 with z | ⟨y, z1, z2⟩
    · right
      rw [z]
      exact ⟨1, rfl, Or.inr rfl⟩
    · left
      rw [z1, nI_1]
      refine ⟨hk2, _, ⟨rfl, by omega, fun i j hi hj => ?_⟩, rfl⟩
      by_cases e : i = k
      · subst e; exact z2 j hj
      · exact hp i j (by omega) hj
def bo (o : Option Nat) : Int64 := match o with
  | none => -1
  | some b => lN b
theorem score_eq (hM : MX w n m G T dg dt) {i j : Nat} (hi : i < n) (hj : j < m) : fX4_scoreOf N (nI i) (nI j) w = some (bo (if nrD dg dt i j = true then some (vl (apD dg dt) i j) else none), w) := by
  obtain ⟨a1, a2, a3, a4, a5, a6⟩ := id hM
  obtain ⟨b1, b2, b3, b4⟩ := a5 i hi
  obtain ⟨c1, c2, c3, c4⟩ := a6 j hj
  unfold fX4_scoreOf
  rw [give_in hM hi]
  simp only [zbi]
  rw [take_in hM hj]
  simp only []
  rw [near_eq hM hi hj]
  simp only [fX4_shiftOf]
  by_cases q : nrD dg dt i j = true
  · have q3 := nrD_t.mp q
    rw [if_pos q, if_neg c10, if_pos q]
    simp only [zgT, if_pos b2, if_pos c2, b3, c3, abd_X b4 c4]
    rw [bits4 i (by omega) j (by omega), nI_l (by omega), show (1099511627776 : Int64) = lN 1099511627776 from rfl, show (4294967296 : Int64) = lN 4294967296 from rfl, lN_mul, lN_sub (by omega), lN_add]
    show some (lN _, w) = some (lN _, w)
    congr 3
    unfold vl apD
    congr 1
    rw [Nat.sub_mul]
  · rw [if_neg q, if_pos rfl, if_neg q]
    rfl
end MC
/-- the row of best numbers -/
def RB (w : zS) (m : Nat) (β : Nat → Option Nat) : Prop := ∀ s, s < 2 ^ m → w.2.1 0 22 s = bo (β s)
theorem zsJ_ne (w : zS) {c c' : Nat} (j : Nat) (v : Int64) (h : c' ≠ c) : (zsJ w 0 c j v).2.1 0 c' = w.2.1 0 c' := by
  simp only [zsJ]
  rw [if_neg (fun e => h e.2)]
theorem bo_m1 (o : Option Nat) (h : ∀ b, o = some b → b < 2 ^ 63) : lg_cmp (bo o) (-1) = 0 ↔ o = none := by
  rw [lg_cmp_eq]
  cases o with
  | none => exact ⟨fun _ => rfl, fun _ => rfl⟩
  | some b =>
    constructor
    · intro e
      have := congrArg Int64.toInt e
      have e2 : (bo (some b)).toInt = b := pf_lI (h b rfl)
      rw [e2] at this
      have : (-1 : Int64).toInt = -1 := rfl
      omega
    · intro e; cases e
/-- takes are tried for one set -/
theorem addT {N n m g s : Nat} {G T dg dt : Nat → Nat} {w0 w : zS} {β : Nat → Option Nat} (y : Int32) (hN : 1000000000 ≤ N) (hM : MX w0 n m G T dg dt) (hF : FL w0 w) (hs : s < 2 ^ m) (hb : ∀ u b, u < 2 ^ m → β u = some b → b < 17592186044416) (hR : RB w m β) (h23 : ∀ t, t < m → w.2.1 0 23 t = bo (if nrD dg dt g t = true then some (vl (apD dg dt) g t) else none)) (K : Int32 → zS → Option zS) : ∃ y' w' v, lX4_addGive_18 N y (nI s) K N ((0 : Int32), w) = K y' w' ∧ FL w0 w' ∧ w'.2.1 0 23 = w.2.1 0 23 ∧ w'.2.1 0 3 = w.2.1 0 3 ∧ RB w' m (fun u => if u = s then v else β u) ∧ PA m (nrD dg dt) (apD dg dt) g β s m v := by
  obtain ⟨a1, a2, a3, a4, a5, a6⟩ := id hM
  have p256 := (bits3 m (by omega)).2.1
  unfold lX4_addGive_18
  refine zlp_inv (fun t z => ∃ w1 v, z = (nI t, w1) ∧ t ≤ m ∧ FL w0 w1 ∧ w1.2.1 0 23 = w.2.1 0 23 ∧ w1.2.1 0 3 = w.2.1 0 3 ∧ RB w1 m (fun u => if u = s then v else β u) ∧ PA m (nrD dg dt) (apD dg dt) g β s t v) (fun r => ∃ y' w' v, r = K y' w' ∧ FL w0 w' ∧ w'.2.1 0 23 = w.2.1 0 23 ∧ w'.2.1 0 3 = w.2.1 0 3 ∧ RB w' m (fun u => if u = s then v else β u) ∧ PA m (nrD dg dt) (apD dg dt) g β s m v) m ?_ N 0 _ ⟨w, β s, rfl, by omega, hF, rfl, rfl, fun u hu => ?_, fun b hb' => ⟨b, hb', Nat.le_refl b⟩, fun u b hu => by omega, fun b' hb' => Or.inl hb'⟩ (by omega)
  · rintro t z rc ⟨w1, v, rfl, ht, f1, k23, k3, k22, hP⟩
    have e5 : w1.1 0 3 5 = nI m := by rw [f1.1]; exact a2
    simp only [bX4_addGive_18, e5]
    by_cases c1 : t = m
    · right
      rw [if_pos (nI_le (by omega) (by omega))]
      subst c1
      exact ⟨_, w1, v, rfl, f1, k23, k3, k22, hP⟩
    left
    have ht2 : t < m := by omega
    refine ⟨ht2, ?_⟩
    rw [if_neg (nI_ge ht2 (by omega)), if_neg (show ¬ (8 : Int32) ≤ nI t from nI_ge (b := 8) (by omega) (by omega))]
    have bt := (bits2 s (by omega) t (by omega)).2.2
    rw [bt, nI_1]
    obtain ⟨p1, p2, p3⟩ := id hP
    have skip : (∀ b, s.testBit t = true → nrD dg dt g t = true → β (s - 2 ^ t) = some b → False) → ∃ s', (∃ w1 v, s' = (nI (t + 1), w1) ∧ t + 1 ≤ m ∧ FL w0 w1 ∧ w1.2.1 0 23 = w.2.1 0 23 ∧ w1.2.1 0 3 = w.2.1 0 3 ∧ RB w1 m (fun u => if u = s then v else β u) ∧ PA m (nrD dg dt) (apD dg dt) g β s (t + 1) v) ∧ rc (nI (t + 1), w1) = rc s' := by
      intro hno
      refine ⟨_, ⟨w1, v, rfl, by omega, f1, k23, k3, k22, p1, fun u b hu h1 h2 h3 => ?_, fun b' hb' => ?_⟩, rfl⟩
      · by_cases e : u = t
        · subst e; exact absurd h3 (fun z => hno b h1 h2 z)
        · exact p2 u b (by omega) h1 h2 h3
      · rcases p3 b' hb' with z | ⟨u, b, z1, z2⟩
        · exact Or.inl z
        · exact Or.inr ⟨u, b, by omega, z2⟩
    by_cases c2 : s.testBit t = true
    · obtain ⟨q1, q2, q3⟩ := (bits1 s (by omega) t (by omega)).1 c2
      have ne : ¬ nI (if s.testBit t = true then s - 2 ^ t else s) = nI s := fun e => by
        rw [if_pos c2] at e
        have := (nI_eq (by omega) (by omega)).mp e
        omega
      rw [if_neg ne, if_pos c2]
      have hs' : s - 2 ^ t < 2 ^ m := by omega
      have r22 : w1.2.1 0 22 (s - 2 ^ t) = bo (β (s - 2 ^ t)) := by rw [k22 _ hs']; simp only [if_neg (show ¬ s - 2 ^ t = s by omega)]
      have r22s : w1.2.1 0 22 s = bo v := by rw [k22 s hs]; simp only [if_true]
      simp only [zldJ_at (show t < 8 by omega) (show 8 < 2 ^ 31 by omega), zldJ_at (show s - 2 ^ t < 256 by omega) (show 256 < 2 ^ 31 by omega), zldJ_at (show s < 256 by omega) (show 256 < 2 ^ 31 by omega), k23, h23 t ht2, r22, r22s]
      by_cases c3 : nrD dg dt g t = true
      · have hvl : vl (apD dg dt) g t < 17592186044416 := by
          unfold vl
          have e1 : (256 - apD dg dt g t) * 4294967296 ≤ 256 * 4294967296 := Nat.mul_le_mul_right _ (by omega)
          have e2 : (16 : Nat) ^ (7 - g) ≤ 16 ^ 7 := Nat.pow_le_pow_right (by omega) (by omega)
          have e3 : (8 - t) * 16 ^ (7 - g) ≤ 8 * 16 ^ 7 := Nat.mul_le_mul (by omega) e2
          have e4 : (16 : Nat) ^ 7 = 268435456 := by decide
          omega
        rw [if_pos c3]
        have m1 := (bo_m1 (some (vl (apD dg dt) g t)) (fun b e => by cases e; omega))
        rw [if_neg (fun e => by have := m1.mp e; cases this)]
        cases hc : β (s - 2 ^ t) with
        | none =>
          rw [if_pos ((bo_m1 none (fun b e => by cases e)).mpr rfl)]
          exact skip (fun b _ _ e => by rw [hc] at e; cases e)
        | some b =>
          have hb2 := hb (s - 2 ^ t) b hs' hc
          have m2 := (bo_m1 (some b) (fun b' e => by cases e; omega))
          rw [if_neg (fun e => by have := m2.mp e; cases this), zstJ_at (by omega) (by omega)]
          have hsum : bo (some b) + bo (some (vl (apD dg dt) g t)) = lN (b + vl (apD dg dt) g t) := lN_add _ _
          rw [hsum]
          -- the greater one
          have hv : ∀ x, v = some x → x < 2 ^ 62 := by
            intro x hx
            rcases p3 x hx with z | ⟨u, b1, z1, z2, z3, z4, z5⟩
            · have := hb s x hs z; omega
            · have h1 := hb (s - 2 ^ u) b1 (Nat.lt_of_le_of_lt (Nat.sub_le _ _) hs) z4
              have h2 : vl (apD dg dt) g u < 17592186044416 := by
                unfold vl
                have e1 : (256 - apD dg dt g u) * 4294967296 ≤ 256 * 4294967296 := Nat.mul_le_mul_right _ (by omega)
                have e2 : (16 : Nat) ^ (7 - g) ≤ 16 ^ 7 := Nat.pow_le_pow_right (by omega) (by omega)
                have e3 : (8 - u) * 16 ^ (7 - g) ≤ 8 * 16 ^ 7 := Nat.mul_le_mul (by omega) e2
                have e4 : (16 : Nat) ^ 7 = 268435456 := by decide
                omega
              omega
          obtain ⟨v', ev, pv⟩ : ∃ v', (if lN (b + vl (apD dg dt) g t) < bo v then bo v else lN (b + vl (apD dg dt) g t)) = bo v' ∧ PA m (nrD dg dt) (apD dg dt) g β s (t + 1) v' := by
            cases hvv : v with
            | none =>
              refine ⟨some (b + vl (apD dg dt) g t), ?_, ?_⟩
              · have : ¬ lN (b + vl (apD dg dt) g t) < bo none := by
                  rw [Int64.lt_iff_toInt_lt, pf_lI (by omega)]
                  have : (bo none).toInt = -1 := rfl
                  omega
                rw [if_neg this]
                rfl
              · refine ⟨fun b1 h1 => ?_, fun u b1 hu h1 h2 h3 => ?_, fun b' hb' => ?_⟩
                · obtain ⟨b', z, -⟩ := p1 b1 h1
                  rw [hvv] at z; cases z
                · by_cases e : u = t
                  · subst e
                    rw [hc] at h3
                    cases h3
                    exact ⟨_, rfl, Nat.le_refl _⟩
                  · obtain ⟨b', z, -⟩ := p2 u b1 (by omega) h1 h2 h3
                    rw [hvv] at z; cases z
                · cases hb'
                  exact Or.inr ⟨t, b, by omega, c2, c3, hc, rfl⟩
            | some x =>
              have hx := hv x hvv
              by_cases q : b + vl (apD dg dt) g t < x
              · refine ⟨some x, by rw [if_pos (show lN (b + vl (apD dg dt) g t) < bo (some x) from (pk_lLT (by omega) (by omega)).mpr q)], ?_⟩
                refine ⟨fun b1 h1 => ?_, fun u b1 hu h1 h2 h3 => ?_, fun b' hb' => ?_⟩
                · obtain ⟨b', z, z2⟩ := p1 b1 h1
                  rw [hvv] at z; cases z
                  exact ⟨_, rfl, z2⟩
                · by_cases e : u = t
                  · subst e
                    rw [hc] at h3
                    cases h3
                    exact ⟨_, rfl, by omega⟩
                  · obtain ⟨b', z, z2⟩ := p2 u b1 (by omega) h1 h2 h3
                    rw [hvv] at z; cases z
                    exact ⟨_, rfl, z2⟩
                · rw [← hvv] at hb'
                  rcases p3 b' hb' with z | ⟨u, b1, z1, z2⟩
                  · exact Or.inl z
                  · exact Or.inr ⟨u, b1, by omega, z2⟩
              · refine ⟨some (b + vl (apD dg dt) g t), by rw [if_neg (show ¬ lN (b + vl (apD dg dt) g t) < bo (some x) from fun z => q ((pk_lLT (by omega) (by omega)).mp z))]; rfl, ?_⟩
                refine ⟨fun b1 h1 => ?_, fun u b1 hu h1 h2 h3 => ?_, fun b' hb' => ?_⟩
                · obtain ⟨b', z, z2⟩ := p1 b1 h1
                  rw [hvv] at z; cases z
                  exact ⟨_, rfl, by omega⟩
                · by_cases e : u = t
                  · subst e
                    rw [hc] at h3
                    cases h3
                    exact ⟨_, rfl, Nat.le_refl _⟩
                  · obtain ⟨b', z, z2⟩ := p2 u b1 (by omega) h1 h2 h3
                    rw [hvv] at z; cases z
                    exact ⟨_, rfl, by omega⟩
                · cases hb'
                  exact Or.inr ⟨t, b, by omega, c2, c3, hc, rfl⟩
          rw [ev]
          refine ⟨_, ⟨zsJ w1 0 22 s (bo v'), v', rfl, by omega, FL_st f1 (by omega) _ _, by rw [zsJ_ne _ _ _ (by decide)]; exact k23, by rw [zsJ_ne _ _ _ (by decide)]; exact k3, fun u hu => ?_, pv⟩, rfl⟩
          rw [zsJ_at]
          by_cases e : u = s
          · subst e; simp [pk_uLs]
          · rw [pk_uLn e, k22 u hu]; simp only [if_neg e]
      · rw [if_neg c3, if_pos ((bo_m1 none (fun b e => by cases e)).mpr rfl)]
        exact skip (fun b _ z _ => c3 z)
    · rw [if_pos (show nI (if s.testBit t = true then s - 2 ^ t else s) = nI s by rw [if_neg c2])]
      exact skip (fun b z _ _ => c2 z)
  · by_cases e : u = s
    · subst e; simp only [if_true]; exact hR u hu
    · simp only [if_neg e]; exact hR u hu
