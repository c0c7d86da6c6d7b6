/-! all the groups -/
theorem seq_of {S : Type} (I : Nat → S → Prop) (R : Nat → S → S → Prop) (s0 : S) (h0 : I 0 s0) : ∀ E, (∀ n s, n < E → I n s → ∃ s', I (n + 1) s' ∧ R n s s') → ∃ st : Nat → S, st 0 = s0 ∧ (∀ n, n ≤ E → I n (st n)) ∧ ∀ n, n < E → R n (st n) (st (n + 1)) := by
  intro E
  induction E with
  | zero => intro _; exact ⟨fun _ => s0, rfl, fun n hn => by rw [Nat.le_zero.mp hn]; exact h0, fun n hn => by omega⟩
  | succ E ih =>
    intro hs
    obtain ⟨st, e0, h1, h2⟩ := ih (fun n s hn hi => hs n s (by omega) hi)
    obtain ⟨s', i', r'⟩ := hs E (st E) (by omega) (h1 E (Nat.le_refl E))
    refine ⟨fun n => if n ≤ E then st n else s', ?_, fun n hn => ?_, fun n hn => ?_⟩
    · simp only [Nat.zero_le, if_true]; exact e0
    · by_cases q : n ≤ E
      · simp only [if_pos q]; exact h1 n q
      · simp only [if_neg q]
        rw [show n = E + 1 by omega]; exact i'
    · by_cases q : n + 1 ≤ E
      · simp only [if_pos q, if_pos (show n ≤ E by omega)]; exact h2 n (by omega)
      · have : n = E := by omega
        subst this
        simp only [if_neg q, Nat.le_refl, if_true]
        exact r'
theorem nI_plus (a b : Nat) : nI a + nI b = nI (a + b) := by
  unfold nI
  rw [Int32.ofNat_add]
theorem nI_sub25 {c : Nat} (h : c ≤ 25) : (25 : Int32) - nI c = nI (25 - c) := by
  rw [show (25 : Int32) = nI 25 from rfl]
  apply Int32.toInt_inj.mp
  rw [sub32 (by rw [nI_toInt (by omega), nI_toInt (by omega)]; omega) (by rw [nI_toInt (by omega), nI_toInt (by omega)]; omega), nI_toInt (by omega), nI_toInt (by omega), nI_toInt (by omega)]
  omega
theorem loop_X {N ru : Nat} (hN : 1000000000 ≤ N) (cm : Nat → Nat) (sg : Nat → zS) (h25 : ∀ n, n ≤ 600 → cm n ≤ 25) (hst : ∀ n, n < 600 → (25 ≤ cm n ∧ cm (n + 1) = cm n ∧ sg (n + 1) = sg n) ∨ (cm n < 25 ∧ (sg n).2.2.1 0 19 n = none ∧ cm (n + 1) = cm n ∧ sg (n + 1) = sg n) ∨ (cm n < 25 ∧ ∃ u e, (sg n).2.2.1 0 19 n = some u ∧ fX2_pairGroup N (nI n) (nI ru) (nI (25 - cm n)) (sg n) = some (nI e, sg (n + 1)) ∧ cm (n + 1) = cm n + e)) : lX2_pairUp_8 N (nI ru) (fun y5 y6 w7 => some (y5, w7)) N (nI (cm 0), (0 : Int32), sg 0) = some (nI (cm 600), sg 600) := by
  have stop : ∀ i, i ≤ 600 → 25 ≤ cm i → ∀ j, i + j ≤ 600 → cm (i + j) = cm i ∧ sg (i + j) = sg i := by
    intro i hi hc j
    induction j with
    | zero => intro _; exact ⟨rfl, rfl⟩
    | succ j ih =>
      intro hj
      obtain ⟨y1, y2⟩ := ih (by omega)
      rcases hst (i + j) (by omega) with ⟨-, z1, z2⟩ | ⟨z, -⟩ | ⟨z, -⟩
      · exact ⟨z1.trans y1, z2.trans y2⟩
      · omega
      · omega
  unfold lX2_pairUp_8
  refine zlp_inv (fun i z => z = (nI (cm i), nI i, sg i) ∧ i ≤ 600) (fun r => r = some (nI (cm 600), sg 600)) 600 ?_ N 0 _ ⟨rfl, by omega⟩ (by omega)
  rintro i z rc ⟨rfl, hi⟩
  have h5 := h25 i hi
  simp only [bX2_pairUp_8]
  by_cases c1 : i = 600
  · right
    subst c1
    rw [if_pos (by decide)]
  rw [if_neg (show ¬ (600 : Int32) ≤ nI i from nI_ge (b := 600) (by omega) (by omega))]
  by_cases c2 : 25 ≤ cm i
  · right
    rw [if_pos (show (25 : Int32) ≤ nI (cm i) from nI_le (a := 25) c2 (by omega))]
    obtain ⟨y1, y2⟩ := stop i hi c2 (600 - i) (by omega)
    rw [show i + (600 - i) = 600 by omega] at y1 y2
    rw [y1, y2]
  left
  refine ⟨by omega, ?_⟩
  rw [if_neg (show ¬ (25 : Int32) ≤ nI (cm i) from nI_ge (b := 25) (by omega) (by omega)), zldR_at (by omega) (by omega), nI_1, nI_sub25 h5]
  rcases hst i (by omega) with ⟨y, -⟩ | ⟨-, y1, y2, y3⟩ | ⟨-, u, e, y1, y2, y3⟩
  · omega
  · rw [y1]
    exact ⟨_, ⟨rfl, by omega⟩, by rw [y2, y3]; rfl⟩
  · rw [y1]
    simp only [zon]
    rw [y2]
    simp only [zbi]
    exact ⟨_, ⟨rfl, by omega⟩, by rw [y3, nI_plus]⟩
theorem loops_M {N h kn : Nat} (hN : 1000000000 ≤ N) (hh : h ≤ 10) (hk : kn ≤ 6) (cm : Nat → Nat) (al : Nat → zS) (h25 : ∀ n, n ≤ 600 → cm n ≤ 25) (hr : ∀ n, n ≤ 600 → (al n).1 0 0 1 = nI h ∧ (al n).1 0 0 2 = nI kn) (hst : ∀ a b k, a < 10 → b < 10 → k < 6 → (cm (gix a b k) < 25 ∧ a < h ∧ b < h ∧ k < kn ∧ ∃ e, fX8_pairThose N (nI a) (nI b) (nI k) (nI (25 - cm (gix a b k))) (al (gix a b k)) = some (nI e, al (gix a b k + 1)) ∧ cm (gix a b k + 1) = cm (gix a b k) + e) ∨ (¬ (cm (gix a b k) < 25 ∧ a < h ∧ b < h ∧ k < kn) ∧ cm (gix a b k + 1) = cm (gix a b k) ∧ al (gix a b k + 1) = al (gix a b k))) : lX8_pair_21 N (fun y9 y10 w11 => some (y9, w11)) N (nI (cm 0), (0 : Int32), al 0) = some (nI (cm 600), al 600) := by
  -- where nothing is asked
  have idle : ∀ a b, a < 10 → b < 10 → ∀ k0, (∀ k, k0 ≤ k → k < 6 → ¬ (cm (gix a b k) < 25 ∧ a < h ∧ b < h ∧ k < kn)) → ∀ j, k0 + j ≤ 6 → cm (gix a b (k0 + j)) = cm (gix a b k0) ∧ al (gix a b (k0 + j)) = al (gix a b k0) := by
    intro a b ha hb k0 hz j
    induction j with
    | zero => intro _; exact ⟨rfl, rfl⟩
    | succ j ih =>
      intro hj
      obtain ⟨y1, y2⟩ := ih (by omega)
      rcases hst a b (k0 + j) ha hb (by omega) with ⟨z1, z2, z3, z4, -⟩ | ⟨-, z1, z2⟩
      · exact absurd ⟨z1, z2, z3, z4⟩ (hz (k0 + j) (by omega) (by omega))
      · rw [show gix a b (k0 + (j + 1)) = gix a b (k0 + j) + 1 by unfold gix; omega]
        exact ⟨z1.trans y1, z2.trans y2⟩
  have full : ∀ a b, a < 10 → b < 10 → ∀ k0, k0 ≤ 6 → 25 ≤ cm (gix a b k0) → cm (gix a b 6) = cm (gix a b k0) ∧ al (gix a b 6) = al (gix a b k0) := by
    intro a b ha hb k0 hk0 hc
    have : ∀ j, k0 + j ≤ 6 → cm (gix a b (k0 + j)) = cm (gix a b k0) ∧ al (gix a b (k0 + j)) = al (gix a b k0) := by
      intro j
      induction j with
      | zero => intro _; exact ⟨rfl, rfl⟩
      | succ j ih =>
        intro hj
        obtain ⟨y1, y2⟩ := ih (by omega)
        rcases hst a b (k0 + j) ha hb (by omega) with ⟨z1, -⟩ | ⟨-, z1, z2⟩
        · omega
        · rw [show gix a b (k0 + (j + 1)) = gix a b (k0 + j) + 1 by unfold gix; omega]
          exact ⟨z1.trans y1, z2.trans y2⟩
    have := this (6 - k0) (by omega)
    rw [show k0 + (6 - k0) = 6 by omega] at this
    exact this
  have gb : ∀ a b k, a < 10 → b < 10 → k ≤ 6 → gix a b k ≤ 600 := by intro a b k ha hb hk; unfold gix; omega
  have l42 : ∀ a b, a < h → b < h → ∀ K : Int32 → Int32 → zS → Option (Int32 × zS), ∃ y, lX8_pair_42 N (nI a) (nI b) K N (nI (cm (gix a b 0)), (0 : Int32), al (gix a b 0)) = K (nI (cm (gix a b 6))) y (al (gix a b 6)) := by
    intro a b ha hb K
    unfold lX8_pair_42
    refine zlp_inv (fun k z => z = (nI (cm (gix a b k)), nI k, al (gix a b k)) ∧ k ≤ kn) (fun r => ∃ y, r = K (nI (cm (gix a b 6))) y (al (gix a b 6))) kn ?_ N 0 _ ⟨rfl, by omega⟩ (by omega)
    rintro k z rc ⟨rfl, hk'⟩
    have h5 := h25 _ (gb a b k (by omega) (by omega) (by omega))
    simp only [bX8_pair_42]
    rw [(hr _ (gb a b k (by omega) (by omega) (by omega))).2]
    by_cases c1 : k = kn
    · right
      rw [if_pos (nI_le (by omega) (by omega))]
      obtain ⟨y1, y2⟩ := idle a b (by omega) (by omega) k (fun k' q1 q2 z => by omega) (6 - k) (by omega)
      rw [show k + (6 - k) = 6 by omega] at y1 y2
      rw [y1, y2]
      exact ⟨_, rfl⟩
    rw [if_neg (nI_ge (by omega) (by omega))]
    by_cases c2 : 25 ≤ cm (gix a b k)
    · right
      rw [if_pos (show (25 : Int32) ≤ nI (cm (gix a b k)) from nI_le (a := 25) c2 (by omega))]
      obtain ⟨y1, y2⟩ := full a b (by omega) (by omega) k (by omega) c2
      rw [y1, y2]
      exact ⟨_, rfl⟩
    left
    refine ⟨by omega, ?_⟩
    rw [if_neg (show ¬ (25 : Int32) ≤ nI (cm (gix a b k)) from nI_ge (b := 25) (by omega) (by omega)), nI_sub25 h5, nI_1]
    rcases hst a b k (by omega) (by omega) (by omega) with ⟨-, -, -, -, e, y1, y2⟩ | ⟨z, -⟩
    · rw [y1]
      simp only [zbi]
      have e1 : gix a b (k + 1) = gix a b k + 1 := by unfold gix; omega
      refine ⟨_, ⟨rfl, by omega⟩, ?_⟩
      have := h25 _ (gb a b (k + 1) (by omega) (by omega) (by omega))
      rw [e1] at this ⊢
      rw [y2, nI_plus]
    · exact absurd ⟨by omega, ha, hb, by omega⟩ z
  have row : ∀ a b, a < 10 → b < 10 → ¬ (a < h ∧ b < h) → cm (gix a b 6) = cm (gix a b 0) ∧ al (gix a b 6) = al (gix a b 0) := by
    intro a b ha hb hz
    have := idle a b ha hb 0 (fun k q1 q2 z => hz ⟨z.2.1, z.2.2.1⟩) 6 (by omega)
    exact this
  have nxt : ∀ a b, gix a (b + 1) 0 = gix a b 6 := by intro a b; unfold gix; omega
  have rows : ∀ a, a < 10 → ∀ b0, ¬ (a < h ∧ b0 < h) → ∀ j, b0 + j ≤ 10 → cm (gix a (b0 + j) 0) = cm (gix a b0 0) ∧ al (gix a (b0 + j) 0) = al (gix a b0 0) := by
    intro a ha b0 hz j
    induction j with
    | zero => intro _; exact ⟨rfl, rfl⟩
    | succ j ih =>
      intro hj
      obtain ⟨y1, y2⟩ := ih (by omega)
      obtain ⟨z1, z2⟩ := row a (b0 + j) ha (by omega) (by omega)
      rw [show b0 + (j + 1) = b0 + j + 1 by omega, nxt]
      exact ⟨z1.trans y1, z2.trans y2⟩
  have l31 : ∀ a, a < h → ∀ K : Int32 → Int32 → zS → Option (Int32 × zS), ∃ y, lX8_pair_31 N (nI a) K N (nI (cm (gix a 0 0)), (0 : Int32), al (gix a 0 0)) = K (nI (cm (gix a 10 0))) y (al (gix a 10 0)) := by
    intro a ha K
    unfold lX8_pair_31
    refine zlp_inv (fun b z => z = (nI (cm (gix a b 0)), nI b, al (gix a b 0)) ∧ b ≤ h) (fun r => ∃ y, r = K (nI (cm (gix a 10 0))) y (al (gix a 10 0))) h ?_ N 0 _ ⟨rfl, by omega⟩ (by omega)
    rintro b z rc ⟨rfl, hb'⟩
    simp only [bX8_pair_31]
    rw [(hr (gix a b 0) (by unfold gix; omega)).1]
    by_cases c1 : b = h
    · right
      rw [if_pos (nI_le (by omega) (by omega))]
      obtain ⟨y1, y2⟩ := rows a (by omega) b (by omega) (10 - b) (by omega)
      rw [show b + (10 - b) = 10 by omega] at y1 y2
      rw [y1, y2]
      exact ⟨_, rfl⟩
    left
    refine ⟨by omega, ?_⟩
    rw [if_neg (nI_ge (by omega) (by omega)), nI_1]
    obtain ⟨y, ey⟩ := l42 a b ha (by omega) (fun y3 y4 w5 => rc (y3, nI (b + 1), w5))
    rw [ey]
    exact ⟨_, ⟨rfl, by omega⟩, by rw [nxt]⟩
  have nxa : ∀ a, gix (a + 1) 0 0 = gix a 10 0 := by intro a; unfold gix; omega
  have all : ∀ a0, h ≤ a0 → ∀ j, a0 + j ≤ 10 → cm (gix (a0 + j) 0 0) = cm (gix a0 0 0) ∧ al (gix (a0 + j) 0 0) = al (gix a0 0 0) := by
    intro a0 hz j
    induction j with
    | zero => intro _; exact ⟨rfl, rfl⟩
    | succ j ih =>
      intro hj
      obtain ⟨y1, y2⟩ := ih (by omega)
      have := rows (a0 + j) (by omega) 0 (by omega) 10 (by omega)
      rw [show 0 + 10 = 10 from rfl] at this
      rw [show a0 + (j + 1) = a0 + j + 1 by omega, nxa]
      exact ⟨this.1.trans y1, this.2.trans y2⟩
  unfold lX8_pair_21
  refine zlp_inv (fun a z => z = (nI (cm (gix a 0 0)), nI a, al (gix a 0 0)) ∧ a ≤ h) (fun r => r = some (nI (cm 600), al 600)) h ?_ N 0 _ ⟨rfl, by omega⟩ (by omega)
  rintro a z rc ⟨rfl, ha'⟩
  simp only [bX8_pair_21]
  rw [(hr (gix a 0 0) (by unfold gix; omega)).1]
  by_cases c1 : a = h
  · right
    rw [if_pos (nI_le (by omega) (by omega))]
    obtain ⟨y1, y2⟩ := all a (by omega) (10 - a) (by omega)
    rw [show a + (10 - a) = 10 by omega] at y1 y2
    rw [← y1, ← y2]
    rfl
  left
  refine ⟨by omega, ?_⟩
  rw [if_neg (nI_ge (by omega) (by omega)), nI_1]
  obtain ⟨y, ey⟩ := l31 a (by omega) (fun y6 y7 w8 => rc (y6, nI (a + 1), w8))
  rw [ey]
  exact ⟨_, ⟨rfl, by omega⟩, by rw [nxa]⟩
