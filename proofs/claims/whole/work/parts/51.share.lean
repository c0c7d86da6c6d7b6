/-- turns of a house as a long -/
def tl (μ : zS) (y : Int32) (np i : Nat) : Int64 := (zsum (tz μ (nI i) y) np).toInt64
/-- a house's place in the order of rests -/
def ahd (x : Int32) (P T own : Int64) (t : Int64) (i : Nat) : Int32 := if 0 < lg_cmp (P * t - P * t / T * T) own then 1 else if lg_cmp (P * t - P * t / T * T) own = 0 then (if x ≤ nI i then 0 else 1) else 0
theorem tz_bd {nt np : Nat} {σ μ : zS} (h6 : Jp nt np σ μ) (hnp : np ≤ 200) (x y : Int32) : 0 ≤ (zsum (tz μ x y) np).toInt ∧ (zsum (tz μ x y) np).toInt ≤ 200000 := by
  have key : ∀ n, n ≤ np → 0 ≤ isum (fun i => (tz μ x y i).toInt) n ∧ isum (fun i => (tz μ x y i).toInt) n ≤ 1000 * n := by
    intro n
    induction n with
    | zero => intro _; simp [isum]
    | succ n ih =>
      intro hn
      have := ih (by omega)
      obtain ⟨-, -, ⟨m, hm, -, m2⟩, -⟩ := h6.1 n (by omega)
      have e : 0 ≤ (tz μ x y n).toInt ∧ (tz μ x y n).toInt ≤ 1000 := by
        unfold tz
        split
        · rw [m2, nI_toInt (by omega)]; omega
        · show (0 : Int) ≤ 0 ∧ (0 : Int) ≤ 1000
          omega
      simp only [isum]
      omega
  have := key np (Nat.le_refl np)
  rw [zsum_ofInt, ofInt_bd (by omega) (by omega)]
  omega
theorem lsum_bd {f : Nat → Int64} {n B : Nat} (hn : n ≤ 10) (hB : B ≤ 1000000) (h : ∀ i, i < n → 0 ≤ (f i).toInt ∧ (f i).toInt ≤ B) : 0 ≤ (lsum f n).toInt ∧ (lsum f n).toInt ≤ 10000000 := by
  have key : ∀ m, m ≤ n → 0 ≤ isum (fun i => (f i).toInt) m ∧ isum (fun i => (f i).toInt) m ≤ 1000000 * m := by
    intro m
    induction m with
    | zero => intro _; simp [isum]
    | succ m ih =>
      intro hm
      have := ih (by omega)
      have := h m (by omega)
      simp only [isum]
      omega
  have := key n (Nat.le_refl n)
  rw [lsum_ofInt, ofInt64_bd (by omega) (by omega)]
  omega
theorem mul64 {x y : Int64} (h1 : -9223372036854775808 ≤ x.toInt * y.toInt) (h2 : x.toInt * y.toInt < 9223372036854775808) : (x * y).toInt = x.toInt * y.toInt := by rw [Int64.toInt_mul, bmod64 h1 h2]
theorem subadd64 (p a b : Int64) : p - (a + b) = p - a - b := by simp only [Int64.sub_eq_add_neg, Int64.neg_add, Int64.add_assoc]
theorem go_share {k N : Nat} {σ μ : zS} (x y : Int32) (hN : 1000000000 ≤ N) (hk : k < 512) (hJ : JJ k σ μ) : ∃ r τ ν, fX7_share N x y σ = some (r, τ) ∧ fX8_share N x y μ = some (r, ν) ∧ JJ (k + 1) τ ν := by
  obtain ⟨d, h, kn, ru, ne, cl, nt, np, hA, hB⟩ := JJ_A hJ
  obtain ⟨h1, h2, h3, h4, h5, h6, h7, h8, h9⟩ := id hA
  obtain ⟨b0, b1, b2, b3, b4, b5, b6, b7⟩ := JJ_b h1
  have e1 : ∀ N x, fX7_isHouse N x σ = some (if 0 ≤ x ∧ x < nI h then 1 else 0, σ) := fun N x => by rw [fX7_isHouse_eq, h1.2.1.1]
  have e2 : ∀ N x, fX8_isHouse N x μ = some (if 0 ≤ x ∧ x < nI h then 1 else 0, μ) := fun N x => fX8_isHouse_eq N x μ (by omega) h1.2.1.2
  have e3 : ∀ N x, fX7_isKind N x σ = some (if 0 ≤ x ∧ x < nI kn then 1 else 0, σ) := fun N x => by rw [fX7_isKind_eq, h1.2.2.1.1]
  have e4 : ∀ N x, fX8_isKind N x μ = some (if 0 ≤ x ∧ x < nI kn then 1 else 0, μ) := fun N x => fX8_isKind_eq N x μ (by omega) h1.2.2.1.2
  have no : ∀ j, JJ (k + 1) (zrefX σ j) (zrefM μ j) := fun j => JJ_ref hJ
  have yes := JJ_mono hJ
  have sX : σ.1 0 0 1 = nI h := h1.2.1.1
  have sM : μ.1 0 0 1 = nI h := h1.2.1.2
  unfold fX7_share fX8_share
  simp only [zbi, e1, e2, e3, e4, rfX1, rfM1]
  rcases zix x (n := h) (by omega) with ⟨a, ha, rfl, ca⟩ | ca
  rcases zix y (n := kn) (by omega) with ⟨b, hb, rfl, cb⟩ | cb
  · obtain ⟨g1, g2, g3⟩ := hB
    obtain ⟨l1, l2, l3⟩ := lost_bd (k := k) b1 g2 h8.2 (show b < 6 by omega)
    obtain ⟨wo, fe, ew, -, hw1, hw2, -⟩ := h3.1 b hb
    have e6 : σ.1 0 6 = μ.1 0 1 := h2.1
    obtain ⟨S, eS⟩ : ∃ S, S = isum (fun a => (μ.1 0 21 (6 * a + b)).toInt) h := ⟨_, rfl⟩
    rw [← eS] at l2 l3
    have qS : zsum (fun a => μ.1 0 21 (6 * a + b)) h = Int32.ofInt S := by rw [zsum_ofInt, eS]
    have tS : (Int32.ofInt S).toInt64 = Int64.ofInt S := by
      apply Int64.toInt_inj.mp
      rw [Int32.toInt_toInt64, ofInt_bd (by omega) (by omega), ofInt64_bd (by omega) (by omega)]
    have qL : lsum (fun a => (μ.1 0 21 (6 * a + b)).toInt64) h = Int64.ofInt S := by
      rw [lsum_ofInt, eS]
      congr 1
      exact isum_congr (fun i hi => Int32.toInt_toInt64 _)
    obtain ⟨T, eT⟩ : ∃ T, T = lsum (tl μ (nI b) np) h := ⟨_, rfl⟩
    have bT : 0 ≤ T.toInt ∧ T.toInt ≤ 10000000 := by
      rw [eT]
      refine lsum_bd (B := 200000) b1 (by omega) (fun i hi => ?_)
      unfold tl
      rw [Int32.toInt_toInt64]
      exact tz_bd h6 (by omega) _ _
    simp only [if_pos ca, if_pos cb, if_neg c10, missing_eq h1 h2 hN (show b < 6 by omega), zld_at (show b < 6 by omega) (show 6 < 2 ^ 31 by omega), e6, ew, qS, tS]
    have tw : (nI wo).toInt64.toInt = wo := by rw [Int32.toInt_toInt64, nI_toInt (by omega)]
    obtain ⟨P, eP⟩ : ∃ P, P = Int64.ofInt S * (nI wo).toInt64 := ⟨_, rfl⟩
    have sb : (Int64.ofInt S).toInt = S := ofInt64_bd (by omega) (by omega)
    have b1' : S * (wo : Int) ≤ 600000000 * 1000 := by
      rcases Int.le_total 0 S with q | q
      · exact Int.mul_le_mul (by omega) (by omega) (by omega) (by omega)
      · have := Int.mul_nonpos_of_nonpos_of_nonneg q (show (0 : Int) ≤ wo by omega)
        omega
    have b2' : -(600000000 * 1000) ≤ S * (wo : Int) := by
      rcases Int.le_total 0 S with q | q
      · have := Int.mul_nonneg q (show (0 : Int) ≤ wo by omega)
        omega
      · have := Int.mul_le_mul (show -S ≤ 600000000 by omega) (show (wo : Int) ≤ 1000 by omega) (by omega) (by omega)
        rw [Int.neg_mul] at this
        omega
    have tP : P.toInt = S * wo := by rw [eP, mul64 (by rw [sb, tw]; omega) (by rw [sb, tw]; omega), sb, tw]
    -- the loops
    have xl : ∀ (P : Int64) (K : Int64 → Int32 → zS → Option (Int32 × zS)), lX7_shareOf_6 N (nI a) (nI b) P K N ((0 : Int64), (0 : Int32), σ) = K T (nI h) σ := by
      intro P K
      unfold lX7_shareOf_6
      rw [eT]
      refine zlp_for (st := fun i => (lsum (tl μ (nI b) np) i, nI i, σ)) (E := h) (fun i hi rc => ?_) (fun rc => ?_) N 0 (by omega) (by omega)
      · simp only [bX7_shareOf_6, sX, if_neg (nI_ge hi (show h < 2 ^ 31 by omega)), zbi, cameTo_eq h1 h5 h6 hN, nI_1, lsum, tl]
      · simp only [bX7_shareOf_6, sX, if_pos (nI_le (Nat.le_refl h) (show h < 2 ^ 31 by omega))]
    have ml : ∀ (K : Int64 → Int64 → Int32 → zS → Option (Int32 × zS)), lX8_share_30 N (nI a) (nI b) K N ((0 : Int64), (0 : Int64), (0 : Int32), μ) = K (Int64.ofInt S) T (nI h) μ := by
      intro K
      unfold lX8_share_30
      rw [eT, ← qL]
      refine zlp_for (st := fun i => (lsum (fun a => (μ.1 0 21 (6 * a + b)).toInt64) i, lsum (tl μ (nI b) np) i, nI i, μ)) (E := h) (fun i hi rc => ?_) (fun rc => ?_) N 0 (by omega) (by omega)
      · simp only [bX8_share_30, sM, if_neg (nI_ge hi (show h < 2 ^ 31 by omega)), i6', zld_at (show 6 * i + b < 60 by omega) (show 60 < 2 ^ 31 by omega), zbi, turnsOf_eq h1 h6 hN, nI_1, lsum, tl]
      · simp only [bX8_share_30, sM, if_pos (nI_le (Nat.le_refl h) (show h < 2 ^ 31 by omega))]
    unfold fX7_shareOf
    rw [xl, ml]
    simp only [← eP]
    by_cases cS : S ≤ 0
    · have pP : P.toInt ≤ 0 := by
        rw [tP]
        exact Int.mul_nonpos_of_nonpos_of_nonneg cS (by omega)
      have k1 : lg_cmp P 0 ≤ 0 := (lg_cmp_le _ _).mpr (by rw [Int64.le_iff_toInt_le]; exact pP)
      have k2 : lg_cmp (Int64.ofInt S) 0 ≤ 0 := (lg_cmp_le _ _).mpr (by rw [Int64.le_iff_toInt_le, sb]; exact cS)
      refine ⟨0, σ, μ, by rw [if_pos k1], ?_, yes⟩
      rw [if_pos k2]
      by_cases cT : lg_cmp T 0 = 0
      · rw [if_pos cT]
      · rw [if_neg cT, if_pos ((lg_cmp_eq _ _).mpr rfl)]
    · have pP : 0 < P.toInt := by
        rw [tP]
        exact Int.mul_pos (by omega) (by omega)
      have k1 : ¬ lg_cmp P 0 ≤ 0 := fun e => by
        have := (lg_cmp_le _ _).mp e
        rw [Int64.le_iff_toInt_le] at this
        have z : (0 : Int64).toInt = 0 := rfl
        omega
      have k2 : ¬ lg_cmp (Int64.ofInt S) 0 ≤ 0 := fun e => by
        have := (lg_cmp_le _ _).mp e
        rw [Int64.le_iff_toInt_le, sb] at this
        have z : (0 : Int64).toInt = 0 := rfl
        omega
      have k3 : ¬ lg_cmp P 0 = 0 := fun e => k1 (by rw [e]; decide)
      rw [if_neg k1, if_neg k2]
      simp only [zld_at (show b < 6 by omega) (show 6 < 2 ^ 31 by omega), ew, ← eP, if_neg k3]
      by_cases cT : T = 0
      · have k4 : ¬ 0 < lg_cmp T 0 := fun e => by
          have := (lg_cmp_gt _ _).mp e
          rw [cT] at this
          exact Int64.lt_irrefl this
        refine ⟨0, σ, μ, by rw [if_neg k4], by rw [if_pos ((lg_cmp_eq _ _).mpr cT)], yes⟩
      · have k4 : 0 < lg_cmp T 0 := (lg_cmp_gt _ _).mpr (by
          rw [Int64.lt_iff_toInt_lt]
          have z : (0 : Int64).toInt = 0 := rfl
          have : T.toInt ≠ 0 := fun e => cT (Int64.toInt_inj.mp e)
          omega)
        have k5 : ¬ lg_cmp T 0 = 0 := fun e => cT ((lg_cmp_eq _ _).mp e)
        rw [if_pos k4, if_neg k5]
        simp only [zbi, cameTo_eq h1 h5 h6 hN, turnsOf_eq h1 h6 hN]
        obtain ⟨own, eo⟩ : ∃ own, own = (zsum (tz μ (nI a) (nI b)) np).toInt64 := ⟨_, rfl⟩
        rw [← eo]
        have xl2 : ∀ (K : Int64 → Int32 → Int32 → zS → Option (Int32 × zS)), lX7_shareOf_75 N (nI a) (nI b) P T (P * own) K N (P, (0 : Int32), (0 : Int32), σ) = K (P - lsum (fun i => P * tl μ (nI b) np i / T) h) (zsum (fun i => ahd (nI a) P T (P * own - P * own / T * T) (tl μ (nI b) np i) i) h) (nI h) σ := by
          intro K
          unfold lX7_shareOf_75
          have := zlp_for (st := fun i => (P - lsum (fun i => P * tl μ (nI b) np i / T) i, zsum (fun i => ahd (nI a) P T (P * own - P * own / T * T) (tl μ (nI b) np i) i) i, nI i, σ)) (E := h) (b := fun rc s => bX7_shareOf_75 N (nI a) (nI b) P T (P * own) K rc s.1 s.2.1 s.2.2.1 s.2.2.2) (r := K (P - lsum (fun i => P * tl μ (nI b) np i / T) h) (zsum (fun i => ahd (nI a) P T (P * own - P * own / T * T) (tl μ (nI b) np i) i) h) (nI h) σ) (fun i hi rc => ?_) (fun rc => ?_) N 0 (by omega) (by omega)
          · simpa [lsum, zsum, nI_0] using this
          · have ez : (zsum (tz μ (nI i) (nI b)) np).toInt64 = tl μ (nI b) np i := rfl
            have es : P - (lsum (fun i => P * tl μ (nI b) np i / T) i + P * tl μ (nI b) np i / T) = P - lsum (fun i => P * tl μ (nI b) np i / T) i - P * tl μ (nI b) np i / T := subadd64 _ _ _
            simp only [bX7_shareOf_75, sX, if_neg (nI_ge hi (show h < 2 ^ 31 by omega)), zbi, cameTo_eq h1 h5 h6 hN, znzJ, if_neg cT, nI_1, lsum, zsum, ez, es, fX7_isAhead, ahd]
            by_cases q1 : 0 < lg_cmp (P * tl μ (nI b) np i - P * tl μ (nI b) np i / T * T) (P * own - P * own / T * T)
            · simp [q1]
            · by_cases q2 : lg_cmp (P * tl μ (nI b) np i - P * tl μ (nI b) np i / T * T) (P * own - P * own / T * T) = 0
              · by_cases q3 : nI a ≤ nI i
                · simp [q2, q3]
                · simp [q2, q3]
              · simp [q1, q2]
          · simp only [bX7_shareOf_75, sX, if_pos (nI_le (Nat.le_refl h) (show h < 2 ^ 31 by omega))]
        have ml2 : ∀ (K : Int64 → Int32 → zS → Option (Int32 × zS)), lX8_share_115 N (nI a) (nI b) P T K N (P, (0 : Int32), μ) = K (P - lsum (fun i => P * tl μ (nI b) np i / T) h) (nI h) μ := by
          intro K
          unfold lX8_share_115
          have := zlp_for (st := fun i => (P - lsum (fun i => P * tl μ (nI b) np i / T) i, nI i, μ)) (E := h) (b := fun rc s => bX8_share_115 N (nI a) (nI b) P T K rc s.1 s.2.1 s.2.2) (r := K (P - lsum (fun i => P * tl μ (nI b) np i / T) h) (nI h) μ) (fun i hi rc => ?_) (fun rc => ?_) N 0 (by omega) (by omega)
          · simpa [lsum, nI_0] using this
          · have ez : (zsum (tz μ (nI i) (nI b)) np).toInt64 = tl μ (nI b) np i := rfl
            have es : P - (lsum (fun i => P * tl μ (nI b) np i / T) i + P * tl μ (nI b) np i / T) = P - lsum (fun i => P * tl μ (nI b) np i / T) i - P * tl μ (nI b) np i / T := subadd64 _ _ _
            simp only [bX8_share_115, sM, if_neg (nI_ge hi (show h < 2 ^ 31 by omega)), zbi, turnsOf_eq h1 h6 hN, znzJ, if_neg cT, nI_1, lsum, ez, es]
          · simp only [bX8_share_115, sM, if_pos (nI_le (Nat.le_refl h) (show h < 2 ^ 31 by omega))]
        have ml3 : ∀ (left : Int64) (K : Int32 → Int32 → zS → Option (Int32 × zS)), lX8_share_168 N (nI a) (nI b) P T left (P * own - P * own / T * T) K N ((0 : Int32), (0 : Int32), μ) = K (zsum (fun i => ahd (nI a) P T (P * own - P * own / T * T) (tl μ (nI b) np i) i) h) (nI h) μ := by
          intro left K
          unfold lX8_share_168
          refine zlp_for (st := fun i => (zsum (fun i => ahd (nI a) P T (P * own - P * own / T * T) (tl μ (nI b) np i) i) i, nI i, μ)) (E := h) (fun i hi rc => ?_) (fun rc => ?_) N 0 (by omega) (by omega)
          · have ez : (zsum (tz μ (nI i) (nI b)) np).toInt64 = tl μ (nI b) np i := rfl
            simp only [bX8_share_168, sM, if_neg (nI_ge hi (show h < 2 ^ 31 by omega)), zbi, turnsOf_eq h1 h6 hN, znzJ, if_neg cT, nI_1, zsum, ez, ahd]
            by_cases q1 : 0 < lg_cmp (P * tl μ (nI b) np i - P * tl μ (nI b) np i / T * T) (P * own - P * own / T * T)
            · simp [q1]
            · by_cases q2 : lg_cmp (P * tl μ (nI b) np i - P * tl μ (nI b) np i / T * T) (P * own - P * own / T * T) = 0
              · by_cases q3 : nI a ≤ nI i
                · simp [q2, q3]
                · simp [q2, q3]
              · simp [q1, q2]
          · simp only [bX8_share_168, sM, if_pos (nI_le (Nat.le_refl h) (show h < 2 ^ 31 by omega))]
        rw [xl2, ml2]
        simp only [turnsOf_eq h1 h6 hN, ← eo, znzJ, if_neg cT]
        rw [ml3]
        simp only [turnsOf_eq h1 h6 hN, ← eo]
        by_cases q : 0 ≤ lg_cmp (zsum (fun i => ahd (nI a) P T (P * own - P * own / T * T) (tl μ (nI b) np i) i) h).toInt64 (P - lsum (fun i => P * tl μ (nI b) np i / T) h)
        · simp only [if_pos q]
          exact ⟨(P * own / T).toInt32, σ, μ, rfl, by rw [Int32.add_zero], yes⟩
        · simp only [if_neg q]
          exact ⟨(P * own / T + 1).toInt32, σ, μ, rfl, by rw [Int64.toInt32_add]; rfl, yes⟩
  · simp only [if_pos ca, if_neg cb, if_neg c10]
    exact ⟨_, _, _, rfl, rfl, no 1⟩
  · simp only [if_neg ca]
    exact ⟨_, _, _, rfl, rfl, no 1⟩
