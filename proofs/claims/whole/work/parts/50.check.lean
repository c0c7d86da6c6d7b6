/-- a sum of longs -/
def lsum (f : Nat → Int64) : Nat → Int64
  | 0 => 0
  | n + 1 => lsum f n + f n
theorem lsum_congr {f g : Nat → Int64} {n : Nat} (h : ∀ i, i < n → f i = g i) : lsum f n = lsum g n := by
  induction n with
  | zero => rfl
  | succ n ih => simp only [lsum]; rw [ih (fun i hi => h i (by omega)), h n (by omega)]
theorem lsum_ofInt (f : Nat → Int64) (n : Nat) : lsum f n = Int64.ofInt (isum (fun i => (f i).toInt) n) := by
  induction n with
  | zero => rfl
  | succ n ih => simp only [lsum, isum]; rw [Int64.ofInt_add, ← ih, Int64.ofInt_toInt]
theorem ofInt64_bd {a : Int} (h1 : -9223372036854775808 ≤ a) (h2 : a < 9223372036854775808) : (Int64.ofInt a).toInt = a := Int64.toInt_ofInt_of_le (by simpa using h1) (by simpa using h2)
theorem isum_tail {f : Nat → Int} {m n : Nat} (hm : m ≤ n) (h : ∀ i, m ≤ i → i < n → f i = 0) : isum f n = isum f m := by
  induction n with
  | zero =>
    have : m = 0 := by omega
    rw [this]
  | succ n ih =>
    by_cases e : m = n + 1
    · rw [e]
    · simp only [isum]
      rw [h n (by omega) (by omega), ih (by omega) (fun i h1 h2 => h i h1 (by omega))]
      omega
theorem isum_le {f g : Nat → Int} {n : Nat} (h : ∀ i, i < n → f i ≤ g i) : isum f n ≤ isum g n := by
  induction n with
  | zero => simp [isum]
  | succ n ih =>
    simp only [isum]
    have := ih (fun i hi => h i (by omega))
    have := h n (by omega)
    omega
/-- a part of a sum of sizes -/
theorem isum_part (f : Nat → Int) (b : Nat) (hb : b < 6) : isum (fun a => ((f (6 * a + b)).natAbs : Int)) 10 ≤ isum (fun i => ((f i).natAbs : Int)) 60 := by
  have key : ∀ n, isum (fun a => ((f (6 * a + b)).natAbs : Int)) n ≤ isum (fun i => ((f i).natAbs : Int)) (6 * n) := by
    intro n
    induction n with
    | zero => simp [isum]
    | succ n ih =>
      have e : isum (fun i => ((f i).natAbs : Int)) (6 * (n + 1)) = isum (fun i => ((f i).natAbs : Int)) (6 * n) + (f (6 * n)).natAbs + (f (6 * n + 1)).natAbs + (f (6 * n + 2)).natAbs + (f (6 * n + 3)).natAbs + (f (6 * n + 4)).natAbs + (f (6 * n + 5)).natAbs := by
        rw [show 6 * (n + 1) = 6 * n + 1 + 1 + 1 + 1 + 1 + 1 by omega]
        simp only [isum]
      rw [e]
      simp only [isum]
      rcases (show b = 0 ∨ b = 1 ∨ b = 2 ∨ b = 3 ∨ b = 4 ∨ b = 5 by omega) with rfl | rfl | rfl | rfl | rfl | rfl
      · have : f (6 * n + 0) = f (6 * n) := rfl
        rw [this]
        omega
      all_goals omega
  exact key 10
theorem isum_abs (f : Nat → Int) (n : Nat) : -(isum (fun a => ((f a).natAbs : Int)) n) ≤ isum f n ∧ isum f n ≤ isum (fun a => ((f a).natAbs : Int)) n := by
  induction n with
  | zero => simp [isum]
  | succ n ih => simp only [isum]; omega
/-- what is lost of a kind, and its bound -/
theorem lost_bd {k h : Nat} {lo : Nat → Int32} (hh : h ≤ 10) (hs : isum (fun i => ((lo i).toInt.natAbs : Int)) 60 ≤ 1000000 * (k : Int)) (hz : ∀ i, 6 * h ≤ i → lo i = 0) {b : Nat} (hb : b < 6) : isum (fun a => (lo (6 * a + b)).toInt) 10 = isum (fun a => (lo (6 * a + b)).toInt) h ∧ -(1000000 * (k : Int)) ≤ isum (fun a => (lo (6 * a + b)).toInt) h ∧ isum (fun a => (lo (6 * a + b)).toInt) h ≤ 1000000 * (k : Int) := by
  have e : isum (fun a => (lo (6 * a + b)).toInt) 10 = isum (fun a => (lo (6 * a + b)).toInt) h := isum_tail hh (fun i h1 h2 => by rw [hz _ (by omega)]; rfl)
  have p := isum_part (fun i => (lo i).toInt) b hb
  have q := isum_abs (fun a => (lo (6 * a + b)).toInt) 10
  refine ⟨e, ?_, ?_⟩ <;> rw [← e] <;> omega
theorem missing_eq {d h kn ru ne cl nt np N : Nat} {σ μ : zS} (h1 : Js d h kn ru ne cl nt np σ μ) (h2 : Je σ μ) (hN : 1000000000 ≤ N) {b : Nat} (hb : b < 6) : fX7_missingOfKind N (nI b) σ = some (zsum (fun a => μ.1 0 21 (6 * a + b)) h, σ) := by
  obtain ⟨-, b1, -⟩ := JJ_b h1
  have e10 : σ.1 0 10 = μ.1 0 21 := h2.2.2.2.2.1
  unfold fX7_missingOfKind lX7_missingOfKind_4
  refine zlp_for (st := fun i => (zsum (fun a => μ.1 0 21 (6 * a + b)) i, nI i, σ)) (E := h) (fun i hi rc => ?_) (fun rc => ?_) N 0 (by omega) (by omega)
  · simp only [bX7_missingOfKind_4, show σ.1 0 0 1 = nI h from h1.2.1.1, if_neg (nI_ge hi (show h < 2 ^ 31 by omega)), i6, zld_at (show 6 * i + b < 60 by omega) (show 60 < 2 ^ 31 by omega), nI_1, zsum, e10]
  · simp only [bX7_missingOfKind_4, show σ.1 0 0 1 = nI h from h1.2.1.1, if_pos (nI_le (Nat.le_refl h) (show h < 2 ^ 31 by omega))]
theorem sumOfKind_eq {d h kn ru ne cl nt np N : Nat} {σ μ : zS} (h1 : Js d h kn ru ne cl nt np σ μ) (h2 : Je σ μ) (h4 : Jl d h kn ne (σ.1 0 13) (μ.1 0 3) (μ.1 0 4) (μ.1 0 5)) (hN : 1000000000 ≤ N) {b : Nat} (hb : b < 6) : fX3_sumOfKind N (nI b) σ = some (zsum (fun e => if μ.1 0 4 e = nI b then μ.1 0 6 e else 0) ne, σ) := by
  obtain ⟨-, b1, b2, -, b5, -⟩ := JJ_b h1
  have e15 : σ.1 0 15 = μ.1 0 6 := h2.2.2.2.1
  unfold fX3_sumOfKind lX3_sumOfKind_4
  refine zlp_for (st := fun i => (zsum (fun e => if μ.1 0 4 e = nI b then μ.1 0 6 e else 0) i, nI i, σ)) (E := ne) (fun i hi rc => ?_) (fun rc => ?_) N 0 (by omega) (by omega)
  · obtain ⟨u, v, w, hu, hv, hw, eu, ev, es, ew⟩ := h4 i hi
    have er : nI (6 * u + v) - nI (6 * u + v) / 6 * 6 = nI v := by
      rw [show (6 : Int32) = nI 6 from rfl, pk_rem (by omega) (by omega) (by omega)]
      congr 1
      omega
    simp only [bX3_sumOfKind_4, show σ.1 0 1 4 = nI ne from h1.2.2.2.2.1.1, if_neg (nI_ge hi (show ne < 2 ^ 31 by omega)), zld_at (show i < 2000 by omega) (show 2000 < 2 ^ 31 by omega), nI_1, zsum, znz, es, er, ev, e15, if_neg (show ¬ (6 : Int32) = 0 by decide)]
    by_cases q : nI v = nI b
    · simp [q]
    · simp [q]
  · simp only [bX3_sumOfKind_4, show σ.1 0 1 4 = nI ne from h1.2.2.2.2.1.1, if_pos (nI_le (Nat.le_refl ne) (show ne < 2 ^ 31 by omega))]
theorem go_check {k N : Nat} {σ μ : zS} (x : Int32) (hN : 1000000000 ≤ N) (hk : k < 512) (hJ : JJ k σ μ) : ∃ r τ ν, fX7_check N x σ = some (r, τ) ∧ fX8_check N x μ = some (r, ν) ∧ JJ (k + 1) τ ν := by
  obtain ⟨d, h, kn, ru, ne, cl, nt, np, hA, hB⟩ := JJ_A hJ
  obtain ⟨h1, h2, h3, h4, h5, h6, h7, h8, h9⟩ := id hA
  obtain ⟨b0, b1, b2, b3, b4, b5, b6, b7⟩ := JJ_b h1
  have e3 : ∀ N x, fX7_isKind N x σ = some (if 0 ≤ x ∧ x < nI kn then 1 else 0, σ) := fun N x => by rw [fX7_isKind_eq, h1.2.2.1.1]
  have e4 : ∀ N x, fX8_isKind N x μ = some (if 0 ≤ x ∧ x < nI kn then 1 else 0, μ) := fun N x => fX8_isKind_eq N x μ (by omega) h1.2.2.1.2
  have yes := JJ_mono hJ
  unfold fX7_check fX8_check
  simp only [zbi, e3, e4]
  rcases zix x (n := kn) (by omega) with ⟨b, hb, rfl, cb⟩ | cb
  · obtain ⟨g1, g2, g3⟩ := hB
    obtain ⟨m1, m2, m3, m4, m5, m6⟩ := g3 b (by omega)
    obtain ⟨l1, l2, l3⟩ := lost_bd (k := k) b1 g2 h8.2 (show b < 6 by omega)
    rw [l1] at m2
    obtain ⟨S, eS⟩ : ∃ S, S = isum (fun e => if μ.1 0 4 e = nI b then (μ.1 0 6 e).toInt else 0) ne := ⟨_, rfl⟩
    obtain ⟨T, eT⟩ : ∃ T, T = isum (fun a => (μ.1 0 21 (6 * a + b)).toInt) h := ⟨_, rfl⟩
    rw [← eS, ← eT] at m2
    rw [← eT] at l2 l3
    refine ⟨1, σ, μ, ?_, ?_, yes⟩
    · simp only [if_pos cb, if_neg c10, zld_at (show b < 6 by omega) (show 6 < 2 ^ 31 by omega), missing_eq h1 h2 hN (show b < 6 by omega), sumOfKind_eq h1 h2 h4 hN (show b < 6 by omega)]
      have q1 : zsum (fun e => if μ.1 0 4 e = nI b then μ.1 0 6 e else 0) ne = Int32.ofInt S := by
        rw [zsum_ofInt, eS]
        congr 1
        refine isum_congr (fun i hi => ?_)
        split
        · rfl
        · rfl
      have q2 : zsum (fun a => μ.1 0 21 (6 * a + b)) h = Int32.ofInt T := by rw [zsum_ofInt, eT]
      have q3 : σ.1 0 8 b - σ.1 0 9 b = Int32.ofInt S + Int32.ofInt T := by
        rw [← Int32.ofInt_add, ← m2, ← m1, Int32.ofInt_sub, Int32.ofInt_toInt, Int32.ofInt_toInt]
      rw [q1, q2, if_pos q3]
    · simp only [if_pos cb, if_neg c10]
      have w1 : ∀ K : Int64 → Int32 → zS → Option (Int32 × zS), lX8_check_15 N (nI b) K N ((0 : Int64), (0 : Int32), μ) = K (lsum (fun e => if μ.1 0 4 e = nI b then (μ.1 0 6 e).toInt64 else 0) ne) (nI ne) μ := by
        intro K
        unfold lX8_check_15
        refine zlp_for (st := fun i => (lsum (fun e => if μ.1 0 4 e = nI b then (μ.1 0 6 e).toInt64 else 0) i, nI i, μ)) (E := ne) (fun i hi rc => ?_) (fun rc => ?_) N 0 (by omega) (by omega)
        · simp only [bX8_check_15, show μ.1 0 0 5 = nI ne from h1.2.2.2.2.1.2, if_neg (nI_ge hi (show ne < 2 ^ 31 by omega)), zld_at (show i < 2000 by omega) (show 2000 < 2 ^ 31 by omega), nI_1, lsum]
          by_cases q : μ.1 0 4 i = nI b
          · simp [q]
          · simp [q]
        · simp only [bX8_check_15, show μ.1 0 0 5 = nI ne from h1.2.2.2.2.1.2, if_pos (nI_le (Nat.le_refl ne) (show ne < 2 ^ 31 by omega))]
      have w2 : ∀ (s : Int64) (K : Int64 → Int32 → zS → Option (Int32 × zS)), lX8_check_59 N (nI b) K N (s, (0 : Int32), μ) = K (s + lsum (fun a => (μ.1 0 21 (6 * a + b)).toInt64) h) (nI h) μ := by
        intro s K
        unfold lX8_check_59
        have := zlp_for (st := fun i => (s + lsum (fun a => (μ.1 0 21 (6 * a + b)).toInt64) i, nI i, μ)) (E := h) (b := fun rc s => bX8_check_59 N (nI b) K rc s.1 s.2.1 s.2.2) (r := K (s + lsum (fun a => (μ.1 0 21 (6 * a + b)).toInt64) h) (nI h) μ) (fun i hi rc => ?_) (fun rc => ?_) N 0 (by omega) (by omega)
        · simpa [lsum, nI_0] using this
        · simp only [bX8_check_59, show μ.1 0 0 1 = nI h from h1.2.1.2, if_neg (nI_ge hi (show h < 2 ^ 31 by omega)), i6', zld_at (show 6 * i + b < 60 by omega) (show 60 < 2 ^ 31 by omega), nI_1, lsum, Int64.add_assoc]
        · simp only [bX8_check_59, show μ.1 0 0 1 = nI h from h1.2.1.2, if_pos (nI_le (Nat.le_refl h) (show h < 2 ^ 31 by omega))]
      rw [w1, w2, zldJ_at (by omega) (by omega)]
      have q1 : lsum (fun e => if μ.1 0 4 e = nI b then (μ.1 0 6 e).toInt64 else 0) ne = Int64.ofInt S := by
        rw [lsum_ofInt, eS]
        congr 1
        refine isum_congr (fun i hi => ?_)
        split
        · exact Int32.toInt_toInt64 _
        · rfl
      have q2 : lsum (fun a => (μ.1 0 21 (6 * a + b)).toInt64) h = Int64.ofInt T := by
        rw [lsum_ofInt, eT]
        congr 1
        exact isum_congr (fun i hi => Int32.toInt_toInt64 _)
      have q3 : Int64.ofInt S + Int64.ofInt T = μ.2.1 0 7 b := by rw [← Int64.ofInt_add, ← m2, Int64.ofInt_toInt]
      rw [q1, q2, q3, if_pos ((lg_cmp_eq _ _).mpr rfl)]
  · simp only [if_neg cb]
    exact ⟨_, _, _, rfl, rfl, yes⟩
theorem go_bill {k N : Nat} {σ μ : zS} (x y : Int32) (hJ : JJ k σ μ) : ∃ r τ ν, fX7_bill N x y σ = some (r, τ) ∧ fX8_bill N x y μ = some (r, ν) ∧ JJ (k + 1) τ ν := by
  obtain ⟨d, h, kn, ru, ne, cl, nt, np, h1, h2, h3, h4, h5, h6, h7, h8, h9, h10⟩ := id hJ
  obtain ⟨b0, b1, b2, b3, b4, b5, b6, b7⟩ := JJ_b h1
  have e1 : ∀ N x, fX7_isHouse N x σ = some (if 0 ≤ x ∧ x < nI h then 1 else 0, σ) := fun N x => by rw [fX7_isHouse_eq, h1.2.1.1]
  have e2 : ∀ N x, fX8_isHouse N x μ = some (if 0 ≤ x ∧ x < nI h then 1 else 0, μ) := fun N x => fX8_isHouse_eq N x μ (by omega) h1.2.1.2
  have no : ∀ j, JJ (k + 1) (zrefX σ j) (zrefM μ j) := fun j => JJ_ref hJ
  unfold fX7_bill fX8_bill fX7_whyNoMonth fX8_lackOfFees
  simp only [zbi, e1, e2]
  rcases zix x (n := h) (by omega) with ⟨a, ha, rfl, ca⟩ | ca
  · simp only [if_pos ca, if_neg c10]
    by_cases c1 : 0 ≤ y
    · simp only [if_pos c1]
      by_cases c2 : y ≤ 19
      · have c3 : y < 20 := by
          rw [Int32.le_iff_toInt_le] at c2
          rw [Int32.lt_iff_toInt_lt]
          have : (19 : Int32).toInt = 19 := rfl
          have : (20 : Int32).toInt = 20 := rfl
          omega
        simp only [if_pos c2, if_pos c3, if_pos (show (0 : Int32) = 0 from rfl), show σ.1 0 1 5 = nI cl from h1.2.2.2.2.2.1.1, show μ.1 0 0 11 = nI cl from h1.2.2.2.2.2.1.2]
        by_cases c4 : y < nI cl
        · obtain ⟨m, hm, rfl⟩ := nI_of2 (M := 19) (n := 19) rfl (Int32.not_lt.mpr c1) c2
          have eq : σ.2.1 0 12 = μ.2.1 0 8 := h2.2.2.2.2.2.2.1
          refine ⟨μ.2.1 0 8 (20 * a + m), σ, μ, ?_, ?_, JJ_mono hJ⟩
          · rw [if_pos c4, i20, zldJ_at (by omega) (by omega), eq, if_pos trivial]
          · rw [if_pos c4, if_pos trivial, if_pos (show (0 : Int32) ≤ 0 by decide), i20', zldJ_at (by omega) (by omega)]
        · simp only [if_neg c4, rfX3, rfM3, if_neg (show ¬ (0 : Int32) ≤ -3 by decide)]
          exact ⟨_, _, _, rfl, rfl, no 3⟩
      · have c3 : ¬ y < 20 := by
          rw [Int32.le_iff_toInt_le] at c2
          rw [Int32.lt_iff_toInt_lt]
          have : (19 : Int32).toInt = 19 := rfl
          have : (20 : Int32).toInt = 20 := rfl
          omega
        simp only [if_neg c2, if_neg c3, if_neg (show ¬ (-6 : Int32) = 0 by decide), if_neg (show ¬ (0 : Int32) ≤ -6 by decide), rfX6, rfM6]
        exact ⟨_, _, _, rfl, rfl, no 6⟩
    · simp only [if_neg c1, if_neg (show ¬ (-4 : Int32) = 0 by decide), if_neg (show ¬ (0 : Int32) ≤ -4 by decide), rfX4, rfM4]
      exact ⟨_, _, _, rfl, rfl, no 4⟩
  · simp only [if_neg ca, if_neg (show ¬ (-1 : Int32) = 0 by decide), if_neg (show ¬ (0 : Int32) ≤ -1 by decide), rfX1, rfM1]
    exact ⟨_, _, _, rfl, rfl, no 1⟩
