/-- what came to a house by a pair -/
def tz (μ : zS) (x y : Int32) (p : Nat) : Int32 := if μ.1 0 11 (μ.1 0 17 p).toNatClampNeg = x ∧ μ.1 0 12 (μ.1 0 17 p).toNatClampNeg = y then μ.1 0 19 p else 0
theorem cameTo_eq {d h kn ru ne cl nt np N : Nat} {σ μ : zS} (h1 : Js d h kn ru ne cl nt np σ μ) (h5 : Jt d h kn nt σ μ) (h6 : Jp nt np σ μ) (hN : 1000000000 ≤ N) (x y : Int32) : fX2_cameTo N x y σ = some (zsum (tz μ x y) np, σ) := by
  obtain ⟨-, -, -, -, -, -, b7, b8⟩ := JJ_b h1
  unfold fX2_cameTo lX2_cameTo_5
  refine zlp_for (st := fun i => (zsum (tz μ x y) i, nI i, σ)) (E := np) (fun i hi rc => ?_) (fun rc => ?_) N 0 (by omega) (by omega)
  · obtain ⟨p1, ⟨g, t, hg, ht, g1, g2, t1, t2, r1, r2, r3⟩, ⟨m, hm, m1, m2⟩, -⟩ := h6.1 i hi
    obtain ⟨-, -, -, ⟨a, b, c, ha, hb, hab, hc, a1, a2, w1, w2, c1, c2⟩, -⟩ := h5.1 t ht
    simp only [bX2_cameTo_5, show σ.1 0 2 5 = nI np from h1.2.2.2.2.2.2.2.1.1, if_neg (nI_ge hi (show np < 2 ^ 31 by omega)), zldR_at (show i < 200 by omega) (show 200 < 2 ^ 31 by omega), p1, zon, zgPR, zgP, zgT, JJ_cnt h1, if_pos hi, t1, if_pos ht, nI_1, zsum]
    have e : (μ.1 0 17 i).toNatClampNeg = g := by rw [g2, nI_clamp (by omega)]
    have ez : tz μ x y i = if μ.1 0 11 t = x ∧ μ.1 0 12 t = y then μ.1 0 19 i else 0 := by unfold tz; rw [e, r2, r3]
    rw [ez, w1, c1, m1, w2, c2, m2]
    by_cases q1 : nI b = x
    · by_cases q2 : nI c = y
      · simp [q1, q2]
      · simp [q1, q2]
    · simp [q1]
  · simp only [bX2_cameTo_5, show σ.1 0 2 5 = nI np from h1.2.2.2.2.2.2.2.1.1, if_pos (nI_le (Nat.le_refl np) (show np < 2 ^ 31 by omega))]
theorem turnsOf_eq {d h kn ru ne cl nt np N : Nat} {σ μ : zS} (h1 : Js d h kn ru ne cl nt np σ μ) (h6 : Jp nt np σ μ) (hN : 1000000000 ≤ N) (x y : Int32) : fX8_turnsOf N x y μ = some (zsum (tz μ x y) np, μ) := by
  obtain ⟨-, -, -, -, -, -, b7, b8⟩ := JJ_b h1
  unfold fX8_turnsOf lX8_turnsOf_5
  refine zlp_for (st := fun i => (zsum (tz μ x y) i, nI i, μ)) (E := np) (fun i hi rc => ?_) (fun rc => ?_) N 0 (by omega) (by omega)
  · obtain ⟨p1, ⟨g, t, hg, ht, g1, g2, -⟩, -⟩ := h6.1 i hi
    have e : (nI g).toNatClampNeg = g := by rw [nI_clamp (by omega)]
    simp only [bX8_turnsOf_5, show μ.1 0 0 23 = nI np from h1.2.2.2.2.2.2.2.1.2, if_neg (nI_ge hi (show np < 2 ^ 31 by omega)), zld_at (show i < 200 by omega) (show 200 < 2 ^ 31 by omega), g2, zld_at (show g < 400 by omega) (show 400 < 2 ^ 31 by omega), nI_1, zsum, tz, e]
    by_cases q1 : μ.1 0 11 g = x
    · by_cases q2 : μ.1 0 12 g = y
      · simp [q1, q2]
      · simp [q1, q2]
    · simp [q1]
  · simp only [bX8_turnsOf_5, show μ.1 0 0 23 = nI np from h1.2.2.2.2.2.2.2.1.2, if_pos (nI_le (Nat.le_refl np) (show np < 2 ^ 31 by omega))]
theorem go_turns {k N : Nat} {σ μ : zS} (x y : Int32) (hN : 1000000000 ≤ N) (hJ : JJ k σ μ) : ∃ r τ ν, fX7_turns N x y σ = some (r, τ) ∧ fX8_turns N x y μ = some (r, ν) ∧ JJ (k + 1) τ ν := by
  obtain ⟨d, h, kn, ru, ne, cl, nt, np, h1, h2, h3, h4, h5, h6, h7, h8, h9, h10⟩ := id hJ
  obtain ⟨-, b1, b2, -⟩ := JJ_b h1
  have e1 : ∀ N x, fX7_isHouse N x σ = some (if 0 ≤ x ∧ x < nI h then 1 else 0, σ) := fun N x => by rw [fX7_isHouse_eq, h1.2.1.1]
  have e2 : ∀ N x, fX8_isHouse N x μ = some (if 0 ≤ x ∧ x < nI h then 1 else 0, μ) := fun N x => fX8_isHouse_eq N x μ (by omega) h1.2.1.2
  have e3 : ∀ N x, fX7_isKind N x σ = some (if 0 ≤ x ∧ x < nI kn then 1 else 0, σ) := fun N x => by rw [fX7_isKind_eq, h1.2.2.1.1]
  have e4 : ∀ N x, fX8_isKind N x μ = some (if 0 ≤ x ∧ x < nI kn then 1 else 0, μ) := fun N x => fX8_isKind_eq N x μ (by omega) h1.2.2.1.2
  have no : ∀ j, JJ (k + 1) (zrefX σ j) (zrefM μ j) := fun j => JJ_ref hJ
  unfold fX7_turns fX8_turns
  simp only [zbi, e1, e2, e3, e4, rfX1, rfM1, cameTo_eq h1 h5 h6 hN, turnsOf_eq h1 h6 hN]
  by_cases c1 : 0 ≤ x ∧ x < nI h
  · simp only [if_pos c1, if_neg c10]
    by_cases c2 : 0 ≤ y ∧ y < nI kn
    · simp only [if_pos c2, if_neg c10]
      exact ⟨_, _, _, rfl, rfl, JJ_mono hJ⟩
    · simp only [if_neg c2]
      exact ⟨_, _, _, rfl, rfl, no 1⟩
  · simp only [if_neg c1]
    exact ⟨_, _, _, rfl, rfl, no 1⟩
theorem openT_eq {d h kn ru ne cl nt np N : Nat} {σ μ : zS} (h1 : Js d h kn ru ne cl nt np σ μ) (h5 : Jt d h kn nt σ μ) (hN : 1000000000 ≤ N) : ∃ r : Int32, fX2_openTellings N σ = some (r, σ) ∧ ∀ x, lX8_count_79 N x (fun y2 y3 w4 => some (y2, w4)) N ((0 : Int32), (0 : Int32), μ) = some (r, μ) := by
  obtain ⟨-, -, -, -, -, -, b7, b8⟩ := JJ_b h1
  refine ⟨zsum (fun t => if μ.1 0 15 t = 0 then 1 else 0) nt, ?_, fun x => ?_⟩
  · unfold fX2_openTellings lX2_openTellings_4
    refine zlp_for (st := fun i => (zsum (fun t => if μ.1 0 15 t = 0 then 1 else 0) i, nI i, σ)) (E := nt) (fun i hi rc => ?_) (fun rc => ?_) N 0 (by omega) (by omega)
    · obtain ⟨t1, t2, t3, t4, t5, t6, ⟨s, hs, s1, s2⟩, p1⟩ := h5.1 i hi
      simp only [bX2_openTellings_4, show σ.1 0 2 4 = nI nt from h1.2.2.2.2.2.2.1.1, if_neg (nI_ge hi (show nt < 2 ^ 31 by omega)), zldR_at (show i < 400 by omega) (show 400 < 2 ^ 31 by omega), t1, zon, zgT, JJ_cnt h1, if_pos hi, s1, s2, nI_1, zsum]
      by_cases q : nI s = 0
      · simp [q]
      · simp [q]
    · simp only [bX2_openTellings_4, show σ.1 0 2 4 = nI nt from h1.2.2.2.2.2.2.1.1, if_pos (nI_le (Nat.le_refl nt) (show nt < 2 ^ 31 by omega))]
  · unfold lX8_count_79
    refine zlp_for (st := fun i => (zsum (fun t => if μ.1 0 15 t = 0 then 1 else 0) i, nI i, μ)) (E := nt) (fun i hi rc => ?_) (fun rc => ?_) N 0 (by omega) (by omega)
    · simp only [bX8_count_79, show μ.1 0 0 13 = nI nt from h1.2.2.2.2.2.2.1.2, if_neg (nI_ge hi (show nt < 2 ^ 31 by omega)), zld_at (show i < 400 by omega) (show 400 < 2 ^ 31 by omega), nI_1, zsum]
      by_cases q : μ.1 0 15 i = 0
      · simp [q]
      · simp [q]
    · simp only [bX8_count_79, show μ.1 0 0 13 = nI nt from h1.2.2.2.2.2.2.1.2, if_pos (nI_le (Nat.le_refl nt) (show nt < 2 ^ 31 by omega))]
/-- a quarrel, as both sides see it -/
theorem openQ_eq {d h kn ru ne cl nt np N : Nat} {σ μ : zS} (h1 : Js d h kn ru ne cl nt np σ μ) (h5 : Jt d h kn nt σ μ) (h6 : Jp nt np σ μ) (hN : 1000000000 ≤ N) : ∃ r : Int32, fX2_openQuarrels N σ = some (r, σ) ∧ ∀ x, lX8_count_119 N x (fun y2 y3 w4 => some (y2, w4)) N ((0 : Int32), (0 : Int32), μ) = some (r, μ) := by
  obtain ⟨-, -, -, -, -, -, b7, b8⟩ := JJ_b h1
  have hq : ∀ p, ∃ q : Int32, p < np → fX5_isQuarrel N (some p) σ = some (q, σ) ∧ fX8_isQuarrel N (nI p) μ = some (q, μ) := by
    intro p
    by_cases hp : p < np
    · obtain ⟨q, -, q1⟩ := quarX N h1 h5 h6 hp
      exact ⟨q, fun _ => q1⟩
    · exact ⟨0, fun e => absurd e hp⟩
  obtain ⟨f, hf⟩ := Classical.axiomOfChoice hq
  refine ⟨zsum (fun p => if f p = 0 then 0 else if μ.1 0 20 p = 0 then 1 else 0) np, ?_, fun x => ?_⟩
  · unfold fX2_openQuarrels lX2_openQuarrels_4
    refine zlp_for (st := fun i => (zsum (fun p => if f p = 0 then 0 else if μ.1 0 20 p = 0 then 1 else 0) i, nI i, σ)) (E := np) (fun i hi rc => ?_) (fun rc => ?_) N 0 (by omega) (by omega)
    · obtain ⟨p1, -, -, ⟨j, hj, j1, j2⟩⟩ := h6.1 i hi
      simp only [bX2_openQuarrels_4, show σ.1 0 2 5 = nI np from h1.2.2.2.2.2.2.2.1.1, if_neg (nI_ge hi (show np < 2 ^ 31 by omega)), zldR_at (show i < 200 by omega) (show 200 < 2 ^ 31 by omega), p1, zon, zrP, zgP, JJ_cnt h1, if_pos hi, (hf i hi).1, zbi, j1, j2, nI_1, zsum]
      by_cases q : f i = 0
      · simp [q]
      · by_cases q2 : nI j = 0
        · simp [q, q2]
        · simp [q, q2]
    · simp only [bX2_openQuarrels_4, show σ.1 0 2 5 = nI np from h1.2.2.2.2.2.2.2.1.1, if_pos (nI_le (Nat.le_refl np) (show np < 2 ^ 31 by omega))]
  · unfold lX8_count_119
    refine zlp_for (st := fun i => (zsum (fun p => if f p = 0 then 0 else if μ.1 0 20 p = 0 then 1 else 0) i, nI i, μ)) (E := np) (fun i hi rc => ?_) (fun rc => ?_) N 0 (by omega) (by omega)
    · simp only [bX8_count_119, show μ.1 0 0 23 = nI np from h1.2.2.2.2.2.2.2.1.2, if_neg (nI_ge hi (show np < 2 ^ 31 by omega)), (hf i hi).2, zbi, zld_at (show i < 200 by omega) (show 200 < 2 ^ 31 by omega), nI_1, zsum]
      by_cases q : f i = 0
      · simp [q]
      · by_cases q2 : μ.1 0 20 i = 0
        · simp [q, q2]
        · simp [q, q2]
    · simp only [bX8_count_119, show μ.1 0 0 23 = nI np from h1.2.2.2.2.2.2.2.1.2, if_pos (nI_le (Nat.le_refl np) (show np < 2 ^ 31 by omega))]
theorem go_count {k N : Nat} {σ μ : zS} (x : Int32) (hN : 1000000000 ≤ N) (hJ : JJ k σ μ) : ∃ r τ ν, fX7_count N x σ = some (r, τ) ∧ fX8_count N x μ = some (r, ν) ∧ JJ (k + 1) τ ν := by
  obtain ⟨d, h, kn, ru, ne, cl, nt, np, h1, h2, h3, h4, h5, h6, h7, h8, h9, h10⟩ := id hJ
  have yes := JJ_mono hJ
  obtain ⟨r5, e5, f5⟩ := openT_eq h1 h5 hN
  obtain ⟨r7, e7, f7⟩ := openQ_eq h1 h5 h6 hN
  obtain ⟨⟨a1, a2⟩, ⟨a3, a4⟩, ⟨a5, a6⟩, -, ⟨a7, a8⟩, ⟨a9, a10⟩, ⟨a11, a12⟩, ⟨a13, a14⟩, -⟩ := h1
  unfold fX7_count fX8_count
  simp only [a1, a2, a3, a4, a5, a6, a7, a8, a9, a10, a11, a12, a13, a14, e5, e7, f5, f7, zbi, fX8_in_eq]
  by_cases q : x = 0
  · simp only [if_pos q]
    exact ⟨_, _, _, rfl, rfl, yes⟩
  simp only [if_neg q]; clear q
  by_cases q : x = 1
  · simp only [if_pos q]
    exact ⟨_, _, _, rfl, rfl, yes⟩
  simp only [if_neg q]; clear q
  by_cases q : x = 2
  · simp only [if_pos q]
    exact ⟨_, _, _, rfl, rfl, yes⟩
  simp only [if_neg q]; clear q
  by_cases q : x = 3
  · simp only [if_pos q]
    exact ⟨_, _, _, rfl, rfl, yes⟩
  simp only [if_neg q]; clear q
  by_cases q : x = 4
  · simp only [if_pos q]
    exact ⟨_, _, _, rfl, rfl, yes⟩
  simp only [if_neg q]; clear q
  by_cases q : x = 5
  · simp only [if_pos q]
    exact ⟨_, _, _, rfl, rfl, yes⟩
  simp only [if_neg q]; clear q
  by_cases q : x = 6
  · simp only [if_pos q]
    exact ⟨_, _, _, rfl, rfl, yes⟩
  simp only [if_neg q]; clear q
  by_cases q : x = 7
  · simp only [if_pos q]
    exact ⟨_, _, _, rfl, rfl, yes⟩
  simp only [if_neg q]; clear q
  by_cases q : x = 8
  · simp only [if_pos q]
    exact ⟨_, _, _, rfl, rfl, yes⟩
  simp only [if_neg q]; clear q
  have er : σ.1 0 11 = μ.1 0 26 := h2.2.2.2.2.2.1
  unfold fX7_refusalsOf
  by_cases q : (11 : Int32) ≤ x ∧ x ≤ 16
  · have c0 : ¬ x < 0 := fun z => by
      have q1 := Int32.lt_iff_toInt_lt.mp z
      have q2 := Int32.le_iff_toInt_le.mp q.1
      have : (11 : Int32).toInt = 11 := rfl
      have : (0 : Int32).toInt = 0 := rfl
      omega
    obtain ⟨j, hj, rfl⟩ := nI_of2 (M := 16) (n := 16) rfl c0 q.2
    have hj2 : 11 ≤ j := by
      have := Int32.le_iff_toInt_le.mp q.1
      rw [nI_toInt (by omega)] at this
      have : (11 : Int32).toInt = 11 := rfl
      omega
    have hc : j = 11 ∨ j = 12 ∨ j = 13 ∨ j = 14 ∨ j = 15 ∨ j = 16 := by omega
    have ej : -(10 - nI j) = nI (j - 10) := by rcases hc with rfl | rfl | rfl | rfl | rfl | rfl <;> rfl
    have ej2 : nI j - 10 = nI (j - 10) := by rcases hc with rfl | rfl | rfl | rfl | rfl | rfl <;> rfl
    have k1 : ¬ (10 - nI j < -6) := by rcases hc with rfl | rfl | rfl | rfl | rfl | rfl <;> decide
    have k2 : 10 - nI j ≤ -1 := by rcases hc with rfl | rfl | rfl | rfl | rfl | rfl <;> decide
    refine ⟨μ.1 0 26 (j - 10), σ, μ, ?_, ?_, yes⟩
    · simp only [if_neg k1, if_pos k2, ej, zld_at (show j - 10 < 7 by omega) (show 7 < 2 ^ 31 by omega), er]
    · simp only [if_pos q, if_neg c10, ej2, zld_at (show j - 10 < 7 by omega) (show 7 < 2 ^ 31 by omega)]
  · simp only [if_neg q]
    refine ⟨-9, σ, μ, ?_, rfl, yes⟩
    by_cases c1 : 10 - x < -6
    · rw [if_pos c1]
    · rw [if_neg c1]
      by_cases c2 : 10 - x ≤ -1
      · exfalso
        apply q
        rw [Int32.lt_iff_toInt_lt] at c1
        rw [Int32.le_iff_toInt_le] at c2
        rw [Int32.le_iff_toInt_le, Int32.le_iff_toInt_le]
        rw [Int32.toInt_sub] at c1 c2
        have l := Int32.le_toInt x
        have u := Int32.toInt_lt x
        have : (11 : Int32).toInt = 11 := rfl
        have : (16 : Int32).toInt = 16 := rfl
        have : (10 : Int32).toInt = 10 := rfl
        have : (-6 : Int32).toInt = -6 := rfl
        have : (-1 : Int32).toInt = -1 := rfl
        simp only [Int.bmod] at c1 c2
        split at c1 <;> split at c2 <;> omega
      · rw [if_neg c2]
