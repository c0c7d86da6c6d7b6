theorem lsum_zero (n : Nat) : lsum (fun _ => 0) n = 0 := by
  induction n with
  | zero => rfl
  | succ n ih => simp only [lsum, ih]; rfl
theorem lsum_add (f g : Nat → Int64) (n : Nat) : lsum (fun i => f i + g i) n = lsum f n + lsum g n := by
  induction n with
  | zero => rfl
  | succ n ih =>
    simp only [lsum]
    rw [ih, Int64.add_assoc, Int64.add_assoc, ← Int64.add_assoc (lsum g n), Int64.add_comm (lsum g n), Int64.add_assoc (f n)]
theorem lsum_mul (f : Nat → Int64) (c : Int64) (n : Nat) : lsum f n * c = lsum (fun i => f i * c) n := by
  induction n with
  | zero => simp [lsum]
  | succ n ih => simp only [lsum]; rw [Int64.add_mul, ih]
theorem lsum_swap (f : Nat → Nat → Int64) (m n : Nat) : lsum (fun i => lsum (f i) m) n = lsum (fun j => lsum (fun i => f i j) n) m := by
  induction n with
  | zero => simp only [lsum]; rw [lsum_zero]
  | succ n ih =>
    simp only [lsum]
    rw [ih, ← lsum_add]
theorem lsum_tail {f : Nat → Int64} {m n : Nat} (hm : m ≤ n) (h : ∀ i, m ≤ i → i < n → f i = 0) : lsum f n = lsum f m := by
  induction n with
  | zero =>
    have : m = 0 := by omega
    rw [this]
  | succ n ih =>
    by_cases e : m = n + 1
    · rw [e]
    · simp only [lsum]
      rw [h n (by omega) (by omega), ih (by omega) (fun i h1 h2 => h i h1 (by omega)), Int64.add_zero]
/-- what the reference reads -/
def LM (w : zS) (d h kn ne : Nat) (sl : Nat → Int32) : Prop := w.1 0 0 5 = nI ne ∧ w.1 0 0 2 = nI kn ∧ Jl d h kn ne sl (w.1 0 3) (w.1 0 4) (w.1 0 5) ∧ h ≤ 10 ∧ kn ≤ 6 ∧ ne ≤ 2000 ∧ d ≤ 599 ∧ ∀ i, kn ≤ i → w.1 0 2 i = 0
theorem acc_ac {w : zS} {d h kn ne : Nat} {sl : Nat → Int32} (hw : LM w d h kn ne sl) {a m kd D : Nat} (hm : m < 20) (hD : D < 30) : zsum (sA w (nI a) (nI kd) (nI (30 * m + D))) ne = ac w ne a m kd (D + 1) := by
  obtain ⟨w1, w2, w3, b1, b2, b3, b4, w4⟩ := hw
  unfold ac
  refine zsum_congr (fun e he => ?_)
  obtain ⟨u, v, x, hu, hv, hx, eu, ev, es, ex⟩ := w3 e he
  unfold sA dm
  rw [ex, nI_clamp (by omega)]
  have l := nI_leI (a := x) (b := 30 * m + D) (by omega) (by omega)
  have : x ≤ 30 * m + D ↔ x - 30 * m < D + 1 := by omega
  simp only [l, this]
theorem feesM_eq {N : Nat} {w : zS} {d h kn ne : Nat} {sl : Nat → Int32} (hw : LM w d h kn ne sl) (hN : 1000000000 ≤ N) {a m : Nat} (hm : m < 20) : fX8_feesOf N (nI a) (nI m) w = some (feeF w ne a m, w) := by
  obtain ⟨w1, w2, w3, b1, b2, b3, b4, w4⟩ := id hw
  have inner : ∀ (s : Int64) (D : Nat) (K : Int64 → Int32 → zS → Option (Int64 × zS)), D < 30 → lX8_feesOf_23 N (nI a) (nI m) (nI (30 * m + D)) K N (s, (0 : Int32), w) = K (s + lsum (fun kd => ps (ac w ne a m kd (D + 1)) * (w.1 0 2 kd).toInt64) kn) (nI kn) w := by
    intro s D K hD
    unfold lX8_feesOf_23
    have := zlp_for (st := fun i => (s + lsum (fun kd => ps (ac w ne a m kd (D + 1)) * (w.1 0 2 kd).toInt64) i, nI i, w)) (E := kn) (b := fun rc s => bX8_feesOf_23 N (nI a) (nI m) (nI (30 * m + D)) K rc s.1 s.2.1 s.2.2) (r := K (s + lsum (fun kd => ps (ac w ne a m kd (D + 1)) * (w.1 0 2 kd).toInt64) kn) (nI kn) w) (fun i hi rc => ?_) (fun rc => ?_) N 0 (by omega) (by omega)
    · simpa [lsum, nI_0] using this
    · simp only [bX8_feesOf_23, w2, if_neg (nI_ge hi (show kn < 2 ^ 31 by omega)), zld_at (show i < 6 by omega) (show 6 < 2 ^ 31 by omega), zbi, accountOf_eq w1 b3 hN, acc_ac hw hm hD, nI_1, lsum, ← Int64.add_assoc]
      by_cases q1 : w.1 0 2 i = 0
      · rw [if_pos q1, if_pos (by decide), q1, show (0 : Int32).toInt64 = 0 from rfl, Int64.mul_zero]
      · rw [if_neg q1]
        by_cases q2 : ac w ne a m i (D + 1) ≤ 0
        · rw [if_pos q2]
          have : ps (ac w ne a m i (D + 1)) = 0 := by
            unfold ps
            by_cases q3 : ac w ne a m i (D + 1) < 0
            · rw [if_pos q3]; rfl
            · rw [if_neg q3, Int32.le_antisymm q2 (Int32.not_lt.mp q3)]; rfl
          rw [this, Int64.zero_mul]
        · rw [if_neg q2]
          have : ps (ac w ne a m i (D + 1)) = (ac w ne a m i (D + 1)).toInt64 := by
            unfold ps
            rw [if_neg (fun q3 => q2 (Int32.le_of_lt q3))]
          rw [this]
    · simp only [bX8_feesOf_23, w2, if_pos (nI_le (Nat.le_refl kn) (show kn < 2 ^ 31 by omega))]
  unfold fX8_feesOf lX8_feesOf_8
  have ef : feeF w ne a m = lsum (fun D => lsum (fun kd => ps (ac w ne a m kd (D + 1)) * (w.1 0 2 kd).toInt64) kn) 30 := by
    unfold feeF
    have e1 : ∀ D, lsum (fun kd => ps (ac w ne a m kd (D + 1)) * (w.1 0 2 kd).toInt64) kn = lsum (fun kd => ps (ac w ne a m kd (D + 1)) * (w.1 0 2 kd).toInt64) 6 := by
      intro D
      refine (lsum_tail b2 (fun i h1 h2 => ?_)).symm
      rw [w4 i h1, show (0 : Int32).toInt64 = 0 from rfl, Int64.mul_zero]
    rw [lsum_congr (fun D _ => e1 D), lsum_swap]
    exact lsum_congr (fun kd _ => lsum_mul _ _ _)
  rw [ef, i30']
  refine zlp_for (st := fun i => (lsum (fun D => lsum (fun kd => ps (ac w ne a m kd (D + 1)) * (w.1 0 2 kd).toInt64) kn) i, nI (30 * m + i), w)) (E := 30) (fun i hi rc => ?_) (fun rc => ?_) N 0 (by omega) (by omega)
  · have q : ¬ nI (30 * m) + 30 ≤ nI (30 * m + i) := by
      rw [show (30 : Int32) = nI 30 from rfl, nI_add]
      exact nI_ge (by omega) (by omega)
    simp only [bX8_feesOf_8, i30', if_neg q]
    rw [inner _ i _ hi]
    simp only [nI_1, lsum]
    rfl
  · have q : nI (30 * m) + 30 ≤ nI (30 * m + 30) := by
      rw [show (30 : Int32) = nI 30 from rfl, nI_add]
      exact nI_le (by omega) (by omega)
    simp only [bX8_feesOf_8, i30', if_pos q]
theorem JA_LX {d h kn ru ne cl nt np : Nat} {σ μ : zS} (hA : JA d h kn ru ne cl nt np σ μ) : LX σ μ d h kn ne ∧ LM μ d h kn ne (σ.1 0 13) := by
  obtain ⟨h1, h2, h3, h4, -⟩ := hA
  obtain ⟨b0, b1, b2, b3, b4, b5, b6, b7⟩ := JJ_b h1
  exact ⟨⟨h1.2.2.2.2.1.1, h2.2.2.1, h2.2.2.2.1, h2.2.1, h4, b1, b2, b4, b0⟩, ⟨h1.2.2.2.2.1.2, h1.2.2.1.2, h4, b1, b2, b4, b0, h3.2⟩⟩
theorem JJ_16 {k : Nat} {σ μ : zS} (f : Nat → Int32) (hJ : JJ k σ μ) : JJ k (zrow σ 16 f) μ := by
  obtain ⟨d, h, kn, ru, ne, cl, nt, np, h1, h2, h3, h4, h5, h6, h7, h8, h9, h10⟩ := hJ
  exact ⟨d, h, kn, ru, ne, cl, nt, np, by simpa [Js, zrow] using h1, by simpa [Je, zrow] using h2, h3, by simpa [zrow] using h4, by simpa [Jt, zrow] using h5, by simpa [Jp, zrow] using h6, h7, h8, h9, by simpa [zrow] using h10⟩
theorem go_fees {k N : Nat} {σ μ : zS} (x y : Int32) (hN : 1000000000 ≤ N) (hJ : JJ k σ μ) : ∃ r τ ν, fX7_fees N x y σ = some (r, τ) ∧ fX8_fees N x y μ = some (r, ν) ∧ JJ (k + 1) τ ν := by
  obtain ⟨d, h, kn, ru, ne, cl, nt, np, hA, hB⟩ := JJ_A hJ
  obtain ⟨lx, lm⟩ := JA_LX hA
  obtain ⟨h1, -⟩ := id hA
  obtain ⟨b0, b1, b2, b3, b4, b5, b6, b7⟩ := JJ_b h1
  have e1 : ∀ N x, fX7_isHouse N x σ = some (if 0 ≤ x ∧ x < nI h then 1 else 0, σ) := fun N x => by rw [fX7_isHouse_eq, h1.2.1.1]
  have e2 : ∀ N x, fX8_isHouse N x μ = some (if 0 ≤ x ∧ x < nI h then 1 else 0, μ) := fun N x => fX8_isHouse_eq N x μ (by omega) h1.2.1.2
  have no : ∀ j, JJ (k + 1) (zrefX σ j) (zrefM μ j) := fun j => JJ_ref hJ
  unfold fX7_fees fX8_fees fX7_whyNoMonth fX8_lackOfFees
  simp only [zbi, e1, e2]
  rcases zix x (n := h) (by omega) with ⟨a, ha, rfl, ca⟩ | ca
  · simp only [if_pos ca, if_neg c10]
    by_cases c1 : 0 ≤ y
    · simp only [if_pos c1]
      by_cases c2 : y ≤ 19
      · have c3 : y < 20 := by
          rw [Int32.le_iff_toInt_le] at c2
          rw [Int32.lt_iff_toInt_lt]
          have : (19 : Int32).toInt = 19 := rfl
          have : (20 : Int32).toInt = 20 := rfl
          omega
        obtain ⟨m, hm, rfl⟩ := nI_of2 (M := 19) (n := 19) rfl (Int32.not_lt.mpr c1) c2
        simp only [if_pos c2, if_pos c3, if_true, if_pos (show (0 : Int32) ≤ 0 by decide), feesX_eq lx hN (show a < 10 by omega) (show m < 20 by omega), feesM_eq lm hN (a := a) (show m < 20 by omega)]
        exact ⟨_, _, _, rfl, rfl, JJ_16 _ (JJ_mono hJ)⟩
      · have c3 : ¬ y < 20 := by
          rw [Int32.le_iff_toInt_le] at c2
          rw [Int32.lt_iff_toInt_lt]
          have : (19 : Int32).toInt = 19 := rfl
          have : (20 : Int32).toInt = 20 := rfl
          omega
        simp only [if_neg c2, if_neg c3, if_neg (show ¬ (-6 : Int32) = 0 by decide), if_neg (show ¬ (0 : Int32) ≤ -6 by decide), rfX6, rfM6]
        exact ⟨_, _, _, rfl, rfl, no 6⟩
    · simp only [if_neg c1, if_neg (show ¬ (-4 : Int32) = 0 by decide), if_neg (show ¬ (0 : Int32) ≤ -4 by decide), rfX4, rfM4]
      exact ⟨_, _, _, rfl, rfl, no 4⟩
  · simp only [if_neg ca, if_neg (show ¬ (-1 : Int32) = 0 by decide), if_neg (show ¬ (0 : Int32) ≤ -1 by decide), rfX1, rfM1]
    exact ⟨_, _, _, rfl, rfl, no 1⟩
def zrowJ (σ : zS) (c : Nat) (f : Nat → Int64) : zS := (σ.1, fun q' c' => if q' = 0 ∧ c' = c then f else σ.2.1 q' c', σ.2.2)
theorem zrowJ_st (σ : zS) (c : Nat) (f : Nat → Int64) (j : Nat) (v : Int64) : zsJ (zrowJ σ c f) 0 c j v = zrowJ σ c (vp_updL f j v) := by
  refine Prod.ext rfl (Prod.ext (funext fun a => funext fun b => ?_) rfl)
  simp only [zsJ, zrowJ]
  by_cases h : a = 0 ∧ b = c
  · simp only [if_pos h, and_self, if_true]
  · simp only [if_neg h]
theorem zrowJ_self (σ : zS) (c : Nat) : zrowJ σ c (σ.2.1 0 c) = σ := by
  refine Prod.ext rfl (Prod.ext (funext fun a => funext fun b => ?_) rfl)
  simp only [zrowJ]
  by_cases h : a = 0 ∧ b = c
  · rw [if_pos h, h.1, h.2]
  · rw [if_neg h]
theorem zrow_zrow (σ : zS) (c : Nat) (f g : Nat → Int32) : zrow (zrow σ c f) c g = zrow σ c g := by
  refine Prod.ext (funext fun a => funext fun b => ?_) rfl
  simp only [zrow]
  by_cases h : a = 0 ∧ b = c
  · simp only [if_pos h]
  · simp only [if_neg h]
/-- the bills kept for the first i houses -/
def bilK (μ : zS) (ne cl : Nat) : Nat → Nat → Int64
  | 0 => μ.2.1 0 8
  | i + 1 => vp_updL (bilK μ ne cl i) (20 * i + cl) (feeF μ ne i cl)
def chgR (σ μ : zS) (ne cl : Nat) : Nat → Nat → Int32
  | 0 => σ.1 0 16
  | i + 1 => rwc μ i cl (chgR σ μ ne cl i) ne
theorem go_close {k N : Nat} {σ μ : zS} (hN : 1000000000 ≤ N) (hJ : JJ k σ μ) : ∃ r τ ν, fX7_close N σ = some (r, τ) ∧ fX8_close N μ = some (r, ν) ∧ JJ (k + 1) τ ν := by
  obtain ⟨d, h, kn, ru, ne, cl, nt, np, hA, hB⟩ := JJ_A hJ
  obtain ⟨lx, lm⟩ := JA_LX hA
  obtain ⟨h1, h2, h3, h4, h5, h6, h7, h8, h9⟩ := id hA
  obtain ⟨b0, b1, b2, b3, b4, b5, b6, b7⟩ := JJ_b h1
  have no : ∀ j, JJ (k + 1) (zrefX σ j) (zrefM μ j) := fun j => JJ_ref hJ
  have xc : σ.1 0 1 5 = nI cl := h1.2.2.2.2.2.1.1
  have mc : μ.1 0 0 11 = nI cl := h1.2.2.2.2.2.1.2
  have xh : σ.1 0 0 1 = nI h := h1.2.1.1
  have mh : μ.1 0 0 1 = nI h := h1.2.1.2
  have e8 : σ.2.1 0 12 = μ.2.1 0 8 := h2.2.2.2.2.2.2.1
  unfold fX7_close fX8_close
  have x30 : (nI cl + 1) * 30 = nI (30 * cl + 30) := by rw [nI_1, i30]; congr 1
  have m30 : (30 : Int32) * nI cl + 30 = nI (30 * cl + 30) := by rw [i30', show (30 : Int32) = nI 30 from rfl, nI_add]
  rw [xc, mc, x30, m30, show σ.1 0 0 0 = nI d from h1.1.1, show μ.1 0 0 0 = nI d from h1.1.2, if_pos (show nI cl < 20 from nI_lt (b := 20) (by omega) (by omega))]
  by_cases c : 30 * cl + 30 ≤ d
  · have c1 : nI (30 * cl + 30) ≤ nI d := nI_le c (by omega)
    have c2 : ¬ nI cl = 20 := fun e => by have := (nI_eq (a := cl) (b := 20) (by omega) (by omega)).mp e; omega
    rw [if_pos c1, if_pos c1, if_neg c2]
    have xl : lX7_close_43 N (nI cl) (fun y4 w5 => zlet (zsI w5 0 1 5 ((w5.1 0 1 5) + (1 : Int32))) fun w6 => some (nI cl, w6)) N ((0 : Int32), σ) = some (nI cl, zsI (zrow (zrowJ σ 12 (bilK μ ne cl h)) 16 (chgR σ μ ne cl h)) 0 1 5 (nI cl + 1)) := by
      unfold lX7_close_43
      have := zlp_for (st := fun i => (nI i, zrow (zrowJ σ 12 (bilK μ ne cl i)) 16 (chgR σ μ ne cl i))) (E := h) (b := fun rc s => bX7_close_43 N (nI cl) (fun y4 w5 => zlet (zsI w5 0 1 5 ((w5.1 0 1 5) + (1 : Int32))) fun w6 => some (nI cl, w6)) rc s.1 s.2) (r := some (nI cl, zsI (zrow (zrowJ σ 12 (bilK μ ne cl h)) 16 (chgR σ μ ne cl h)) 0 1 5 (nI cl + 1))) (fun i hi rc => ?_) (fun rc => ?_) N 0 (by omega) (by omega)
      · have e0 : zrow (zrowJ σ 12 (bilK μ ne cl 0)) 16 (chgR σ μ ne cl 0) = σ := by
          show zrow (zrowJ σ 12 (μ.2.1 0 8)) 16 (σ.1 0 16) = σ
          rw [← e8, zrowJ_self, zrow_self]
        rw [e0] at this
        exact this
      · have eh : (zrow (zrowJ σ 12 (bilK μ ne cl i)) 16 (chgR σ μ ne cl i)).1 0 0 1 = nI h := by rw [zrow_ne _ _ (by omega)]; exact xh
        have lxi : LX (zrow (zrowJ σ 12 (bilK μ ne cl i)) 16 (chgR σ μ ne cl i)) μ d h kn ne := by
          obtain ⟨w1, w2, w3, w4, w5, w6⟩ := lx
          refine ⟨by rw [zrow_ne _ _ (by omega)]; exact w1, by rw [zrow_ne _ _ (by omega)]; exact w2, by rw [zrow_ne _ _ (by omega)]; exact w3, by rw [zrow_ne _ _ (by omega)]; exact w4, by rw [zrow_ne _ _ (by omega)]; exact w5, w6⟩
        have es : ∀ (g : Nat → Int32) (v : Int64), zsJ (zrow (zrowJ σ 12 (bilK μ ne cl i)) 16 g) 0 12 (20 * i + cl) v = zrow (zrowJ σ 12 (vp_updL (bilK μ ne cl i) (20 * i + cl) v)) 16 g := by
          intro g v
          rw [← zrowJ_st]
          rfl
        simp only [bX7_close_43, eh, if_neg (nI_ge hi (show h < 2 ^ 31 by omega)), feesX_eq lxi hN (show i < 10 by omega) (show cl < 20 by omega), zbi, i20, zstJ_at (show 20 * i + cl < 200 by omega) (show 200 < 2 ^ 31 by omega), zrow_zrow, zrow_at, es, nI_1]
        rfl
      · have eh : (zrow (zrowJ σ 12 (bilK μ ne cl h)) 16 (chgR σ μ ne cl h)).1 0 0 1 = nI h := by rw [zrow_ne _ _ (by omega)]; exact xh
        have ec : (zrow (zrowJ σ 12 (bilK μ ne cl h)) 16 (chgR σ μ ne cl h)).1 0 1 5 = nI cl := by rw [zrow_ne _ _ (by omega)]; exact xc
        simp only [bX7_close_43, eh, if_pos (nI_le (Nat.le_refl h) (show h < 2 ^ 31 by omega)), zlet, ec]
    have ml : lX8_close_42 N (fun y6 w7 => zlet (zsI w7 0 0 11 ((w7.1 0 0 11) + (1 : Int32))) fun w8 => some (((w8.1 0 0 11) - (1 : Int32)), w8)) N ((0 : Int32), μ) = some (nI cl, zsI (zrowJ μ 8 (bilK μ ne cl h)) 0 0 11 (nI cl + 1)) := by
      unfold lX8_close_42
      have := zlp_for (st := fun i => (nI i, zrowJ μ 8 (bilK μ ne cl i))) (E := h) (b := fun rc s => bX8_close_42 N (fun y6 w7 => zlet (zsI w7 0 0 11 ((w7.1 0 0 11) + (1 : Int32))) fun w8 => some (((w8.1 0 0 11) - (1 : Int32)), w8)) rc s.1 s.2) (r := some (nI cl, zsI (zrowJ μ 8 (bilK μ ne cl h)) 0 0 11 (nI cl + 1))) (fun i hi rc => ?_) (fun rc => ?_) N 0 (by omega) (by omega)
      · have e0 : zrowJ μ 8 (bilK μ ne cl 0) = μ := zrowJ_self μ 8
        rw [e0] at this
        exact this
      · have lmi : LM (zrowJ μ 8 (bilK μ ne cl i)) d h kn ne (σ.1 0 13) := lm
        have q1 : (zrowJ μ 8 (bilK μ ne cl i)).1 0 0 1 = nI h := mh
        have q2 : (zrowJ μ 8 (bilK μ ne cl i)).1 0 0 11 = nI cl := mc
        have q3 : feeF (zrowJ μ 8 (bilK μ ne cl i)) ne i cl = feeF μ ne i cl := rfl
        simp only [bX8_close_42, q1, if_neg (nI_ge hi (show h < 2 ^ 31 by omega)), q2, feesM_eq lmi hN (a := i) (show cl < 20 by omega), zbi, i20', zstJ_at (show 20 * i + cl < 200 by omega) (show 200 < 2 ^ 31 by omega), zrowJ_st, nI_1, q3]
        rfl
      · have q1 : (zrowJ μ 8 (bilK μ ne cl h)).1 0 0 1 = nI h := mh
        have q2 : (zrowJ μ 8 (bilK μ ne cl h)).1 0 0 11 = nI cl := mc
        simp only [bX8_close_42, q1, if_pos (nI_le (Nat.le_refl h) (show h < 2 ^ 31 by omega)), zlet, q2]
        simp [zsI, upd]
    rw [xl, ml]
    refine ⟨_, _, _, rfl, rfl, d, h, kn, ru, ne, cl + 1, nt, np, ?_, ?_, ?_, ?_, ?_, ?_, h7, ?_, ?_, ?_⟩
    · obtain ⟨a1, a2, a3, a4, a5, a6, a7, a8, a9, a10⟩ := h1
      exact ⟨by simpa [zsI, zrow, zrowJ, upd] using a1, by simpa [zsI, zrow, zrowJ, upd] using a2, by simpa [zsI, zrow, zrowJ, upd] using a3, by simpa [zsI, zrow, zrowJ, upd] using a4, by simpa [zsI, zrow, zrowJ, upd] using a5, ⟨by simp [zsI, upd, nI_1], by simp [zsI, upd, nI_1]⟩, by simpa [zsI, zrow, zrowJ, upd] using a7, by simpa [zsI, zrow, zrowJ, upd] using a8, a9, by omega⟩
    · obtain ⟨u1, u2, u3, u4, u5, u6, u7, u8, u9, u10, u11⟩ := h2
      exact ⟨by simpa [zsI, zrow, zrowJ] using u1, by simpa [zsI, zrow, zrowJ] using u2, by simpa [zsI, zrow, zrowJ] using u3, by simpa [zsI, zrow, zrowJ] using u4, by simpa [zsI, zrow, zrowJ] using u5, by simpa [zsI, zrow, zrowJ] using u6, by simp [zsI, zrow, zrowJ], by simpa [zsI, zrow, zrowJ] using u8, by simpa [zsI, zrow, zrowJ] using u9, by simpa [zsI, zrow, zrowJ] using u10, by simpa [zsI, zrow, zrowJ] using u11⟩
    · simpa [zsI, zrowJ] using h3
    · simpa [zsI, zrow, zrowJ] using h4
    · simpa [Jt, zsI, zrow, zrowJ] using h5
    · simpa [Jp, zsI, zrow, zrowJ] using h6
    · simpa [zsI, zrowJ] using h8
    · simpa [zsI, zrowJ] using h9
    · have := Jb_k (Nat.le_succ k) hB
      simpa [zsI, zrow, zrowJ] using this
  · have c1 : ¬ nI (30 * cl + 30) ≤ nI d := nI_ge (by omega) (by omega)
    rw [if_neg c1, if_neg c1]
    simp only [zbi, rfX3, rfM3]
    exact ⟨_, _, _, rfl, rfl, no 3⟩
