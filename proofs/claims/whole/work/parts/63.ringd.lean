def FRp (Z : Nat → Nat) (L n s : Nat) : Prop := (n = 0 ∧ ∀ t, t < L → Z t = 0) ∨ (n ≠ 0 ∧ s < L ∧ Z s = n ∧ ∀ t, t < L → Z t ≠ 0 → n ≤ Z t ∧ (t < s → n < Z t))
theorem SzC_bd {D : Nat → Nat → Nat} {s n : Nat} {st : Nat → Nat} (hC : Cert D s st) (hS : SzC D s st n) : n ≤ 10 := by
  rcases hS with ⟨z, -⟩ | ⟨-, ⟨a, u1, u2, u3⟩, -⟩
  · omega
  · have := (hC.1 a u1).2.2.1
    omega
theorem firstX {N c : Nat} {D : Nat → Nat → Nat} {w : zS} {F : Nat → Nat → Nat} {Z : Nat → Nat} (hN : 1000000000 ≤ N) (hc : c < 6) (hD : DB (w.1 0 24) c D) (hF : ∀ s, s < 10 → Cert D s (F s)) (hZ : ∀ s, s < 10 → SzC D s (F s) (Z s)) : ∃ w' n s R, fX1_findFirstRing N (nI c) w = some w' ∧ Fm [4, 25, 26, 27] w w' ∧ w'.1 0 4 4 = nI n ∧ n ≤ 10 ∧ FR Z n s ∧ (n ≠ 0 → Rw w' 25 n R ∧ RG D s n (F s) R) := by
  unfold fX1_findFirstRing lX1_findFirstRing_7
  simp only [zlet]
  refine zlp_inv (fun L z => ∃ w1 n s R, z = (nI L, w1) ∧ L ≤ 10 ∧ Fm [4, 25, 26, 27] w w1 ∧ w1.1 0 4 4 = nI n ∧ n ≤ 10 ∧ FRp Z L n s ∧ (n ≠ 0 → Rw w1 25 n R ∧ RG D s n (F s) R)) (fun r => ∃ w' n s R, r = some w' ∧ Fm [4, 25, 26, 27] w w' ∧ w'.1 0 4 4 = nI n ∧ n ≤ 10 ∧ FR Z n s ∧ (n ≠ 0 → Rw w' 25 n R ∧ RG D s n (F s) R)) 10 ?_ N 0 _ ⟨zsI w 0 4 4 0, 0, 0, fun _ => 0, rfl, by omega, Fm_st (Fm_refl _ w) (by decide) _ _, by rw [zsI_at, pk_us]; rfl, by omega, Or.inl ⟨rfl, fun t ht => by omega⟩, fun h => absurd rfl h⟩ (by omega)
  rintro L z rc ⟨w1, n, s, R, rfl, hL, hf, h4, hn, hP, hR⟩
  simp only [bX1_findFirstRing_7]
  by_cases c1 : L = 10
  · right
    subst c1
    rw [if_pos (by decide)]
    exact ⟨w1, n, s, R, rfl, hf, h4, hn, hP, hR⟩
  left
  refine ⟨by omega, ?_⟩
  have hL2 : L < 10 := by omega
  have r24 : w1.1 0 24 = w.1 0 24 := hf.2 0 24 (by decide)
  obtain ⟨w2, st, e2, f2, g2, k2⟩ := spread_eq (w := w1) hN hc hL2 (by rw [r24]; exact hD)
  have est : st = F L := Cert_uq k2 (hF L hL2)
  subst est
  have r24' : w2.1 0 24 = w.1 0 24 := (f2.2 0 24 (by decide)).trans r24
  obtain ⟨m, e3, k3⟩ := sizeAt_eq (w := w2) hN hc hL2 (by rw [r24']; exact hD) g2 k2
  have em : m = Z L := SzC_uq k3 (hZ L hL2)
  have hm : m ≤ 10 := SzC_bd k2 k3
  rw [if_neg (show ¬ (10 : Int32) ≤ nI L from nI_ge (b := 10) hL2 (by omega)), e2]
  simp only [zbv, zbi]
  rw [e3]
  simp only []
  have hf2 : Fm [4, 25, 26, 27] w w2 := Fm_tr hf (Fm_sub f2 (by decide))
  have h42 : w2.1 0 4 4 = nI n := by rw [f2.2 0 4 (by decide)]; exact h4
  have h252 : w2.1 0 25 = w1.1 0 25 := f2.2 0 25 (by decide)
  have keep : (Z L = 0 ∨ (n ≠ 0 ∧ n ≤ Z L)) → FRp Z (L + 1) n s := by
    intro hk
    rcases hP with ⟨a1, a2⟩ | ⟨a1, a2, a3, a4⟩
    · refine Or.inl ⟨a1, fun t ht => ?_⟩
      by_cases e : t = L
      · subst e; omega
      · exact a2 t (by omega)
    · refine Or.inr ⟨a1, by omega, a3, fun t ht hz => ?_⟩
      by_cases e : t = L
      · subst e; omega
      · exact a4 t (by omega) hz
  have keep2 : ∃ s', (∃ w1_1 n_1 s_1 R, s' = (nI (L + 1), w1_1) ∧ L + 1 ≤ 10 ∧ Fm [4, 25, 26, 27] w w1_1 ∧ w1_1.1 0 4 4 = nI n_1 ∧ n_1 ≤ 10 ∧ FRp Z (L + 1) n_1 s_1 ∧ (n_1 ≠ 0 → Rw w1_1 25 n_1 R ∧ RG D s_1 n_1 (F s_1) R)) ∧ rc (nI L + 1, w2) = rc s' ∨ ¬ (Z L = 0 ∨ (n ≠ 0 ∧ n ≤ Z L)) := by
    by_cases hk : Z L = 0 ∨ (n ≠ 0 ∧ n ≤ Z L)
    · exact ⟨_, Or.inl ⟨⟨w2, n, s, R, rfl, by omega, hf2, h42, hn, keep hk, fun hn0 => ⟨fun i hi => by rw [h252]; exact (hR hn0).1 i hi, (hR hn0).2⟩⟩, by rw [nI_1]⟩⟩
    · exact ⟨(nI L, w), Or.inr hk⟩
  have new : Z L ≠ 0 → (n = 0 ∨ Z L < n) → ∃ s', (∃ w1_1 n_1 s_1 R, s' = (nI (L + 1), w1_1) ∧ L + 1 ≤ 10 ∧ Fm [4, 25, 26, 27] w w1_1 ∧ w1_1.1 0 4 4 = nI n_1 ∧ n_1 ≤ 10 ∧ FRp Z (L + 1) n_1 s_1 ∧ (n_1 ≠ 0 → Rw w1_1 25 n_1 R ∧ RG D s_1 n_1 (F s_1) R)) ∧ (match fX1_traceRing N (nI c) (nI L) (nI m) w2 with | none => none | some q => rc (nI L + 1, q)) = rc s' := by
    intro hz hk
    obtain ⟨w3, R', e4, f4, h43, h253, hRG⟩ := trace_eq (w := w2) hN hc hL2 (by rw [r24']; exact hD) g2 k2 k3 (by omega)
    rw [e4]
    refine ⟨_, ⟨w3, m, L, R', rfl, by omega, Fm_tr hf2 (Fm_sub f4 (by decide)), h43, hm, ?_, fun _ => ⟨h253, hRG⟩⟩, by rw [nI_1]⟩
    refine Or.inr ⟨by omega, by omega, em.symm, fun t ht hzt => ?_⟩
    by_cases e : t = L
    · subst e; omega
    · rcases hP with ⟨a1, a2⟩ | ⟨a1, a2, a3, a4⟩
      · have := a2 t (by omega); omega
      · have := (a4 t (by omega) hzt).1
        omega
  by_cases c2 : m = 0
  · rw [if_pos ((nI_le0 (by omega)).mpr c2)]
    obtain ⟨s', q | q⟩ := keep2
    · exact ⟨s', q⟩
    · exact absurd (Or.inl (by omega)) q
  rw [if_neg (fun e => c2 ((nI_le0 (by omega)).mp e)), h42]
  by_cases c3 : n = 0
  · rw [if_pos ((nI_eq0 (by omega)).mpr c3)]
    exact new (by omega) (Or.inl c3)
  rw [if_neg (fun e => c3 ((nI_eq0 (by omega)).mp e))]
  by_cases c4 : n ≤ m
  · rw [if_pos (nI_le c4 (by omega))]
    obtain ⟨s', q | q⟩ := keep2
    · exact ⟨s', q⟩
    · exact absurd (Or.inr ⟨c3, by omega⟩) q
  · rw [if_neg (nI_ge (by omega) (by omega))]
    exact new (by omega) (Or.inr (by omega))
theorem exFZ {c : Nat} {D : Nat → Nat → Nat} {w : zS} (hc : c < 6) (hD : DB (w.1 0 24) c D) : ∃ (F : Nat → Nat → Nat) (Z : Nat → Nat), (∀ s, s < 10 → Cert D s (F s)) ∧ ∀ s, s < 10 → SzC D s (F s) (Z s) := by
  have h1 : ∀ s, ∃ (st : Nat → Nat) (n : Nat), s < 10 → Cert D s st ∧ SzC D s st n := by
    intro s
    by_cases hs : s < 10
    · obtain ⟨w2, st, e2, f2, g2, k2⟩ := spread_eq (N := 1000000000) (Nat.le_refl _) hc hs hD
      obtain ⟨m, e3, k3⟩ := sizeAt_eq (N := 1000000000) (w := w2) (Nat.le_refl _) hc hs (by rw [f2.2 0 24 (by decide)]; exact hD) g2 k2
      exact ⟨st, m, fun _ => ⟨k2, k3⟩⟩
    · exact ⟨fun _ => 0, 0, fun e => absurd e hs⟩
  obtain ⟨F, hF⟩ := Classical.axiomOfChoice h1
  obtain ⟨Z, hZ⟩ := Classical.axiomOfChoice hF
  exact ⟨F, Z, fun s hs => (hZ s hs).1, fun s hs => (hZ s hs).2⟩
/-! the reference's steps -/
def vv (s : Nat) (f : Nat → Nat) (a : Nat) : Nat := if a = s then 0 else if f a = 0 then 99 else f a
theorem vv_r {D : Nat → Nat → Nat} {s : Nat} {f : Nat → Nat} (hC : Cert D s f) {a : Nat} (h : a = s ∨ f a ≠ 0) : vv s f a = f a := by
  unfold vv
  by_cases e : a = s
  · rw [if_pos e, e, Cert_s hC]
  · rw [if_neg e, if_neg (by rcases h with h | h; exact absurd h e; exact h)]
theorem vv_n {s : Nat} {f : Nat → Nat} {a : Nat} (h : ¬ (a = s ∨ f a ≠ 0)) : vv s f a = 99 := by
  unfold vv
  rw [if_neg (fun e => h (Or.inl e)), if_pos]
  rcases Nat.eq_zero_or_pos (f a) with q | q
  · exact q
  · exact absurd (Or.inr (by omega)) h
/-- steps are never less than they are, and right as far as p -/
def Sg (s : Nat) (f : Nat → Nat) (p : Nat) (r : Nat → Int32) (g : Nat → Nat) : Prop := (∀ a, a < 10 → r a = nI (g a)) ∧ (∀ a, a < 10 → vv s f a ≤ g a ∧ g a ≤ 99) ∧ ∀ a, a < 10 → vv s f a ≤ p → g a = vv s f a
def Pr (D : Nat → Nat → Nat) (s : Nat) (f : Nat → Nat) (p a b : Nat) (g : Nat → Nat) : Prop := ∀ a0 b0, (a0 < a ∨ (a0 = a ∧ b0 < b)) → s < a0 → a0 < 10 → b0 < 10 → 0 < D a0 b0 → (b0 = s ∨ f b0 ≠ 0) → vv s f b0 ≤ p → g a0 ≤ vv s f b0 + 1
theorem steps_in {N c s h p x a : Nat} {D : Nat → Nat → Nat} {f : Nat → Nat} {w : zS} (hN : 1000000000 ≤ N) (hc : c < 6) (hh : h ≤ 10) (eh : w.1 0 0 1 = nI h) (hD : DB (w.1 0 22) c D) (hz : ∀ a b, h ≤ a ∨ h ≤ b → D a b = 0) (hs : s < h) (hC : Cert D s f) (ha : a < h) (hsa : s ≤ a) (K : Int32 → zS → Option zS) {r : Nat → Int32} {g : Nat → Nat} (hS : Sg s f p r g) (hP : Pr D s f p a 0 g) : ∃ x1 r' g', lX8_stepsTo_52 N (nI c) (nI s) (nI x) (nI a) K N (nI s, zrow w 31 r) = K x1 (zrow w 31 r') ∧ Sg s f p r' g' ∧ Pr D s f p (a + 1) 0 g' := by
  unfold lX8_stepsTo_52
  refine zlp_inv (fun i z => ∃ r g, z = (nI (s + i), zrow w 31 r) ∧ s + i ≤ h ∧ Sg s f p r g ∧ Pr D s f p a (s + i) g) (fun q => ∃ x1 r' g', q = K x1 (zrow w 31 r') ∧ Sg s f p r' g' ∧ Pr D s f p (a + 1) 0 g') (h - s) ?_ N 0 _ ⟨r, g, rfl, by omega, hS, fun a0 b0 g1 g2 g3 g4 g5 g6 g7 => ?_⟩ (by omega)
  · rintro i z rc ⟨r, g, rfl, hi, hS, hP⟩
    have eh' : (zrow w 31 r).1 0 0 1 = nI h := by rw [zrow_ne w r (by omega)]; exact eh
    simp only [bX8_stepsTo_52, eh']
    by_cases c1 : s + i = h
    · right
      rw [if_pos (nI_le (by omega) (by omega))]
      refine ⟨_, r, g, rfl, hS, fun a0 b0 g1 g2 g3 g4 g5 => hP a0 b0 ?_ g2 g3 g4 g5⟩
      have hb : b0 < h := by
        rcases Nat.lt_or_ge b0 h with q | q
        · exact q
        · have := hz a0 b0 (Or.inr q); omega
      omega
    left
    refine ⟨by omega, ?_⟩
    have r22 : (zrow w 31 r).1 0 22 = w.1 0 22 := zrow_ne w r (by omega)
    rw [if_neg (nI_ge (by omega) (by omega)), debtM N c a (s + i) _ hc (by omega) (by omega), r22, hD.1 a (s + i) (by omega) (by omega)]
    simp only [zbi, nI_1]
    have l2 := hD.2 a (s + i)
    obtain ⟨q1, q2, q3⟩ := id hS
    have ext : (0 < D a (s + i) → s < a → (s + i = s ∨ f (s + i) ≠ 0) → vv s f (s + i) ≤ p → g a ≤ vv s f (s + i) + 1) → Pr D s f p a (s + (i + 1)) g := by
      intro hx a0 b0 g1 g2 g3 g4 g5 g6 g7
      by_cases e : a0 = a ∧ b0 = s + i
      · obtain ⟨rfl, rfl⟩ := e
        exact hx g5 g2 g6 g7
      · exact hP a0 b0 (by omega) g2 g3 g4 g5 g6 g7
    by_cases c2 : D a (s + i) = 0
    · rw [if_pos ((nI_le0 (by omega)).mpr c2)]
      exact ⟨_, ⟨r, g, rfl, by omega, hS, ext (fun h0 => by omega)⟩, rfl⟩
    rw [if_neg (fun e => c2 ((nI_le0 (by omega)).mp e))]
    by_cases c3 : a = s
    · rw [if_pos (by rw [c3])]
      exact ⟨_, ⟨r, g, rfl, by omega, hS, ext (fun _ h0 => by omega)⟩, rfl⟩
    have gb := q2 (s + i) (by omega)
    have ga := q2 a (by omega)
    rw [if_neg (fun e => c3 ((nI_eq (by omega) (by omega)).mp e))]
    simp only [zld_at (show s + i < 10 by omega) (show 10 < 2 ^ 31 by omega), zld_at (show a < 10 by omega) (show 10 < 2 ^ 31 by omega), zrow_at, q1 (s + i) (by omega), q1 a (by omega), nI_1]
    by_cases c4 : g a ≤ g (s + i) + 1
    · rw [if_pos (nI_le c4 (by omega))]
      refine ⟨_, ⟨r, g, rfl, by omega, hS, ext (fun _ _ _ h4 => ?_)⟩, rfl⟩
      rw [← q3 (s + i) (by omega) h4]
      exact c4
    · rw [if_neg (nI_ge (by omega) (by omega)), zst_at (by omega) (by omega), zrow_st]
      have hr : s + i = s ∨ f (s + i) ≠ 0 := by
        by_cases q : s + i = s ∨ f (s + i) ≠ 0
        · exact q
        · have := vv_n q
          omega
      have cu := hC.2 a (s + i) (by omega) (by omega) (by omega) hr
      have va : vv s f a = f a := vv_r hC (Or.inr cu.1)
      have vb : vv s f (s + i) = f (s + i) := vv_r hC hr
      refine ⟨_, ⟨upd r a (nI (g (s + i) + 1)), fun y => if y = a then g (s + i) + 1 else g y, rfl, by omega, ⟨fun y hy => ?_, fun y hy => ?_, fun y hy hyp => ?_⟩, fun a0 b0 g1 g2 g3 g4 g5 g6 g7 => ?_⟩, rfl⟩
      · by_cases e : y = a
        · subst e; simp [pk_us]
        · simp only [pk_un e, if_neg e]; exact q1 y hy
      · by_cases e : y = a
        · subst e; simp only [if_true]; omega
        · simp only [if_neg e]; exact q2 y hy
      · by_cases e : y = a
        · subst e
          have := q3 y hy hyp
          omega
        · simp only [if_neg e]; exact q3 y hy hyp
      · by_cases e : a0 = a
        · subst e
          simp only [if_true]
          by_cases e2 : b0 = s + i
          · subst e2
            have := q3 (s + i) g4 g7
            omega
          · have := hP a0 b0 (by omega) g2 g3 g4 g5 g6 g7
            omega
        · simp only [if_neg e]
          exact hP a0 b0 (by omega) g2 g3 g4 g5 g6 g7
  · rcases g1 with g1 | g1
    · exact hP a0 b0 (Or.inl g1) g2 g3 g4 g5 g6 g7
    · exfalso
      rcases g6 with g6 | g6
      · omega
      · have := (hC.1 b0 g6).1
        omega
theorem steps_pass {N c s h p x : Nat} {D : Nat → Nat → Nat} {f : Nat → Nat} {w : zS} (hN : 1000000000 ≤ N) (hc : c < 6) (hh : h ≤ 10) (eh : w.1 0 0 1 = nI h) (hD : DB (w.1 0 22) c D) (hz : ∀ a b, h ≤ a ∨ h ≤ b → D a b = 0) (hs : s < h) (hC : Cert D s f) (K : Int32 → zS → Option zS) {r : Nat → Int32} {g : Nat → Nat} (hS : Sg s f p r g) (hp : p < 20) : ∃ x1 r' g', lX8_stepsTo_40 N (nI c) (nI s) (nI x) K N (nI s, zrow w 31 r) = K x1 (zrow w 31 r') ∧ Sg s f (p + 1) r' g' := by
  unfold lX8_stepsTo_40
  refine zlp_inv (fun i z => ∃ r g, z = (nI (s + i), zrow w 31 r) ∧ s + i ≤ h ∧ Sg s f p r g ∧ Pr D s f p (s + i) 0 g) (fun q => ∃ x1 r' g', q = K x1 (zrow w 31 r') ∧ Sg s f (p + 1) r' g') (h - s) ?_ N 0 _ ⟨r, g, rfl, by omega, hS, fun a0 b0 g1 g2 => by omega⟩ (by omega)
  rintro i z rc ⟨r, g, rfl, hi, hS, hP⟩
  have eh' : (zrow w 31 r).1 0 0 1 = nI h := by rw [zrow_ne w r (by omega)]; exact eh
  simp only [bX8_stepsTo_40, eh']
  by_cases c1 : s + i = h
  · right
    rw [if_pos (nI_le (by omega) (by omega))]
    obtain ⟨q1, q2, q3⟩ := id hS
    refine ⟨_, r, g, rfl, q1, q2, fun a ha hv => ?_⟩
    by_cases e : vv s f a ≤ p
    · exact q3 a ha e
    · have hr : a = s ∨ f a ≠ 0 := by
        by_cases q : a = s ∨ f a ≠ 0
        · exact q
        · have := vv_n q
          omega
      have va := vv_r hC hr
      have hf : f a ≠ 0 := by omega
      obtain ⟨u1, u2, u3, b, u4, u5, u6⟩ := hC.1 a hf
      have vb := vv_r hC u6
      have hb : b < 10 := by
        rcases u6 with u6 | u6
        · omega
        · exact (hC.1 b u6).2.1
      have hah : a < h := by
        rcases Nat.lt_or_ge a h with q | q
        · exact q
        · have := hz a b (Or.inl q); omega
      have := hP a b (by omega) u1 u2 hb u4 u6 (by omega)
      have := q2 a ha
      omega
  · left
    refine ⟨by omega, ?_⟩
    rw [if_neg (nI_ge (by omega) (by omega))]
    obtain ⟨x1, r', g', e, hS', hP'⟩ := steps_in (x := x) (a := s + i) hN hc hh eh hD hz hs hC (by omega) (by omega) (fun y11 w12 => rc (nI (s + i) + 1, w12)) hS hP
    rw [e]
    exact ⟨_, ⟨r', g', rfl, by omega, hS', hP'⟩, by rw [nI_1]; rfl⟩
theorem steps_eq {N c s h : Nat} {D : Nat → Nat → Nat} {f : Nat → Nat} {w : zS} (hN : 1000000000 ≤ N) (hc : c < 6) (hh : h ≤ 10) (eh : w.1 0 0 1 = nI h) (hD : DB (w.1 0 22) c D) (hz : ∀ a b, h ≤ a ∨ h ≤ b → D a b = 0) (hs : s < h) (hC : Cert D s f) : ∃ r, fX8_stepsTo N (nI c) (nI s) w = some (zrow w 31 r) ∧ ∀ a, a < 10 → r a = nI (vv s f a) := by
  unfold fX8_stepsTo
  have e0 : ∀ K : Int32 → zS → Option zS, lX8_stepsTo_2 N (nI c) (nI s) K N ((0 : Int32), w) = K (nI 10) (zrow w 31 (fil (w.1 0 31) 99 10)) := by
    intro K
    unfold lX8_stepsTo_2
    have := zlp_for (st := fun i => (nI i, zrow w 31 (fil (w.1 0 31) 99 i))) (E := 10) (b := fun rc s' => bX8_stepsTo_2 N (nI c) (nI s) K rc s'.1 s'.2) (r := K (nI 10) (zrow w 31 (fil (w.1 0 31) 99 10))) (fun i hi rc => ?_) (fun rc => ?_) N 0 (by omega) (by omega)
    · have e : zrow w 31 (fil (w.1 0 31) 99 0) = w := zrow_self w 31
      rw [e] at this
      exact this
    · have q : ¬ (10 : Int32) ≤ nI i := nI_ge (b := 10) hi (by omega)
      simp only [bX8_stepsTo_2, if_neg q, zst_at hi (show 10 < 2 ^ 31 by omega), zrow_st, fil_st, nI_1]
    · have q : (10 : Int32) ≤ nI 10 := by decide
      simp only [bX8_stepsTo_2, if_pos q]
  rw [e0, zst_at (by omega) (by omega), zrow_st]
  unfold lX8_stepsTo_31
  refine zlp_inv (fun p z => ∃ r g, z = (nI p, zrow w 31 r) ∧ p ≤ 10 ∧ Sg s f p r g) (fun q => ∃ r, q = some (zrow w 31 r) ∧ ∀ a, a < 10 → r a = nI (vv s f a)) 10 ?_ N 0 _ ⟨_, fun a => if a = s then 0 else 99, rfl, by omega, fun a ha => ?_, fun a ha => ?_, fun a ha hv => ?_⟩ (by omega)
  · rintro p z rc ⟨r, g, rfl, hp, hS⟩
    simp only [bX8_stepsTo_31]
    by_cases c1 : p = 10
    · right
      subst c1
      rw [if_pos (by decide)]
      refine ⟨r, rfl, fun a ha => ?_⟩
      obtain ⟨q1, q2, q3⟩ := hS
      rw [q1 a ha]
      congr 1
      by_cases e : a = s ∨ f a ≠ 0
      · have va := vv_r hC e
        refine q3 a ha ?_
        rw [va]
        rcases Nat.eq_zero_or_pos (f a) with q | q
        · omega
        · have := (hC.1 a (by omega)).2.2.1
          omega
      · have := vv_n e
        have := q2 a ha
        omega
    · left
      refine ⟨by omega, ?_⟩
      rw [if_neg (show ¬ (10 : Int32) ≤ nI p from nI_ge (b := 10) (by omega) (by omega))]
      obtain ⟨x1, r', g', e, hS'⟩ := steps_pass (x := p) hN hc hh eh hD hz hs hC (fun y13 w14 => rc (nI p + 1, w14)) hS (by omega)
      rw [e]
      exact ⟨_, ⟨r', g', rfl, by omega, hS'⟩, by rw [nI_1]⟩
  · by_cases e : a = s
    · subst e; simp [pk_us]; rfl
    · simp only [pk_un e, if_neg e]
      unfold fil
      rw [if_pos ha]
      rfl
  · by_cases e : a = s
    · simp only [if_pos e]
      unfold vv
      rw [if_pos e]
      omega
    · simp only [if_neg e]
      refine ⟨?_, by omega⟩
      unfold vv
      rw [if_neg e]
      split
      · omega
      · next q => have := (hC.1 a q).2.2.1; omega
  · by_cases e : a = s
    · simp only [if_pos e]
      unfold vv
      rw [if_pos e]
    · exfalso
      unfold vv at hv
      rw [if_neg e] at hv
      split at hv <;> omega
