/-- the reference's state but for its ring -/
def FmM (w0 w : zS) : Prop := Fm [0, 30, 31] w0 w ∧ ∀ j, j ≠ 38 → w.1 0 0 j = w0.1 0 0 j
theorem FmM_refl (w : zS) : FmM w w := ⟨Fm_refl _ w, fun _ _ => rfl⟩
theorem FmM_st {w0 w : zS} (h : FmM w0 w) (v : Int32) : FmM w0 (zsI w 0 0 38 v) := ⟨Fm_st h.1 (by decide) _ _, fun j hj => by rw [zsI_at, pk_un hj]; exact h.2 j hj⟩
theorem FmM_row {w0 w : zS} (h : FmM w0 w) (r : Nat → Int32) : FmM w0 (zrow w 31 r) := ⟨Fm_row h.1 (by decide) _, fun j hj => by rw [zrow_ne w r (by omega)]; exact h.2 j hj⟩
theorem FmM_st30 {w0 w : zS} (h : FmM w0 w) (j : Nat) (v : Int32) : FmM w0 (zsI w 0 30 j v) := ⟨Fm_st h.1 (by decide) _ _, fun i hi => by rw [zsI_ne w _ _ (by decide)]; exact h.2 i hi⟩
/-- the first ring among houses from s on, looking at s up to b -/
def InP (D : Nat → Nat → Nat) (s : Nat) (f : Nat → Nat) (u nb : Nat) (sb : Int32) (n : Nat) (sv : Int32) : Prop := (sv = nI s ∧ n ≠ 0 ∧ (∃ a, a < u ∧ f a ≠ 0 ∧ 0 < D s a ∧ n = f a + 1) ∧ (nb = 0 ∨ n ≤ nb) ∧ ∀ a, a < u → f a ≠ 0 → 0 < D s a → n ≤ f a + 1) ∨ (n = nb ∧ sv = sb ∧ ∀ a, a < u → f a ≠ 0 → 0 < D s a → nb ≠ 0 ∧ nb < f a + 1)
theorem ring_in {N c s h nb : Nat} {D : Nat → Nat → Nat} {f : Nat → Nat} {w0 w : zS} {sb : Int32} (hN : 1000000000 ≤ N) (hc : c < 6) (hh : h ≤ 10) (eh : w0.1 0 0 1 = nI h) (hD : DB (w0.1 0 22) c D) (hs : s < h) (hC : Cert D s f) (hnb : nb ≤ 10) (hf : FmM w0 w) (h31 : ∀ a, a < 10 → w.1 0 31 a = nI (vv s f a)) (h38 : w.1 0 0 38 = nI nb) (K : Int32 → Int32 → zS → Option zS) : ∃ x1 n sv w', lX8_findRing_30 N (nI c) (nI s) K N (sb, nI s + 1, w) = K sv x1 w' ∧ FmM w0 w' ∧ w'.1 0 30 = w.1 0 30 ∧ w'.1 0 0 38 = nI n ∧ n ≤ 10 ∧ InP D s f h nb sb n sv := by
  unfold lX8_findRing_30
  have hst : ∀ a, f a ≤ 9 := by
    intro a
    rcases Nat.eq_zero_or_pos (f a) with z | z
    · omega
    · exact (hC.1 a (by omega)).2.2.1
  refine zlp_inv (fun i z => ∃ n sv w1, z = (sv, nI (s + 1 + i), w1) ∧ s + 1 + i ≤ h ∧ FmM w0 w1 ∧ w1.1 0 30 = w.1 0 30 ∧ w1.1 0 31 = w.1 0 31 ∧ w1.1 0 0 38 = nI n ∧ n ≤ 10 ∧ InP D s f (s + 1 + i) nb sb n sv) (fun q => ∃ x1 n sv w', q = K sv x1 w' ∧ FmM w0 w' ∧ w'.1 0 30 = w.1 0 30 ∧ w'.1 0 0 38 = nI n ∧ n ≤ 10 ∧ InP D s f h nb sb n sv) (h - 1 - s) ?_ N 0 _ ⟨nb, sb, w, by rw [nI_1], by omega, hf, rfl, rfl, h38, hnb, Or.inr ⟨rfl, rfl, fun a h1 h2 => ?_⟩⟩ (by omega)
  · rintro i z rc ⟨n, sv, w1, rfl, hi, hf1, h30, h31', h38', hn, hI⟩
    have eh' : w1.1 0 0 1 = nI h := by rw [hf1.2 1 (by decide)]; exact eh
    simp only [bX8_findRing_30, eh']
    by_cases c1 : s + 1 + i = h
    · right
      rw [if_pos (nI_le (by omega) (by omega))]
      rw [c1] at hI
      exact ⟨_, n, sv, w1, rfl, hf1, h30, h38', hn, hI⟩
    left
    refine ⟨by omega, ?_⟩
    have r22 : w1.1 0 22 = w0.1 0 22 := hf1.1.2 0 22 (by decide)
    have l2 := hD.2 s (s + 1 + i)
    have l1 := hst (s + 1 + i)
    rw [if_neg (nI_ge (by omega) (by omega)), debtM N c s (s + 1 + i) _ hc (by omega) (by omega), r22, hD.1 s (s + 1 + i) (by omega) (by omega)]
    simp only [zbi, nI_1]
    have same : (f (s + 1 + i) = 0 ∨ D s (s + 1 + i) = 0 ∨ (n ≠ 0 ∧ n < f (s + 1 + i) + 1)) → InP D s f (s + 1 + (i + 1)) nb sb n sv := by
      intro hk
      rcases hI with ⟨a1, a2, ⟨a, a3, a4, a5, a6⟩, a7, a8⟩ | ⟨a1, a2, a3⟩
      · refine Or.inl ⟨a1, a2, ⟨a, by omega, a4, a5, a6⟩, a7, fun b g1 g2 g3 => ?_⟩
        by_cases e : b = s + 1 + i
        · subst e
          rcases hk with hk | hk | hk
          · exact absurd hk g2
          · omega
          · omega
        · exact a8 b (by omega) g2 g3
      · refine Or.inr ⟨a1, a2, fun b g1 g2 g3 => ?_⟩
        by_cases e : b = s + 1 + i
        · subst e
          rcases hk with hk | hk | hk
          · exact absurd hk g2
          · omega
          · omega
        · exact a3 b (by omega) g2 g3
    by_cases c2 : D s (s + 1 + i) = 0
    · rw [if_pos ((nI_le0 (by omega)).mpr c2)]
      exact ⟨_, ⟨n, sv, w1, rfl, by omega, hf1, h30, h31', h38', hn, same (Or.inr (Or.inl c2))⟩, rfl⟩
    rw [if_neg (fun e => c2 ((nI_le0 (by omega)).mp e))]
    simp only [zld_at (show s + 1 + i < 10 by omega) (show 10 < 2 ^ 31 by omega), h31', h31 (s + 1 + i) (by omega), h38']
    by_cases c3 : f (s + 1 + i) = 0
    · have : vv s f (s + 1 + i) = 99 := vv_n (fun q => by rcases q with q | q; omega; exact q c3)
      rw [this, if_pos (by decide)]
      exact ⟨_, ⟨n, sv, w1, rfl, by omega, hf1, h30, h31', h38', hn, same (Or.inl c3)⟩, rfl⟩
    have ev : vv s f (s + 1 + i) = f (s + 1 + i) := vv_r hC (Or.inr c3)
    rw [ev, if_neg (show ¬ (99 : Int32) ≤ nI (f (s + 1 + i)) from nI_ge (b := 99) (by omega) (by omega))]
    have new : (n = 0 ∨ f (s + 1 + i) + 1 ≤ n) → InP D s f (s + 1 + (i + 1)) nb sb (f (s + 1 + i) + 1) (nI s) := by
      intro hk
      refine Or.inl ⟨rfl, by omega, ⟨s + 1 + i, by omega, c3, by omega, rfl⟩, ?_, fun b g1 g2 g3 => ?_⟩
      · rcases hI with ⟨a1, a2, -, a7, -⟩ | ⟨a1, a2, a3⟩
        · omega
        · omega
      · by_cases e : b = s + 1 + i
        · subst e; omega
        · rcases hI with ⟨a1, a2, -, -, a8⟩ | ⟨a1, a2, a3⟩
          · have := a8 b (by omega) g2 g3
            omega
          · have := a3 b (by omega) g2 g3
            omega
    have newS : (n = 0 ∨ f (s + 1 + i) + 1 ≤ n) → ∃ s', (∃ n_1 sv w1_1, s' = (sv, nI (s + 1 + (i + 1)), w1_1) ∧ s + 1 + (i + 1) ≤ h ∧ FmM w0 w1_1 ∧ w1_1.1 0 30 = w.1 0 30 ∧ w1_1.1 0 31 = w.1 0 31 ∧ w1_1.1 0 0 38 = nI n_1 ∧ n_1 ≤ 10 ∧ InP D s f (s + 1 + (i + 1)) nb sb n_1 sv) ∧ rc (nI s, nI (s + 1 + i + 1), zsI w1 0 0 38 (nI (f (s + 1 + i) + 1))) = rc s' := by
      intro hk
      exact ⟨_, ⟨f (s + 1 + i) + 1, nI s, _, rfl, by omega, FmM_st hf1 _, by rw [zsI_ne _ _ _ (by decide)]; exact h30, by rw [zsI_ne _ _ _ (by decide)]; exact h31', by rw [zsI_at, pk_us], by omega, new hk⟩, rfl⟩
    simp only [zlet, nI_1]
    by_cases c4 : n = 0
    · rw [if_pos ((nI_eq0 (by omega)).mpr c4)]
      exact newS (Or.inl c4)
    rw [if_neg (fun e => c4 ((nI_eq0 (by omega)).mp e))]
    by_cases c5 : n < f (s + 1 + i) + 1
    · rw [if_pos (nI_lt c5 (by omega))]
      exact ⟨_, ⟨n, sv, w1, rfl, by omega, hf1, h30, h31', h38', hn, same (Or.inr (Or.inr ⟨c4, c5⟩))⟩, rfl⟩
    · rw [if_neg (nI_nlt (by omega) (by omega))]
      exact newS (Or.inr (by omega))
  · have := (hC.1 a h2).1
    omega
/-- the first ring among houses from L on -/
def FRd (Z : Nat → Nat) (L n : Nat) (sv : Int32) : Prop := (n = 0 ∧ ∀ t, L ≤ t → t < 10 → Z t = 0) ∨ (n ≠ 0 ∧ ∃ s, sv = nI s ∧ L ≤ s ∧ s < 10 ∧ Z s = n ∧ ∀ t, L ≤ t → t < 10 → Z t ≠ 0 → n ≤ Z t ∧ (t < s → n < Z t))
theorem FRd_step {D : Nat → Nat → Nat} {Z : Nat → Nat} {f : Nat → Nat} {L n nb h : Nat} {sv sb : Int32} (hL : L < 10) (hz : ∀ a b, h ≤ a ∨ h ≤ b → D a b = 0) (hS : SzC D L f (Z L)) (hp : FRd Z (L + 1) nb sb) (hI : InP D L f h nb sb n sv) : FRd Z L n sv := by
  have hb : ∀ a, 0 < D L a → a < h := by
    intro a ha
    rcases Nat.lt_or_ge a h with q | q
    · exact q
    · have := hz L a (Or.inr q); omega
  rcases hI with ⟨a1, a2, ⟨a, a3, a4, a5, a6⟩, a7, a8⟩ | ⟨a1, a2, a3⟩
  · have e : n = Z L := SzC_uq (Or.inr ⟨a2, ⟨a, a4, a5, a6⟩, fun b g1 g2 => a8 b (hb b g2) g1 g2⟩) hS
    refine Or.inr ⟨a2, L, a1, Nat.le_refl L, hL, e.symm, fun t t1 t2 t3 => ?_⟩
    by_cases q : t = L
    · subst q; omega
    · rcases hp with ⟨p1, p2⟩ | ⟨p1, s, p2, p3, p4, p5, p6⟩
      · have := p2 t (by omega) t2; omega
      · have := (p6 t (by omega) t2 t3).1
        omega
  · subst a1 a2
    have hZ : Z L = 0 ∨ (n ≠ 0 ∧ n < Z L) := by
      rcases hS with ⟨z1, z2⟩ | ⟨z1, ⟨a, z2, z3, z4⟩, z5⟩
      · exact Or.inl z1
      · have := a3 a (hb a z3) z2 z3
        right; omega
    rcases hp with ⟨p1, p2⟩ | ⟨p1, s, p2, p3, p4, p5, p6⟩
    · refine Or.inl ⟨p1, fun t t1 t2 => ?_⟩
      by_cases q : t = L
      · subst q; omega
      · exact p2 t (by omega) t2
    · refine Or.inr ⟨p1, s, p2, by omega, p4, p5, fun t t1 t2 t3 => ?_⟩
      by_cases q : t = L
      · subst q; omega
      · exact p6 t (by omega) t2 t3
theorem ring_tr {N c s n i h : Nat} {D : Nat → Nat → Nat} {f : Nat → Nat} {w0 w : zS} (hN : 1000000000 ≤ N) (hc : c < 6) (hD : DB (w0.1 0 22) c D) (hs : s < h) (hh : h ≤ 10) (hC : Cert D s f) (hn : n ≤ 10) (hi : 1 ≤ i) (hin : i < n) {at' : Nat} (ha : at' < 10) (hf : FmM w0 w) (h31 : ∀ a, a < 10 → w.1 0 31 a = nI (vv s f a)) (h38 : w.1 0 0 38 = nI n) (h30 : w.1 0 30 (i - 1) = nI at') (hex : ∃ b, s < b ∧ b < 10 ∧ f b = n - i ∧ 0 < D at' b) (K : Int32 → zS → Option zS) : ∃ b, lX8_findRing_146 N (nI c) (nI s) (nI i) K N (nI s, w) = K (nI b) w ∧ s < b ∧ b < 10 ∧ f b = n - i ∧ 0 < D at' b ∧ ∀ b', s < b' → b' < b → ¬ (f b' = n - i ∧ 0 < D at' b') := by
  unfold lX8_findRing_146
  have hst : ∀ a, f a ≤ 9 := by
    intro a
    rcases Nat.eq_zero_or_pos (f a) with z | z
    · omega
    · exact (hC.1 a (by omega)).2.2.1
  have hvv : ∀ a, (vv s f a = n - i ↔ f a = n - i) ∧ vv s f a ≤ 99 := by
    intro a
    have := hst a
    have z := Cert_s hC
    unfold vv
    by_cases e : a = s
    · rw [if_pos e, e, z]; omega
    · rw [if_neg e]
      split <;> omega
  refine zlp_inv (fun j z => z = (nI (s + j), w) ∧ s + j ≤ 10 ∧ ∀ b', s < b' → b' < s + j → ¬ (f b' = n - i ∧ 0 < D at' b')) (fun r => ∃ b, r = K (nI b) w ∧ s < b ∧ b < 10 ∧ f b = n - i ∧ 0 < D at' b ∧ ∀ b', s < b' → b' < b → ¬ (f b' = n - i ∧ 0 < D at' b')) (10 - s) ?_ N 0 _ ⟨rfl, by omega, fun b' h1 h2 => by omega⟩ (by omega)
  rintro j z rc ⟨rfl, hj, hp⟩
  have hlt : s + j < 10 := by
    obtain ⟨b, u1, u2, u3, u4⟩ := hex
    rcases Nat.lt_or_ge (s + j) 10 with q | q
    · exact q
    · exact absurd ⟨u3, u4⟩ (hp b u1 (by omega))
  have r22 : w.1 0 22 = w0.1 0 22 := hf.1.2 0 22 (by decide)
  have l2 := hD.2 at' (s + j)
  simp only [bX8_findRing_146, h38]
  rw [show (1 : Int32) = nI 1 from rfl, pk_sub hi, zld_at (by omega) (by omega), h30, debtM N c at' (s + j) _ hc ha hlt, r22, hD.1 at' (s + j) ha hlt]
  simp only [zbi, nI_add, zld_at hlt (show 10 < 2 ^ 31 by omega), h31 (s + j) hlt, h38]
  rw [pk_sub (show i ≤ n by omega)]
  have hv := hvv (s + j)
  have skip : ¬ (f (s + j) = n - i ∧ 0 < D at' (s + j)) → j < 10 - s ∧ ∃ s', (s' = (nI (s + (j + 1)), w) ∧ s + (j + 1) ≤ 10 ∧ ∀ b', s < b' → b' < s + (j + 1) → ¬ (f b' = n - i ∧ 0 < D at' b')) ∧ rc (nI (s + j + 1), w) = rc s' := by
    intro hk
    refine ⟨by omega, _, ⟨rfl, by omega, fun b' h1 h2 => ?_⟩, rfl⟩
    by_cases e : b' = s + j
    · subst e; exact hk
    · exact hp b' h1 (by omega)
  by_cases c1 : D at' (s + j) = 0
  · left
    rw [if_pos ((nI_eq0 (by omega)).mpr c1)]
    exact skip (fun e => by omega)
  rw [if_neg (fun e => c1 ((nI_eq0 (by omega)).mp e))]
  by_cases c2 : f (s + j) = n - i
  · right
    rw [if_pos (by rw [hv.1.mpr c2])]
    have : s < s + j := by
      rcases Nat.eq_zero_or_pos j with q | q
      · subst q
        have := Cert_s hC
        rw [Nat.add_zero] at c2
        omega
      · omega
    exact ⟨s + j, rfl, this, hlt, c2, by omega, hp⟩
  · left
    rw [if_neg (fun e => c2 (hv.1.mp ((nI_eq (by omega) (by omega)).mp e)))]
    exact skip (fun e => c2 e.1)
theorem firstM {N c h : Nat} {D : Nat → Nat → Nat} {w : zS} {F : Nat → Nat → Nat} {Z : Nat → Nat} (hN : 1000000000 ≤ N) (hc : c < 6) (hh : h ≤ 10) (eh : w.1 0 0 1 = nI h) (hD : DB (w.1 0 22) c D) (hz : ∀ a b, h ≤ a ∨ h ≤ b → D a b = 0) (hF : ∀ s, s < 10 → Cert D s (F s)) (hZ : ∀ s, s < 10 → SzC D s (F s) (Z s)) : ∃ w' n s R, fX8_findRing N (nI c) w = some w' ∧ FmM w w' ∧ w'.1 0 0 38 = nI n ∧ n ≤ 10 ∧ FR Z n s ∧ (n ≠ 0 → Rw w' 30 n R ∧ RG D s n (F s) R) := by
  have hZ0 : ∀ s, h ≤ s → s < 10 → Z s = 0 := by
    intro s h1 h2
    rcases hZ s h2 with ⟨z1, -⟩ | ⟨-, ⟨a, -, z3, -⟩, -⟩
    · exact z1
    · have := hz s a (Or.inl h1); omega
  unfold fX8_findRing
  simp only [zlet]
  have e1 : (zsI w 0 0 38 0).1 0 0 1 = nI h := by rw [zsI_at, pk_un (by decide)]; exact eh
  rw [e1]
  unfold lX8_findRing_15
  refine zlp_inv (fun i z => ∃ n sv w1, z = (sv, nI (h - i) - 1, w1) ∧ i ≤ h ∧ FmM w w1 ∧ w1.1 0 0 38 = nI n ∧ n ≤ 10 ∧ FRd Z (h - i) n sv) (fun r => ∃ w' n s R, r = some w' ∧ FmM w w' ∧ w'.1 0 0 38 = nI n ∧ n ≤ 10 ∧ FR Z n s ∧ (n ≠ 0 → Rw w' 30 n R ∧ RG D s n (F s) R)) h ?_ N 0 _ ⟨0, -9, zsI w 0 0 38 0, rfl, by omega, FmM_st (FmM_refl w) 0, by rw [zsI_at, pk_us]; rfl, by omega, Or.inl ⟨rfl, fun t t1 t2 => hZ0 t (by omega) t2⟩⟩ (by omega)
  rintro i z rc ⟨n, sv, w1, rfl, hi, hf, h38, hn, hP⟩
  simp only [bX8_findRing_15]
  by_cases c1 : i = h
  · right
    subst c1
    rw [Nat.sub_self] at hP ⊢
    rw [if_pos (by decide), h38]
    by_cases c2 : n = 0
    · subst c2
      rw [if_pos (show nI 0 = 0 from rfl)]
      refine ⟨w1, 0, 0, fun _ => 0, rfl, hf, h38, by omega, ?_, fun q => absurd rfl q⟩
      rcases hP with ⟨p1, p2⟩ | ⟨p1, -⟩
      · exact Or.inl ⟨rfl, fun t ht => p2 t (by omega) ht⟩
      · exact absurd rfl p1
    · rcases hP with ⟨p1, -⟩ | ⟨-, s, rfl, -, p4, p5, p6⟩
      · exact absurd p1 c2
      have hsh : s < i := by
        rcases Nat.lt_or_ge s i with q | q
        · exact q
        · have := hZ0 s q p4; omega
      have hn2 : 2 ≤ n := by
        rcases hZ s p4 with ⟨z1, -⟩ | ⟨-, ⟨a, z2, z3, z4⟩, -⟩
        · omega
        · omega
      rw [if_neg (fun e => c2 ((nI_eq0 (by omega)).mp e))]
      obtain ⟨r, er, hr⟩ := steps_eq (w := w1) hN hc hh (by rw [hf.2 1 (by decide)]; exact eh) (by rw [hf.1.2 0 22 (by decide)]; exact hD) hz hsh (hF s p4)
      rw [er]
      simp only [zbv]
      rw [show (0 : Int32) = nI 0 from rfl, zst_at (by omega) (by omega)]
      unfold lX8_findRing_135
      refine zlp_inv (fun m z => ∃ w2 R, z = (nI (m + 1), w2) ∧ m + 1 ≤ n ∧ FmM w w2 ∧ w2.1 0 0 38 = nI n ∧ (∀ a, a < 10 → w2.1 0 31 a = nI (vv s (F s) a)) ∧ Rw w2 30 (m + 1) R ∧ RGp D s n (F s) R (m + 1)) (fun r => ∃ w' n s R, r = some w' ∧ FmM w w' ∧ w'.1 0 0 38 = nI n ∧ n ≤ 10 ∧ FR Z n s ∧ (n ≠ 0 → Rw w' 30 n R ∧ RG D s n (F s) R)) (n - 1) ?_ N 0 _ ⟨zsI (zrow w1 31 r) 0 30 0 (nI s), fun _ => s, rfl, by omega, FmM_st30 (FmM_row hf r) _ _, by rw [zsI_ne _ _ _ (by decide), zrow_ne w1 r (by omega)]; exact h38, fun a ha => by rw [zsI_ne _ _ _ (by decide), zrow_at]; exact hr a ha, fun j hj => ?_, rfl, fun j h1 h2 => by omega⟩ (by omega)
      · rintro m z rc2 ⟨w2, R, rfl, hm, hf2, h382, h312, h302, hR⟩
        simp only [bX8_findRing_135, h382]
        by_cases c3 : m + 1 = n
        · right
          rw [if_pos (nI_le (by omega) (by omega))]
          rw [c3] at h302 hR
          exact ⟨w2, n, s, R, rfl, hf2, h382, hn, Or.inr ⟨c2, p4, p5, fun t t1 => p6 t (by omega) t1⟩, fun _ => ⟨h302, hR⟩⟩
        · left
          refine ⟨by omega, ?_⟩
          rw [if_neg (nI_ge (by omega) (by omega))]
          have hRm : R m < 10 := by
            rcases Nat.eq_zero_or_pos m with z | z
            · rw [z, hR.1]; exact p4
            · exact (hR.2 m z (by omega)).2.1
          obtain ⟨b, eb, b1, b2, b3, b4, b5⟩ := ring_tr (i := m + 1) (h := i) (at' := R m) hN hc hD hsh hh (hF s p4) hn (by omega) (by omega) hRm hf2 h312 h382 (h302 m (by omega)) (by
            obtain ⟨b, u1, u2, u3, u4⟩ := RG_ex (hF s p4) (by rw [← p5]; exact hZ s p4) c2 hR (by omega) (by omega)
            exact ⟨b, u1, u2, u3, by rw [Nat.add_sub_cancel] at u4; exact u4⟩) (fun y23 w24 => zst w24 30 10 (nI (m + 1)) y23 fun w25 => rc2 (nI (m + 1) + 1, w25))
          rw [eb, zst_at (by omega) (by omega), nI_1]
          refine ⟨_, ⟨zsI w2 0 30 (m + 1) (nI b), fun j => if j = m + 1 then b else R j, rfl, by omega, FmM_st30 hf2 _ _, by rw [zsI_ne _ _ _ (by decide)]; exact h382, fun a ha => by rw [zsI_ne _ _ _ (by decide)]; exact h312 a ha, ?_, RGp_add hR (by omega) b1 b2 b3 (by rw [Nat.add_sub_cancel]; exact b4) (by rw [Nat.add_sub_cancel]; exact b5)⟩, rfl⟩
          intro j hj
          by_cases e : j = m + 1
          · subst e; simp [zsI_at, pk_us]
          · simp only [zsI_at, pk_un e, if_neg e]
            exact h302 j (by omega)
      · have : j = 0 := by omega
        subst this
        rw [zsI_at, pk_us]
  · left
    refine ⟨by omega, ?_⟩
    have ex : nI (h - i) - 1 = nI (h - i - 1) := by rw [show (1 : Int32) = nI 1 from rfl, pk_sub (by omega)]
    rw [ex, if_neg (nI_pos (by omega))]
    obtain ⟨r, er, hr⟩ := steps_eq (w := w1) (s := h - i - 1) hN hc hh (by rw [hf.2 1 (by decide)]; exact eh) (by rw [hf.1.2 0 22 (by decide)]; exact hD) hz (by omega) (hF (h - i - 1) (by omega))
    rw [er]
    simp only [zbv]
    obtain ⟨x1, n', sv', w', e2, f2, -, h382, hn', hI⟩ := ring_in (w0 := w) (w := zrow w1 31 r) (sb := sv) (nb := n) (s := h - i - 1) hN hc hh eh hD (by omega) (hF (h - i - 1) (by omega)) hn (FmM_row hf r) (fun a ha => by rw [zrow_at]; exact hr a ha) (by rw [zrow_ne w1 r (by omega)]; exact h38) (fun y11 y12 w13 => rc (y11, nI (h - i - 1) + -1, w13))
    rw [e2]
    refine ⟨_, ⟨n', sv', w', rfl, by omega, f2, h382, hn', ?_⟩, ?_⟩
    · have := FRd_step (L := h - i - 1) (by omega) hz (hZ _ (by omega)) (by rw [show h - i - 1 + 1 = h - i by omega]; exact hP) hI
      rw [show h - (i + 1) = h - i - 1 by omega]
      exact this
    · rw [show h - (i + 1) = h - i - 1 by omega, Int32.sub_eq_add_neg]
