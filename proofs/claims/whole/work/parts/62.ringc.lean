def SzU (D : Nat → Nat → Nat) (s : Nat) (st : Nat → Nat) (u n : Nat) : Prop := (n = 0 ∧ ∀ a, a < u → st a ≠ 0 → D s a = 0) ∨ (n ≠ 0 ∧ (∃ a, a < u ∧ st a ≠ 0 ∧ 0 < D s a ∧ n = st a + 1) ∧ ∀ a, a < u → st a ≠ 0 → 0 < D s a → n ≤ st a + 1)
theorem SzU_end {D : Nat → Nat → Nat} {s n : Nat} {st : Nat → Nat} (hC : Cert D s st) (h : SzU D s st 10 n) : SzC D s st n := by
  rcases h with ⟨a1, a2⟩ | ⟨a1, ⟨a, a2, a3, a4, a5⟩, a6⟩
  · exact Or.inl ⟨a1, fun a ha => a2 a (hC.1 a ha).2.1 ha⟩
  · exact Or.inr ⟨a1, ⟨a, a3, a4, a5⟩, fun b hb => a6 b (hC.1 b hb).2.1 hb⟩
theorem SzU_same {D : Nat → Nat → Nat} {s u n : Nat} {st : Nat → Nat} (h : SzU D s st u n) (h0 : st u = 0 ∨ D s u = 0) : SzU D s st (u + 1) n := by
  rcases h with ⟨a1, a2⟩ | ⟨a1, ⟨a, a2, a3, a4, a5⟩, a6⟩
  · refine Or.inl ⟨a1, fun a h1 h2 => ?_⟩
    by_cases e : a = u
    · subst e
      rcases h0 with z | z
      · exact absurd z h2
      · exact z
    · exact a2 a (by omega) h2
  · refine Or.inr ⟨a1, ⟨a, by omega, a3, a4, a5⟩, fun b h1 h2 h3 => ?_⟩
    by_cases e : b = u
    · subst e
      rcases h0 with z | z
      · exact absurd z h2
      · omega
    · exact a6 b (by omega) h2 h3
theorem SzU_keep {D : Nat → Nat → Nat} {s u n : Nat} {st : Nat → Nat} (h : SzU D s st u n) (hn : n ≠ 0) (hl : n ≤ st u + 1) : SzU D s st (u + 1) n := by
  rcases h with ⟨a1, a2⟩ | ⟨a1, ⟨a, a2, a3, a4, a5⟩, a6⟩
  · exact absurd a1 hn
  · refine Or.inr ⟨a1, ⟨a, by omega, a3, a4, a5⟩, fun b h1 h2 h3 => ?_⟩
    by_cases e : b = u
    · subst e; exact hl
    · exact a6 b (by omega) h2 h3
theorem SzU_new {D : Nat → Nat → Nat} {s u n : Nat} {st : Nat → Nat} (h : SzU D s st u n) (h1 : st u ≠ 0) (h2 : 0 < D s u) (hl : n = 0 ∨ st u + 1 ≤ n) : SzU D s st (u + 1) (st u + 1) := by
  refine Or.inr ⟨by omega, ⟨u, by omega, h1, h2, rfl⟩, fun b g1 g2 g3 => ?_⟩
  by_cases e : b = u
  · subst e; omega
  · rcases h with ⟨a1, a2⟩ | ⟨a1, -, a6⟩
    · have := a2 b (by omega) g2
      omega
    · have := a6 b (by omega) g2 g3
      omega
theorem sizeAt_eq {N c s : Nat} {D : Nat → Nat → Nat} {st : Nat → Nat} {w : zS} (hN : 1000000000 ≤ N) (hc : c < 6) (hs : s < 10) (hD : DB (w.1 0 24) c D) (h26 : Rw w 26 10 st) (hC : Cert D s st) : ∃ n, fX1_sizeAt N (nI c) (nI s) w = some (nI n, w) ∧ SzC D s st n := by
  unfold fX1_sizeAt lX1_sizeAt_7
  have hst : ∀ a, st a ≤ 9 := by
    intro a
    rcases Nat.eq_zero_or_pos (st a) with z | z
    · omega
    · exact (hC.1 a (by omega)).2.2.1
  refine zlp_inv (fun i z => ∃ n, z = (nI n, nI (s + 1 + i), w) ∧ n ≤ 10 ∧ s + 1 + i ≤ 10 ∧ SzU D s st (s + 1 + i) n) (fun r => ∃ n, r = some (nI n, w) ∧ SzC D s st n) (9 - s) ?_ N 0 _ ⟨0, by rw [nI_1]; rfl, by omega, by omega, Or.inl ⟨rfl, fun a h1 h2 => ?_⟩⟩ (by omega)
  · rintro i z rc ⟨n, rfl, hn, hi, hS⟩
    simp only [bX1_sizeAt_7]
    by_cases c1 : s + 1 + i = 10
    · right
      rw [if_pos (show (10 : Int32) ≤ nI (s + 1 + i) from nI_le (a := 10) (by omega) (by omega))]
      rw [c1] at hS
      exact ⟨n, rfl, SzU_end hC hS⟩
    left
    refine ⟨by omega, ?_⟩
    have l1 := hst (s + 1 + i)
    have l2 := hD.2 s (s + 1 + i)
    rw [if_neg (show ¬ (10 : Int32) ≤ nI (s + 1 + i) from nI_ge (b := 10) (by omega) (by omega))]
    simp only [zld_at (show s + 1 + i < 10 by omega) (show 10 < 2 ^ 31 by omega), h26 (s + 1 + i) (by omega), debtX N c s (s + 1 + i) w hc hs (show s + 1 + i < 10 by omega), hD.1 s (s + 1 + i) hs (by omega), zbi, if_true, if_neg c10, nI_1]
    by_cases c2 : st (s + 1 + i) = 0
    · rw [if_pos ((nI_le0 (by omega)).mpr c2)]
      exact ⟨_, ⟨n, rfl, hn, by omega, SzU_same hS (Or.inl c2)⟩, rfl⟩
    rw [if_neg (fun e => c2 ((nI_le0 (by omega)).mp e))]
    by_cases c3 : D s (s + 1 + i) = 0
    · rw [if_pos ((nI_le0 (by omega)).mpr c3)]
      exact ⟨_, ⟨n, rfl, hn, by omega, SzU_same hS (Or.inr c3)⟩, rfl⟩
    rw [if_neg (fun e => c3 ((nI_le0 (by omega)).mp e))]
    by_cases c4 : n = 0
    · rw [if_pos ((nI_eq0 (by omega)).mpr c4)]
      exact ⟨_, ⟨st (s + 1 + i) + 1, rfl, by omega, by omega, SzU_new (u := s + 1 + i) hS c2 (by omega) (Or.inl c4)⟩, rfl⟩
    rw [if_neg (fun e => c4 ((nI_eq0 (by omega)).mp e))]
    by_cases c5 : n ≤ st (s + 1 + i) + 1
    · rw [if_pos (nI_le c5 (by omega))]
      exact ⟨_, ⟨n, rfl, hn, by omega, SzU_keep hS c4 c5⟩, rfl⟩
    · rw [if_neg (nI_ge (by omega) (by omega))]
      exact ⟨_, ⟨st (s + 1 + i) + 1, rfl, by omega, by omega, SzU_new (u := s + 1 + i) hS c2 (by omega) (Or.inr (by omega))⟩, rfl⟩
  · have := (hC.1 a h2).1
    omega
theorem next_eq {N c s at' left m : Nat} {D : Nat → Nat → Nat} {st : Nat → Nat} {w : zS} (hN : 1000000000 ≤ N) (hc : c < 6) (hs : s < 10) (ha : at' < 10) (hl : left ≤ 9) (hm : 1 ≤ m) (hm2 : m ≤ 10) (hD : DB (w.1 0 24) c D) (h26 : Rw w 26 10 st) (hst : ∀ a, st a ≤ 9) (hr : w.1 0 4 4 = nI m) (h25 : w.1 0 25 (m - 1) = nI at') (hex : ∃ b, s < b ∧ b < 10 ∧ st b = left ∧ 0 < D at' b) : ∃ b, fX1_nextHouse N (nI c) (nI s) (nI left) w = some (nI b, w) ∧ s < b ∧ b < 10 ∧ st b = left ∧ 0 < D at' b ∧ ∀ b', s < b' → b' < b → ¬ (st b' = left ∧ 0 < D at' b') := by
  unfold fX1_nextHouse lX1_nextHouse_18
  rw [hr, show (1 : Int32) = nI 1 from rfl, pk_sub hm, zld_at (by omega) (by omega), h25]
  refine zlp_inv (fun i z => z = (nI (s + 1 + i), w) ∧ s + 1 + i ≤ 10 ∧ ∀ b', s < b' → b' < s + 1 + i → ¬ (st b' = left ∧ 0 < D at' b')) (fun r => ∃ b, r = some (nI b, w) ∧ s < b ∧ b < 10 ∧ st b = left ∧ 0 < D at' b ∧ ∀ b', s < b' → b' < b → ¬ (st b' = left ∧ 0 < D at' b')) (9 - s) ?_ N 0 _ ⟨by rw [nI_add], by omega, fun b' h1 h2 => by omega⟩ (by omega)
  rintro i z rc ⟨rfl, hi, hp⟩
  simp only [bX1_nextHouse_18]
  have hlt : s + 1 + i < 10 := by
    obtain ⟨b, u1, u2, u3, u4⟩ := hex
    rcases Nat.lt_or_ge (s + 1 + i) 10 with q | q
    · exact q
    · exact absurd ⟨u3, u4⟩ (hp b u1 (by omega))
  have l1 := hst (s + 1 + i)
  have l2 := hD.2 at' (s + 1 + i)
  rw [if_neg (show ¬ (10 : Int32) ≤ nI (s + 1 + i) from nI_ge (b := 10) hlt (by omega)), zld_at hlt (by omega), h26 _ hlt]
  by_cases c1 : st (s + 1 + i) = left
  · rw [if_pos (by rw [c1]), debtX N c at' (s + 1 + i) w hc ha hlt, hD.1 _ _ ha hlt]
    simp only [zbi]
    by_cases c2 : D at' (s + 1 + i) = 0
    · left
      refine ⟨by omega, ?_⟩
      rw [if_pos ((nI_le0 (by omega)).mpr c2), nI_1]
      refine ⟨_, ⟨rfl, by omega, fun b' h1 h2 => ?_⟩, rfl⟩
      by_cases e : b' = s + 1 + i
      · subst e; intro z; omega
      · exact hp b' h1 (by omega)
    · right
      rw [if_neg (fun e => c2 ((nI_le0 (by omega)).mp e))]
      exact ⟨s + 1 + i, rfl, by omega, hlt, c1, by omega, hp⟩
  · left
    refine ⟨by omega, ?_⟩
    rw [if_neg (fun e => c1 ((nI_eq (by omega) (by omega)).mp e)), nI_1]
    refine ⟨_, ⟨rfl, by omega, fun b' h1 h2 => ?_⟩, rfl⟩
    by_cases e : b' = s + 1 + i
    · subst e; intro z; exact c1 z.1
    · exact hp b' h1 (by omega)
/-- a ring traced so far -/
def RGp (D : Nat → Nat → Nat) (s n : Nat) (st R : Nat → Nat) (m : Nat) : Prop := R 0 = s ∧ ∀ i, 1 ≤ i → i < m → s < R i ∧ R i < 10 ∧ st (R i) = n - i ∧ 0 < D (R (i - 1)) (R i) ∧ ∀ b, s < b → b < R i → ¬ (st b = n - i ∧ 0 < D (R (i - 1)) b)
/-- the next house is there -/
theorem RG_ex {D : Nat → Nat → Nat} {s n m : Nat} {st R : Nat → Nat} (hC : Cert D s st) (hS : SzC D s st n) (hn : n ≠ 0) (hR : RGp D s n st R m) (hm : 1 ≤ m) (hmn : m < n) : ∃ b, s < b ∧ b < 10 ∧ st b = n - m ∧ 0 < D (R (m - 1)) b := by
  rcases (show m = 1 ∨ 2 ≤ m by omega) with q | q
  · subst q
    rcases hS with ⟨z, -⟩ | ⟨-, ⟨a, u1, u2, u3⟩, -⟩
    · exact absurd z hn
    · obtain ⟨v1, v2, -⟩ := hC.1 a u1
      exact ⟨a, v1, v2, by omega, by rw [show 1 - 1 = 0 from rfl, hR.1]; exact u2⟩
  · obtain ⟨u1, u2, u3, -⟩ := hR.2 (m - 1) (by omega) (by omega)
    obtain ⟨-, -, -, b, v1, v2, v3⟩ := hC.1 (R (m - 1)) (by omega)
    have hb : st b ≠ 0 := by omega
    obtain ⟨w1, w2, -⟩ := hC.1 b hb
    exact ⟨b, w1, w2, by omega, v1⟩
theorem RGp_add {D : Nat → Nat → Nat} {s n m b : Nat} {st R : Nat → Nat} (hR : RGp D s n st R m) (hm : 1 ≤ m) (h1 : s < b) (h2 : b < 10) (h3 : st b = n - m) (h4 : 0 < D (R (m - 1)) b) (h5 : ∀ b', s < b' → b' < b → ¬ (st b' = n - m ∧ 0 < D (R (m - 1)) b')) : RGp D s n st (fun i => if i = m then b else R i) (m + 1) := by
  refine ⟨by simp only []; rw [if_neg (by omega)]; exact hR.1, fun i g1 g2 => ?_⟩
  have e1 : (if i - 1 = m then b else R (i - 1)) = R (i - 1) := if_neg (by omega)
  simp only [e1]
  by_cases e : i = m
  · subst e
    simp only [if_true]
    exact ⟨h1, h2, h3, h4, h5⟩
  · simp only [if_neg e]
    exact hR.2 i g1 (by omega)
theorem trace_eq {N c s n : Nat} {D : Nat → Nat → Nat} {st : Nat → Nat} {w : zS} (hN : 1000000000 ≤ N) (hc : c < 6) (hs : s < 10) (hD : DB (w.1 0 24) c D) (h26 : Rw w 26 10 st) (hC : Cert D s st) (hS : SzC D s st n) (hn : n ≠ 0) : ∃ w' R, fX1_traceRing N (nI c) (nI s) (nI n) w = some w' ∧ Fm [4, 25] w w' ∧ w'.1 0 4 4 = nI n ∧ Rw w' 25 n R ∧ RG D s n st R := by
  have hst : ∀ a, st a ≤ 9 := by
    intro a
    rcases Nat.eq_zero_or_pos (st a) with z | z
    · omega
    · exact (hC.1 a (by omega)).2.2.1
  have hn2 : 2 ≤ n ∧ n ≤ 10 := by
    rcases hS with ⟨z, -⟩ | ⟨-, ⟨a, u1, u2, u3⟩, -⟩
    · exact absurd z hn
    · have := hst a
      omega
  unfold fX1_traceRing lX1_traceRing_17
  rw [show (0 : Int32) = nI 0 from rfl, zst_at (by omega) (by omega)]
  simp only [zlet]
  refine zlp_inv (fun i z => ∃ w1 R, z = (nI (n - 1 - i), w1) ∧ i ≤ n - 1 ∧ Fm [4, 25] w w1 ∧ w1.1 0 4 4 = nI (i + 1) ∧ Rw w1 25 (i + 1) R ∧ RGp D s n st R (i + 1)) (fun r => ∃ w' R, r = some w' ∧ Fm [4, 25] w w' ∧ w'.1 0 4 4 = nI n ∧ Rw w' 25 n R ∧ RG D s n st R) (n - 1) ?_ N 0 _ ⟨zsI (zsI w 0 25 0 (nI s)) 0 4 4 1, fun _ => s, by rw [show (1 : Int32) = nI 1 from rfl, pk_sub (by omega)]; rfl, by omega, Fm_st (Fm_st (Fm_refl _ w) (by decide) _ _) (by decide) _ _, by rw [zsI_at, pk_us]; rfl, ?_, rfl, fun i h1 h2 => by omega⟩ (by omega)
  · rintro i z rc ⟨w1, R, rfl, hi, hF, h4, h25, hR⟩
    simp only [bX1_traceRing_17]
    by_cases c1 : i = n - 1
    · right
      rw [if_pos ((nI_le0 (by omega)).mpr (by omega))]
      have e : i + 1 = n := by omega
      rw [e] at h4 h25 hR
      exact ⟨w1, R, rfl, hF, h4, h25, hR⟩
    left
    refine ⟨by omega, ?_⟩
    have r24 : w1.1 0 24 = w.1 0 24 := hF.2 0 24 (by decide)
    have r26 : w1.1 0 26 = w.1 0 26 := hF.2 0 26 (by decide)
    have hRi : R i < 10 := by
      rcases Nat.eq_zero_or_pos i with z | z
      · rw [z, hR.1]; exact hs
      · exact (hR.2 i z (by omega)).2.1
    obtain ⟨b, eb, b1, b2, b3, b4, b5⟩ := next_eq (left := n - 1 - i) (m := i + 1) (at' := R i) hN hc hs hRi (by omega) (by omega) (by omega) (by rw [r24]; exact hD) (fun j hj => by rw [r26]; exact h26 j hj) hst h4 (h25 i (by omega)) (by
      obtain ⟨b, u1, u2, u3, u4⟩ := RG_ex hC hS hn hR (by omega) (by omega)
      exact ⟨b, u1, u2, by omega, by rw [Nat.add_sub_cancel] at u4; exact u4⟩)
    have hl : ¬ nI (n - 1 - i) ≤ 0 := fun e => by
      have := (nI_le0 (by omega)).mp e
      omega
    rw [if_neg hl, eb]
    simp only [zbi]
    rw [if_neg (nI_pos (by omega)), h4, if_pos (show nI (i + 1) < 10 from nI_lt (b := 10) (by omega) (by omega)), zst_at (by omega) (by omega)]
    have e4 : (zsI w1 0 25 (i + 1) (nI b)).1 0 4 4 = nI (i + 1) := by rw [zsI_ne w1 _ _ (by decide)]; exact h4
    simp only [zlet, e4, nI_1]
    refine ⟨(nI (n - 1 - (i + 1)), zsI (zsI w1 0 25 (i + 1) (nI b)) 0 4 4 (nI (i + 1 + 1))), ⟨zsI (zsI w1 0 25 (i + 1) (nI b)) 0 4 4 (nI (i + 1 + 1)), fun j => if j = i + 1 then b else R j, rfl, by omega, Fm_st (Fm_st hF (by decide) _ _) (by decide) _ _, by rw [zsI_at, pk_us], ?_, RGp_add hR (by omega) b1 b2 (by omega) (by rw [Nat.add_sub_cancel]; exact b4) (by rw [Nat.add_sub_cancel]; intro b' g1 g2 g3; exact b5 b' g1 g2 ⟨by omega, g3.2⟩)⟩, ?_⟩
    · intro j hj
      rw [zsI_ne _ _ _ (by decide)]
      by_cases e : j = i + 1
      · subst e; simp [zsI_at, pk_us]
      · simp only [zsI_at, pk_un e, if_neg e]
        exact h25 j (by omega)
    · have : nI (n - 1 - i) + -1 = nI (n - 1 - (i + 1)) := by
        rw [show n - 1 - i = (n - 1 - (i + 1)) + 1 by omega, pk_m1]
      rw [this]
  · intro j hj
    have : j = 0 := by omega
    subst this
    rw [zsI_ne _ _ _ (by decide), zsI_at, pk_us]
