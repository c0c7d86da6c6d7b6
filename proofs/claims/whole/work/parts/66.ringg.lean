theorem RG_lt {D : Nat → Nat → Nat} {s n : Nat} {st R : Nat → Nat} (hs : s < 10) (hR : RG D s n st R) : ∀ i, i < n → R i < 10 := by
  intro i hi
  rcases Nat.eq_zero_or_pos i with z | z
  · rw [z, hR.1]; exact hs
  · exact (hR.2 i z hi).2.1
theorem RG_inj {D : Nat → Nat → Nat} {s n : Nat} {st R : Nat → Nat} (hC : Cert D s st) (hR : RG D s n st R) : ∀ i j, i < n → j < n → R i = R j → i = j := by
  have key : ∀ i, i < n → (i = 0 ∧ st (R i) = 0) ∨ (0 < i ∧ st (R i) = n - i) := by
    intro i hi
    rcases Nat.eq_zero_or_pos i with z | z
    · left; subst z; rw [hR.1]; exact ⟨rfl, Cert_s hC⟩
    · right; exact ⟨z, (hR.2 i z hi).2.2.1⟩
  intro i j hi hj e
  have a := key i hi
  have b := key j hj
  rw [e] at a
  omega
/-- each debt of the ring is there -/
theorem RG_pos {D : Nat → Nat → Nat} {s n : Nat} {st R : Nat → Nat} (hC : Cert D s st) (hn : 2 ≤ n) (hR : RG D s n st R) : ∀ i, i < n → 0 < D (R i) (nx R n i) := by
  intro i hi
  unfold nx
  by_cases q : i + 1 < n
  · rw [if_pos q]
    have := (hR.2 (i + 1) (by omega) q).2.2.2.1
    rw [Nat.add_sub_cancel] at this
    exact this
  · rw [if_neg q]
    have e : i = n - 1 := by omega
    obtain ⟨u1, u2, u3, -⟩ := hR.2 i (by omega) hi
    obtain ⟨-, -, -, b, v1, v2, v3⟩ := hC.1 (R i) (by omega)
    have hb : b = s := by
      rcases v3 with v3 | v3
      · exact v3
      · omega
    rw [hR.1, ← hb]
    exact v1
/-- the debts when the ring is lessened -/
theorem rwL_at {row : Nat → Int32} {c n l : Nat} {D : Nat → Nat → Nat} {R : Nat → Nat} (hD : DB row c D) (hR : ∀ i, i < n → R i < 10) (hi : ∀ i j, i < n → j < n → R i = R j → i = j) (hl : ∀ i, i < n → l ≤ D (R i) (nx R n i)) (hn : 0 < n) : ∀ m, m ≤ n → (∀ i, i < m → rwL row c R n l m (100 * c + 10 * R i + nx R n i) = nI (D (R i) (nx R n i) - l)) ∧ ∀ j, (∀ i, i < m → j ≠ 100 * c + 10 * R i + nx R n i) → rwL row c R n l m j = row j := by
  have hx : ∀ i, i < n → nx R n i < 10 := by
    intro i hi
    unfold nx
    split
    · exact hR _ (by omega)
    · exact hR 0 (by omega)
  intro m
  induction m with
  | zero => intro _; exact ⟨fun i h => by omega, fun j _ => rfl⟩
  | succ m ih =>
    intro hm
    obtain ⟨i1, i2⟩ := ih (by omega)
    have ne : ∀ i, i < m → 100 * c + 10 * R i + nx R n i ≠ 100 * c + 10 * R m + nx R n m := by
      intro i h e
      have a1 := hx i (by omega)
      have a2 := hx m (by omega)
      have : R i = R m := by omega
      have := hi i m (by omega) (by omega) this
      omega
    refine ⟨fun i h => ?_, fun j hj => ?_⟩
    · simp only [rwL]
      by_cases e : i = m
      · subst e
        have o := i2 (100 * c + 10 * R i + nx R n i) (fun j hj e => ne j hj e.symm)
        rw [pk_us, o, hD.1 _ _ (hR i (by omega)) (hx i (by omega)), pk_sub (hl i (by omega))]
      · rw [pk_un (ne i (by omega))]
        exact i1 i (by omega)
    · simp only [rwL]
      rw [pk_un (hj m (by omega))]
      exact i2 j (fun i h => hj i (by omega))
theorem isum_lt {f g : Nat → Int} {n j : Nat} (hj : j < n) (h : ∀ i, i < n → f i ≤ g i) (hl : f j < g j) : isum f n < isum g n := by
  induction n with
  | zero => omega
  | succ n ih =>
    simp only [isum]
    have h0 := h n (by omega)
    by_cases e : j = n
    · subst e
      have := isum_le (f := f) (g := g) (n := j) (fun i hi => h i (by omega))
      omega
    · have := ih (by omega) (fun i hi => h i (by omega))
      omega
/-- how many debts of a kind there are -/
def cntD (row : Nat → Int32) (c : Nat) : Int := isum (fun j => if row (100 * c + j) = 0 then 0 else 1) 100
theorem cntD_bd (row : Nat → Int32) (c : Nat) : 0 ≤ cntD row c ∧ cntD row c ≤ 100 := by
  unfold cntD
  have key : ∀ n : Nat, 0 ≤ isum (fun j => if row (100 * c + j) = 0 then 0 else 1) n ∧ isum (fun j => if row (100 * c + j) = 0 then 0 else 1) n ≤ n := by
    intro n
    induction n with
    | zero => simp [isum]
    | succ n ih =>
      simp only [isum]
      split <;> omega
  have := key 100
  omega
theorem cntD_pos {row : Nat → Int32} {c : Nat} {D : Nat → Nat → Nat} (hD : DB row c D) {a b : Nat} (ha : a < 10) (hb : b < 10) (h : 0 < D a b) : 0 < cntD row c := by
  unfold cntD
  have e : row (100 * c + (10 * a + b)) = nI (D a b) := by rw [← Nat.add_assoc]; exact hD.1 a b ha hb
  have l := hD.2 a b
  have g := isum_ge (f := fun j => if row (100 * c + j) = 0 then (0 : Int) else 1) (n := 100) (j := 10 * a + b) (by omega) (fun i _ => by split <;> omega)
  simp only [e, if_neg (fun z => by have := (nI_eq0 (x := D a b) (by omega)).mp z; omega : ¬ nI (D a b) = 0)] at g
  omega
theorem Jd1_less {h : Nat} {row : Nat → Int32} {c n l : Nat} {D : Nat → Nat → Nat} {R : Nat → Nat} (hJ : Jd1 h row) (hD : DB row c D) (hz : ∀ a b, h ≤ a ∨ h ≤ b ∨ a = b → D a b = 0) (hR : ∀ i, i < n → R i < 10) (hi : ∀ i j, i < n → j < n → R i = R j → i = j) (hl : ∀ i, i < n → l ≤ D (R i) (nx R n i)) (hn : 0 < n) (hp : ∀ i, i < n → 0 < D (R i) (nx R n i)) : Jd1 h (rwL row c R n l n) := by
  obtain ⟨k1, k2⟩ := rwL_at hD hR hi hl hn n (Nat.le_refl n)
  intro k a b ha hb
  by_cases e : ∃ i, i < n ∧ 100 * k + 10 * a + b = 100 * c + 10 * R i + nx R n i
  · obtain ⟨i, h1, h2⟩ := e
    have x1 := hR i h1
    have x2 : nx R n i < 10 := by
      unfold nx
      split
      · exact hR _ (by omega)
      · exact hR 0 (by omega)
    have e1 : k = c := by omega
    have e2 : a = R i := by omega
    have e3 : b = nx R n i := by omega
    subst e1 e2
    have d1 := hD.2 (R i) (nx R n i)
    refine ⟨D (R i) (nx R n i) - l, by omega, by rw [h2]; exact k1 i h1, fun hh => ?_⟩
    have := hz (R i) (nx R n i) (by rw [← e3]; exact hh)
    omega
  · obtain ⟨x, g1, g2, g3⟩ := hJ k a b ha hb
    exact ⟨x, g1, by rw [k2 _ (fun i h1 h2 => e ⟨i, h1, h2⟩)]; exact g2, g3⟩
theorem cntD_less {row : Nat → Int32} {c n : Nat} {D : Nat → Nat → Nat} {R : Nat → Nat} (hD : DB row c D) (hR : ∀ i, i < n → R i < 10) (hi : ∀ i j, i < n → j < n → R i = R j → i = j) (hn : 0 < n) (hp : ∀ i, i < n → 0 < D (R i) (nx R n i)) : cntD (rwL row c R n (mnR D R n n) n) c < cntD row c := by
  have hl : ∀ i, i < n → mnR D R n n ≤ D (R i) (nx R n i) := mnR_le D R n n
  obtain ⟨k1, k2⟩ := rwL_at hD hR hi hl hn n (Nat.le_refl n)
  have hx : ∀ i, i < n → nx R n i < 10 := by
    intro i hi
    unfold nx
    split
    · exact hR _ (by omega)
    · exact hR 0 (by omega)
  obtain ⟨i0, h0, e0⟩ : ∃ i, i < n ∧ mnR D R n n = D (R i) (nx R n i) := by
    rcases mnR_at D R n n with q | q
    · have a1 := hl 0 hn
      have a2 := hD.2 (R 0) (nx R n 0)
      exact ⟨0, hn, by omega⟩
    · exact q
  have x1 := hR i0 h0
  have x2 := hx i0 h0
  unfold cntD
  refine isum_lt (j := 10 * R i0 + nx R n i0) (by omega) (fun j hj => ?_) ?_
  · by_cases e : ∃ i, i < n ∧ 100 * c + j = 100 * c + 10 * R i + nx R n i
    · obtain ⟨i, h1, h2⟩ := e
      have : row (100 * c + j) ≠ 0 := by
        rw [h2, hD.1 _ _ (hR i h1) (hx i h1)]
        intro z
        have := (nI_eq0 (by have := hD.2 (R i) (nx R n i); omega)).mp z
        have := hp i h1
        omega
      rw [if_neg this]
      split <;> omega
    · rw [k2 _ (fun i h1 h2 => e ⟨i, h1, h2⟩)]
      exact Int.le_refl _
  · rw [← Nat.add_assoc, k1 i0 h0, hD.1 _ _ x1 x2, e0, Nat.sub_self]
    have d1 := hp i0 h0
    have d2 := hD.2 (R i0) (nx R n i0)
    rw [if_pos (show nI 0 = 0 from rfl), if_neg (fun z => by have := (nI_eq0 (x := D (R i0) (nx R n i0)) (by omega)).mp z; omega)]
    omega
/-- one look for a ring, and its lessening, on both sides -/
theorem off_step {N c h : Nat} {σ μ : zS} (hN : 1000000000 ≤ N) (hc : c < 6) (hh : h ≤ 10) (eh : μ.1 0 0 1 = nI h) (eq : σ.1 0 24 = μ.1 0 22) (hJ : Jd1 h (μ.1 0 22)) : ∃ n R σ1 μ1, fX1_findFirstRing N (nI c) σ = some σ1 ∧ fX8_findRing N (nI c) μ = some μ1 ∧ Fm [4, 25, 26, 27] σ σ1 ∧ FmM μ μ1 ∧ σ1.1 0 4 4 = nI n ∧ μ1.1 0 0 38 = nI n ∧ n ≤ 10 ∧ (n ≠ 0 → Rw σ1 25 n R ∧ Rw μ1 30 n R ∧ ∃ row, fX1_lessenRing N (nI c) σ1 = some (zrow σ1 24 row) ∧ (∀ x K, lX8_off_34 N (nI c) x (fun y10 y11 w12 => lX8_off_93 N (nI c) x y10 K N ((0 : Int32), w12)) N ((100000 : Int32), (0 : Int32), μ1) = K (nI n) (zrow μ1 22 row)) ∧ Jd1 h row ∧ cntD row c < cntD (μ.1 0 22) c) := by
  obtain ⟨D, hD, hz⟩ := Jd_D hJ c
  have hDx : DB (σ.1 0 24) c D := by rw [eq]; exact hD
  obtain ⟨F, Z, hF, hZ⟩ := exFZ hc hDx
  obtain ⟨σ1, n, s, R, x1, x2, x3, x4, x5, x6⟩ := firstX hN hc hDx hF hZ
  obtain ⟨μ1, m, t, Q, m1, m2, m3, m4, m5, m6⟩ := firstM hN hc hh eh hD (fun a b hab => hz a b (by omega)) hF hZ
  obtain ⟨enm, est⟩ := FR_uq x5 m5
  subst enm
  refine ⟨n, R, σ1, μ1, x1, m1, x2, m2, x3, m3, x4, fun hn => ?_⟩
  have ets := est hn
  subst ets
  obtain ⟨r25, rg⟩ := x6 hn
  obtain ⟨r30, rg2⟩ := m6 hn
  have eRQ := RG_uq rg rg2
  have hs : s < 10 := by
    rcases x5 with ⟨z, -⟩ | ⟨-, z, -⟩
    · exact absurd z hn
    · exact z
  have hZs : Z s = n := by
    rcases x5 with ⟨z, -⟩ | ⟨-, -, z, -⟩
    · exact absurd z hn
    · exact z
  have hn2 : 2 ≤ n := by
    have := hZ s hs
    rw [hZs] at this
    rcases this with ⟨z1, -⟩ | ⟨-, ⟨a, z2, z3, z4⟩, -⟩
    · exact absurd z1 hn
    · omega
  have hR := RG_lt hs rg
  have hinj := RG_inj (hF s hs) rg
  have hpos := RG_pos (hF s hs) hn2 rg
  have r30' : Rw μ1 30 n R := fun i hi => by rw [eRQ i hi]; exact r30 i hi
  have e24 : σ1.1 0 24 = μ.1 0 22 := (x2.2 0 24 (by decide)).trans eq
  have e22 : μ1.1 0 22 = μ.1 0 22 := m2.1.2 0 22 (by decide)
  refine ⟨r25, r30', rwL (μ.1 0 22) c R n (mnR D R n n) n, ?_, fun x K => ?_, Jd1_less hJ hD hz hR hinj (mnR_le D R n n) (by omega) hpos, cntD_less hD hR hinj (by omega) hpos⟩
  · rw [lessX hN hc x4 hn (by rw [e24]; exact hD) x3 r25 hR, e24]
  · rw [lessM hN hc x4 hn (by rw [e22]; exact hD) m3 r30' hR x K, e22]
/-- what rings touch -/
theorem JA_ring {d h kn ru ne cl nt np : Nat} {σ μ σ' μ' : zS} (hA : JA d h kn ru ne cl nt np σ μ) (hX : Fm [4, 24, 25, 26, 27] σ σ') (hM : Fm [0, 22, 30, 31] μ μ') (h0 : ∀ j, j ≠ 38 → μ'.1 0 0 j = μ.1 0 0 j) (eq : σ'.1 0 24 = μ'.1 0 22) (hd : Jd1 h (μ'.1 0 22)) : JA d h kn ru ne cl nt np σ' μ' := by
  obtain ⟨h1, h2, h3, h4, h5, h6, h7, h8, h9⟩ := hA
  have xs : σ'.2 = σ.2 := hX.1
  have ms : μ'.2 = μ.2 := hM.1
  have p1 : σ'.1 1 = σ.1 1 := funext fun c => hX.2 1 c (by simp)
  have p2 : σ'.1 2 = σ.1 2 := funext fun c => hX.2 2 c (by simp)
  have x0 := hX.2 0 0 (by decide)
  have x1 := hX.2 0 1 (by decide)
  have x2 := hX.2 0 2 (by decide)
  refine ⟨?_, ?_, ?_, ?_, ?_, ?_, ?_, ⟨hd, ?_⟩, ?_⟩
  · unfold Js at h1 ⊢
    rw [x0, x1, x2, xs, h0 0 (by decide), h0 1 (by decide), h0 2 (by decide), h0 22 (by decide), h0 5 (by decide), h0 11 (by decide), h0 13 (by decide), h0 23 (by decide)]
    exact h1
  · obtain ⟨u1, u2, u3, u4, u5, u6, u7, u8, u9, u10, u11⟩ := h2
    unfold Je
    rw [hX.2 0 6 (by decide), hX.2 0 7 (by decide), hX.2 0 14 (by decide), hX.2 0 15 (by decide), hX.2 0 10 (by decide), hX.2 0 11 (by decide), hX.2 0 28 (by decide), hX.2 0 29 (by decide), hX.2 0 30 (by decide), hM.2 0 1 (by decide), hM.2 0 2 (by decide), hM.2 0 5 (by decide), hM.2 0 6 (by decide), hM.2 0 21 (by decide), hM.2 0 26 (by decide), hM.2 0 23 (by decide), hM.2 0 24 (by decide), hM.2 0 25 (by decide), xs, ms]
    exact ⟨u1, u2, u3, u4, u5, u6, u7, eq, u9, u10, u11⟩
  · rw [hM.2 0 1 (by decide), hM.2 0 2 (by decide)]; exact h3
  · rw [hX.2 0 13 (by decide), hM.2 0 3 (by decide), hM.2 0 4 (by decide), hM.2 0 5 (by decide)]; exact h4
  · unfold Jt at h5 ⊢
    rw [xs, p1, hM.2 0 9 (by decide), hM.2 0 10 (by decide), hM.2 0 11 (by decide), hM.2 0 12 (by decide), hM.2 0 13 (by decide), hM.2 0 14 (by decide), hM.2 0 15 (by decide), hM.2 0 16 (by decide)]
    exact h5
  · unfold Jp at h6 ⊢
    rw [xs, p2, hM.2 0 10 (by decide), hM.2 0 11 (by decide), hM.2 0 12 (by decide), hM.2 0 15 (by decide), hM.2 0 17 (by decide), hM.2 0 18 (by decide), hM.2 0 19 (by decide), hM.2 0 20 (by decide)]
    exact h6
  · unfold zvalT zvalP at h7 ⊢
    rw [xs]; exact h7
  · rw [hM.2 0 21 (by decide)]; exact h8.2
  · rw [hM.2 0 23 (by decide), hM.2 0 24 (by decide), hM.2 0 25 (by decide)]; exact h9
theorem JJ_ring {k : Nat} {σ μ σ' μ' : zS} {h : Nat} (hJ : JJ k σ μ) (eh : μ.1 0 0 1 = nI h) (hh : h ≤ 10) (hX : Fm [4, 24, 25, 26, 27] σ σ') (hM : Fm [0, 22, 30, 31] μ μ') (h0 : ∀ j, j ≠ 38 → μ'.1 0 0 j = μ.1 0 0 j) (eq : σ'.1 0 24 = μ'.1 0 22) (hd : Jd1 h (μ'.1 0 22)) : JJ (k + 1) σ' μ' := by
  obtain ⟨d, h', kn, ru, ne, cl, nt, np, hA, hB⟩ := JJ_A hJ
  have b := JJ_b hA.1
  have e : h = h' := (nI_eq (by omega) (by omega)).mp (eh.symm.trans hA.1.2.1.2)
  subst e
  refine JJ_of (JA_ring hA hX hM h0 eq hd) ?_
  rw [hM.2 0 3 (by decide), hM.2 0 4 (by decide), hM.2 0 6 (by decide), hM.2 0 21 (by decide), hX.2 0 8 (by decide), hX.2 0 9 (by decide), hM.1]
  exact Jb_k (Nat.le_succ k) hB
theorem go_ring {k N : Nat} {σ μ : zS} (x y : Int32) (hN : 1000000000 ≤ N) (hJ : JJ k σ μ) : ∃ r τ ν, fX7_ring N x y σ = some (r, τ) ∧ fX8_ring N x y μ = some (r, ν) ∧ JJ (k + 1) τ ν := by
  obtain ⟨d, h, kn, ru, ne, cl, nt, np, hA, hB⟩ := JJ_A hJ
  obtain ⟨h1, h2, h3, h4, h5, h6, h7, h8, h9⟩ := id hA
  obtain ⟨b0, b1, b2, b3, b4, b5, b6, b7⟩ := JJ_b h1
  have e3 : ∀ N x, fX7_isKind N x σ = some (if 0 ≤ x ∧ x < nI kn then 1 else 0, σ) := fun N x => by rw [fX7_isKind_eq, h1.2.2.1.1]
  have e4 : ∀ N x, fX8_isKind N x μ = some (if 0 ≤ x ∧ x < nI kn then 1 else 0, μ) := fun N x => fX8_isKind_eq N x μ (by omega) h1.2.2.1.2
  unfold fX7_ring fX8_ring
  simp only [zbi, e3, e4, rfX1, rfM1]
  rcases zix x (n := kn) (by omega) with ⟨c, hc, rfl, cc⟩ | cc
  · simp only [if_pos cc, if_neg c10]
    obtain ⟨n, R, σ1, μ1, a1, a2, a3, a4, a5, a6, a7, a8⟩ := off_step (c := c) hN (by omega) b1 h1.2.1.2 h2.2.2.2.2.2.2.2.1 h8.1
    have yes : JJ (k + 1) σ1 μ1 := JJ_ring hJ h1.2.1.2 b1 (Fm_sub a3 (by decide)) (Fm_sub a4.1 (by decide)) a4.2 (by rw [a3.2 0 24 (by decide), a4.1.2 0 22 (by decide)]; exact h2.2.2.2.2.2.2.2.1) (by rw [a4.1.2 0 22 (by decide)]; exact h8.1)
    rw [a1, a2]
    simp only [zbv, a6]
    rw [fX8_in0 N y μ1 (show n < 2 ^ 30 by omega)]
    unfold fX1_ringHouse
    rw [a5]
    rcases zix y (n := n) (by omega) with ⟨i, hi, rfl, ci⟩ | ci
    · obtain ⟨r25, r30, -⟩ := a8 (by omega)
      rw [if_neg (nI_pos (by omega)), if_neg (nI_ge hi (by omega)), zld_at (by omega) (by omega), r25 i hi]
      simp only [if_pos ci, if_neg c10, zld_at (show i < 10 by omega) (show 10 < 2 ^ 31 by omega), r30 i hi]
      exact ⟨_, _, _, rfl, rfl, yes⟩
    · simp only [if_neg ci]
      refine ⟨-9, σ1, μ1, ?_, rfl, yes⟩
      by_cases q : y < 0
      · rw [if_pos q]
      · rw [if_neg q, if_pos (Int32.not_lt.mp (fun z => ci ⟨Int32.not_lt.mp q, z⟩))]
  · simp only [if_neg cc]
    exact ⟨_, _, _, rfl, rfl, JJ_ref hJ⟩
