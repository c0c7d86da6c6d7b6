theorem tAt_in {N t nt : Nat} {σ : zS} (e : σ.1 0 2 4 = nI nt) (ht : t < nt) (hn : nt ≤ 400) (er : σ.2.2.1 0 17 t = some t) : fX2_tellingAt N (nI t) σ = some (some t, σ) := by
  unfold fX2_tellingAt
  rw [if_neg (nI_pos (by omega)), e, if_neg (nI_ge ht (by omega)), zldR_at (by omega) (by omega), er]
theorem tAt_out {N nt : Nat} {x : Int32} {σ : zS} (e : σ.1 0 2 4 = nI nt) (hx : ¬ (0 ≤ x ∧ x < nI nt)) : fX2_tellingAt N x σ = some (none, σ) := by
  unfold fX2_tellingAt
  by_cases c : x < 0
  · rw [if_pos c]
  · rw [if_neg c, e, if_pos (Int32.not_lt.mp (fun q => hx ⟨Int32.not_lt.mp c, q⟩))]
theorem pAt_in {N t nt : Nat} {σ : zS} (e : σ.1 0 2 5 = nI nt) (ht : t < nt) (hn : nt ≤ 200) (er : σ.2.2.1 0 18 t = some t) : fX2_pairAt N (nI t) σ = some (some t, σ) := by
  unfold fX2_pairAt
  rw [if_neg (nI_pos (by omega)), e, if_neg (nI_ge ht (by omega)), zldR_at (by omega) (by omega), er]
theorem pAt_out {N nt : Nat} {x : Int32} {σ : zS} (e : σ.1 0 2 5 = nI nt) (hx : ¬ (0 ≤ x ∧ x < nI nt)) : fX2_pairAt N x σ = some (none, σ) := by
  unfold fX2_pairAt
  by_cases c : x < 0
  · rw [if_pos c]
  · rw [if_neg c, e, if_pos (Int32.not_lt.mp (fun q => hx ⟨Int32.not_lt.mp c, q⟩))]
theorem isum_congr {f g : Nat → Int} {n : Nat} (h : ∀ i, i < n → f i = g i) : isum f n = isum g n := by
  induction n with
  | zero => rfl
  | succ n ih => simp only [isum]; rw [ih (fun i hi => h i (by omega)), h n (by omega)]
theorem go_telling {k N : Nat} {σ μ : zS} (x y : Int32) (hJ : JJ k σ μ) : ∃ r τ ν, fX7_telling N x y σ = some (r, τ) ∧ fX8_telling N x y μ = some (r, ν) ∧ JJ (k + 1) τ ν := by
  obtain ⟨d, h, kn, ru, ne, cl, nt, np, h1, h2, h3, h4, h5, h6, h7, h8, h9, h10⟩ := id hJ
  obtain ⟨-, -, -, -, -, -, b7, -⟩ := JJ_b h1
  have yes := JJ_mono hJ
  unfold fX7_telling fX8_telling
  rw [show μ.1 0 0 13 = nI nt from h1.2.2.2.2.2.2.1.2, fX8_in0 N x μ (show nt < 2 ^ 30 by omega)]
  rcases zix x (n := nt) (by omega) with ⟨t, ht, rfl, ct⟩ | ct
  · obtain ⟨t1, t2, ⟨g, hg, g1, g2⟩, ⟨a, b, c, ha, hb, hab, hc, a1, a2, b1, b2, c1, c2⟩, ⟨m, hm1, hm2, m1, m2⟩, ⟨xd, hx, x1, x2⟩, ⟨s, hs, s1, s2⟩, p1⟩ := h5.1 t ht
    rw [tAt_in h1.2.2.2.2.2.2.1.1 ht b7 t1]
    simp only [zbi, zon, zgT, JJ_cnt h1, if_pos ht, if_pos ct, if_neg c10, zld_at (show t < 400 by omega) (show 400 < 2 ^ 31 by omega), g1, g2, a1, a2, b1, b2, c1, c2, m1, m2, x1, x2, s1, s2, p1]
    by_cases q : y = 0
    · simp only [if_pos q]
      exact ⟨if nI g = 0 then 0 else 1, σ, μ, by split <;> rfl, by split <;> rfl, yes⟩
    simp only [if_neg q]; clear q
    by_cases q : y = 1
    · simp only [if_pos q]
      exact ⟨_, _, _, rfl, rfl, yes⟩
    simp only [if_neg q]; clear q
    by_cases q : y = 2
    · simp only [if_pos q]
      exact ⟨_, _, _, rfl, rfl, yes⟩
    simp only [if_neg q]; clear q
    by_cases q : y = 3
    · simp only [if_pos q]
      exact ⟨_, _, _, rfl, rfl, yes⟩
    simp only [if_neg q]; clear q
    by_cases q : y = 4
    · simp only [if_pos q]
      exact ⟨_, _, _, rfl, rfl, yes⟩
    simp only [if_neg q]; clear q
    by_cases q : y = 5
    · simp only [if_pos q]
      exact ⟨_, _, _, rfl, rfl, yes⟩
    simp only [if_neg q]; clear q
    by_cases q : y = 6
    · simp only [if_pos q]
      exact ⟨_, _, _, rfl, rfl, yes⟩
    simp only [if_neg q]; clear q
    by_cases q : y = 7
    · simp only [if_pos q]
      exact ⟨_, _, _, rfl, rfl, yes⟩
    simp only [if_neg q]
    exact ⟨_, _, _, rfl, rfl, yes⟩
  · rw [tAt_out h1.2.2.2.2.2.2.1.1 ct]
    simp only [zbi, zon, if_neg ct]
    exact ⟨_, _, _, rfl, rfl, yes⟩
theorem quarX {d h kn ru ne cl nt np : Nat} {σ μ : zS} (N : Nat) (h1 : Js d h kn ru ne cl nt np σ μ) (h5 : Jt d h kn nt σ μ) (h6 : Jp nt np σ μ) {p : Nat} (hp : p < np) : ∃ q : Int32, (q = 0 ∨ q = 1) ∧ fX5_isQuarrel N (some p) σ = some (q, σ) ∧ fX8_isQuarrel N (nI p) μ = some (q, μ) := by
  obtain ⟨-, -, -, -, -, -, b7, b8⟩ := JJ_b h1
  obtain ⟨p1, ⟨g, t, hg, ht, g1, g2, t1, t2, -⟩, -⟩ := h6.1 p hp
  obtain ⟨-, -, -, -, ⟨m, hm1, hm2, m1, m2⟩, -⟩ := h5.1 g hg
  obtain ⟨-, -, -, -, ⟨n, hn1, hn2, n1, n2⟩, -⟩ := h5.1 t ht
  unfold fX5_isQuarrel fX8_isQuarrel
  simp only [zgPR, zgT, JJ_cnt h1, if_pos hp, g1, t1, if_pos hg, if_pos ht, m1, n1, zld_at (show p < 200 by omega) (show 200 < 2 ^ 31 by omega), g2, t2, zld_at (show g < 400 by omega) (show 400 < 2 ^ 31 by omega), zld_at (show t < 400 by omega) (show 400 < 2 ^ 31 by omega), m2, n2]
  by_cases c : nI m = nI n
  · exact ⟨0, Or.inl rfl, by rw [if_pos c], by rw [if_pos c]⟩
  · exact ⟨1, Or.inr rfl, by rw [if_neg c], by rw [if_neg c]⟩
theorem go_pairOf {k N : Nat} {σ μ : zS} (x y : Int32) (hJ : JJ k σ μ) : ∃ r τ ν, fX7_pairOf N x y σ = some (r, τ) ∧ fX8_pairOf N x y μ = some (r, ν) ∧ JJ (k + 1) τ ν := by
  obtain ⟨d, h, kn, ru, ne, cl, nt, np, h1, h2, h3, h4, h5, h6, h7, h8, h9, h10⟩ := id hJ
  obtain ⟨-, -, -, -, -, -, b7, b8⟩ := JJ_b h1
  have yes := JJ_mono hJ
  unfold fX7_pairOf fX8_pairOf
  rw [show μ.1 0 0 23 = nI np from h1.2.2.2.2.2.2.2.1.2, fX8_in0 N x μ (show np < 2 ^ 30 by omega)]
  rcases zix x (n := np) (by omega) with ⟨p, hp, rfl, ct⟩ | ct
  · obtain ⟨p1, ⟨g, t, hg, ht, g1, g2, t1, t2, -⟩, ⟨m, hm, m1, m2⟩, ⟨j, hj, j1, j2⟩⟩ := h6.1 p hp
    obtain ⟨q, hq, q1, q2⟩ := quarX N h1 h5 h6 hp
    obtain ⟨-, gn, -⟩ := h5.1 g hg
    obtain ⟨-, tn, -, -, -, ⟨xd, hx, x1, x2⟩, -⟩ := h5.1 t ht
    rw [pAt_in h1.2.2.2.2.2.2.2.1.1 hp (by omega) p1]
    simp only [zbi, zon, zgPR, zgP, zgT, zrP, q1, q2, JJ_cnt h1, if_pos hp, if_pos hg, if_pos ht, if_pos ct, if_neg c10, zld_at (show p < 200 by omega) (show 200 < 2 ^ 31 by omega), zld_at (show t < 400 by omega) (show 400 < 2 ^ 31 by omega), g1, g2, t1, t2, m1, m2, j1, j2, gn, tn, x1, x2]
    by_cases q : y = 0
    · simp only [if_pos q]
      exact ⟨_, _, _, rfl, rfl, yes⟩
    simp only [if_neg q]; clear q
    by_cases q : y = 1
    · simp only [if_pos q]
      exact ⟨_, _, _, rfl, rfl, yes⟩
    simp only [if_neg q]; clear q
    by_cases q : y = 2
    · simp only [if_pos q]
      exact ⟨_, _, _, rfl, rfl, yes⟩
    simp only [if_neg q]; clear q
    by_cases w : y = 3
    · simp only [if_pos w]
      rcases hq with rfl | rfl
      · exact ⟨_, _, _, rfl, rfl, yes⟩
      · exact ⟨_, _, _, rfl, rfl, yes⟩
    simp only [if_neg w]; clear w
    by_cases q : y = 4
    · simp only [if_pos q]
      exact ⟨_, _, _, rfl, rfl, yes⟩
    simp only [if_neg q]; clear q
    by_cases q : y = 5
    · simp only [if_pos q]
      exact ⟨if nI j = 0 then 0 else 1, σ, μ, by split <;> rfl, by split <;> rfl, yes⟩
    simp only [if_neg q]
    exact ⟨_, _, _, rfl, rfl, yes⟩
  · rw [pAt_out h1.2.2.2.2.2.2.2.1.1 ct]
    simp only [zbi, zon, if_neg ct]
    exact ⟨_, _, _, rfl, rfl, yes⟩
theorem go_drop {k N : Nat} {σ μ : zS} (x : Int32) (hJ : JJ k σ μ) : ∃ r τ ν, fX7_drop N x σ = some (r, τ) ∧ fX8_drop N x μ = some (r, ν) ∧ JJ (k + 1) τ ν := by
  obtain ⟨d, h, kn, ru, ne, cl, nt, np, h1, h2, h3, h4, h5, h6, h7, h8, h9, h10⟩ := id hJ
  obtain ⟨-, -, -, -, -, -, b7, -⟩ := JJ_b h1
  have no : ∀ j, JJ (k + 1) (zrefX σ j) (zrefM μ j) := fun j => JJ_ref hJ
  unfold fX7_drop fX8_drop
  rw [show μ.1 0 0 13 = nI nt from h1.2.2.2.2.2.2.1.2, fX8_in0 N x μ (show nt < 2 ^ 30 by omega)]
  rcases zix x (n := nt) (by omega) with ⟨t, ht, rfl, ct⟩ | ct
  · obtain ⟨t1, t2, t3, t4, t5, t6, ⟨s, hs, s1, s2⟩, p1⟩ := h5.1 t ht
    rw [tAt_in h1.2.2.2.2.2.2.1.1 ht b7 t1]
    simp only [zbi, zon, zgT, zpT, JJ_cnt h1, if_pos ht, if_pos ct, if_neg c10, zld_at (show t < 400 by omega) (show 400 < 2 ^ 31 by omega), zst_at (show t < 400 by omega) (show 400 < 2 ^ 31 by omega), s1, s2, rfX3, rfM3]
    by_cases q : nI s = 0
    · simp only [if_pos q]
      have st0 : μ.1 0 15 t = 0 := s2.trans q
      refine ⟨1, zsI σ 1 t 7 2, zsI μ 0 15 t 2, rfl, rfl, d, h, kn, ru, ne, cl, nt, np, ?_, ?_, ?_, ?_, ?_, ?_, ?_, ?_, ?_, Jb_mono (k := k) (Nat.le_succ k) (Nat.le_refl _) ?_⟩
      · simpa [Js, zsI] using h1
      · simpa [Je, zsI] using h2
      · simpa [zsI] using h3
      · simpa [zsI] using h4
      · refine ⟨fun u hu => ?_, fun u hu => ?_⟩
        · obtain ⟨u1, u2, u3, u4, u5, u6, u7, u8⟩ := h5.1 u hu
          by_cases w : u = t
          · subst w
            exact ⟨by simpa [zsI] using u1, by simpa [zsI, upd] using u2, by simpa [zsI, upd] using u3, by simpa [zsI, upd] using u4, by simpa [zsI, upd] using u5, by simpa [zsI, upd] using u6, ⟨2, by omega, by simp [zsI, upd]; rfl, by simp [zsI, upd]; rfl⟩, by simpa [zsI, upd] using u8⟩
          · exact ⟨by simpa [zsI] using u1, by simpa [zsI, w] using u2, by simpa [zsI, w] using u3, by simpa [zsI, w] using u4, by simpa [zsI, w] using u5, by simpa [zsI, w] using u6, by simpa [zsI, upd, w] using u7, by simpa [zsI, w] using u8⟩
        · have w : u ≠ t := by omega
          have := h5.2 u hu
          simpa [zsI, upd, w] using this
      · refine ⟨by simpa [zsI] using h6.1, by simpa [zsI] using h6.2.1, ?_⟩
        rw [← h6.2.2]
        refine isum_congr (fun u hu => ?_)
        by_cases w : u = t
        · subst w
          have : ¬ μ.1 0 15 u = 1 := by rw [st0]; decide
          simp [zsI, upd, this]
        · simp [zsI, upd, w]
      · exact h7
      · simpa [zsI] using h8
      · simpa [zsI] using h9
      · simpa [zsI] using h10
    · simp only [if_neg q]
      exact ⟨_, _, _, rfl, rfl, no 3⟩
  · rw [tAt_out h1.2.2.2.2.2.2.1.1 ct]
    simp only [zbi, zon, if_neg ct, rfX1, rfM1]
    exact ⟨_, _, _, rfl, rfl, no 1⟩
