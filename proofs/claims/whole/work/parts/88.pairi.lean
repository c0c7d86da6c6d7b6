/-! the class's chains of open tellings -/
def oG (μ : zS) (a b k : Nat) (t : Nat) : Bool := decide (μ.1 0 15 t = 0 ∧ μ.1 0 10 t = nI a ∧ μ.1 0 11 t = nI b ∧ μ.1 0 12 t = nI k)
theorem LL_mem {op : Nat → Bool} {nt : Nat} : ∀ {j u : Nat}, j ≤ nt → u ∈ LL op nt j → nt - j ≤ u ∧ u < nt ∧ op u = true := by
  intro j
  induction j with
  | zero => intro u _ h; simp [LL] at h
  | succ j ih =>
    intro u hj h
    simp only [LL] at h
    by_cases q : op (nt - j - 1) = true
    · rw [if_pos q] at h
      rcases List.mem_cons.mp h with e | e
      · subst e; exact ⟨by omega, by omega, q⟩
      · have := ih (by omega) e
        exact ⟨by omega, this.2⟩
    · rw [if_neg q] at h
      have := ih (by omega) h
      exact ⟨by omega, this.2⟩
theorem LL_congr {op op' : Nat → Bool} {nt : Nat} (h : ∀ t, t < nt → op t = op' t) : ∀ j, j ≤ nt → LL op nt j = LL op' nt j := by
  intro j
  induction j with
  | zero => intro _; rfl
  | succ j ih =>
    intro hj
    simp only [LL]
    rw [ih (by omega), h (nt - j - 1) (by omega)]
theorem LL_filter (p q : Nat → Bool) (nt : Nat) : ∀ j, LL (fun t => q t && p t) nt j = (LL p nt j).filter q := by
  intro j
  induction j with
  | zero => rfl
  | succ j ih =>
    simp only [LL]
    by_cases h1 : p (nt - j - 1) = true
    · rw [if_pos h1]
      by_cases h2 : q (nt - j - 1) = true
      · rw [if_pos (by simp [h1, h2]), List.filter_cons_of_pos h2, ih]
      · rw [if_neg (by simp [h2]), List.filter_cons_of_neg h2, ih]
    · rw [if_neg h1, if_neg (by simp [h1]), ih]
def chn (nx : Nat → Option Nat) : List Nat → Option Nat → Prop
  | [], o => o = none
  | t :: l, o => o = some t ∧ chn nx l (nx t)
theorem chn_congr {nx nx' : Nat → Option Nat} : ∀ {l : List Nat} {o : Option Nat}, (∀ u, u ∈ l → nx' u = nx u) → chn nx l o → chn nx' l o := by
  intro l
  induction l with
  | nil => intro o _ h; exact h
  | cons t l ih =>
    intro o hu h
    obtain ⟨h1, h2⟩ := h
    refine ⟨h1, ?_⟩
    rw [hu t (List.mem_cons_self ..)]
    exact ih (fun u hm => hu u (List.mem_cons_of_mem t hm)) h2
def gix (a b k : Nat) : Nat := (a * 10 + b) * 6 + k
theorem gix_inj {a b k a' b' k' : Nat} (hb : b < 10) (hb' : b' < 10) (hk : k < 6) (hk' : k' < 6) (h : gix a b k = gix a' b' k') : a = a' ∧ b = b' ∧ k = k' := by
  unfold gix at h
  omega
theorem zstT_some {α : Type} {σ : zS} {c n j t : Nat} {k : zS → Option α} (hj : j < n) (hn : n < 2 ^ 31) (ht : t < σ.2.2.2.1) : zstT σ c n (nI j) (some t) k = k (zsR σ 0 c j (some t)) := by
  unfold zstT
  rw [if_neg (nI_in hj hn), nI_clamp (by omega)]
  simp only [if_pos ht]
theorem zstT_none {α : Type} {σ : zS} {c n j : Nat} {k : zS → Option α} (hj : j < n) (hn : n < 2 ^ 31) : zstT σ c n (nI j) none k = k (zsR σ 0 c j none) := by
  unfold zstT
  rw [if_neg (nI_in hj hn), nI_clamp (by omega)]
theorem chain_eq {N d h kn ru ne cl nt np : Nat} {σ μ : zS} (hN : 1000000000 ≤ N) (hA : JA d h kn ru ne cl nt np σ μ) : ∃ w, fX2_chainOpenTellings N σ = some w ∧ FP σ w ∧ zvalT w ∧ ∀ a b k, a < 10 → b < 10 → k < 6 → chn (fun t => w.2.2.1 1 t 9) (LL (oG μ a b k) nt nt) (w.2.2.1 0 19 (gix a b k)) := by
  obtain ⟨h1, h2, h3, h4, h5, h6, h7, h8, h9⟩ := id hA
  obtain ⟨b0, b1, b2, b3, b4, b5, b6, b7⟩ := JJ_b h1
  have hc := JJ_cnt h1
  unfold fX2_chainOpenTellings
  have l2 : ∀ K : Int32 → zS → Option zS, ∃ y w1, lX2_chainOpenTellings_2 N K N ((0 : Int32), σ) = K y w1 ∧ FP σ w1 ∧ w1.1 = σ.1 ∧ zvalT w1 ∧ ∀ g, g < 600 → w1.2.2.1 0 19 g = none := by
    intro K
    unfold lX2_chainOpenTellings_2
    refine zlp_inv (fun i z => ∃ w1, z = (nI i, w1) ∧ i ≤ 600 ∧ FP σ w1 ∧ w1.1 = σ.1 ∧ zvalT w1 ∧ ∀ g, g < i → w1.2.2.1 0 19 g = none) (fun r => ∃ y w1, r = K y w1 ∧ FP σ w1 ∧ w1.1 = σ.1 ∧ zvalT w1 ∧ ∀ g, g < 600 → w1.2.2.1 0 19 g = none) 600 ?_ N 0 _ ⟨σ, rfl, by omega, FP_refl σ, rfl, h7.1, fun g hg => by omega⟩ (by omega)
    rintro i z rc ⟨w1, rfl, hi, f1, e1, v1, n1⟩
    simp only [bX2_chainOpenTellings_2]
    by_cases c1 : i = 600
    · right
      subst c1
      rw [if_pos (by decide)]
      exact ⟨_, w1, rfl, f1, e1, v1, n1⟩
    · left
      refine ⟨by omega, ?_⟩
      rw [if_neg (show ¬ (600 : Int32) ≤ nI i from nI_ge (b := 600) (by omega) (by omega)), zstT_none (by omega) (by omega), nI_1]
      refine ⟨_, ⟨zsR w1 0 19 i none, rfl, by omega, FP_tr f1 ⟨rfl, fun _ _ _ => rfl, fun _ _ _ => rfl, fun q c j hn _ => ?_⟩, e1, fun q c j u hq hu => ?_, fun g hg => ?_⟩, rfl⟩
      · simp only [zsR]
        rw [if_neg (fun z => hn ⟨z.1, by omega⟩)]
      · show u < w1.2.2.2.1
        simp only [zsR] at hu
        by_cases q1 : q = 0 ∧ c = 19
        · rw [if_pos q1] at hu
          by_cases q2 : j = i
          · subst q2; simp [va_up] at hu
          · have : va_up (w1.2.2.1 0 19) i none j = w1.2.2.1 0 19 j := by simp [va_up, q2]
            rw [this] at hu
            exact v1 0 19 j u (by omega) hu
        · rw [if_neg q1] at hu
          exact v1 q c j u hq hu
      · rw [zsR_at]
        by_cases q2 : g = i
        · subst q2; simp [va_up]
        · simp only [va_up, if_neg q2]; exact n1 g (by omega)
  obtain ⟨y, w1, e1, f1, i1, v1, n1⟩ := l2 (fun y2 w3 => lX2_chainOpenTellings_29 N (fun y11 w12 => some w12) N (((w3.1 0 2 4) - (1 : Int32)), w3))
  rw [e1, show w1.1 0 2 4 = nI nt by rw [i1]; exact h1.2.2.2.2.2.2.1.1]
  unfold lX2_chainOpenTellings_29
  refine zlp_inv (fun j z => ∃ w2, z = (nI (nt - j) - 1, w2) ∧ j ≤ nt ∧ FP σ w2 ∧ w2.1 = σ.1 ∧ zvalT w2 ∧ ∀ a b k, a < 10 → b < 10 → k < 6 → chn (fun t => w2.2.2.1 1 t 9) (LL (oG μ a b k) nt j) (w2.2.2.1 0 19 (gix a b k))) (fun r => ∃ w, r = some w ∧ FP σ w ∧ zvalT w ∧ ∀ a b k, a < 10 → b < 10 → k < 6 → chn (fun t => w.2.2.1 1 t 9) (LL (oG μ a b k) nt nt) (w.2.2.1 0 19 (gix a b k))) nt ?_ N 0 _ ⟨w1, rfl, by omega, f1, i1, v1, fun a b k ha hb hk => n1 _ (by unfold gix; omega)⟩ (by omega)
  rintro j z rc ⟨w2, rfl, hj, f2, i2, v2, c2⟩
  simp only [bX2_chainOpenTellings_29]
  by_cases c1 : j = nt
  · right
    subst c1
    rw [Nat.sub_self, if_pos (by decide)]
    exact ⟨w2, rfl, f2, v2, c2⟩
  left
  refine ⟨by omega, ?_⟩
  obtain ⟨t, et⟩ : ∃ t, nt - j = t + 1 := ⟨nt - j - 1, by omega⟩
  have ex : nI (nt - j) - 1 = nI t := by rw [et, nI_pred]
  have ht : t < nt := by omega
  have enx : nI t + -1 = nI (nt - (j + 1)) - 1 := by rw [show nt - (j + 1) = t by omega, Int32.sub_eq_add_neg]
  obtain ⟨t1, t2, t3, ⟨a, b, c, ha, hb, hab, hc', a1, a2, bb1, bb2, cc1, cc2⟩, t5, t6, ⟨s, hs, s1, s2⟩, t8⟩ := h5.1 t ht
  have r17 : w2.2.2.1 0 17 t = some t := by rw [f2.2.2.2 0 17 t (by omega) (by omega)]; exact t1
  have cnt : w2.2.2.2 = (nt, np) := by rw [f2.1]; exact hc
  rw [ex, enx, if_neg (nI_pos (by omega)), zldR_at (by omega) (by omega), r17]
  have stepL : ∀ a b k, LL (oG μ a b k) nt (j + 1) = if oG μ a b k t = true then t :: LL (oG μ a b k) nt j else LL (oG μ a b k) nt j := by
    intro a b k
    simp only [LL]
    rw [show nt - j - 1 = t by omega]
  simp only [zon, zgT, cnt, if_pos ht, i2, s1]
  by_cases q : s = 0
  · rw [if_pos ((nI_eq0 (by omega)).mpr q)]
    have eg : fX6_group N (some t) w2 = some (nI (gix a b c), w2) := by
      unfold fX6_group
      simp only [zgT, cnt, if_pos ht, i2, a1, bb1, cc1]
      rw [i10, i6, show 6 * (10 * a + b) + c = gix a b c by unfold gix; omega]
    have gl : gix a b c < 600 := by unfold gix; omega
    simp only [zrT, cnt, if_pos ht, eg, zbi]
    rw [if_neg (nI_pos (by omega)), if_neg (show ¬ (600 : Int32) ≤ nI (gix a b c) from nI_ge (b := 600) gl (by omega)), zldR_at gl (by omega)]
    simp only [zpTR, cnt, if_pos ht]
    rw [zstT_some gl (by omega) (show t < (zsR w2 1 t 9 (w2.2.2.1 0 19 (gix a b c))).2.2.2.1 by show t < w2.2.2.2.1; rw [cnt]; exact ht)]
    refine ⟨_, ⟨zsR (zsR w2 1 t 9 (w2.2.2.1 0 19 (gix a b c))) 0 19 (gix a b c) (some t), rfl, by omega, FP_tr f2 ⟨rfl, fun _ _ _ => rfl, fun _ _ _ => rfl, fun q c' i hn hm => ?_⟩, i2, fun q c' i u hq hu => ?_, fun a' b' k' ha' hb' hk' => ?_⟩, rfl⟩
    · simp only [zsR]
      rw [if_neg (fun z => hn ⟨z.1, by omega⟩)]
      by_cases q1 : q = 1 ∧ c' = t
      · rw [if_pos q1]
        have : i ≠ 9 := fun z => hm ⟨q1.1, z⟩
        simp only [va_up, if_neg this]
        rw [q1.1, q1.2]
      · rw [if_neg q1]
    · show u < w2.2.2.2.1
      simp only [zsR] at hu
      by_cases q1 : q = 0 ∧ c' = 19
      · rw [if_pos q1] at hu
        by_cases q2 : i = gix a b c
        · subst q2
          simp [va_up] at hu
          rw [← hu, cnt]; exact ht
        · simp only [va_up, if_neg q2] at hu
          simp only [if_neg (show ¬ ((0 : Nat) = 1 ∧ 19 = t) by omega)] at hu
          exact v2 0 19 i u (by omega) hu
      · rw [if_neg q1] at hu
        by_cases q3 : q = 1 ∧ c' = t
        · rw [if_pos q3] at hu
          by_cases q4 : i = 9
          · subst q4
            simp [va_up] at hu
            exact v2 0 19 (gix a b c) u (by omega) hu
          · simp only [va_up, if_neg q4] at hu
            exact v2 1 t i u (by omega) hu
        · rw [if_neg q3] at hu
          exact v2 q c' i u hq hu
    · have old := c2 a' b' k' ha' hb' hk'
      have nxt : ∀ u, u ≠ t → (zsR (zsR w2 1 t 9 (w2.2.2.1 0 19 (gix a b c))) 0 19 (gix a b c) (some t)).2.2.1 1 u 9 = w2.2.2.1 1 u 9 := by
        intro u hu
        simp [zsR, hu]
      have nxt' : (zsR (zsR w2 1 t 9 (w2.2.2.1 0 19 (gix a b c))) 0 19 (gix a b c) (some t)).2.2.1 1 t 9 = w2.2.2.1 0 19 (gix a b c) := by
        simp [zsR, va_up]
      have cg : chn (fun u => (zsR (zsR w2 1 t 9 (w2.2.2.1 0 19 (gix a b c))) 0 19 (gix a b c) (some t)).2.2.1 1 u 9) (LL (oG μ a' b' k') nt j) (w2.2.2.1 0 19 (gix a' b' k')) := by
        refine chn_congr (fun u hu => nxt u ?_) old
        have := (LL_mem hj hu).1
        omega
      rw [stepL]
      by_cases q1 : gix a' b' k' = gix a b c
      · obtain ⟨rfl, rfl, rfl⟩ := gix_inj hb' (by omega) hk' (by omega) q1
        have ho : oG μ a' b' k' t = true := by
          unfold oG
          simp [s2, q, a2, bb2, cc2, nI_0]
        rw [if_pos ho]
        refine ⟨by simp [zsR, va_up], ?_⟩
        show chn _ _ ((zsR (zsR w2 1 t 9 (w2.2.2.1 0 19 (gix a' b' k'))) 0 19 (gix a' b' k') (some t)).2.2.1 1 t 9)
        rw [nxt']
        exact cg
      · have ho : ¬ oG μ a' b' k' t = true := by
          unfold oG
          rw [a2, bb2, cc2]
          simp only [decide_eq_true_eq]
          rintro ⟨-, z1, z2, z3⟩
          apply q1
          have := (nI_eq (by omega) (by omega)).mp z1
          have := (nI_eq (by omega) (by omega)).mp z2
          have := (nI_eq (by omega) (by omega)).mp z3
          subst_vars
          rfl
        rw [if_neg ho]
        have : (zsR (zsR w2 1 t 9 (w2.2.2.1 0 19 (gix a b c))) 0 19 (gix a b c) (some t)).2.2.1 0 19 (gix a' b' k') = w2.2.2.1 0 19 (gix a' b' k') := by simp [zsR, va_up, q1]
        rw [this]
        exact cg
  · rw [if_neg (fun z => q ((nI_eq0 (by omega)).mp z))]
    refine ⟨_, ⟨w2, rfl, by omega, f2, i2, v2, fun a' b' k' ha' hb' hk' => ?_⟩, rfl⟩
    have ho : ¬ oG μ a' b' k' t = true := by
      unfold oG
      rw [s2]
      simp only [decide_eq_true_eq]
      rintro ⟨z, -⟩
      exact q ((nI_eq0 (by omega)).mp z)
    rw [stepL, if_neg ho]
    exact c2 a' b' k' ha' hb' hk'
