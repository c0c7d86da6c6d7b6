theorem isum_two0 {f : Nat → Int} {n a b : Nat} (ha : a < n) (hb : b < n) (hab : a ≠ b) (h : ∀ i, i < n → f i ≤ 1) (fa : f a = 0) (fb : f b = 0) : isum f n ≤ (n : Int) - 2 := by
  have ones : ∀ k : Nat, isum (fun _ => (1 : Int)) k = k := by
    intro k
    induction k with
    | zero => rfl
    | succ k ih => simp only [isum, ih]; omega
  have e1 : isum (fun i => if i = a then (0 : Int) else 1) n = n - 1 := by
    rw [isum_one (f := fun _ => 1) (j := a) ha (fun i _ hn => if_neg hn), ones, if_pos rfl]
    omega
  have e2 : isum (fun i => if i = a then (0 : Int) else if i = b then 0 else 1) n = n - 2 := by
    rw [isum_one (f := fun i => if i = a then (0 : Int) else 1) (j := b) hb (fun i _ hn => by by_cases q : i = a; rw [if_pos q, if_pos q]; rw [if_neg q, if_neg q, if_neg hn])]
    rw [e1, if_neg (fun e => hab e.symm), if_neg (fun e => hab e.symm), if_pos rfl]
    omega
  rw [← e2]
  refine isum_le (fun i hi => ?_)
  by_cases q : i = a
  · rw [q, if_pos rfl, fa]; omega
  · rw [if_neg q]
    by_cases r : i = b
    · rw [r, if_pos rfl, fb]; omega
    · rw [if_neg r]; exact h i hi
theorem keepX_i (σ : zS) (g t np : Nat) (v : Int32) (hp : σ.2.2.2.2 = np) : (∀ c, c ≠ 2 → (keepX σ g t np v).1 0 c = σ.1 0 c) ∧ (∀ j, j ≠ 5 → (keepX σ g t np v).1 0 2 j = σ.1 0 2 j) ∧ (keepX σ g t np v).1 0 2 5 = nI (np + 1) ∧ (∀ u, u ≠ g → u ≠ t → (keepX σ g t np v).1 1 u = σ.1 1 u) ∧ (∀ u, u = g ∨ u = t → (keepX σ g t np v).1 1 u 7 = 1 ∧ (keepX σ g t np v).1 1 u 8 = nI np ∧ ∀ j, j ≠ 7 → j ≠ 8 → (keepX σ g t np v).1 1 u j = σ.1 1 u j) ∧ (∀ u, u ≠ np → (keepX σ g t np v).1 2 u = σ.1 2 u) ∧ (keepX σ g t np v).1 2 np 2 = v ∧ (keepX σ g t np v).1 2 np 3 = 0 := by
  refine ⟨fun c hc => ?_, fun j hj => ?_, ?_, fun u h1 h2 => ?_, fun u hu => ⟨?_, ?_, fun j h7 h8 => ?_⟩, fun u hu => ?_, ?_, ?_⟩
  · simp [keepX, keepW, zsI, zsR, zaddP, hc]
  · simp [keepX, keepW, zsI, zsR, zaddP, upd, hj]
  · simp [keepX, keepW, zsI, zsR, zaddP, upd]
  · simp [keepX, keepW, zsI, zsR, zaddP, h1, h2]
  · rcases hu with rfl | rfl
    · by_cases q : u = t
      · subst q; simp [keepX, keepW, zsI, zsR, zaddP, upd]
      · simp [keepX, keepW, zsI, zsR, zaddP, upd, q]
    · by_cases q : u = g
      · subst q; simp [keepX, keepW, zsI, zsR, zaddP, upd]
      · simp [keepX, keepW, zsI, zsR, zaddP, upd, q]
  · rcases hu with rfl | rfl
    · by_cases q : u = t
      · subst q; simp [keepX, keepW, zsI, zsR, zaddP, upd]
      · simp [keepX, keepW, zsI, zsR, zaddP, upd, q]
    · simp [keepX, keepW, zsI, zsR, zaddP, upd]
  · rcases hu with rfl | rfl
    · by_cases q : u = t
      · subst q; simp [keepX, keepW, zsI, zsR, zaddP, upd, h7, h8]
      · simp [keepX, keepW, zsI, zsR, zaddP, upd, q, h7, h8]
    · by_cases q : u = g
      · subst q; simp [keepX, keepW, zsI, zsR, zaddP, upd, h7, h8]
      · simp [keepX, keepW, zsI, zsR, zaddP, upd, q, h7, h8]
  · have : ¬ u = σ.2.2.2.2 := by rw [hp]; exact hu
    simp [keepX, keepW, zsI, zsR, zaddP, hu, this]
  · simp [keepX, keepW, zsI, zsR, upd]
  · simp [keepX, keepW, zsI, zsR, zaddP, upd, hp]
theorem keepX_r (σ : zS) (g t np : Nat) (v : Int32) (hp : σ.2.2.2.2 = np) : (∀ q c, ¬ (q = 2 ∧ c = np) → ¬ (q = 0 ∧ c = 18) → (keepX σ g t np v).2.2.1 q c = σ.2.2.1 q c) ∧ (∀ j, j ≠ np → (keepX σ g t np v).2.2.1 0 18 j = σ.2.2.1 0 18 j) ∧ (keepX σ g t np v).2.2.1 0 18 np = some np ∧ (keepX σ g t np v).2.2.1 2 np 0 = some g ∧ (keepX σ g t np v).2.2.1 2 np 1 = some t ∧ (∀ j, j ≠ 0 → j ≠ 1 → (keepX σ g t np v).2.2.1 2 np j = none) ∧ (keepX σ g t np v).2.1 = σ.2.1 ∧ (keepX σ g t np v).2.2.2 = (σ.2.2.2.1, np + 1) := by
  refine ⟨fun q c h1 h2 => ?_, fun j hj => ?_, ?_, ?_, ?_, fun j h0 h1 => ?_, ?_, ?_⟩
  · have : ¬ (q = 2 ∧ c = σ.2.2.2.2) := by rw [hp]; exact h1
    simp only [keepX, keepW, zsI, zsR, zaddP, if_neg h1, if_neg h2, if_neg this]
  · simp [keepX, keepW, zsI, zsR, zaddP, va_up, hj]
  · simp [keepX, keepW, zsI, zsR, va_up]
  · simp [keepX, keepW, zsI, zsR, va_up]
  · simp [keepX, keepW, zsI, zsR, va_up]
  · simp [keepX, keepW, zsI, zsR, zaddP, va_up, hp, h0, h1]
  · simp [keepX, keepW, zsI, zsR, zaddP]
  · simp [keepX, keepW, zsI, zsR, zaddP, hp]
theorem madB_i (μ : zS) (g t np : Nat) (v : Int32) : (∀ q c, ¬ (q = 0 ∧ (c = 0 ∨ c = 15 ∨ c = 16 ∨ c = 17 ∨ c = 18 ∨ c = 19)) → (madB μ g t np v).1 q c = μ.1 q c) ∧ (∀ j, j ≠ 23 → (madB μ g t np v).1 0 0 j = μ.1 0 0 j) ∧ (madB μ g t np v).1 0 0 23 = nI (np + 1) ∧ (∀ u, u ≠ g → u ≠ t → (madB μ g t np v).1 0 15 u = μ.1 0 15 u ∧ (madB μ g t np v).1 0 16 u = μ.1 0 16 u) ∧ (∀ u, u = g ∨ u = t → (madB μ g t np v).1 0 15 u = 1 ∧ (madB μ g t np v).1 0 16 u = nI np) ∧ (∀ p, p ≠ np → (madB μ g t np v).1 0 17 p = μ.1 0 17 p ∧ (madB μ g t np v).1 0 18 p = μ.1 0 18 p ∧ (madB μ g t np v).1 0 19 p = μ.1 0 19 p) ∧ (madB μ g t np v).1 0 17 np = nI g ∧ (madB μ g t np v).1 0 18 np = nI t ∧ (madB μ g t np v).1 0 19 np = v ∧ (madB μ g t np v).2 = μ.2 := by
  refine ⟨fun q c h => ?_, fun j hj => ?_, ?_, fun u h1 h2 => ⟨?_, ?_⟩, fun u hu => ?_, fun p hp => ⟨?_, ?_, ?_⟩, ?_, ?_, ?_, rfl⟩
  · have h0 : ¬ (q = 0 ∧ c = 0) := fun z => h ⟨z.1, by omega⟩
    have h15 : ¬ (q = 0 ∧ c = 15) := fun z => h ⟨z.1, by omega⟩
    have h16 : ¬ (q = 0 ∧ c = 16) := fun z => h ⟨z.1, by omega⟩
    have h17 : ¬ (q = 0 ∧ c = 17) := fun z => h ⟨z.1, by omega⟩
    have h18 : ¬ (q = 0 ∧ c = 18) := fun z => h ⟨z.1, by omega⟩
    have h19 : ¬ (q = 0 ∧ c = 19) := fun z => h ⟨z.1, by omega⟩
    simp only [madB, madW, zsI, if_neg h0, if_neg h15, if_neg h16, if_neg h17, if_neg h18, if_neg h19]
  · simp [madB, madW, zsI, upd, hj]
  · simp [madB, madW, zsI, upd]
  · simp [madB, madW, zsI, upd, h1, h2]
  · simp [madB, madW, zsI, upd, h1, h2]
  · rcases hu with rfl | rfl
    · by_cases q : u = t
      · subst q; simp [madB, madW, zsI, upd]
      · simp [madB, madW, zsI, upd, q]
    · simp [madB, madW, zsI, upd]
  · simp [madB, madW, zsI, upd, hp]
  · simp [madB, madW, zsI, upd, hp]
  · simp [madB, madW, zsI, upd, hp]
  · simp [madB, madW, zsI, upd]
  · simp [madB, madW, zsI, upd]
  · simp [madB, madW, zsI, upd]
/-- two open tellings leave room for a pair -/
theorem room_pair {d h kn ru ne cl nt np : Nat} {σ μ : zS} (hA : JA d h kn ru ne cl nt np σ μ) {g t : Nat} (hg : g < nt) (ht : t < nt) (hgt : g ≠ t) (og : μ.1 0 15 g = 0) (ot : μ.1 0 15 t = 0) : 2 * (np + 1) ≤ nt := by
  obtain ⟨h1, h2, h3, h4, h5, h6, -⟩ := hA
  have := isum_two0 (f := fun t => if μ.1 0 15 t = 1 then 1 else 0) hg ht hgt (fun i _ => by split <;> omega) (by rw [og, if_neg (by decide)]) (by rw [ot, if_neg (by decide)])
  rw [h6.2.2] at this
  omega
theorem JA_pair {d h kn ru ne cl nt np : Nat} {σ μ : zS} (hA : JA d h kn ru ne cl nt np σ μ) {g t v : Nat} (hg : g < nt) (ht : t < nt) (hgt : g ≠ t) (og : μ.1 0 15 g = 0) (ot : μ.1 0 15 t = 0) (e10 : μ.1 0 10 g = μ.1 0 10 t) (e11 : μ.1 0 11 g = μ.1 0 11 t) (e12 : μ.1 0 12 g = μ.1 0 12 t) (hv : v ≤ 1000) : JA d h kn ru ne cl nt (np + 1) (keepX σ g t np (nI v)) (madB μ g t np (nI v)) := by
  have rm := room_pair hA hg ht hgt og ot
  obtain ⟨h1, h2, h3, h4, h5, h6, h7, h8, h9⟩ := hA
  have hc := JJ_cnt h1
  have hp : σ.2.2.2.2 = np := by rw [hc]
  have hT : σ.2.2.2.1 = nt := by rw [hc]
  obtain ⟨x1, x2, x3, x4, x5, x6, x7, x8⟩ := keepX_i σ g t np (nI v) hp
  obtain ⟨r1, r2, r3, r4, r5, r6, r7, r8⟩ := keepX_r σ g t np (nI v) hp
  obtain ⟨m1, m2, m3, m4, m5, m6, m7, m8, m9, m10⟩ := madB_i μ g t np (nI v)
  have mr : ∀ c, ¬ (c = 0 ∨ c = 15 ∨ c = 16 ∨ c = 17 ∨ c = 18 ∨ c = 19) → (madB μ g t np (nI v)).1 0 c = μ.1 0 c := fun c hc => m1 0 c (fun z => hc z.2)
  refine ⟨?_, ?_, ?_, ?_, ⟨fun u hu => ?_, fun u hu => ?_⟩, ⟨fun p hp' => ?_, fun p hp' => ?_, ?_⟩, ⟨fun q c i u hq hu => ?_, fun i u hu => ?_⟩, ?_, ?_⟩
  · obtain ⟨a1, a2, a3, a4, a5, a6, a7, a8, a9, a10⟩ := h1
    unfold Js
    rw [x1 0 (by decide), x1 1 (by decide), x2 4 (by decide), x3, m2 0 (by decide), m2 1 (by decide), m2 2 (by decide), m2 22 (by decide), m2 5 (by decide), m2 11 (by decide), m2 13 (by decide), m3, r8, hT]
    exact ⟨a1, a2, a3, a4, a5, a6, a7, ⟨rfl, rfl⟩, rfl, by omega⟩
  · unfold Je at h2 ⊢
    rw [x1 6 (by decide), x1 7 (by decide), x1 14 (by decide), x1 15 (by decide), x1 10 (by decide), x1 11 (by decide), x1 24 (by decide), x1 28 (by decide), x1 29 (by decide), x1 30 (by decide), r7, m10, mr 1 (by decide), mr 2 (by decide), mr 5 (by decide), mr 6 (by decide), mr 21 (by decide), mr 26 (by decide), mr 22 (by decide), mr 23 (by decide), mr 24 (by decide), mr 25 (by decide)]
    exact h2
  · rw [mr 1 (by decide), mr 2 (by decide)]; exact h3
  · rw [x1 13 (by decide), mr 3 (by decide), mr 4 (by decide), mr 5 (by decide)]; exact h4
  · obtain ⟨u1, u2, u3, u4, u5, u6, u7, u8⟩ := h5.1 u hu
    rw [r1 0 17 (by omega) (by omega), mr 9 (by decide), mr 10 (by decide), mr 11 (by decide), mr 12 (by decide), mr 13 (by decide), mr 14 (by decide)]
    by_cases q : u = g ∨ u = t
    · obtain ⟨y1, y2, y3⟩ := x5 u q
      obtain ⟨z1, z2⟩ := m5 u q
      rw [y3 0 (by decide) (by decide), y3 1 (by decide) (by decide), y3 2 (by decide) (by decide), y3 3 (by decide) (by decide), y3 4 (by decide) (by decide), y3 5 (by decide) (by decide), y3 6 (by decide) (by decide), y1, y2, z1, z2]
      exact ⟨u1, u2, u3, u4, u5, u6, ⟨1, by omega, rfl, rfl⟩, rfl⟩
    · have qg : u ≠ g := fun z => q (Or.inl z)
      have qt : u ≠ t := fun z => q (Or.inr z)
      rw [x4 u qg qt, (m4 u qg qt).1, (m4 u qg qt).2]
      exact ⟨u1, u2, u3, u4, u5, u6, u7, u8⟩
  · rw [(m4 u (by omega) (by omega)).1]
    exact h5.2 u hu
  · rw [mr 10 (by decide), mr 11 (by decide), mr 12 (by decide), mr 20 (by decide)]
    by_cases q : p = np
    · subst q
      refine ⟨r3, ⟨g, t, hg, ht, r4, m7, r5, m8, e10, e11, e12⟩, ⟨v, hv, x7, m9⟩, ⟨0, by omega, x8, ?_⟩⟩
      rw [h6.2.1 p (Nat.le_refl p)]; rfl
    · obtain ⟨u1, u2, u3, u4⟩ := h6.1 p (by omega)
      rw [r2 p q, x6 p q, r1 2 p (by omega) (by omega), (m6 p q).1, (m6 p q).2.1, (m6 p q).2.2]
      exact ⟨u1, u2, u3, u4⟩
  · rw [mr 20 (by decide)]
    exact h6.2.1 p (by omega)
  · have e0 := h6.2.2
    have s1 : isum (fun u => if (madB μ g t np (nI v)).1 0 15 u = 1 then 1 else 0) nt = isum (fun u => if u = g then 1 else if u = t then 1 else if μ.1 0 15 u = 1 then 1 else 0) nt := by
      refine isum_congr (fun u _ => ?_)
      by_cases q1 : u = g
      · rw [if_pos q1, if_pos (m5 u (Or.inl q1)).1]
      · rw [if_neg q1]
        by_cases q2 : u = t
        · rw [if_pos q2, if_pos (m5 u (Or.inr q2)).1]
        · rw [if_neg q2, (m4 u q1 q2).1]
    have s2 : isum (fun u => if u = t then 1 else if μ.1 0 15 u = 1 then (1 : Int) else 0) nt = isum (fun u => if μ.1 0 15 u = 1 then (1 : Int) else 0) nt + 1 := by
      rw [isum_one (f := fun u => if μ.1 0 15 u = 1 then (1 : Int) else 0) (j := t) ht (fun i _ hn => by rw [if_neg hn]), ot, if_neg (by decide), if_pos rfl]
      omega
    have s3 : isum (fun u => if u = g then 1 else if u = t then 1 else if μ.1 0 15 u = 1 then (1 : Int) else 0) nt = isum (fun u => if u = t then 1 else if μ.1 0 15 u = 1 then (1 : Int) else 0) nt + 1 := by
      rw [isum_one (f := fun u => if u = t then 1 else if μ.1 0 15 u = 1 then (1 : Int) else 0) (j := g) hg (fun i _ hn => by rw [if_neg hn]), if_neg hgt, og, if_neg (by decide), if_pos rfl]
      omega
    rw [s1, s3, s2, e0]
    omega
  · rw [r8]
    show u < σ.2.2.2.1
    by_cases q1 : q = 2 ∧ c = np
    · obtain ⟨rfl, rfl⟩ := q1
      by_cases j0 : i = 0
      · subst j0; rw [r4] at hu; cases hu; omega
      · by_cases j1 : i = 1
        · subst j1; rw [r5] at hu; cases hu; omega
        · rw [r6 i j0 j1] at hu; cases hu
    · rw [r1 q c q1 hq] at hu
      exact h7.1 q c i u hq hu
  · rw [r8]
    show u < np + 1
    by_cases q : i = np
    · subst q; rw [r3] at hu; cases hu; omega
    · rw [r2 i q] at hu
      have := h7.2 i u hu
      omega
  · rw [mr 22 (by decide), mr 21 (by decide)]; exact h8
  · rw [mr 23 (by decide), mr 24 (by decide), mr 25 (by decide)]; exact h9
/-- the class's own room for pairing -/
def FP (σ σ' : zS) : Prop := σ'.2.2.2 = σ.2.2.2 ∧ (∀ q c, ¬ (q = 0 ∧ c = 3) → σ'.1 q c = σ.1 q c) ∧ (∀ q c, ¬ (q = 0 ∧ (c = 3 ∨ c = 22 ∨ c = 23)) → σ'.2.1 q c = σ.2.1 q c) ∧ ∀ q c j, ¬ (q = 0 ∧ (c = 19 ∨ c = 20 ∨ c = 21)) → ¬ (q = 1 ∧ j = 9) → σ'.2.2.1 q c j = σ.2.2.1 q c j
theorem FP_refl (σ : zS) : FP σ σ := ⟨rfl, fun _ _ _ => rfl, fun _ _ _ => rfl, fun _ _ _ _ _ => rfl⟩
theorem FP_tr {u v w : zS} (h1 : FP u v) (h2 : FP v w) : FP u w := ⟨h2.1.trans h1.1, fun q c hn => (h2.2.1 q c hn).trans (h1.2.1 q c hn), fun q c hn => (h2.2.2.1 q c hn).trans (h1.2.2.1 q c hn), fun q c j hn hm => (h2.2.2.2 q c j hn hm).trans (h1.2.2.2 q c j hn hm)⟩
theorem FP_FL {u v : zS} (h : FL u v) : FP u v := ⟨by rw [h.2.1], fun q c _ => by rw [h.1], h.2.2, fun q c j _ _ => by rw [h.2.1]⟩
theorem JA_FP {d h kn ru ne cl nt np : Nat} {σ σ' μ μ' : zS} (hA : JA d h kn ru ne cl nt np σ μ) (hX : FP σ σ') (hv : zvalT σ') (hM : Fm [27, 28, 29] μ μ') : JA d h kn ru ne cl nt np σ' μ' := by
  obtain ⟨h1, h2, h3, h4, h5, h6, h7, h8, h9⟩ := hA
  obtain ⟨f1, f2, f3, f4⟩ := hX
  have p1 : σ'.1 1 = σ.1 1 := funext fun c => f2 1 c (by omega)
  have p2 : σ'.1 2 = σ.1 2 := funext fun c => f2 2 c (by omega)
  have q17 : σ'.2.2.1 0 17 = σ.2.2.1 0 17 := funext fun j => f4 0 17 j (by omega) (by omega)
  have q18 : σ'.2.2.1 0 18 = σ.2.2.1 0 18 := funext fun j => f4 0 18 j (by omega) (by omega)
  have q2 : σ'.2.2.1 2 = σ.2.2.1 2 := funext fun c => funext fun j => f4 2 c j (by omega) (by omega)
  refine ⟨?_, ?_, ?_, ?_, ?_, ?_, ⟨hv, ?_⟩, ?_, ?_⟩
  · unfold Js at h1 ⊢
    rw [f2 0 0 (by omega), f2 0 1 (by omega), f2 0 2 (by omega), f1, hM.2 0 0 (by decide)]
    exact h1
  · unfold Je at h2 ⊢
    rw [f2 0 6 (by omega), f2 0 7 (by omega), f2 0 14 (by omega), f2 0 15 (by omega), f2 0 10 (by omega), f2 0 11 (by omega), f2 0 24 (by omega), f2 0 28 (by omega), f2 0 29 (by omega), f2 0 30 (by omega), f3 0 12 (by omega), hM.2 0 1 (by decide), hM.2 0 2 (by decide), hM.2 0 5 (by decide), hM.2 0 6 (by decide), hM.2 0 21 (by decide), hM.2 0 22 (by decide), hM.2 0 26 (by decide), hM.2 0 23 (by decide), hM.2 0 24 (by decide), hM.2 0 25 (by decide), hM.1]
    exact h2
  · rw [hM.2 0 1 (by decide), hM.2 0 2 (by decide)]; exact h3
  · rw [f2 0 13 (by omega), hM.2 0 3 (by decide), hM.2 0 4 (by decide), hM.2 0 5 (by decide)]; exact h4
  · unfold Jt at h5 ⊢
    rw [q17, p1, hM.2 0 9 (by decide), hM.2 0 10 (by decide), hM.2 0 11 (by decide), hM.2 0 12 (by decide), hM.2 0 13 (by decide), hM.2 0 14 (by decide), hM.2 0 15 (by decide), hM.2 0 16 (by decide)]
    exact h5
  · unfold Jp at h6 ⊢
    rw [q18, q2, p2, hM.2 0 10 (by decide), hM.2 0 11 (by decide), hM.2 0 12 (by decide), hM.2 0 15 (by decide), hM.2 0 17 (by decide), hM.2 0 18 (by decide), hM.2 0 19 (by decide), hM.2 0 20 (by decide)]
    exact h6
  · unfold zvalP at h7 ⊢
    rw [q18, f1]; exact h7.2
  · rw [hM.2 0 22 (by decide), hM.2 0 21 (by decide)]; exact h8
  · rw [hM.2 0 23 (by decide), hM.2 0 24 (by decide), hM.2 0 25 (by decide)]; exact h9
