/-! the pairs that come up, both sides -/
theorem LL_nil {op : Nat → Bool} {nt : Nat} (h : ∀ t, t < nt → op t = false) : LL op nt nt = [] := by
  cases e : LL op nt nt with
  | nil => rfl
  | cons u l =>
    have := LL_mem (op := op) (nt := nt) (j := nt) (u := u) (Nat.le_refl nt) (by rw [e]; exact List.mem_cons_self ..)
    rw [h u this.2.1] at this
    cases this.2.2
theorem SL_refl (μ : zS) : SL μ μ := ⟨rfl, fun _ _ _ => rfl, fun _ _ => rfl⟩
theorem up_eq {N d h kn ru ne cl nt np : Nat} {σ μ : zS} (hN : 1000000000 ≤ N) (hA : JA d h kn ru ne cl nt np σ μ) (hne : ne ≤ 1900) : ∃ came σ' β α, fX2_pairUp N (nI ru) σ = some (nI came, σ') ∧ lX8_pair_21 N (fun y9 y10 w11 => some (y9, w11)) N ((0 : Int32), (0 : Int32), μ) = some (nI came, α) ∧ came ≤ 25 ∧ RQ d h kn ru ne cl nt np μ came σ' β α ∧ ∀ c, c = 8 ∨ c = 9 → σ'.1 0 c = σ.1 0 c := by
  obtain ⟨w, ec, fp, zv, ch0⟩ := chain_eq hN hA
  have bb := JJ_b hA.1
  obtain ⟨st, e0, hI, hRR⟩ := seq_of (S := Nat × zS × zS × zS) (fun n s => s.1 ≤ 25 ∧ RQ d h kn ru ne cl nt np μ s.1 s.2.1 s.2.2.1 s.2.2.2 ∧ (∀ c, c = 8 ∨ c = 9 → s.2.1.1 0 c = σ.1 0 c) ∧ ∀ a b k, a < 10 → b < 10 → k < 6 → n ≤ gix a b k → chn (fun t => s.2.1.2.2.1 1 t 9) (LL (oG s.2.2.1 a b k) nt nt) (s.2.1.2.2.1 0 19 (gix a b k)))
    (fun n s s' => ((25 ≤ s.1 ∧ s'.1 = s.1 ∧ s'.2.1 = s.2.1) ∨ (s.1 < 25 ∧ s.2.1.2.2.1 0 19 n = none ∧ s'.1 = s.1 ∧ s'.2.1 = s.2.1) ∨ (s.1 < 25 ∧ ∃ u e, s.2.1.2.2.1 0 19 n = some u ∧ fX2_pairGroup N (nI n) (nI ru) (nI (25 - s.1)) s.2.1 = some (nI e, s'.2.1) ∧ s'.1 = s.1 + e)) ∧ ∀ a b k, a < 10 → b < 10 → k < 6 → n = gix a b k → (s.1 < 25 ∧ a < h ∧ b < h ∧ k < kn ∧ ∃ e, fX8_pairThose N (nI a) (nI b) (nI k) (nI (25 - s.1)) s.2.2.2 = some (nI e, s'.2.2.2) ∧ s'.1 = s.1 + e) ∨ (¬ (s.1 < 25 ∧ a < h ∧ b < h ∧ k < kn) ∧ s'.1 = s.1 ∧ s'.2.2.2 = s.2.2.2))
    (0, w, μ, μ) ⟨by omega, ⟨JA_FP hA fp zv (Fm_refl _ _), SL_refl μ, ⟨⟨rfl, rfl, rfl, rfl, rfl⟩, rfl, rfl⟩, hA.1.2.2.2.2.1.2, (fun _ => (0, 0, 0, 0, 0)), ⟨rfl, rfl, rfl, rfl, rfl⟩, fun j hj => absurd hj (Nat.not_lt_zero j)⟩, fun c hc => fp.2.1 0 c (by omega), fun a b k ha hb hk _ => ch0 a b k ha hb hk⟩ 600 (by
      rintro n ⟨came, σ1, β1, α1⟩ hn ⟨c25, hR, h89, hch⟩
      dsimp only at c25 hR h89 hch
      obtain ⟨a, b, k, ha, hb, hk, rfl⟩ : ∃ a b k, a < 10 ∧ b < 10 ∧ k < 6 ∧ n = gix a b k := ⟨n / 60, n / 6 % 10, n % 6, by omega, by omega, by omega, by unfold gix; omega⟩
      by_cases c1 : 25 ≤ came
      · exact ⟨(came, σ1, β1, α1), ⟨c25, hR, h89, fun a' b' k' q1 q2 q3 q4 => hch a' b' k' q1 q2 q3 (by omega)⟩, Or.inl ⟨c1, rfl, rfl⟩, fun a' b' k' q1 q2 q3 q4 => Or.inr ⟨fun z => by have := z.1; dsimp only at this; omega, rfl, rfl⟩⟩
      by_cases c2 : a < h ∧ b < h ∧ k < kn
      · obtain ⟨e, σ2, β2, α2, he, hX, hM, hR2, hF, h15, h9, h10, h11, h12⟩ := group_eq hN hR (by omega) hne ha hb hk (hch a b k ha hb hk (Nat.le_refl _))
        refine ⟨(came + e, σ2, β2, α2), ⟨by dsimp only; omega, hR2, fun c hc => (hF.2.2 c hc).trans (h89 c hc), fun a' b' k' q1 q2 q3 q4 => ?_⟩, ?_, fun a' b' k' q1 q2 q3 q4 => ?_⟩
        · dsimp only
          have := hch a' b' k' q1 q2 q3 (by omega)
          rw [hF.1]
          have eL : LL (oG β2 a' b' k') nt nt = LL (oG β1 a' b' k') nt nt := by
            refine LL_congr (fun t ht => ?_) nt (Nat.le_refl nt)
            unfold oG
            rw [h10, h11, h12]
            by_cases q : β1.1 0 10 t = nI a ∧ β1.1 0 11 t = nI b ∧ β1.1 0 12 t = nI k
            · have ne' : ¬ (β1.1 0 10 t = nI a' ∧ β1.1 0 11 t = nI b' ∧ β1.1 0 12 t = nI k') := by
                rw [q.1, q.2.1, q.2.2]
                rintro ⟨z1, z2, z3⟩
                have y1 := (nI_eq (a := a) (b := a') (by omega) (by omega)).mp z1
                have y2 := (nI_eq (a := b) (b := b') (by omega) (by omega)).mp z2
                have y3 := (nI_eq (a := k) (b := k') (by omega) (by omega)).mp z3
                subst y1 y2 y3
                omega
              rw [decide_eq_false (fun z => ne' z.2), decide_eq_false (fun z => ne' z.2)]
            · rw [h15 t q]
          rw [eL]
          exact chn_congr (fun u _ => hF.2.1 u) this
        · rcases hX with ⟨y1, y2, y3⟩ | ⟨⟨u, y1⟩, y2⟩
          · exact Or.inr (Or.inl ⟨by dsimp only; omega, y1, by dsimp only; omega, y2⟩)
          · exact Or.inr (Or.inr ⟨by dsimp only; omega, u, e, y1, y2, rfl⟩)
        · obtain ⟨rfl, rfl, rfl⟩ := gix_inj hb q2 hk q3 q4
          exact Or.inl ⟨by dsimp only; omega, c2.1, c2.2.1, c2.2.2, e, hM, rfl⟩
      · have l0 : LL (oG β1 a b k) nt nt = [] := by
          refine LL_nil (fun t ht => ?_)
          obtain ⟨-, -, -, ⟨a2, b2, k2, y1, y2, -, y3, -, y4, -, y5, -, y6⟩, -⟩ := hR.1.2.2.2.2.1.1 t ht
          unfold oG
          refine decide_eq_false (fun z => c2 ?_)
          have z1 := (nI_eq (a := a2) (b := a) (by omega) (by omega)).mp (y4.symm.trans z.2.1)
          have z2 := (nI_eq (a := b2) (b := b) (by omega) (by omega)).mp (y5.symm.trans z.2.2.1)
          have z3 := (nI_eq (a := k2) (b := k) (by omega) (by omega)).mp (y6.symm.trans z.2.2.2)
          omega
        have hn0 := hch a b k ha hb hk (Nat.le_refl _)
        rw [l0] at hn0
        refine ⟨(came, σ1, β1, α1), ⟨c25, hR, h89, fun a' b' k' q1 q2 q3 q4 => hch a' b' k' q1 q2 q3 (by omega)⟩, Or.inr (Or.inl ⟨by dsimp only; omega, hn0, rfl, rfl⟩), fun a' b' k' q1 q2 q3 q4 => Or.inr ⟨fun z => ?_, rfl, rfl⟩⟩
        obtain ⟨rfl, rfl, rfl⟩ := gix_inj hb q2 hk q3 q4
        exact c2 z.2)
  have i6 := hI 600 (Nat.le_refl _)
  refine ⟨(st 600).1, (st 600).2.1, (st 600).2.2.1, (st 600).2.2.2, ?_, ?_, i6.1, i6.2.1, i6.2.2.1⟩
  · unfold fX2_pairUp
    rw [ec]
    simp only [zbv]
    have := loop_X (N := N) (ru := ru) hN (fun n => (st n).1) (fun n => (st n).2.1) (fun n hn => (hI n hn).1) (fun n hn => (hRR n hn).1)
    simp only [e0] at this
    exact this
  · have := loops_M (N := N) (h := h) (kn := kn) hN bb.2.1 bb.2.2.1 (fun n => (st n).1) (fun n => (st n).2.2.2) (fun n hn => (hI n hn).1) (fun n hn => by
      obtain ⟨x1, x2, -⟩ := (hI n hn).2.1
      exact ⟨by rw [x2.2.2 1 (by decide)]; exact x1.1.2.1.2, by rw [x2.2.2 2 (by decide)]; exact x1.1.2.2.1.2⟩) (fun a b k ha hb hk => (hRR (gix a b k) (by unfold gix; omega)).2 a b k ha hb hk rfl)
    simp only [e0] at this
    exact this
