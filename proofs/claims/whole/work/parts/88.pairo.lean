/-! the class enters its moves -/
theorem SL_lgf (dat : Dat) (ne0 : Nat) (β : zS) : ∀ i, SL (lgf dat ne0 i β) β := by
  intro i
  induction i with
  | zero => exact SL_refl β
  | succ i ih => exact SL_ent (SL_ent ih _ _ _ _ _) _ _ _ _ _
theorem ent_89 (σ : zS) (ne s x : Nat) (v : Int32) {c : Nat} (hc : c = 8 ∨ c = 9) : (entX σ ne s x v).1 0 c = σ.1 0 c := by
  rcases hc with rfl | rfl <;> simp [entX, zsI]
theorem moves_eq {N k d h kn ru ne0 cl nt np0 came : Nat} {μ0 σ β α : zS} (hN : 1000000000 ≤ N) (hR : RQ d h kn ru ne0 cl nt np0 μ0 came σ β α) (h25 : came ≤ 25) (hne : ne0 ≤ 1900) (hB : Jb k np0 ne0 (μ0.1 0 3) (μ0.1 0 4) (μ0.1 0 6) (μ0.1 0 21) (σ.1 0 8) (σ.1 0 9) (μ0.2.1 0 7)) : ∃ τ, lX7_pair_42 N (nI np0) (nI came) (fun y7 w8 => some (nI came, w8)) N (nI np0, σ) = some (nI came, τ) ∧ JJ k τ α := by
  obtain ⟨hA, hS, hL, h5', dat, hD, hP⟩ := hR
  have bb := JJ_b hA.1
  unfold lX7_pair_42
  refine zlp_inv (fun i z => ∃ w, z = (nI (np0 + i), w) ∧ i ≤ came ∧ JA d h kn ru (ne0 + 2 * i) cl nt (np0 + came) w (lgf dat ne0 i β) ∧ Jb k (np0 + i) (ne0 + 2 * i) ((lgf dat ne0 i β).1 0 3) ((lgf dat ne0 i β).1 0 4) ((lgf dat ne0 i β).1 0 6) (μ0.1 0 21) (σ.1 0 8) (σ.1 0 9) (μ0.2.1 0 7) ∧ ∀ c, c = 8 ∨ c = 9 → w.1 0 c = σ.1 0 c) (fun r => ∃ τ, r = some (nI came, τ) ∧ JJ k τ α) came ?_ N 0 _ ⟨σ, rfl, by omega, hA, ?_, fun _ _ => rfl⟩ (by omega)
  · rintro i z rc ⟨w, rfl, hi, hAi, hBi, h89⟩
    have SLi := SL_lgf dat ne0 β i
    simp only [bX7_pair_42]
    rw [nI_plus]
    by_cases c1 : i = came
    · right
      subst c1
      rw [if_pos (nI_le (Nat.le_refl _) (by omega))]
      have LL1 : LE α (lgf dat ne0 i β) := LE_tr hD (LE_sy (LE_lgf hL.1 dat ne0 i))
      have F : Fm [27, 28, 29] (lgf dat ne0 i β) α := by
        refine ⟨hS.1.trans SLi.1.symm, fun q c hn => ?_⟩
        by_cases q1 : q = 0 ∧ (c = 0 ∨ c = 3 ∨ c = 4 ∨ c = 5 ∨ c = 6)
        · obtain ⟨rfl, q2⟩ := q1
          rcases q2 with rfl | rfl | rfl | rfl | rfl
          · funext j
            by_cases q3 : j = 5
            · subst q3; exact LL1.2.2.2.2
            · rw [hS.2.2 j q3, SLi.2.2 j q3]
          · exact LL1.1
          · exact LL1.2.1
          · exact LL1.2.2.1
          · exact LL1.2.2.2.1
        · have hn' : ¬ (q = 0 ∧ (c = 0 ∨ c = 3 ∨ c = 4 ∨ c = 5 ∨ c = 6 ∨ c = 27 ∨ c = 28 ∨ c = 29)) := by
            rintro ⟨z1, z2⟩
            have : ¬ (c = 27 ∨ c = 28 ∨ c = 29) := fun z => hn ⟨z1, by simpa using z⟩
            exact q1 ⟨z1, by omega⟩
          rw [hS.2.1 q c hn', SLi.2.1 q c hn']
      refine ⟨w, rfl, JJ_of (JA_FP hAi (FP_refl w) hAi.2.2.2.2.2.2.1.1 F) ?_⟩
      rw [F.2 0 3 (by decide), F.2 0 4 (by decide), F.2 0 6 (by decide), h89 8 (by omega), h89 9 (by omega), hS.2.1 0 21 (by decide), hL.2.1, hS.1, hL.2.2]
      exact hBi
    left
    refine ⟨by omega, ?_⟩
    have hp : np0 + i < np0 + came := by omega
    obtain ⟨g, t, x, p17, p18, hg, ht, pa, pb, pc, px, pm, pv, hx, da, db, dc⟩ := hP i (by omega)
    obtain ⟨h1, h2, h3, h4, h5, h6, h7, h8, h9⟩ := id hAi
    obtain ⟨r18, ⟨g', t', hg', ht', g1, g2, t1, t2, r1, r2, r3⟩, ⟨m, hm, m1, m2⟩, -⟩ := h6.1 (np0 + i) hp
    have sr : ∀ c, ¬ (c = 0 ∨ c = 3 ∨ c = 4 ∨ c = 5 ∨ c = 6 ∨ c = 27 ∨ c = 28 ∨ c = 29) → (lgf dat ne0 i β).1 0 c = β.1 0 c := fun c hc => SLi.2.1 0 c (fun z => hc z.2)
    rw [sr 17 (by omega), p17] at g2
    rw [sr 18 (by omega), p18] at t2
    have eg := (nI_eq (a := g) (b := g') (by omega) (by omega)).mp g2
    have et := (nI_eq (a := t) (b := t') (by omega) (by omega)).mp t2
    subst eg et
    obtain ⟨-, -, -, ⟨a, b, c, ha, hb, hab, hc, a1, a2, w1, w2, k1, k2⟩, -, ⟨xd, hxd, x1, x2⟩, -⟩ := h5.1 t ht
    rw [← r1, sr 10 (by omega), pa] at a2
    rw [← r2, sr 11 (by omega), pb] at w2
    rw [← r3, sr 12 (by omega), pc] at k2
    rw [sr 14 (by omega), px] at x2
    have ea := (nI_eq (by omega) (by omega)).mp a2
    have eb := (nI_eq (by omega) (by omega)).mp w2
    have ec := (nI_eq (by omega) (by omega)).mp k2
    have ex := (nI_eq (by omega) (by omega)).mp x2
    subst ex
    rw [sr 19 (by omega), pv] at m2
    have hmx : max x (30 * cl) ≤ d := Nat.max_le.mpr ⟨hx, bb.2.2.2.2.2.1⟩
    rw [if_neg (nI_ge hp (by omega)), pAt_in h1.2.2.2.2.2.2.2.1.1 hp (by omega) r18]
    simp only [zbi, zon, zgP, JJ_cnt h1, if_pos hp, m1]
    rw [moveX (N := N) hAi (x := x) hp ht t1 a1 w1 k1 x1 hx (by omega) (nI m)]
    simp only [zbv, nI_1]
    have em : (nI m).toInt = m := nI_toInt (by omega)
    have tw : (-(nI m)).toInt = -(nI m).toInt := neg32 (by rw [em]; omega)
    have eL : lgf dat ne0 (i + 1) β = entM (entM (lgf dat ne0 i β) (ne0 + 2 * i) a c (max x (30 * cl)) (-(nI m))) (ne0 + 2 * i + 1) b c (max x (30 * cl)) (nI m) := by
      simp only [lgf]
      rw [ea, eb, ec, pm, m2]
    refine ⟨_, ⟨_, rfl, by omega, ?_, ?_, ?_⟩, rfl⟩
    · rw [eL, show ne0 + 2 * (i + 1) = ne0 + 2 * i + 1 + 1 by omega]
      exact JA_ent (JA_ent hAi ha hc hmx (by omega) (-(nI m))) hb hc hmx (by omega) (nI m)
    · have hB' := Jb_move (k := k) (k' := k) (np' := np0 + (i + 1)) (a := a) (b := b) (c := c) hBi (v := nI m) (by rw [em]; omega) tw (by omega) (by omega) (by omega)
      rw [eL, show ne0 + 2 * (i + 1) = ne0 + 2 * i + 1 + 1 by omega]
      simpa [entM, zsI] using hB'
    · intro c' hc'
      rw [ent_89 _ _ _ _ _ hc', ent_89 _ _ _ _ _ hc']
      exact h89 c' hc'
  · show Jb k np0 ne0 (β.1 0 3) (β.1 0 4) (β.1 0 6) _ _ _ _
    rw [hL.1.1, hL.1.2.1, hL.1.2.2.2.1]
    exact hB
theorem go_pair {k N : Nat} {σ μ : zS} (hN : 1000000000 ≤ N) (hJ : JJ k σ μ) : ∃ r τ ν, fX7_pair N σ = some (r, τ) ∧ fX8_pair N μ = some (r, ν) ∧ JJ (k + 1) τ ν := by
  obtain ⟨d, h, kn, ru, ne, cl, nt, np, hA, hB⟩ := JJ_A hJ
  obtain ⟨h1, -⟩ := id hA
  have bb := JJ_b h1
  unfold fX7_pair fX8_pair
  rw [show σ.1 0 1 4 = nI ne from h1.2.2.2.2.1.1, show μ.1 0 0 5 = nI ne from h1.2.2.2.2.1.2, show σ.1 0 0 3 = nI ru from h1.2.2.2.1.1, show σ.1 0 2 5 = nI np from h1.2.2.2.2.2.2.2.1.1]
  by_cases c1 : ne ≤ 1900
  · have c2 : nI ne ≤ (1900 : Int32) := nI_le (b := 1900) c1 (by omega)
    obtain ⟨came, σ', β, α, e1, e2, h25, hR, h89⟩ := up_eq hN hA c1
    obtain ⟨τ, e3, hT⟩ := moves_eq (k := k) hN hR h25 c1 (by rw [h89 8 (by omega), h89 9 (by omega)]; exact hB)
    refine ⟨nI came, τ, α, ?_, ?_, JJ_mono hT⟩
    · rw [if_pos c2, e1]
      simp only [zbi]
      exact e3
    · rw [if_pos c2]; exact e2
  · have c2 : ¬ nI ne ≤ (1900 : Int32) := fun z => c1 ((nI_leI (a := ne) (b := 1900) (by omega) (by omega)).mp z)
    rw [if_neg c2, if_neg c2]
    simp only [rfX6, rfM6, zbi]
    exact ⟨_, _, _, rfl, rfl, JJ_ref hJ⟩
