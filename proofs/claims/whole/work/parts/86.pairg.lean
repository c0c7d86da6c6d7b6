/-! a pair is made -/
def cntd (ru mg mt : Nat) : Nat := if ru = 1 then (if mt < mg then mt else mg) else if ru = 2 then (if mg < mt then mt else mg) else if ru = 3 then mg else mt
theorem cntd_bd {ru mg mt : Nat} (h1 : mg ≤ 1000) (h2 : mt ≤ 1000) : cntd ru mg mt ≤ 1000 := by
  unfold cntd
  repeat' split
  all_goals omega
def keepW (σ : zS) (g t np : Nat) : zS := zsI (zsI (zsI (zsI σ 1 g 7 1) 1 t 7 1) 1 g 8 (nI np)) 1 t 8 (nI np)
def keepX (σ : zS) (g t np : Nat) (v : Int32) : zS := zsI (zsR (zsI (zsR (zsR (zaddP (keepW σ g t np)) 2 np 0 (some g)) 2 np 1 (some t)) 2 np 2 v) 0 18 np (some np)) 0 2 5 (nI (np + 1))
def madW (μ : zS) (g t np : Nat) : zS := zsI (zsI (zsI (zsI (zsI (zsI (zsI μ 0 0 23 (nI (np + 1))) 0 17 np (nI g)) 0 18 np (nI t)) 0 15 g 1) 0 15 t 1) 0 16 g (nI np)) 0 16 t (nI np)
def madB (μ : zS) (g t np : Nat) (v : Int32) : zS := zsI (madW μ g t np) 0 19 np v
theorem keep_eq {N nt np g t mg mt ru : Nat} {σ : zS} (hc : σ.2.2.2 = (nt, np)) (hg : g < nt) (ht : t < nt) (hv : zvalP σ) (h5 : σ.1 0 2 5 = nI np) (hnp : np < 200) (eg : σ.1 1 g 5 = nI mg) (et : σ.1 1 t 5 = nI mt) (hmg : mg ≤ 1000) (hmt : mt ≤ 1000) (hru : ru ≤ 3) : fX2_keepPair N (some g) (some t) (nI ru) σ = some (keepX σ g t np (nI (cntd ru mg mt))) := by
  have zc : ∀ (w : zS) (q c j : Nat) (v : Int32), (zsI w q c j v).2.2.2 = w.2.2.2 := fun _ _ _ _ _ => rfl
  have zcR : ∀ (w : zS) (q c j : Nat) (v : Option Nat), (zsR w q c j v).2.2.2 = w.2.2.2 := fun _ _ _ _ _ => rfl
  have w5 : (keepW σ g t np).1 0 2 5 = nI np := by simpa [keepW, zsI] using h5
  have wc : (keepW σ g t np).2.2.2 = (nt, np) := hc
  have e2 : (zsI (zsI σ 1 g 7 1) 1 t 7 1).1 0 2 5 = nI np := by simpa [zsI] using h5
  have e3 : (zsI (zsI (zsI σ 1 g 7 1) 1 t 7 1) 1 g 8 (nI np)).1 0 2 5 = nI np := by simpa [zsI] using h5
  have ac : (zaddP (keepW σ g t np)).2.2.2 = (nt, np + 1) := by simp [zaddP, wc]
  have eg' : (zaddP (keepW σ g t np)).1 1 g 5 = nI mg := by
    simp only [zaddP, keepW, zsI]
    by_cases q : g = t
    · subst q; simpa [upd] using eg
    · simpa [upd, q] using eg
  have et' : (zaddP (keepW σ g t np)).1 1 t 5 = nI mt := by
    simp only [zaddP, keepW, zsI]
    by_cases q : t = g
    · subst q; simpa [upd] using et
    · simpa [upd, q] using et
  unfold fX2_keepPair
  simp only [zpT, zc, hc, if_pos hg, if_pos ht, e2, e3]
  show znP (keepW σ g t np) _ = _
  unfold znP
  have hvw : zvalP (keepW σ g t np) := hv
  rw [if_pos hvw, wc]
  have cb : fX2_countedBy N (nI ru) (some g) (some t) (zaddP (keepW σ g t np)) = some (nI (cntd ru mg mt), zaddP (keepW σ g t np)) := by
    unfold fX2_countedBy cntd
    simp only [zgT, ac, if_pos hg, if_pos ht, eg', et']
    rcases (show ru = 0 ∨ ru = 1 ∨ ru = 2 ∨ ru = 3 by omega) with rfl | rfl | rfl | rfl
    · rfl
    · rw [if_pos (show nI 1 = 1 from rfl), if_pos rfl]
      by_cases q : mt < mg
      · rw [if_pos (nI_lt q (by omega)), if_pos q]
      · rw [if_neg (nI_nlt (by omega) (by omega)), if_neg q]
    · rw [if_neg (show ¬ nI 2 = 1 by decide), if_pos (show nI 2 = 2 from rfl), if_neg (show ¬ (2 : Nat) = 1 by decide), if_pos (show (2 : Nat) = 2 from rfl)]
      by_cases q : mg < mt
      · rw [if_pos (nI_lt q (by omega)), if_pos q]
      · rw [if_neg (nI_nlt (by omega) (by omega)), if_neg q]
    · rw [if_neg (show ¬ nI 3 = 1 by decide), if_neg (show ¬ nI 3 = 2 by decide), if_pos (show nI 3 = 3 from rfl), if_neg (show ¬ (3 : Nat) = 1 by decide), if_neg (show ¬ (3 : Nat) = 2 by decide), if_pos (show (3 : Nat) = 3 from rfl)]
  show zbi (fX2_countedBy N (nI ru) (some g) (some t) (zaddP (keepW σ g t np))) _ = _
  rw [cb]
  have l1 : np < np + 1 := Nat.lt_succ_self np
  simp only [zbi, fX5_init, zrP, zpPR, zpP, zcR, ac, if_pos l1, zbv]
  show zstP _ 18 200 ((keepW σ g t np).1 0 2 5) (some np) _ = _
  rw [w5]
  unfold zstP
  have cc : (zsI (zsR (zsR (zaddP (keepW σ g t np)) 2 np 0 (some g)) 2 np 1 (some t)) 2 np 2 (nI (cntd ru mg mt))).2.2.2 = (nt, np + 1) := ac
  rw [if_neg (nI_in hnp (by omega)), nI_clamp (by omega)]
  simp only [cc, if_pos l1, zlet]
  have e5 : (zsR (zsI (zsR (zsR (zaddP (keepW σ g t np)) 2 np 0 (some g)) 2 np 1 (some t)) 2 np 2 (nI (cntd ru mg mt))) 0 18 np (some np)).1 0 2 5 = nI np := by
    simpa [zsR, zsI, zaddP] using w5
  rw [e5, nI_1]
  rfl
theorem made_tail {N ne cl a b c x g t np : Nat} {v : Int32} {w : zS} (hne : ne + 1 < 2000) (hcl : cl ≤ 20) (hx : x ≤ 599) (hg : g < 400) (ht : t < 400) (hnp : np < 200) (e5 : w.1 0 0 5 = nI ne) (e11 : w.1 0 0 11 = nI cl) (ea : w.1 0 10 g = nI a) (eb : w.1 0 11 g = nI b) (ec : w.1 0 12 g = nI c) (ex : w.1 0 14 t = nI x) : (zst w 19 200 (nI np) v fun w10 => zld w10 10 400 (nI g) fun v11 => zld w10 12 400 (nI g) fun v12 => zld w10 14 400 (nI t) fun v13 => zld w10 19 200 (nI np) fun v14 => zbv (fX8_enter N v11 v12 v13 (-v14) w10) fun w15 => zld w15 11 400 (nI g) fun v16 => zld w15 12 400 (nI g) fun v17 => zld w15 14 400 (nI t) fun v18 => zld w15 19 200 (nI np) fun v19 => zbv (fX8_enter N v16 v17 v18 v19 w15) fun w20 => some w20) = some (entM (entM (zsI w 0 19 np v) ne a c (max x (30 * cl)) (-v)) (ne + 1) b c (max x (30 * cl)) v) := by
  obtain ⟨W, eW⟩ : ∃ W, W = zsI w 0 19 np v := ⟨_, rfl⟩
  have r : ∀ c', c' ≠ 19 → W.1 0 c' = w.1 0 c' := fun c' hc => by rw [eW, zsI_ne _ _ _ hc]
  have r19 : W.1 0 19 np = v := by rw [eW, zsI_at, pk_us]
  rw [zst_at hnp (by omega), ← eW]
  simp only [zld_at hg (show 400 < 2 ^ 31 by omega), zld_at ht (show 400 < 2 ^ 31 by omega), zld_at hnp (show 200 < 2 ^ 31 by omega), r 10 (by decide), r 12 (by decide), r 14 (by decide), r19, ea, ec, ex]
  rw [enterM (N := N) (show W.1 0 0 5 = nI ne by rw [r 0 (by decide)]; exact e5) (show W.1 0 0 11 = nI cl by rw [r 0 (by decide)]; exact e11) (by omega) hcl hx]
  simp only [zbv]
  have q : ∀ c', c' ≠ 0 → c' ≠ 3 → c' ≠ 4 → c' ≠ 5 → c' ≠ 6 → (entM W ne a c (max x (30 * cl)) (-v)).1 0 c' = W.1 0 c' := by
    intro c' h0 h3 h4 h5 h6
    simp [entM, zsI, h0, h3, h4, h5, h6]
  have q5 : (entM W ne a c (max x (30 * cl)) (-v)).1 0 0 5 = nI (ne + 1) := by simp [entM, zsI, upd]
  have q11 : (entM W ne a c (max x (30 * cl)) (-v)).1 0 0 11 = nI cl := by
    have : W.1 0 0 11 = nI cl := by rw [r 0 (by decide)]; exact e11
    simpa [entM, zsI, upd] using this
  rw [q 11 (by decide) (by decide) (by decide) (by decide) (by decide), q 12 (by decide) (by decide) (by decide) (by decide) (by decide), q 14 (by decide) (by decide) (by decide) (by decide) (by decide), q 19 (by decide) (by decide) (by decide) (by decide) (by decide), r 11 (by decide), r 12 (by decide), r 14 (by decide), r19, eb, ec, ex, enterM (N := N) q5 q11 (by omega) hcl hx]
theorem made_eq {N ne cl a b c x g t np mg mt ru : Nat} {w : zS} (hne : ne + 1 < 2000) (hcl : cl ≤ 20) (hx : x ≤ 599) (hg : g < 400) (ht : t < 400) (hnp : np < 200) (e23 : w.1 0 0 23 = nI np) (e22 : w.1 0 0 22 = nI ru) (hru : ru ≤ 3) (e5 : w.1 0 0 5 = nI ne) (e11 : w.1 0 0 11 = nI cl) (ea : w.1 0 10 g = nI a) (eb : w.1 0 11 g = nI b) (ec : w.1 0 12 g = nI c) (ex : w.1 0 14 t = nI x) (eg : w.1 0 13 g = nI mg) (et : w.1 0 13 t = nI mt) (hmg : mg ≤ 1000) (hmt : mt ≤ 1000) : fX8_made N (nI g) (nI t) w = some (entM (entM (madB w g t np (nI (cntd ru mg mt))) ne a c (max x (30 * cl)) (-(nI (cntd ru mg mt)))) (ne + 1) b c (max x (30 * cl)) (nI (cntd ru mg mt))) := by
  have r : ∀ c', c' ≠ 0 → c' ≠ 15 → c' ≠ 16 → c' ≠ 17 → c' ≠ 18 → (madW w g t np).1 0 c' = w.1 0 c' := by
    intro c' h0 h1 h2 h3 h4
    simp [madW, zsI, h0, h1, h2, h3, h4]
  have r0 : ∀ j, j ≠ 23 → (madW w g t np).1 0 0 j = w.1 0 0 j := by
    intro j hj
    simp [madW, zsI, upd, hj]
  have tail : ∀ v : Int32, _ := fun v => made_tail (N := N) (w := madW w g t np) (v := v) hne hcl hx hg ht hnp (by rw [r0 5 (by decide)]; exact e5) (by rw [r0 11 (by decide)]; exact e11) (by rw [r 10 (by decide) (by decide) (by decide) (by decide) (by decide)]; exact ea) (by rw [r 11 (by decide) (by decide) (by decide) (by decide) (by decide)]; exact eb) (by rw [r 12 (by decide) (by decide) (by decide) (by decide) (by decide)]; exact ec) (by rw [r 14 (by decide) (by decide) (by decide) (by decide) (by decide)]; exact ex)
  have q13 : (madW w g t np).1 0 13 = w.1 0 13 := r 13 (by decide) (by decide) (by decide) (by decide) (by decide)
  have q22 : (madW w g t np).1 0 0 22 = nI ru := by rw [r0 22 (by decide)]; exact e22
  unfold fX8_made
  simp only [zlet, e23, nI_1, zst_at hnp (show 200 < 2 ^ 31 by omega), zst_at hg (show 400 < 2 ^ 31 by omega), zst_at ht (show 400 < 2 ^ 31 by omega), zld_at hg (show 400 < 2 ^ 31 by omega), zld_at ht (show 400 < 2 ^ 31 by omega), zld_at hnp (show 200 < 2 ^ 31 by omega)]
  have fold : zsI (zsI (zsI (zsI (zsI (zsI (zsI w 0 0 23 (nI (np + 1))) 0 17 np (nI g)) 0 18 np (nI t)) 0 15 g 1) 0 15 t 1) 0 16 g (nI np)) 0 16 t (nI np) = madW w g t np := rfl
  rw [fold, q13, eg, et, q22]
  have tl : ∀ v : Int32, v = nI (cntd ru mg mt) → ∀ r, r = some (entM (entM (zsI (madW w g t np) 0 19 np v) ne a c (max x (30 * cl)) (-v)) (ne + 1) b c (max x (30 * cl)) v) → r = some (entM (entM (madB w g t np (nI (cntd ru mg mt))) ne a c (max x (30 * cl)) (-(nI (cntd ru mg mt)))) (ne + 1) b c (max x (30 * cl)) (nI (cntd ru mg mt))) := by
    intro v hv r hr
    rw [hr, hv]
    rfl
  have tail2 : ∀ v : Int32, _ := fun v => tail v
  simp only [zst_at hnp (show 200 < 2 ^ 31 by omega), zld_at hg (show 400 < 2 ^ 31 by omega), zld_at ht (show 400 < 2 ^ 31 by omega), zld_at hnp (show 200 < 2 ^ 31 by omega)] at tail2
  unfold cntd at tl ⊢
  rcases (show ru = 0 ∨ ru = 1 ∨ ru = 2 ∨ ru = 3 by omega) with rfl | rfl | rfl | rfl
  · rw [if_pos (show nI 0 = 0 from rfl)]
    exact tl (nI mt) (by simp) _ (tail2 (nI mt))
  · rw [if_neg (show ¬ nI 1 = 0 by decide), if_neg (show ¬ nI 1 = 3 by decide), if_pos (show nI 1 = 1 from rfl)]
    by_cases q : mt ≤ mg
    · rw [if_pos (nI_le q (by omega)), if_neg c10]
      refine tl (nI mt) ?_ _ (tail2 (nI mt))
      rw [if_pos rfl]
      by_cases q2 : mt < mg
      · rw [if_pos q2]
      · rw [if_neg q2]; congr 1; omega
    · rw [if_neg (nI_ge (by omega) (by omega)), if_pos trivial]
      refine tl (nI mg) ?_ _ (tail2 (nI mg))
      rw [if_pos rfl, if_neg (by omega)]
  · rw [if_neg (show ¬ nI 2 = 0 by decide), if_neg (show ¬ nI 2 = 3 by decide), if_neg (show ¬ nI 2 = 1 by decide)]
    by_cases q : mt ≤ mg
    · rw [if_pos (nI_le q (by omega)), if_pos trivial]
      refine tl (nI mg) ?_ _ (tail2 (nI mg))
      rw [if_neg (by omega), if_pos rfl, if_neg (by omega)]
    · rw [if_neg (nI_ge (by omega) (by omega)), if_neg (show ¬ (0 : Int32) = 1 by decide)]
      refine tl (nI mt) ?_ _ (tail2 (nI mt))
      rw [if_neg (by omega), if_pos rfl, if_pos (by omega)]
  · rw [if_neg (show ¬ nI 3 = 0 by decide), if_pos (show nI 3 = 3 from rfl)]
    exact tl (nI mg) (by simp) _ (tail2 (nI mg))
