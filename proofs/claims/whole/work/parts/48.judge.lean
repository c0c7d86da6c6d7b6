theorem zsI_comm (σ : zS) {q c q' c' : Nat} (h : ¬ (q = q' ∧ c = c')) (j : Nat) (v : Int32) (j' : Nat) (v' : Int32) : zsI (zsI σ q c j v) q' c' j' v' = zsI (zsI σ q' c' j' v') q c j v := by
  refine Prod.ext (funext fun a => funext fun b => ?_) rfl
  simp only [zsI]
  by_cases h1 : a = q' ∧ b = c'
  · have h2 : ¬ (a = q ∧ b = c) := fun e => h ⟨by omega, by omega⟩
    have h3 : ¬ (q' = q ∧ c' = c) := fun e => h ⟨by omega, by omega⟩
    simp only [if_pos h1, if_neg h2, if_neg h3]
  · by_cases h2 : a = q ∧ b = c
    · have h3 : ¬ (q = q' ∧ c = c') := h
      simp only [if_neg h1, if_pos h2, if_neg h3]
    · simp only [if_neg h1, if_neg h2]
theorem entX_comm (σ : zS) (c j : Nat) (v : Int32) (ne s x : Nat) (w : Int32) : entX (zsI σ 2 c j v) ne s x w = zsI (entX σ ne s x w) 2 c j v := by
  unfold entX
  rw [zsI_comm σ (q := 2) (q' := 0) (by omega), zsI_comm _ (q := 2) (q' := 0) (by omega), zsI_comm _ (q := 2) (q' := 0) (by omega), zsI_comm _ (q := 2) (q' := 0) (by omega)]
theorem JA_jud {d h kn ru ne cl nt np : Nat} {σ μ : zS} (hA : JA d h kn ru ne cl nt np σ μ) {p n : Nat} (hp : p < np) (hn : n ≤ 1000) : JA d h kn ru ne cl nt np (zsI (zsI σ 2 p 2 (nI n)) 2 p 3 1) (zsI (zsI μ 0 19 p (nI n)) 0 20 p 1) := by
  obtain ⟨h1, h2, h3, h4, h5, h6, h7, h8, h9⟩ := hA
  refine ⟨by simpa [Js, zsI] using h1, by simpa [Je, zsI] using h2, by simpa [zsI] using h3, by simpa [zsI] using h4, by simpa [Jt, zsI] using h5, ?_, h7, by simpa [zsI] using h8, by simpa [zsI] using h9⟩
  refine ⟨fun q hq => ?_, fun q hq => ?_, by simpa [zsI] using h6.2.2⟩
  · obtain ⟨u1, u2, u3, u4⟩ := h6.1 q hq
    by_cases w : q = p
    · subst w
      exact ⟨by simpa [zsI] using u1, by simpa [zsI] using u2, ⟨n, hn, by simp [zsI, upd], by simp [zsI, upd]⟩, ⟨1, by omega, by simp [zsI, upd]; rfl, by simp [zsI, upd]; rfl⟩⟩
    · exact ⟨by simpa [zsI] using u1, by simpa [zsI] using u2, by simpa [zsI, upd, w] using u3, by simpa [zsI, upd, w] using u4⟩
  · have w : q ≠ p := by omega
    have := h6.2.1 q hq
    simpa [zsI, upd, w] using this
/-- the two entries of a move -/
theorem Jb_move {k k' np np' ne a b c : Nat} {eh ek em lo bo br : Nat → Int32} {mb : Nat → Int64} (hB : Jb k np ne eh ek em lo bo br mb) {v w : Int32} (hv : -1000 ≤ v.toInt ∧ v.toInt ≤ 1000) (hw : w.toInt = -v.toInt) (hkk : k ≤ k') (hnp : np ≤ np') (hs : k + np + 1 ≤ k' + np') : Jb k' np' (ne + 1 + 1) (upd (upd eh ne (nI a)) (ne + 1) (nI b)) (upd (upd ek ne (nI c)) (ne + 1) (nI c)) (upd (upd em ne w) (ne + 1) v) lo bo br mb := by
  obtain ⟨g1, g2, g3⟩ := hB
  refine ⟨fun a' b' => ?_, by omega, fun b' hb' => ?_⟩
  · rw [zacc_ent, zacc_ent, hw]
    have := g1 a' b'
    split <;> split <;> omega
  · obtain ⟨m1, m2, m3, m4, m5, m6⟩ := g3 b' hb'
    rw [ksum_ent, ksum_ent, hw]
    split <;> omega
theorem Jb_k {k k' np ne : Nat} {eh ek em lo bo br : Nat → Int32} {mb : Nat → Int64} (hk : k ≤ k') (h : Jb k np ne eh ek em lo bo br mb) : Jb k' np ne eh ek em lo bo br mb := Jb_mono hk (Nat.le_refl _) h
theorem moveX {d h kn ru ne cl nt np N : Nat} {σ μ : zS} (hA : JA d h kn ru ne cl nt np σ μ) {p a b c x : Nat} {t : Nat} (hp : p < np) (ht : t < nt) (er : σ.2.2.1 2 p 1 = some t) (ea : σ.1 1 t 2 = nI a) (eb : σ.1 1 t 3 = nI b) (ec : σ.1 1 t 4 = nI c) (ex : σ.1 1 t 6 = nI x) (hx : x ≤ d) (hne : ne + 1 < 2000) (v : Int32) : fX7_enterMove N (some p) v σ = some (entX (entX σ ne (6 * a + c) (max x (30 * cl)) (-v)) (ne + 1) (6 * b + c) (max x (30 * cl)) v) := by
  obtain ⟨h1, -⟩ := hA
  obtain ⟨b0, b1, b2, b3, b4, b5, b6, b7⟩ := JJ_b h1
  have q1 : (entX σ ne (6 * a + c) (max x (30 * cl)) (-v)).1 1 = σ.1 1 := by funext t; simp [entX, zsI]
  have q2 : (entX σ ne (6 * a + c) (max x (30 * cl)) (-v)).2 = σ.2 := rfl
  have q3 : (entX σ ne (6 * a + c) (max x (30 * cl)) (-v)).1 0 1 4 = nI (ne + 1) := by simp [entX, zsI, upd]
  have q4 : (entX σ ne (6 * a + c) (max x (30 * cl)) (-v)).1 0 1 5 = nI cl := by simpa [entX, zsI, upd] using h1.2.2.2.2.2.1.1
  unfold fX7_enterMove
  simp only [zgPR, zgT, JJ_cnt h1, if_pos hp, er, if_pos ht, ea, ec, ex, enterX (N := N) h1.2.2.2.2.1.1 h1.2.2.2.2.2.1.1 (show ne < 2000 by omega) (show cl ≤ 20 by omega) (a := a) (b := c) (x := x) (show x ≤ 599 by omega) (-v), zbv, q1, q2, eb]
  rw [enterX (N := N) q3 q4 (by omega) (by omega) (by omega) v]
theorem go_judge {k N : Nat} {σ μ : zS} (x y : Int32) (hJ : JJ k σ μ) : ∃ r τ ν, fX7_judge N x y σ = some (r, τ) ∧ fX8_judge N x y μ = some (r, ν) ∧ JJ (k + 1) τ ν := by
  obtain ⟨d, h, kn, ru, ne, cl, nt, np, hA, hB⟩ := JJ_A hJ
  obtain ⟨h1, h2, h3, h4, h5, h6, h7, h8, h9⟩ := id hA
  obtain ⟨b0, b1, b2, b3, b4, b5, b6, b7⟩ := JJ_b h1
  have no : ∀ j, JJ (k + 1) (zrefX σ j) (zrefM μ j) := fun j => JJ_ref hJ
  unfold fX7_judge fX8_judge
  rw [show μ.1 0 0 23 = nI np from h1.2.2.2.2.2.2.2.1.2, fX8_in0 N x μ (show np < 2 ^ 30 by omega)]
  rcases zix x (n := np) (by omega) with ⟨p, hp, rfl, ct⟩ | ct
  · obtain ⟨p1, ⟨g, t, hg, ht, g1, g2, t1, t2, r1, r2, r3⟩, ⟨m, hm, m1, m2⟩, ⟨j, hj, j1, j2⟩⟩ := h6.1 p hp
    obtain ⟨q, hq, q1, q2⟩ := quarX N h1 h5 h6 hp
    rw [pAt_in h1.2.2.2.2.2.2.2.1.1 hp (by omega) p1]
    simp only [zbi, zon, zrP, JJ_cnt h1, if_pos hp, if_pos ct, if_neg c10, q1, q2, rfX3, rfX4, rfX6, rfM3, rfM4, rfM6, roomX h1.2.2.2.2.1.1 b4]
    by_cases c0 : q = 0
    · simp only [if_pos c0]
      exact ⟨_, _, _, rfl, rfl, no 3⟩
    simp only [if_neg c0]
    by_cases c1 : 0 ≤ y
    · simp only [if_pos c1]
      by_cases c2 : (1000 : Int32) < y
      · simp only [if_pos c2]
        exact ⟨_, _, _, rfl, rfl, no 6⟩
      simp only [if_neg c2]
      obtain ⟨n, hn, rfl⟩ := nI_of2 (M := 1000) (n := 1000) rfl (Int32.not_lt.mpr c1) (Int32.not_lt.mp c2)
      by_cases w : ne + 2 ≤ 2000
      · have c3 : (2 : Int32) ≤ nI (2000 - ne) := nI_le (a := 2) (by omega) (by omega)
        have c4 : nI ne ≤ 1998 := nI_le (b := 1998) (by omega) (by omega)
        simp only [if_pos c3, show μ.1 0 0 5 = nI ne from h1.2.2.2.2.1.2, if_pos c4, zgP, JJ_cnt h1, if_pos hp, m1, zld_at (show p < 200 by omega) (show 200 < 2 ^ 31 by omega), zst_at (show p < 200 by omega) (show 200 < 2 ^ 31 by omega), m2]
        have sZ : ∀ (α : Type) (w : zS) (k : zS → Option α), zstZ w 20 200 (nI p) 1 k = k (zsI w 0 20 p 1) := by
          intro α w k
          unfold zstZ
          rw [if_neg (nI_in (show p < 200 by omega) (by omega)), nI_clamp (by omega), if_pos (Or.inr rfl)]
        have hA' := JA_jud hA hp hn
        simp only [sZ]
        by_cases c5 : nI n = nI m
        · have zc : ∀ (w : zS) (q c j : Nat) (v : Int32), (zsI w q c j v).2.2.2 = w.2.2.2 := fun _ _ _ _ _ => rfl
          simp only [if_pos c5, zpP, zpPZ, zc, JJ_cnt h1, if_pos hp, if_pos (show (1 : Int32) = 0 ∨ (1 : Int32) = 1 from Or.inr rfl)]
          exact ⟨_, _, _, rfl, rfl, JJ_of hA' (Jb_k (Nat.le_succ k) (by simpa [zsI] using hB))⟩
        · simp only [if_neg c5]
          obtain ⟨-, -, -, ⟨a, b, c, ha, hb, hab, hc, a1, a2, w1, w2, k1, k2⟩, -, ⟨xd, hxd, x1, x2⟩, -⟩ := h5.1 t ht
          obtain ⟨μ', hμ⟩ : ∃ μ', μ' = zsI (zsI μ 0 19 p (nI n)) 0 20 p 1 := ⟨_, rfl⟩
          have s17 : μ'.1 0 17 p = nI g := by rw [hμ]; simpa [zsI] using g2
          have s18 : μ'.1 0 18 p = nI t := by rw [hμ]; simpa [zsI] using t2
          have s10 : μ'.1 0 10 g = nI a := by rw [hμ]; simpa [zsI] using r1.trans a2
          have s11 : μ'.1 0 11 g = nI b := by rw [hμ]; simpa [zsI] using r2.trans w2
          have s12 : μ'.1 0 12 g = nI c := by rw [hμ]; simpa [zsI] using r3.trans k2
          have s14 : μ'.1 0 14 t = nI xd := by rw [hμ]; simpa [zsI] using x2
          have s5 : μ'.1 0 0 5 = nI ne := by rw [hμ]; simpa [zsI] using h1.2.2.2.2.1.2
          have scl : μ'.1 0 0 11 = nI cl := by rw [hμ]; simpa [zsI] using h1.2.2.2.2.2.1.2
          have hw : ne + 1 < 2000 := by omega
          have hmx : max xd (30 * cl) ≤ d := Nat.max_le.mpr ⟨hxd, b5⟩
          have ec1 := JA_ent (JA_ent hA' ha hc hmx (by omega) (-(nI n - nI m))) hb hc hmx (by omega) (nI n - nI m)
          have eneg : nI m - nI n = -(nI n - nI m) := by rw [Int32.neg_sub]
          refine ⟨nI m, _, _, ?_, ?_, JJ_of ec1 ?_⟩
          · rw [moveX (N := N) hA (x := xd) hp ht t1 a1 w1 k1 x1 hxd hw (nI n - nI m)]
            simp only [zbv, zpP, zpPZ, entX_comm]
            have en : (entX (entX σ ne (6 * a + c) (max xd (30 * cl)) (-(nI n - nI m))) (ne + 1) (6 * b + c) (max xd (30 * cl)) (nI n - nI m)).2.2.2 = (nt, np) := by show σ.2.2.2 = _; exact JJ_cnt h1
            have en2 : (zsI (entX (entX σ ne (6 * a + c) (max xd (30 * cl)) (-(nI n - nI m))) (ne + 1) (6 * b + c) (max xd (30 * cl)) (nI n - nI m)) 2 p 2 (nI n)).2.2.2 = (nt, np) := by show σ.2.2.2 = _; exact JJ_cnt h1
            simp only [en, en2, if_pos hp]
            rw [if_pos (Or.inr trivial)]
          · rw [← hμ]
            have f5 : (entM μ' ne a c (max xd (30 * cl)) (-(nI n - nI m))).1 0 0 5 = nI (ne + 1) := by simp [entM, zsI, upd]
            have fcl : (entM μ' ne a c (max xd (30 * cl)) (-(nI n - nI m))).1 0 0 11 = nI cl := by simpa [entM, zsI, upd] using scl
            have f11 : (entM μ' ne a c (max xd (30 * cl)) (-(nI n - nI m))).1 0 11 = μ'.1 0 11 := by simp [entM, zsI]
            have f12 : (entM μ' ne a c (max xd (30 * cl)) (-(nI n - nI m))).1 0 12 = μ'.1 0 12 := by simp [entM, zsI]
            have f18 : (entM μ' ne a c (max xd (30 * cl)) (-(nI n - nI m))).1 0 18 = μ'.1 0 18 := by simp [entM, zsI]
            have f14 : (entM μ' ne a c (max xd (30 * cl)) (-(nI n - nI m))).1 0 14 = μ'.1 0 14 := by simp [entM, zsI]
            simp only [s17, zld_at (show g < 400 by omega) (show 400 < 2 ^ 31 by omega), zld_at (show t < 400 by omega) (show 400 < 2 ^ 31 by omega), zld_at (show p < 200 by omega) (show 200 < 2 ^ 31 by omega), s10, s12, s18, s14, eneg, enterM (N := N) s5 scl (show ne < 2000 by omega) (show cl ≤ 20 by omega) (a := a) (b := c) (x := xd) (show xd ≤ 599 by omega) (-(nI n - nI m)), zbv, f11, f12, f18, f14, s11]
            rw [enterM (N := N) f5 fcl (by omega) (by omega) (by omega) (nI n - nI m)]
          · have em : (nI m).toInt = m := nI_toInt (by omega)
            have en : (nI n).toInt = n := nI_toInt (by omega)
            have tv : (nI n - nI m).toInt = (n : Int) - m := by rw [sub32 (by rw [en, em]; omega) (by rw [en, em]; omega), en, em]
            have tw : (-(nI n - nI m)).toInt = -(nI n - nI m).toInt := neg32 (by rw [tv]; omega)
            have hB' := Jb_move (k := k) (k' := k + 1) (np' := np) (a := a) (b := b) (c := c) hB (v := nI n - nI m) (by rw [tv]; omega) tw (by omega) (by omega) (by omega)
            simpa [entX, entM, zsI] using hB'
      · have c3 : ¬ (2 : Int32) ≤ nI (2000 - ne) := fun e => by
          have := (nI_leI (a := 2) (b := 2000 - ne) (by omega) (by omega)).mp e
          omega
        have c4 : ¬ nI ne ≤ 1998 := fun e => by
          have := (nI_leI (a := ne) (b := 1998) (by omega) (by omega)).mp e
          omega
        simp only [if_neg c3, show μ.1 0 0 5 = nI ne from h1.2.2.2.2.1.2, if_neg c4]
        exact ⟨_, _, _, rfl, rfl, no 6⟩
    · simp only [if_neg c1]
      exact ⟨_, _, _, rfl, rfl, no 4⟩
  · rw [pAt_out h1.2.2.2.2.2.2.2.1.1 ct]
    simp only [zbi, zon, if_neg ct, rfX1, rfM1]
    exact ⟨_, _, _, rfl, rfl, no 1⟩
