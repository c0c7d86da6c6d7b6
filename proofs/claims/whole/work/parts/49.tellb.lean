/-- a telling is kept: the class's state -/
def telX (σ : zS) (nt : Nat) (g : Int32) (a b c n d : Nat) : zS := zsI (zsR (zsI (zsI (zsI (zsI (zsI (zsI (zsI (zsI (zsI (zaddT σ) 1 nt 7 0) 1 nt 8 (-9)) 1 nt 0 (nI nt)) 1 nt 1 g) 1 nt 2 (nI a)) 1 nt 3 (nI b)) 1 nt 4 (nI c)) 1 nt 5 (nI n)) 1 nt 6 (nI d)) 0 17 nt (some nt)) 0 2 4 (nI (nt + 1))
def telM (μ : zS) (nt : Nat) (g : Int32) (a b c n d : Nat) : zS := zsI (zsI (zsI (zsI (zsI (zsI (zsI (zsI μ 0 0 13 (nI (nt + 1))) 0 9 nt g) 0 10 nt (nI a)) 0 11 nt (nI b)) 0 12 nt (nI c)) 0 13 nt (nI n)) 0 14 nt (nI d)) 0 16 nt (-9)
theorem telX_i (σ : zS) (nt : Nat) (g : Int32) (a b c n d : Nat) (e : σ.2.2.2.1 = nt) : (∀ q' c', ¬ (q' = 1 ∧ c' = nt) → ¬ (q' = 0 ∧ c' = 2) → (telX σ nt g a b c n d).1 q' c' = σ.1 q' c') ∧ (∀ j, j ≠ 4 → (telX σ nt g a b c n d).1 0 2 j = σ.1 0 2 j) ∧ (telX σ nt g a b c n d).1 0 2 4 = nI (nt + 1) ∧ (telX σ nt g a b c n d).1 1 nt 0 = nI nt ∧ (telX σ nt g a b c n d).1 1 nt 1 = g ∧ (telX σ nt g a b c n d).1 1 nt 2 = nI a ∧ (telX σ nt g a b c n d).1 1 nt 3 = nI b ∧ (telX σ nt g a b c n d).1 1 nt 4 = nI c ∧ (telX σ nt g a b c n d).1 1 nt 5 = nI n ∧ (telX σ nt g a b c n d).1 1 nt 6 = nI d ∧ (telX σ nt g a b c n d).1 1 nt 7 = 0 ∧ (telX σ nt g a b c n d).1 1 nt 8 = -9 := by
  unfold telX
  refine ⟨fun q' c' h1 h2 => ?_, fun j hj => ?_, ?_, ?_, ?_, ?_, ?_, ?_, ?_, ?_, ?_, ?_⟩
  · have h3 : ¬ (q' = 1 ∧ c' = σ.2.2.2.1) := by rw [e]; exact h1
    simp only [zsI, zsR, zaddT, if_neg h1, if_neg h2, if_neg h3]
  all_goals simp [zsI, zsR, zaddT, upd, *]
theorem keepTel {N nt : Nat} {W : zS} (e : W.1 0 2 4 = nI nt) (hn : nt < 400) (hc : W.2.2.2.1 = nt + 1) : fX2_keepTelling N (some nt) W = some (zsI (zsR W 0 17 nt (some nt)) 0 2 4 (nI (nt + 1))) := by
  unfold fX2_keepTelling
  rw [e, if_neg (show ¬ (400 : Int32) ≤ nI nt from nI_ge (b := 400) hn (by omega))]
  unfold zstT
  rw [if_neg (nI_in hn (by omega)), nI_clamp (by omega)]
  have e2 : (zsR W 0 17 nt (some nt)).1 0 2 4 = nI nt := e
  simp only [hc, if_pos (Nat.lt_succ_self nt), zlet, e2, nI_1]
theorem go_tell {k N : Nat} {σ μ : zS} (g0 x y z v : Int32) (hJ : JJ k σ μ) : ∃ r τ ν, fX7_tell N (if g0 = 0 then (0 : Int32) else 1) x y z v σ = some (r, τ) ∧ fX8_tell N (if g0 = 0 then (0 : Int32) else 1) x y z v μ = some (r, ν) ∧ JJ (k + 1) τ ν := by
  obtain ⟨d, h, kn, ru, ne, cl, nt, np, hA, hB⟩ := JJ_A hJ
  obtain ⟨h1, h2, h3, h4, h5, h6, h7, h8, h9⟩ := id hA
  obtain ⟨b0, b1, b2, b3, b4, b5, b6, b7⟩ := JJ_b h1
  obtain ⟨gg, hgg, eg⟩ : ∃ gg : Nat, gg ≤ 1 ∧ (if g0 = 0 then (0 : Int32) else 1) = nI gg := by
    by_cases c : g0 = 0
    · exact ⟨0, by omega, by rw [if_pos c]; rfl⟩
    · exact ⟨1, by omega, by rw [if_neg c]; rfl⟩
  rw [eg]
  have hg01 : nI gg = 0 ∨ nI gg = 1 := by
    rcases (show gg = 0 ∨ gg = 1 by omega) with rfl | rfl
    · exact Or.inl rfl
    · exact Or.inr rfl
  have e1 : ∀ N x y, fX7_areTwoHouses N x y σ = _ := fun N x y => areTwo_eq N x y σ h1.2.1.1
  have e2 : ∀ N x, fX8_isHouse N x μ = some (if 0 ≤ x ∧ x < nI h then 1 else 0, μ) := fun N x => fX8_isHouse_eq N x μ (by omega) h1.2.1.2
  have e3 : ∀ N x, fX7_isKind N x σ = some (if 0 ≤ x ∧ x < nI kn then 1 else 0, σ) := fun N x => by rw [fX7_isKind_eq, h1.2.2.1.1]
  have e4 : ∀ N x, fX8_isKind N x μ = some (if 0 ≤ x ∧ x < nI kn then 1 else 0, μ) := fun N x => fX8_isKind_eq N x μ (by omega) h1.2.2.1.2
  have no : ∀ j, JJ (k + 1) (zrefX σ j) (zrefM μ j) := fun j => JJ_ref hJ
  unfold fX7_tell fX8_tell
  simp only [zbi, e1, e2, e3, e4, rfX1, rfX4, rfX6, rfM1, rfM4, rfM6]
  rcases zix x (n := h) (by omega) with ⟨a, ha, rfl, ca⟩ | ca
  rcases zix y (n := h) (by omega) with ⟨b, hb, rfl, cb⟩ | cb
  · by_cases hab : a = b
    · subst hab
      exact ⟨-1, _, _, by simp, by simp [ca], no 1⟩
    have nab : nI a ≠ nI b := fun e => hab ((nI_eq (by omega) (by omega)).mp e)
    simp only [if_pos ca, if_pos cb, if_neg nab, if_pos (show (0 ≤ nI a ∧ nI a < nI h) ∧ (0 ≤ nI b ∧ nI b < nI h) ∧ nI a ≠ nI b from ⟨ca, cb, nab⟩), if_neg c10]
    rcases zix z (n := kn) (by omega) with ⟨c, hc, rfl, cc⟩ | cc
    · simp only [if_pos cc, if_neg c10]
      by_cases c1 : (1 : Int32) ≤ v
      · simp only [if_pos c1]
        by_cases c2 : (1000 : Int32) < v
        · simp only [if_pos c2]
          exact ⟨_, _, _, rfl, rfl, no 6⟩
        simp only [if_neg c2, show σ.1 0 2 4 = nI nt from h1.2.2.2.2.2.2.1.1, show μ.1 0 0 13 = nI nt from h1.2.2.2.2.2.2.1.2]
        obtain ⟨n, hn1, hn2, rfl⟩ := nI_range (M := 1000) (by omega) c1 (Int32.not_lt.mp c2)
        by_cases q : nt < 400
        · have c3 : nI nt < 400 := nI_lt (b := 400) q (by omega)
          have c4 : ¬ nI nt = 400 := fun e => by have := (nI_eq (a := nt) (b := 400) (by omega) (by omega)).mp e; omega
          simp only [if_pos c3, if_neg c4]
          have ent : σ.2.2.2.1 = nt := by rw [JJ_cnt h1]
          have enp : σ.2.2.2.2 = np := by rw [JJ_cnt h1]
          refine ⟨nI nt, telX σ nt (nI gg) a b c n d, telM μ nt (nI gg) a b c n d, ?_, ?_, JJ_of (d := d) (h := h) (kn := kn) (ru := ru) (ne := ne) (cl := cl) (nt := nt + 1) (np := np) ⟨?_, ?_, ?_, ?_, ?_, ?_, ?_, ?_, ?_⟩ ?_⟩
          · unfold znT
            rw [if_pos h7.1, ent]
            have l1 : nt < nt + 1 := Nat.lt_succ_self nt
            have za : (zaddT σ).1 0 0 0 = nI d := by simpa [zaddT] using h1.1.1
            have zc : ∀ (w : zS) (q c j : Nat) (v : Int32), (zsI w q c j v).2.2.2 = w.2.2.2 := fun _ _ _ _ _ => rfl
            have zat : (zaddT σ).2.2.2 = (nt + 1, np) := by simp [zaddT, ent, enp]
            simp only [fX6_init, za, zrT, zpT, zpTZ, zc, zat, if_pos l1, if_pos hg01, zbv]
            rw [keepTel (by simpa [zsI, zaddT] using h1.2.2.2.2.2.2.1.1) q (by simp only [zc, zat])]
            rfl
          · have ed : ∀ w : zS, zstZ w 9 400 (nI nt) (nI gg) = fun k : zS → Option (Int32 × zS) => k (zsI w 0 9 nt (nI gg)) := fun w => by
              funext k
              unfold zstZ
              rw [if_neg (nI_in q (by omega)), nI_clamp (by omega), if_pos hg01]
            simp only [zlet, ed, zst_at q (show 400 < 2 ^ 31 by omega), nI_1]
            have e0 : (zsI (zsI (zsI (zsI (zsI (zsI μ 0 0 13 (nI (nt + 1))) 0 9 nt (nI gg)) 0 10 nt (nI a)) 0 11 nt (nI b)) 0 12 nt (nI c)) 0 13 nt (nI n)).1 0 0 0 = nI d := by simpa [zsI, upd] using h1.1.2
            rw [e0]
            rfl
          · obtain ⟨t1, t2, t3, t4⟩ := telX_i σ nt (nI gg) a b c n d ent
            have r0 := t1 0 0 (by omega) (by omega)
            have r1 := t1 0 1 (by omega) (by omega)
            obtain ⟨a1, a2, a3, a4, a5, a6, a7, a8, a9, a10⟩ := h1
            refine ⟨⟨by rw [r0]; exact a1.1, by simpa [telM, zsI, upd] using a1.2⟩, ⟨by rw [r0]; exact a2.1, by simpa [telM, zsI, upd] using a2.2⟩, ⟨by rw [r0]; exact a3.1, by simpa [telM, zsI, upd] using a3.2⟩, ⟨by rw [r0]; exact a4.1, by simpa [telM, zsI, upd] using a4.2⟩, ⟨by rw [r1]; exact a5.1, by simpa [telM, zsI, upd] using a5.2⟩, ⟨by rw [r1]; exact a6.1, by simpa [telM, zsI, upd] using a6.2⟩, ⟨t3, by simp [telM, zsI, upd]⟩, ⟨by rw [t2 5 (by omega)]; exact a8.1, by simpa [telM, zsI, upd] using a8.2⟩, ?_, by omega⟩
            simp [telX, zsI, zsR, zaddT, ent, enp]
          · obtain ⟨t1, -⟩ := telX_i σ nt (nI gg) a b c n d ent
            obtain ⟨u1, u2, u3, u4, u5, u6, u7, u8, u9, u10, u11⟩ := h2
            refine ⟨?_, ?_, ?_, ?_, ?_, ?_, by simpa [telX, telM, zsI, zsR, zaddT] using u7, ?_, ?_, ?_, ?_⟩
            all_goals rw [t1 0 _ (by omega) (by omega)]
            · simpa [telM, zsI] using u1
            · simpa [telM, zsI] using u2
            · simpa [telM, zsI] using u3
            · simpa [telM, zsI] using u4
            · simpa [telM, zsI] using u5
            · simpa [telM, zsI] using u6
            · simpa [telM, zsI] using u8
            · simpa [telM, zsI] using u9
            · simpa [telM, zsI] using u10
            · simpa [telM, zsI] using u11
          · simpa [telM, zsI] using h3
          · obtain ⟨t1, -⟩ := telX_i σ nt (nI gg) a b c n d ent
            rw [t1 0 13 (by omega) (by omega)]
            simpa [telM, zsI] using h4
          · obtain ⟨t1, t2, t3, t4, t5, t6, t7, t8, t9, t10, t11, t12⟩ := telX_i σ nt (nI gg) a b c n d ent
            refine ⟨fun t ht => ?_, fun t ht => by simpa [telM, zsI] using h5.2 t (by omega)⟩
            by_cases w : t = nt
            · subst w
              refine ⟨by simp [telX, zsI, zsR, va_up], t4, ⟨gg, hgg, t5, by simp [telM, zsI, upd]⟩, ⟨a, b, c, ha, hb, hab, hc, t6, by simp [telM, zsI, upd], t7, by simp [telM, zsI, upd], t8, by simp [telM, zsI, upd]⟩, ⟨n, hn1, hn2, t9, by simp [telM, zsI, upd]⟩, ⟨d, Nat.le_refl d, t10, by simp [telM, zsI, upd]⟩, ⟨0, by omega, t11, by simpa [telM, zsI, nI_0] using h5.2 t (Nat.le_refl t)⟩, ?_⟩
              rw [t12]
              simp [telM, zsI, upd]
            · obtain ⟨v1, v2, v3, v4, v5, v6, v7, v8⟩ := h5.1 t (by omega)
              rw [t1 1 t (by omega) (by omega)]
              exact ⟨by simpa [telX, zsI, zsR, zaddT, va_up, w] using v1, v2, by simpa [telM, zsI, upd, w] using v3, by simpa [telM, zsI, upd, w] using v4, by simpa [telM, zsI, upd, w] using v5, by simpa [telM, zsI, upd, w] using v6, by simpa [telM, zsI, upd, w] using v7, by simpa [telM, zsI, upd, w] using v8⟩
          · obtain ⟨t1, -⟩ := telX_i σ nt (nI gg) a b c n d ent
            refine ⟨fun p hp => ?_, by simpa [telM, zsI] using h6.2.1, ?_⟩
            · obtain ⟨p1, ⟨g, t, hg, ht, g1, g2, t1', t2', r1, r2, r3⟩, p3, p4⟩ := h6.1 p hp
              have wg : g ≠ nt := by omega
              have wt : t ≠ nt := by omega
              rw [t1 2 p (by omega) (by omega)]
              refine ⟨by simpa [telX, zsI, zsR, zaddT] using p1, ⟨g, t, by omega, by omega, by simpa [telX, zsI, zsR, zaddT] using g1, by simpa [telM, zsI] using g2, by simpa [telX, zsI, zsR, zaddT] using t1', by simpa [telM, zsI] using t2', by simpa [telM, zsI, upd, wg, wt] using r1, by simpa [telM, zsI, upd, wg, wt] using r2, by simpa [telM, zsI, upd, wg, wt] using r3⟩, by simpa [telM, zsI] using p3, by simpa [telM, zsI] using p4⟩
            · have e15 : (telM μ nt (nI gg) a b c n d).1 0 15 = μ.1 0 15 := by simp [telM, zsI]
              rw [e15]
              simp only [isum]
              rw [h6.2.2, h5.2 nt (Nat.le_refl nt), if_neg (by decide)]
              omega
          · have cnt : (telX σ nt (nI gg) a b c n d).2.2.2 = (nt + 1, np) := by simp [telX, zsI, zsR, zaddT, ent, enp]
            refine ⟨fun q' c' i t hq ht => ?_, fun i t ht => ?_⟩
            · rw [cnt]
              by_cases w : q' = 0 ∧ c' = 17 ∧ i = nt
              · have : (telX σ nt (nI gg) a b c n d).2.2.1 q' c' i = some nt := by
                  rw [w.1, w.2.1, w.2.2]
                  simp [telX, zsI, zsR, va_up]
                rw [this] at ht
                cases ht
                exact Nat.lt_succ_self _
              · by_cases w2 : q' = 1 ∧ c' = nt
                · exfalso
                  have : (telX σ nt (nI gg) a b c n d).2.2.1 q' c' i = none := by
                    obtain ⟨rfl, rfl⟩ := w2
                    simp [telX, zsI, zsR, zaddT, ent]
                  rw [this] at ht
                  cases ht
                · have : (telX σ nt (nI gg) a b c n d).2.2.1 q' c' i = σ.2.2.1 q' c' i := by
                    by_cases w3 : q' = 0 ∧ c' = 17
                    · obtain ⟨rfl, rfl⟩ := w3
                      have w4 : i ≠ nt := fun e => w ⟨rfl, rfl, e⟩
                      simp [telX, zsI, zsR, zaddT, va_up, w4]
                    · simp only [telX, zsI, zsR, zaddT, if_neg w3, ent, if_neg w2]
                  rw [this] at ht
                  have := h7.1 q' c' i t hq ht
                  rw [ent] at this
                  show t < nt + 1
                  omega
            · rw [cnt]
              have : (telX σ nt (nI gg) a b c n d).2.2.1 0 18 i = σ.2.2.1 0 18 i := by simp [telX, zsI, zsR, zaddT]
              rw [this] at ht
              have := h7.2 i t ht
              rw [enp] at this
              exact this
          · simpa [telM, zsI] using h8
          · simpa [telM, zsI] using h9
          · obtain ⟨t1, -⟩ := telX_i σ nt (nI gg) a b c n d ent
            rw [t1 0 8 (by omega) (by omega), t1 0 9 (by omega) (by omega)]
            have := Jb_k (Nat.le_succ k) hB
            simpa [telM, zsI] using this
        · have c3 : ¬ nI nt < 400 := nI_nlt (b := 400) (by omega) (by omega)
          have c4 : nI nt = 400 := by
            have : nt = 400 := by omega
            rw [this]; rfl
          simp only [if_neg c3, if_pos c4]
          exact ⟨_, _, _, rfl, rfl, no 6⟩
      · simp only [if_neg c1]
        exact ⟨_, _, _, rfl, rfl, no 4⟩
    · simp only [if_neg cc]
      exact ⟨_, _, _, rfl, rfl, no 1⟩
  · exact ⟨-1, _, _, by simp [cb], by simp [ca, cb], no 1⟩
  · exact ⟨-1, _, _, by simp [ca], by simp [ca], no 1⟩
