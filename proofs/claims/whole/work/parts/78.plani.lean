theorem carryOne_eq {N h : Nat} {c x : Nat → Nat → Int} {e wn P Q : Nat → Int} {w : zS} (hN : 1000000000 ≤ N) (hI : PIn h c e wn) (hS : SM w h c x) (h23 : RI w 23 10 e) (h24 : RI w 24 10 wn) (hF : Feas h e wn x) (hP : PC h c e 1000000 x P Q) (hroot : ∃ g, g < h ∧ 0 < e g - rs h x g) (hlack : ∃ v, v < h ∧ 0 < wn v - cs h x v) : ∃ w' x' p q E, fX8_carryOne N w = some (Int32.ofInt (q E), w') ∧ Fm [32, 33, 34] w w' ∧ R2 w' 32 x' ∧ Feas h e wn x' ∧ PC h c e 1000000 x' p q ∧ cost h c x' = cost h c x + q E ∧ E < h ∧ ∀ v, v < h → cs h x' v = cs h x v + if v = E then 1 else 0 := by
  obtain ⟨i1, i2, i3, i4, i5⟩ := id hI
  obtain ⟨s1, s2, s3⟩ := id hS
  have lfb : ∀ g, g < h → 0 ≤ e g - rs h x g ∧ e g - rs h x g ≤ 100 := by
    intro g hg
    have := hF.2.1 g hg
    have := rs_nn hF g
    have := i3 g
    omega
  have umb : ∀ v, v < h → 0 ≤ wn v - cs h x v ∧ wn v - cs h x v ≤ 100 := by
    intro v hv
    have := hF.2.2 v hv
    have := cs_nn hF v
    have := i4 v
    omega
  unfold fX8_carryOne
  obtain ⟨y0, w1, e1, f1, n1⟩ := initM (w := w) hN i1 s1 h23 s3 (fun g hg => by have := lfb g hg; exact ⟨by omega, by omega⟩) (fun y9 w10 => lX8_carryOne_52 N (fun y40 w41 => lX8_carryOne_250 N y40 (fun y46 y47 w48 => zld w48 33 20 ((10 : Int32) + y46) fun v49 => lX8_carryOne_321 N y40 y46 v49 (fun y63 w64 => some (v49, w64)) N (((10 : Int32) + y46), w48)) N ((-9 : Int32), (0 : Int32), w41)) N ((1 : Int32), w10))
  rw [e1]
  obtain ⟨p0, ep0⟩ : ∃ p0 : Nat → Int, ∀ g, p0 g = if g < h ∧ 0 < e g - rs h x g then 0 else 1000000 := ⟨_, fun _ => rfl⟩
  obtain ⟨qB, eqB⟩ : ∃ f : Nat → Int, ∀ v, f v = 1000000 := ⟨fun _ => 1000000, fun _ => rfl⟩
  have p0b : ∀ g, 0 ≤ p0 g ∧ p0 g ≤ 1000000 := by
    intro g
    rw [ep0]
    split <;> omega
  have hM : PM h c x P Q p0 := ⟨i1, fun g v hg hv => ⟨(i2 g v).1, (i2 g v).2, hF.1 g v, by have := x_bd hF hg hv; have := i3 g; omega⟩, hP.1, fun g hg => ⟨(hP.2.1 g hg).1, (p0b g).2⟩⟩
  have Pp0 : ∀ g, g < h → P g ≤ p0 g := by
    intro g hg
    obtain ⟨a1, a2, a3⟩ := hP.2.1 g hg
    rw [ep0]
    by_cases z : g < h ∧ 0 < e g - rs h x g
    · rw [if_pos z]
      rcases (show P g ≤ 0 ∨ 0 < P g by omega) with y | y
      · exact y
      · have := a3 y
        omega
    · rw [if_neg z]; exact a2
  have pot0 : isum p0 h + isum qB h ≤ 20000000 := by
    have a1 := isum_bd (f := p0) (n := h) (b := 1000000) (fun i _ => (p0b i).2)
    have a2 := isum_bd (f := qB) (n := h) (b := 1000000) (fun i _ => by rw [eqB]; omega)
    have : (1000000 : Int) * (h : Int) ≤ 1000000 * 10 := Int.mul_le_mul_of_nonneg_left (by omega) (by omega)
    omega
  have SI0 : SI h c x P Q p0 p0 qB (fun _ => none) (fun _ => none) (fun _ => 0) (fun _ => 0) 0 := by
    refine ⟨fun g hg => ⟨Pp0 g hg, Int.le_refl _⟩, fun v hv => ⟨by rw [eqB]; exact hP.2.2 v hv, by rw [eqB]; omega, by rw [eqB]; omega⟩, fun v hv => Or.inl ⟨rfl, eqB v⟩, fun g hg => Or.inl ⟨rfl, rfl⟩, fun _ _ => Nat.le_refl _, fun _ _ => Nat.le_refl _, by omega⟩
  have RM0 : RM w1 h p0 qB (fun _ => none) (fun _ => none) := by
    refine ⟨fun g hg => ⟨?_, (n1 g (by omega)).2⟩, fun v hv => ⟨?_, (n1 (10 + v) (by omega)).2⟩⟩
    · rw [(n1 g (by omega)).1, ep0]
    · rw [(n1 (10 + v) (by omega)).1, eqB, if_neg (fun z => by omega)]
  have S1 : SM w1 h c x := ⟨by rw [f1.2 0 0 (by decide)]; exact s1, fun g v hg hv => by rw [f1.2 0 25 (by decide)]; exact s2 g v hg hv, fun g v hg hv => by rw [f1.2 0 32 (by decide)]; exact s3 g v hg hv⟩
  unfold lX8_carryOne_52
  refine zlp_inv (fun n z => ∃ w2 fl p q bw bg Tg Tw clk, z = (flg fl, w2) ∧ Fm [33, 34] w1 w2 ∧ RM w2 h p q bw bg ∧ SI h c x P Q p0 p q bw bg Tg Tw clk ∧ (fl = false → FX h c x h 0 p q) ∧ (fl = true → (n : Int) + Phi h p q ≤ 20000000)) (fun r => ∃ w' x' p q E, r = some (Int32.ofInt (q E), w') ∧ Fm [32, 33, 34] w w' ∧ R2 w' 32 x' ∧ Feas h e wn x' ∧ PC h c e 1000000 x' p q ∧ cost h c x' = cost h c x + q E ∧ E < h ∧ ∀ v, v < h → cs h x' v = cs h x v + if v = E then 1 else 0) 20000001 ?_ N 0 _ ⟨w1, true, p0, qB, fun _ => none, fun _ => none, fun _ => 0, fun _ => 0, 0, rfl, Fm_refl _ _, RM0, SI0, (fun z => by cases z), fun _ => by unfold Phi; omega⟩ (by omega)
  rintro n z rc ⟨w2, fl, p, q, bw, bg, Tg, Tw, clk, rfl, f2, hR, hSI, hfx, hphi⟩
  simp only [bX8_carryOne_52]
  cases fl with
  | true =>
    left
    rw [if_neg (show ¬ flg true = 0 by decide)]
    have ph := hphi rfl
    have nn : 0 ≤ Phi h p q := by
      unfold Phi
      have a1 := isum_nonneg (f := p) (n := h) (fun i hi => by have := (hSI.1 i hi).1; have := (hP.2.1 i hi).1; omega)
      have a2 := isum_nonneg (f := q) (n := h) (fun i hi => (hSI.2.1 i hi).2.1)
      omega
    refine ⟨by omega, ?_⟩
    obtain ⟨y, w3, fl', e3, p', q', bw', bg', Tg', Tw', clk', f3, hR', hSI', hfx', hp1, hp2⟩ := pass_eq (w0 := w1) (w := w2) (F0 := Phi h p q) hN hM S1 ⟨p, q, bw, bg, Tg, Tw, clk, f2, hR, hSI, fun _ g v hz => by omega, Int.le_refl _, (fun z => by cases z)⟩ (fun y37 y38 w39 => rc (y37, w39))
    rw [e3]
    refine ⟨_, ⟨w3, fl', p', q', bw', bg', Tg', Tw', clk', rfl, f3, hR', hSI', hfx', fun hf => ?_⟩, rfl⟩
    have := hp2 hf
    omega
  | false =>
    right
    rw [if_pos (show flg false = 0 from rfl)]
    have fx := hfx rfl
    obtain ⟨t1, t2, t3, t4, t5, t6, t7⟩ := id hSI
    have fxq : ∀ g v, g < h → v < h → q v ≤ p g + c g v := fun g v hg hv => (fx g v (by omega) hg hv).1
    have fxp : ∀ g v, g < h → v < h → 0 < x g v → p g ≤ q v - c g v := fun g v hg hv => (fx g v (by omega) hg hv).2
    have qs : ∀ v, v < h → q v ≤ 1000 := by
      intro v hv
      obtain ⟨g, hg, hz⟩ := hroot
      have a1 := fxq g v hg hv
      have a2 := (t1 g hg).2
      rw [ep0, if_pos ⟨hg, hz⟩] at a2
      have := (i2 g v).2
      omega
    have hPC : PC h c e 1000000 x p q := by
      refine ⟨fun g v hg hv => ⟨fxq g v hg hv, fun hz => by have := fxp g v hg hv hz; omega⟩, fun g hg => ⟨?_, ?_, fun hz => ?_⟩, fun v hv => (t2 v hv).2.2⟩
      · have := (t1 g hg).1
        have := (hP.2.1 g hg).1
        omega
      · have := (t1 g hg).2
        have := (p0b g).2
        omega
      · have a2 := (t1 g hg).2
        rw [ep0] at a2
        by_cases y : g < h ∧ 0 < e g - rs h x g
        · rw [if_pos y] at a2; omega
        · have := lfb g hg
          omega
    obtain ⟨gw, hgw⟩ : ∃ gw : Nat → Nat, ∀ v, v < h → bw v = some (gw v) := by
      refine ⟨fun v => (bw v).getD 0, fun v hv => ?_⟩
      rcases t3 v hv with ⟨-, y⟩ | ⟨g, -, y, -⟩
      · have := qs v hv; omega
      · simp [y]
    have hC : Chn h c x e p q gw bg Tw Tg clk := by
      refine ⟨fun v hv => ?_, fun g hg hz => ?_⟩
      · rcases t3 v hv with ⟨-, y⟩ | ⟨g, y1, y2, y3⟩
        · have := qs v hv; omega
        · have eg : gw v = g := by have := hgw v hv; rw [y2] at this; cases this; rfl
          rw [eg]
          have a1 := fxq g v y1 hv
          rcases y3 with y3 | y3
          · exact ⟨t6 v hv, y1, y3.1, by omega⟩
          · omega
      · rcases t4 g hg with ⟨y1, y2⟩ | ⟨v, y1, y2, y3, y4⟩
        · left
          rw [ep0] at y2
          by_cases y : g < h ∧ 0 < e g - rs h x g
          · rw [if_pos y] at y2
            exact ⟨y1, y2, y.2⟩
          · rw [if_neg y] at y2
            omega
        · right
          have a1 := fxp g v hg y1 y3
          rcases y4 with y4 | y4
          · exact ⟨v, y2, y1, y3, by omega, y4.2⟩
          · omega
    have f12 : Fm [33, 34] w w2 := Fm_tr f1 f2
    have k1 : w2.1 0 0 1 = nI h := by rw [f12.2 0 0 (by decide)]; exact s1
    have k24 : RI w2 24 10 wn := fun i hi => by rw [f12.2 0 24 (by decide)]; exact h24 i hi
    have k32 : R2 w2 32 x := fun g v hg hv => by rw [f12.2 0 32 (by decide)]; exact s3 g v hg hv
    obtain ⟨u, E, e4, hE, hE2⟩ := endM (w := w2) (wn := wn) (q := q) (x := x) (flg false) hN i1 k1 k24 k32 (fun v hv => by have := umb v hv; exact ⟨by omega, by omega⟩) hlack (fun y46 y47 w48 => zld w48 33 20 ((10 : Int32) + y46) fun v49 => lX8_carryOne_321 N (flg false) y46 v49 (fun y63 w64 => some (v49, w64)) N (((10 : Int32) + y46), w48))
    rw [e4, i1010, zld_at (by omega) (by omega), (hR.2 E hE).1]
    have clkb : clk ≤ 20000000 := by
      have nn : 0 ≤ Phi h p q := by
        unfold Phi
        have a1 := isum_nonneg (f := p) (n := h) (fun i hi => (hPC.2.1 i hi).1)
        have a2 := isum_nonneg (f := q) (n := h) (fun i hi => (t2 i hi).2.1)
        omega
      unfold Phi at nn
      omega
    obtain ⟨y5, w5, x', e5, f5, r5, g1, g2, g3, g4⟩ := walkM (w := w2) (flg false) (nI E) (Int32.ofInt (q E)) hN (by omega) i1 (fun g v _ _ => (i2 g v).1) hF hPC hC qs hgw hR k32 hE (by omega) (fun y63 w64 => some (Int32.ofInt (q E), w64))
    rw [e5]
    exact ⟨w5, x', p, q, E, rfl, Fm_tr (Fm_sub f12 (by decide)) (Fm_sub f5 (by decide)), r5, g1, g2, by rw [g3]; omega, hE, g4⟩
theorem isum_gap {a b : Nat → Int} {h : Nat} (hl : isum a h < isum b h) : ∃ v, v < h ∧ a v < b v := by
  apply Classical.byContradiction
  intro hn
  have := isum_le (f := b) (g := a) (n := h) (fun i hi => by
    rcases (show b i ≤ a i ∨ a i < b i by omega) with z | z
    · exact z
    · exact absurd ⟨i, hi, z⟩ hn)
  omega
theorem planM {N h : Nat} {c : Nat → Nat → Int} {e wn : Nat → Int} {w : zS} (hN : 1000000000 ≤ N) (hI : PIn h c e wn) (e1 : w.1 0 0 1 = nI h) (h23 : RI w 23 10 e) (h24 : RI w 24 10 wn) (h25 : R2 w 25 c) : ∃ w' x p q, fX8_plan N w = some (Int32.ofInt (cost h c x), w') ∧ Fm [32, 33, 34] w w' ∧ Feas h e wn x ∧ (∀ v, v < h → cs h x v = wn v) ∧ PC h c e 1000000 x p q := by
  obtain ⟨i1, i2, i3, i4, i5⟩ := id hI
  have wsum : 0 ≤ isum wn h ∧ isum wn h ≤ 1000 := by
    have a1 := isum_bd (f := wn) (n := h) (b := 100) (fun i _ => (i4 i).2.1)
    have : (100 : Int) * (h : Int) ≤ 100 * 10 := Int.mul_le_mul_of_nonneg_left (by omega) (by omega)
    exact ⟨isum_nonneg (fun i _ => (i4 i).1), by omega⟩
  have esum : 0 ≤ isum e h ∧ isum e h ≤ 1000 := by
    have a1 := isum_bd (f := e) (n := h) (b := 100) (fun i _ => (i3 i).2.1)
    have : (100 : Int) * (h : Int) ≤ 100 * 10 := Int.mul_le_mul_of_nonneg_left (by omega) (by omega)
    exact ⟨isum_nonneg (fun i _ => (i3 i).1), by omega⟩
  unfold fX8_plan
  have l6 : ∀ K : Int32 → Int32 → Int32 → zS → Option (Int32 × zS), lX8_plan_6 N K N ((0 : Int32), (0 : Int32), (0 : Int32), w) = K (Int32.ofInt (isum e h)) (Int32.ofInt (isum wn h)) (nI h) w := by
    intro K
    unfold lX8_plan_6
    refine zlp_for (st := fun i => (Int32.ofInt (isum e i), Int32.ofInt (isum wn i), nI i, w)) (E := h) (fun i hi rc => ?_) (fun rc => ?_) N 0 (by omega) (by omega)
    · simp only [bX8_plan_6, e1, if_neg (nI_ge hi (show h < 2 ^ 31 by omega)), zld_at (show i < 10 by omega) (show 10 < 2 ^ 31 by omega), h23 i (by omega), h24 i (by omega), oI_add, nI_1, isum]
    · simp only [bX8_plan_6, e1, if_pos (nI_le (Nat.le_refl h) (show h < 2 ^ 31 by omega))]
  rw [l6, if_pos ((oI_le ⟨by omega, by omega⟩ ⟨by omega, by omega⟩).mpr i5)]
  have l52 : ∀ (y1 y2 : Int32) (K : Int32 → zS → Option (Int32 × zS)), lX8_plan_52 N y1 y2 K N ((0 : Int32), w) = K (nI 100) (zrow w 32 (fil (w.1 0 32) 0 100)) := by
    intro y1 y2 K
    unfold lX8_plan_52
    have := zlp_for (st := fun i => (nI i, zrow w 32 (fil (w.1 0 32) 0 i))) (E := 100) (b := fun rc s => bX8_plan_52 N y1 y2 K rc s.1 s.2) (r := K (nI 100) (zrow w 32 (fil (w.1 0 32) 0 100))) (fun i hi rc => ?_) (fun rc => ?_) N 0 (by omega) (by omega)
    · have e : zrow w 32 (fil (w.1 0 32) 0 0) = w := zrow_self w 32
      rw [e] at this
      exact this
    · have q : ¬ (100 : Int32) ≤ nI i := nI_ge (b := 100) hi (by omega)
      simp only [bX8_plan_52, if_neg q, zst_at hi (show 100 < 2 ^ 31 by omega), zrow_st, fil_st, nI_1]
    · have q : (100 : Int32) ≤ nI 100 := by decide
      simp only [bX8_plan_52, if_pos q]
  rw [l52]
  obtain ⟨pc0, fe0⟩ := PC_0 (B := 1000000) (by omega) hI
  have c0 : cost h c (fun _ _ => 0) = 0 := by
    unfold cost
    rw [isum_congr (g := fun _ => 0) (fun g _ => by rw [isum_congr (g := fun _ => 0) (fun w _ => Int.zero_mul _), isum_zero]), isum_zero]
  obtain ⟨M, eM⟩ : ∃ M : Nat, isum wn h = (M : Int) := ⟨(isum wn h).toNat, by omega⟩
  rw [eM] at wsum i5 ⊢
  unfold lX8_plan_76
  refine zlp_inv (fun n z => ∃ w1 x p q, z = (Int32.ofInt (cost h c x), nI n, w1) ∧ n ≤ M ∧ Fm [32, 33, 34] w w1 ∧ R2 w1 32 x ∧ Feas h e wn x ∧ PC h c e 1000000 x p q ∧ isum (fun v => cs h x v) h = (n : Int)) (fun r => ∃ w' x p q, r = some (Int32.ofInt (cost h c x), w') ∧ Fm [32, 33, 34] w w' ∧ Feas h e wn x ∧ (∀ v, v < h → cs h x v = wn v) ∧ PC h c e 1000000 x p q) M ?_ N 0 _ ⟨zrow w 32 (fil (w.1 0 32) 0 100), fun _ _ => 0, fun _ => 0, fun _ => 0, by rw [c0]; rfl, by omega, Fm_row (Fm_refl _ _) (by decide) _, ?_, fe0, pc0, ?_⟩ (by omega)
  · rintro n z rc ⟨w1, x, P, Q, rfl, hn, f1, k32, hF, hP, hs⟩
    simp only [bX8_plan_76]
    rw [oI_nat]
    by_cases c1 : n = M
    · right
      rw [if_pos (nI_le (by omega) (by omega))]
      exact ⟨w1, x, P, Q, rfl, f1, hF, full_of_sum (a := fun v => cs h x v) hF.2.2 (by omega), hP⟩
    · left
      refine ⟨by omega, ?_⟩
      rw [if_neg (nI_ge (by omega) (by omega))]
      have hl : ∃ v, v < h ∧ 0 < wn v - cs h x v := by
        obtain ⟨v, h1, h2⟩ := isum_gap (a := fun v => cs h x v) (b := wn) (h := h) (by omega)
        exact ⟨v, h1, by omega⟩
      have hr : ∃ g, g < h ∧ 0 < e g - rs h x g := by
        obtain ⟨v, h1, h2⟩ := isum_gap (a := fun g => rs h x g) (b := e) (h := h) (by rw [rs_cs]; omega)
        exact ⟨v, h1, by omega⟩
      obtain ⟨w2, x', p, q, E, e2, f2, r2, g1, g2, g3, hE, g4⟩ := carryOne_eq (w := w1) hN hI ⟨by rw [f1.2 0 0 (by decide)]; exact e1, fun g v hg hv => by rw [f1.2 0 25 (by decide)]; exact h25 g v hg hv, k32⟩ (fun i hi => by rw [f1.2 0 23 (by decide)]; exact h23 i hi) (fun i hi => by rw [f1.2 0 24 (by decide)]; exact h24 i hi) hF hP hr hl
      rw [e2]
      simp only [zbi]
      refine ⟨(Int32.ofInt (cost h c x'), nI (n + 1), w2), ⟨w2, x', p, q, rfl, by omega, Fm_tr f1 f2, r2, g1, g2, ?_⟩, by rw [g3, oI_add, nI_1]⟩
      rw [isum_congr (fun v hv => g4 v hv), isum_add (fun v => cs h x v), isum_sgl hE]
      omega
  · intro g v hg hv
    rw [zrow_at]
    unfold fil
    rw [if_pos (by omega)]
    rfl
  · have : ∀ v, cs h (fun _ _ => 0) v = 0 := fun v => isum_zero h
    rw [isum_congr (g := fun _ => 0) (fun v _ => this v), isum_zero]
    rfl
theorem enoughX {N : Nat} {e wn : Nat → Int} {w : zS} (hN : 1000000000 ≤ N) (h28 : RI w 28 10 e) (h29 : RI w 29 10 wn) (hs : sm (isum (fun i => e i - wn i) 10)) : fX0_hasEnough N w = some (if isum (fun i => e i - wn i) 10 < 0 then 0 else 1, w) := by
  unfold fX0_hasEnough lX0_hasEnough_4
  refine zlp_for (st := fun i => (Int32.ofInt (isum (fun i => e i - wn i) i), nI i, w)) (E := 10) (fun i hi rc => ?_) (fun rc => ?_) N 0 (by omega) (by omega)
  · have q : ¬ (10 : Int32) ≤ nI i := nI_ge (b := 10) hi (by omega)
    simp only [bX0_hasEnough_4, if_neg q, zld_at hi (show 10 < 2 ^ 31 by omega), h28 i hi, h29 i hi, oI_sub, oI_add, nI_1, isum]
  · have q : (10 : Int32) ≤ nI 10 := by decide
    simp only [bX0_hasEnough_4, if_pos q]
    by_cases c : isum (fun i => e i - wn i) 10 < 0
    · rw [if_pos (show Int32.ofInt (isum (fun i => e i - wn i) 10) < 0 from (oI_lt (b := 0) hs ⟨by omega, by omega⟩).mpr c), if_pos c]
    · rw [if_neg (show ¬ Int32.ofInt (isum (fun i => e i - wn i) 10) < 0 from fun z => c ((oI_lt (b := 0) hs ⟨by omega, by omega⟩).mp z)), if_neg c]
theorem JJ_plan {k : Nat} {σ μ σ' μ' : zS} (hJ : JJ k σ μ) (hX : Fm [5, 31, 32, 33, 34, 35, 36, 37] σ σ') (hM : Fm [32, 33, 34] μ μ') : JJ (k + 1) σ' μ' := by
  obtain ⟨d, h, kn, ru, ne, cl, nt, np, h1, h2, h3, h4, h5, h6, h7, h8, h9, h10⟩ := hJ
  have xs : σ'.2 = σ.2 := hX.1
  have ms : μ'.2 = μ.2 := hM.1
  have p1 : σ'.1 1 = σ.1 1 := funext fun c => hX.2 1 c (by simp)
  have p2 : σ'.1 2 = σ.1 2 := funext fun c => hX.2 2 c (by simp)
  refine ⟨d, h, kn, ru, ne, cl, nt, np, ?_, ?_, ?_, ?_, ?_, ?_, ?_, ?_, ?_, Jb_mono (k := k) (Nat.le_succ k) (Nat.le_refl _) ?_⟩
  · unfold Js at h1 ⊢
    rw [hX.2 0 0 (by decide), hX.2 0 1 (by decide), hX.2 0 2 (by decide), xs, hM.2 0 0 (by decide)]
    exact h1
  · unfold Je at h2 ⊢
    rw [hX.2 0 6 (by decide), hX.2 0 7 (by decide), hX.2 0 14 (by decide), hX.2 0 15 (by decide), hX.2 0 10 (by decide), hX.2 0 11 (by decide), hX.2 0 24 (by decide), hX.2 0 28 (by decide), hX.2 0 29 (by decide), hX.2 0 30 (by decide), hM.2 0 1 (by decide), hM.2 0 2 (by decide), hM.2 0 5 (by decide), hM.2 0 6 (by decide), hM.2 0 21 (by decide), hM.2 0 22 (by decide), hM.2 0 26 (by decide), hM.2 0 23 (by decide), hM.2 0 24 (by decide), hM.2 0 25 (by decide), xs, ms]
    exact h2
  · rw [hM.2 0 1 (by decide), hM.2 0 2 (by decide)]; exact h3
  · rw [hX.2 0 13 (by decide), hM.2 0 3 (by decide), hM.2 0 4 (by decide), hM.2 0 5 (by decide)]; exact h4
  · unfold Jt at h5 ⊢
    rw [xs, p1, hM.2 0 9 (by decide), hM.2 0 10 (by decide), hM.2 0 11 (by decide), hM.2 0 12 (by decide), hM.2 0 13 (by decide), hM.2 0 14 (by decide), hM.2 0 15 (by decide), hM.2 0 16 (by decide)]
    exact h5
  · unfold Jp at h6 ⊢
    rw [xs, p2, hM.2 0 10 (by decide), hM.2 0 11 (by decide), hM.2 0 12 (by decide), hM.2 0 15 (by decide), hM.2 0 17 (by decide), hM.2 0 18 (by decide), hM.2 0 19 (by decide), hM.2 0 20 (by decide)]
    exact h6
  · unfold zvalT zvalP at h7 ⊢
    rw [xs]; exact h7
  · rw [hM.2 0 22 (by decide), hM.2 0 21 (by decide)]; exact h8
  · rw [hM.2 0 23 (by decide), hM.2 0 24 (by decide), hM.2 0 25 (by decide)]; exact h9
  · rw [hM.2 0 3 (by decide), hM.2 0 4 (by decide), hM.2 0 6 (by decide), hM.2 0 21 (by decide), hX.2 0 8 (by decide), hX.2 0 9 (by decide), hM.1]
    exact h10
theorem go_plan {k N : Nat} {σ μ : zS} (hN : 1000000000 ≤ N) (hJ : JJ k σ μ) : ∃ r τ ν, fX7_plan N σ = some (r, τ) ∧ fX8_plan N μ = some (r, ν) ∧ JJ (k + 1) τ ν := by
  obtain ⟨d, h, kn, ru, ne, cl, nt, np, h1, h2, h3, h4, h5, h6, h7, h8, h9, h10⟩ := id hJ
  obtain ⟨b0, b1, b2, b3, b4, b5, b6, b7⟩ := JJ_b h1
  obtain ⟨e, he⟩ : ∃ e : Nat → Int, ∀ i, e i = (μ.1 0 23 i).toInt := ⟨_, fun _ => rfl⟩
  obtain ⟨wn, hwn⟩ : ∃ e : Nat → Int, ∀ i, e i = (μ.1 0 24 i).toInt := ⟨_, fun _ => rfl⟩
  obtain ⟨c, hc⟩ : ∃ c : Nat → Nat → Int, ∀ g v, c g v = if g < 10 ∧ v < 10 then (μ.1 0 25 (10 * g + v)).toInt else 0 := ⟨_, fun _ _ => rfl⟩
  have eb : ∀ i, (0 ≤ e i ∧ e i ≤ 100 ∧ (h ≤ i → e i = 0)) ∧ (0 ≤ wn i ∧ wn i ≤ 100 ∧ (h ≤ i → wn i = 0)) := by
    intro i
    obtain ⟨x, y, g1, g2, g3, g4, g5⟩ := h9.1 i
    rw [he, hwn, g3, g4, nI_toInt (by omega), nI_toInt (by omega)]
    refine ⟨⟨by omega, by omega, fun z => ?_⟩, ⟨by omega, by omega, fun z => ?_⟩⟩
    · have := (g5 z).1; omega
    · have := (g5 z).2; omega
  have cb : ∀ g v, 0 ≤ c g v ∧ c g v ≤ 1000 := by
    intro g v
    rw [hc]
    by_cases q : g < 10 ∧ v < 10
    · rw [if_pos q]
      obtain ⟨x, g1, g2, g3⟩ := h9.2 g v q.1 q.2
      rw [g2, nI_toInt (by omega)]
      omega
    · rw [if_neg q]; omega
  have m23 : RI μ 23 10 e := fun i _ => by rw [he, Int32.ofInt_toInt]
  have m24 : RI μ 24 10 wn := fun i _ => by rw [hwn, Int32.ofInt_toInt]
  have m25 : R2 μ 25 c := fun g v hg hv => by rw [hc, if_pos ⟨hg, hv⟩, Int32.ofInt_toInt]
  have x28 : RI σ 28 10 e := fun i hi => by rw [show σ.1 0 28 = μ.1 0 23 from h2.2.2.2.2.2.2.2.2.1]; exact m23 i hi
  have x29 : RI σ 29 10 wn := fun i hi => by rw [show σ.1 0 29 = μ.1 0 24 from h2.2.2.2.2.2.2.2.2.2.1]; exact m24 i hi
  have x30 : R2 σ 30 c := fun g v hg hv => by rw [show σ.1 0 30 = μ.1 0 25 from h2.2.2.2.2.2.2.2.2.2.2]; exact m25 g v hg hv
  have s10 : isum (fun i => e i - wn i) 10 = isum e h - isum wn h := by
    rw [isum_tail b1 (fun i z1 z2 => by rw [(eb i).1.2.2 z1, (eb i).2.2.2 z1]; rfl), isum_sub]
  have wsum : 0 ≤ isum wn h ∧ isum wn h ≤ 1000 := by
    have a1 := isum_bd (f := wn) (n := h) (b := 100) (fun i _ => (eb i).2.2.1)
    have : (100 : Int) * (h : Int) ≤ 100 * 10 := Int.mul_le_mul_of_nonneg_left (by omega) (by omega)
    exact ⟨isum_nonneg (fun i _ => (eb i).2.1), by omega⟩
  have esum : 0 ≤ isum e h ∧ isum e h ≤ 1000 := by
    have a1 := isum_bd (f := e) (n := h) (b := 100) (fun i _ => (eb i).1.2.1)
    have : (100 : Int) * (h : Int) ≤ 100 * 10 := Int.mul_le_mul_of_nonneg_left (by omega) (by omega)
    exact ⟨isum_nonneg (fun i _ => (eb i).1.1), by omega⟩
  unfold fX7_plan
  rw [enoughX hN x28 x29 (by rw [s10]; exact ⟨by omega, by omega⟩), s10]
  simp only [zbi]
  by_cases cc : isum e h - isum wn h < 0
  · rw [if_pos cc, if_pos rfl]
    simp only [rfX5]
    refine ⟨-5, zrefX σ 5, zrefM μ 5, rfl, ?_, JJ_ref hJ⟩
    unfold fX8_plan
    have l6 : ∀ K : Int32 → Int32 → Int32 → zS → Option (Int32 × zS), lX8_plan_6 N K N ((0 : Int32), (0 : Int32), (0 : Int32), μ) = K (Int32.ofInt (isum e h)) (Int32.ofInt (isum wn h)) (nI h) μ := by
      intro K
      unfold lX8_plan_6
      refine zlp_for (st := fun i => (Int32.ofInt (isum e i), Int32.ofInt (isum wn i), nI i, μ)) (E := h) (fun i hi rc => ?_) (fun rc => ?_) N 0 (by omega) (by omega)
      · simp only [bX8_plan_6, show μ.1 0 0 1 = nI h from h1.2.1.2, if_neg (nI_ge hi (show h < 2 ^ 31 by omega)), zld_at (show i < 10 by omega) (show 10 < 2 ^ 31 by omega), m23 i (by omega), m24 i (by omega), oI_add, nI_1, isum]
      · simp only [bX8_plan_6, show μ.1 0 0 1 = nI h from h1.2.1.2, if_pos (nI_le (Nat.le_refl h) (show h < 2 ^ 31 by omega))]
    rw [l6, if_neg (fun z => by have := (oI_le (a := isum wn h) (b := isum e h) ⟨by omega, by omega⟩ ⟨by omega, by omega⟩).mp z; omega)]
    simp only [zbi, rfM5]
  · rw [if_neg cc, if_neg c10, show σ.1 0 0 1 = nI h from h1.2.1.1]
    have hI : PIn h c e wn := ⟨b1, cb, fun i => (eb i).1, fun i => (eb i).2, by omega⟩
    obtain ⟨σ', x, p, q, a1, a2, a3, a4, a5⟩ := planX hN hI x28 x29 x30
    obtain ⟨μ', y, p', q', c1, c2, c3, c4, c5⟩ := planM hN hI h1.2.1.2 m23 m24 m25
    have l1 := plan_opt a3 a4 a5 c3 c4
    have l2 := plan_opt c3 c4 c5 a3 a4
    have e0 : cost h c x = cost h c y := by omega
    rw [a1, c1, e0]
    exact ⟨_, σ', μ', rfl, rfl, JJ_plan hJ a2 c2⟩
