theorem full_of_sum {h : Nat} {a b : Nat → Int} (h1 : ∀ v, v < h → a v ≤ b v) (h2 : isum b h ≤ isum a h) : ∀ v, v < h → a v = b v := by
  intro v hv
  rcases (show a v = b v ∨ a v < b v by have := h1 v hv; omega) with z | z
  · exact z
  · have := isum_lt hv h1 z
    omega
theorem rs_cs (h : Nat) (x : Nat → Nat → Int) : isum (fun g => rs h x g) h = isum (fun w => cs h x w) h := isum_swap x h h
theorem isum_bd {f : Nat → Int} {n : Nat} {b : Int} (h : ∀ i, i < n → f i ≤ b) : isum f n ≤ b * n := by
  induction n with
  | zero => simp [isum]
  | succ n ih =>
    simp only [isum]
    have h1 := ih (fun i hi => h i (by omega))
    have h2 := h n (by omega)
    have : b * ((n + 1 : Nat) : Int) = b * (n : Int) + b := by rw [Int.natCast_add, Int.mul_add]; simp
    omega
theorem isum_sgl {h E : Nat} (hE : E < h) (A : Int) : isum (fun v => if v = E then A else 0) h = A := by
  rw [isum_one (f := fun _ => 0) (j := E) hE (fun i _ hn => if_neg hn), isum_zero, if_pos rfl]
  omega
theorem x_bd {h : Nat} {e wn : Nat → Int} {x : Nat → Nat → Int} (hF : Feas h e wn x) {g v : Nat} (hg : g < h) (hv : v < h) : x g v ≤ e g := by
  have a := isum_ge (f := fun w => x g w) (n := h) (j := v) hv (fun i _ => hF.1 g i)
  have b := hF.2.1 g hg
  unfold rs at b
  omega
theorem rs_nn {h : Nat} {e wn : Nat → Int} {x : Nat → Nat → Int} (hF : Feas h e wn x) (g : Nat) : 0 ≤ rs h x g := isum_nonneg (fun i _ => hF.1 g i)
theorem cs_nn {h : Nat} {e wn : Nat → Int} {x : Nat → Nat → Int} (hF : Feas h e wn x) (g : Nat) : 0 ≤ cs h x g := isum_nonneg (fun i _ => hF.1 i g)
/-- what both sides are given -/
def PIn (h : Nat) (c : Nat → Nat → Int) (e wn : Nat → Int) : Prop := h ≤ 10 ∧ (∀ g v, 0 ≤ c g v ∧ c g v ≤ 1000) ∧ (∀ i, 0 ≤ e i ∧ e i ≤ 100 ∧ (h ≤ i → e i = 0)) ∧ (∀ i, 0 ≤ wn i ∧ wn i ≤ 100 ∧ (h ≤ i → wn i = 0)) ∧ isum wn h ≤ isum e h
theorem PC_0 {h : Nat} {c : Nat → Nat → Int} {e wn : Nat → Int} {B : Int} (hB : 0 ≤ B) (hI : PIn h c e wn) : PC h c e B (fun _ _ => 0) (fun _ => 0) (fun _ => 0) ∧ Feas h e wn (fun _ _ => 0) := by
  obtain ⟨i1, i2, i3, i4, -⟩ := hI
  refine ⟨⟨fun g w _ _ => ⟨by have := (i2 g w).1; show (0 : Int) ≤ 0 + c g w; omega, fun z => absurd z (by show ¬ (0 : Int) < 0; omega)⟩, fun g _ => ⟨Int.le_refl _, hB, fun z => absurd z (by show ¬ (0 : Int) < 0; omega)⟩, fun w _ => hB⟩, fun g w => Int.le_refl _, fun g _ => ?_, fun w _ => ?_⟩
  · unfold rs; rw [isum_zero]; exact (i3 g).1
  · unfold cs; rw [isum_zero]; exact (i4 w).1
theorem fill31_eq {N : Nat} (w : zS) (hN : 1000000000 ≤ N) : fJ7_fill_53178_c31 N 0 w = some (zrow w 31 (fil (w.1 0 31) 0 100)) := by
  unfold fJ7_fill_53178_c31 lJ7_fill_53178_c31_5
  have := zlp_for (st := fun i => (nI i, zrow w 31 (fil (w.1 0 31) 0 i))) (E := 100) (b := fun rc s => bJ7_fill_53178_c31_5 N 0 100 (fun y2 w3 => some w3) rc s.1 s.2) (r := some (zrow w 31 (fil (w.1 0 31) 0 100))) (fun i hi rc => ?_) (fun rc => ?_) N 0 (by omega) (by omega)
  · have e : zrow w 31 (fil (w.1 0 31) 0 0) = w := zrow_self w 31
    rw [e] at this
    exact this
  · have q : ¬ (100 : Int32) ≤ nI i := nI_ge (b := 100) hi (by omega)
    simp only [bJ7_fill_53178_c31_5, if_neg q, zst_at hi (show 100 < 2 ^ 31 by omega), zrow_st, fil_st, nI_1]
  · have q : (100 : Int32) ≤ nI 100 := by decide
    simp only [bJ7_fill_53178_c31_5, if_pos q]
def lfF (h : Nat) (e : Nat → Int) (x : Nat → Nat → Int) (g : Nat) : Int := if g < h then e g - rs h x g else 0
def umF (h : Nat) (wn : Nat → Int) (x : Nat → Nat → Int) (v : Nat) : Int := if v < h then wn v - cs h x v else 0
theorem planX {N h : Nat} {c : Nat → Nat → Int} {e wn : Nat → Int} {w : zS} (hN : 1000000000 ≤ N) (hI : PIn h c e wn) (h28 : RI w 28 10 e) (h29 : RI w 29 10 wn) (h30 : R2 w 30 c) : ∃ w' x p q, fX0_leastSum N (nI h) w = some (Int32.ofInt (cost h c x), w') ∧ Fm [5, 31, 32, 33, 34, 35, 36, 37] w w' ∧ Feas h e wn x ∧ (∀ v, v < h → cs h x v = wn v) ∧ PC h c e 1000000000 x p q := by
  obtain ⟨i1, i2, i3, i4, i5⟩ := id hI
  unfold fX0_leastSum
  simp only [zlet]
  have eh : (if (10 : Int32) < nI h then (10 : Int32) else nI h) = nI h := if_neg (show ¬ (10 : Int32) < nI h from nI_nlt (a := 10) i1 (by omega))
  rw [eh]
  obtain ⟨wa, ewa⟩ : ∃ wa, wa = zsI w 0 5 10 (nI h) := ⟨_, rfl⟩
  rw [← ewa]
  have fa : Fm [5, 31, 32, 33, 34, 35, 36, 37] w wa := by rw [ewa]; exact Fm_st (Fm_refl _ _) (by decide) _ _
  obtain ⟨wb, ewb⟩ : ∃ wb, wb = zcpy wa 28 32 (0 : Int32) (0 : Int32) (10 : Int32) := ⟨_, rfl⟩
  rw [← ewb]
  have zb : wb = zrow wa 32 (va_cpy (wa.1 0 28) (wa.1 0 32) 0 0 10) := by rw [ewb]; rfl
  have fb : Fm [5, 31, 32, 33, 34, 35, 36, 37] w wb := by rw [zb]; exact Fm_row fa (by decide) _
  obtain ⟨wc, ewc⟩ : ∃ wc, wc = zcpy wb 29 33 (0 : Int32) (0 : Int32) (10 : Int32) := ⟨_, rfl⟩
  rw [← ewc]
  have zc : wc = zrow wb 33 (va_cpy (wb.1 0 29) (wb.1 0 33) 0 0 10) := by rw [ewc]; rfl
  have fc : Fm [5, 31, 32, 33, 34, 35, 36, 37] w wc := by rw [zc]; exact Fm_row fb (by decide) _
  rw [fill31_eq wc hN]
  simp only [zbv]
  obtain ⟨wd, ewd⟩ : ∃ wd, wd = zrow wc 31 (fil (wc.1 0 31) 0 100) := ⟨_, rfl⟩
  rw [← ewd]
  have fd : Fm [5, 31, 32, 33, 34, 35, 36, 37] w wd := by rw [ewd]; exact Fm_row fc (by decide) _
  have d5 : wd.1 0 5 10 = nI h := by
    rw [ewd, zrow_ne _ _ (by omega), zc, zrow_ne _ _ (by omega), zb, zrow_ne _ _ (by omega), ewa, zsI_at, pk_us]
  have d31 : R2 wd 31 (fun _ _ => 0) := by
    intro g v hg hv
    rw [ewd, zrow_at]
    unfold fil
    rw [if_pos (by omega)]
    rfl
  have d32 : RI wd 32 10 (lfF h e (fun _ _ => 0)) := by
    intro i hi
    rw [ewd, zrow_ne _ _ (by omega), zc, zrow_ne _ _ (by omega), zb, zrow_at, pk_cpy_in (by omega) (by omega), ewa, zsI_ne _ _ _ (by decide)]
    rw [show 0 + (i - 0) = i by omega, h28 i hi]
    congr 1
    unfold lfF rs
    rw [isum_zero]
    by_cases q : i < h
    · rw [if_pos q]; omega
    · rw [if_neg q]; exact (i3 i).2.2 (by omega)
  have d33 : RI wd 33 10 (umF h wn (fun _ _ => 0)) := by
    intro i hi
    rw [ewd, zrow_ne _ _ (by omega), zc, zrow_at, pk_cpy_in (by omega) (by omega), zb, zrow_ne _ _ (by omega), ewa, zsI_ne _ _ _ (by decide)]
    rw [show 0 + (i - 0) = i by omega, h29 i hi]
    congr 1
    unfold umF cs
    rw [isum_zero]
    by_cases q : i < h
    · rw [if_pos q]; omega
    · rw [if_neg q]; exact (i4 i).2.2 (by omega)
  obtain ⟨pc0, fe0⟩ := PC_0 (B := 1000000000) (by omega) hI
  have c0 : cost h c (fun _ _ => 0) = 0 := by
    unfold cost
    rw [isum_congr (g := fun _ => 0) (fun g _ => by rw [isum_congr (g := fun _ => 0) (fun w _ => Int.zero_mul _), isum_zero]), isum_zero]
  unfold lX0_leastSum_52
  refine zlp_inv (fun r z => ∃ w1 x p q, z = (Int32.ofInt (cost h c x), nI r, w1) ∧ r ≤ 1000 ∧ Fm [5, 31, 32, 33, 34, 35, 36, 37] w w1 ∧ w1.1 0 5 10 = nI h ∧ R2 w1 31 x ∧ RI w1 32 10 (lfF h e x) ∧ RI w1 33 10 (umF h wn x) ∧ Feas h e wn x ∧ PC h c e 1000000000 x p q ∧ (r : Int) ≤ isum (fun v => cs h x v) h) (fun r => ∃ w' x p q, r = some (Int32.ofInt (cost h c x), w') ∧ Fm [5, 31, 32, 33, 34, 35, 36, 37] w w' ∧ Feas h e wn x ∧ (∀ v, v < h → cs h x v = wn v) ∧ PC h c e 1000000000 x p q) 1000 ?_ N 0 _ ⟨wd, fun _ _ => 0, fun _ => 0, fun _ => 0, by rw [c0]; rfl, by omega, fd, d5, d31, d32, d33, fe0, pc0, by
    have : ∀ v, cs h (fun _ _ => 0) v = 0 := fun v => isum_zero h
    rw [isum_congr (g := fun _ => 0) (fun v _ => this v), isum_zero]
    exact Int.le_refl _⟩ (by omega)
  rintro r z rc ⟨w1, x, P, Q, rfl, hr, f1, k5, k31, k32, k33, hF, hP, hs⟩
  simp only [bX0_leastSum_52]
  have wsum : isum wn h ≤ 1000 := by
    have := isum_bd (f := wn) (n := h) (b := 100) (fun i _ => (i4 i).2.1)
    have : (100 : Int) * (h : Int) ≤ 100 * 10 := Int.mul_le_mul_of_nonneg_left (by omega) (by omega)
    omega
  by_cases c1 : r = 1000
  · right
    subst c1
    rw [if_pos (by decide)]
    exact ⟨w1, x, P, Q, rfl, f1, hF, full_of_sum (a := fun v => cs h x v) hF.2.2 (by omega), hP⟩
  rw [if_neg (show ¬ (1000 : Int32) ≤ nI r from nI_ge (b := 1000) (by omega) (by omega))]
  have S1 : SX w1 h c x := ⟨k5, fun g v hg hv => by rw [f1.2 0 30 (by decide)]; exact h30 g v hg hv, k31, i1, fun g v hg hv => ⟨(i2 g v).1, (i2 g v).2, hF.1 g v, by have := x_bd hF hg hv; have := i3 g; omega⟩⟩
  have lfb : ∀ g, g < h → 0 ≤ e g - rs h x g ∧ e g - rs h x g ≤ 100 := by
    intro g hg
    have := hF.2.1 g hg
    have := rs_nn hF g
    have := i3 g
    omega
  have umb : ∀ v, v < h → 0 ≤ wn v - cs h x v ∧ wn v - cs h x v ≤ 100 := by
    intro v hv
    have := hF.2.2 v hv
    have := cs_nn hF v
    have := i4 v
    omega
  by_cases hroot : ∃ g, g < h ∧ 0 < e g - rs h x g
  · obtain ⟨w2, p0, q0, L, o, fw, e2, f2, hR, L1, L2, m34, m35, m36, m37, hq, hW, hG⟩ := findC_root hN S1 k32 (fun g hg => by have := lfb g hg; exact ⟨by omega, by omega⟩) hroot hP
    obtain ⟨gw, hgw⟩ : ∃ gw : Nat → Nat, ∀ v, v < h → o v = some (gw v) := ⟨fun v => (o v).getD 0, fun v hv => by obtain ⟨g, y, -⟩ := hW v hv; simp [y]⟩
    have hW2 : PW h c x p0 q0 L gw := by
      intro v hv
      obtain ⟨g, y1, y2⟩ := hW v hv
      have : gw v = g := by have := hgw v hv; rw [y1] at this; cases this; rfl
      rw [this]
      exact y2
    obtain ⟨pc2, tw, tg, chn⟩ := Chn_lv hR hP hF.2.1 L2 L1 hq hW2 hG
    have qs : ∀ v, v < h → qk' h c x p0 q0 L v ≤ 1000 := by
      intro v hv
      obtain ⟨l, rfl⟩ : ∃ l, L = l + 1 := ⟨L - 1, by omega⟩
      exact q_small hR hv l
    have bds := lv_bds hR hP L
    have n5 : w2.1 0 5 10 = nI h := by rw [f2.2 0 5 (by decide)]; exact k5
    have n33 : RI w2 33 10 (umF h wn x) := fun i hi => by rw [f2.2 0 33 (by decide)]; exact k33 i hi
    have n32 : RI w2 32 10 (lfF h e x) := fun i hi => by rw [f2.2 0 32 (by decide)]; exact k32 i hi
    rw [e2]
    simp only [zbv]
    have f12 : Fm [5, 31, 32, 33, 34, 35, 36, 37] w w2 := Fm_tr f1 (Fm_sub f2 (by decide))
    rcases cheap_eq (w := w2) (um := umF h wn x) (q := qk' h c x p0 q0 L) hN i1 n5 (fun i hi => n33 i (by omega)) m35 (fun v hv => by unfold umF; rw [if_pos hv]; have := umb v hv; exact ⟨by omega, by omega⟩) (fun v hv => by have := bds.2 v hv; exact ⟨by omega, by omega⟩) with ⟨e3, z⟩ | ⟨E, hE, e3, z1, z2⟩
    · right
      rw [e3]
      simp only [zbi]
      rw [if_neg (by decide)]
      refine ⟨w2, x, P, Q, rfl, f12, hF, fun v hv => ?_, hP⟩
      have := umb v hv
      have q1 := qs v hv
      rcases z v hv with y | y
      · unfold umF at y
        rw [if_pos hv] at y
        omega
      · omega
    · left
      refine ⟨by omega, ?_⟩
      rw [e3]
      simp only [zbi]
      have u1 : umF h wn x E = wn E - cs h x E := by unfold umF; rw [if_pos hE]
      have ub := umb E hE
      rw [if_pos (nI_pos' (by omega)), zld_at (by omega) (by omega), m35 E hE]
      have S2 : SX w2 h c x := SX_fm S1 f2 (by decide) (by decide) (by decide)
      obtain ⟨A, w3, x', g0, e4, f3, A1, y31, y32, y33, hg0, y1, y2, y3, y4, y5⟩ := carry_eq (um := umF h wn x) (lf := lfF h e x) hN S2 hF pc2 chn qs n32 (fun g hg => by unfold lfF; rw [if_pos hg]; have := lfb g hg; exact ⟨rfl, by omega⟩) n33 u1 (fun v hv => by rw [m36 v hv, hgw v hv]; rfl) m37 hE (by omega)
      rw [e4]
      simp only []
      have f13 : Fm [5, 31, 32, 33, 34, 35, 36, 37] w w3 := Fm_tr f12 (Fm_sub f3 (by decide))
      refine ⟨(Int32.ofInt (cost h c x'), nI (r + 1), w3), ⟨w3, x', _, _, rfl, by omega, f13, by rw [f3.2 0 5 (by decide)]; exact n5, y31, fun i hi => ?_, fun i hi => ?_, y1, y2, ?_⟩, ?_⟩
      · rw [y32 i hi]
        congr 1
        unfold lfF
        by_cases q : i < h
        · simp only [if_pos q]
          rw [y5 i q]
          by_cases q2 : i = g0
          · simp only [if_pos q2]; omega
          · simp only [if_neg q2]; omega
        · simp only [if_neg q]
          rw [if_neg (by omega)]
      · rw [y33 i hi]
        congr 1
        unfold umF
        by_cases q : i < h
        · simp only [if_pos q]
          rw [y4 i q]
          by_cases q2 : i = E
          · simp only [if_pos q2]; omega
          · simp only [if_neg q2]; omega
        · simp only [if_neg q]
          rw [if_neg (by omega)]
      · rw [isum_congr (fun v hv => y4 v hv), isum_add (fun v => cs h x v), isum_sgl hE]
        omega
      · rw [y3, nI_1, Int32.ofInt_add, Int32.ofInt_mul, Int32.mul_comm]
  · obtain ⟨w2, e2, f2, m35⟩ := findC_none hN S1 k32 (fun g hg => by have := lfb g hg; exact ⟨by omega, by omega⟩) hroot
    have n5 : w2.1 0 5 10 = nI h := by rw [f2.2 0 5 (by decide)]; exact k5
    have n33 : RI w2 33 10 (umF h wn x) := fun i hi => by rw [f2.2 0 33 (by decide)]; exact k33 i hi
    rw [e2]
    simp only [zbv]
    have f12 : Fm [5, 31, 32, 33, 34, 35, 36, 37] w w2 := Fm_tr f1 (Fm_sub f2 (by decide))
    rcases cheap_eq (w := w2) (um := umF h wn x) (q := fun _ => 1000000000) hN i1 n5 (fun i hi => n33 i (by omega)) m35 (fun v hv => by unfold umF; rw [if_pos hv]; have := umb v hv; exact ⟨by omega, by omega⟩) (fun v hv => ⟨by omega, by omega⟩) with ⟨e3, z⟩ | ⟨E, hE, e3, z1, z2⟩
    · right
      rw [e3]
      simp only [zbi]
      rw [if_neg (by decide)]
      refine ⟨w2, x, P, Q, rfl, f12, hF, full_of_sum (a := fun v => cs h x v) hF.2.2 ?_, hP⟩
      rw [← rs_cs]
      have : isum e h = isum (fun g => rs h x g) h := isum_congr (fun g hg => by
        have a := hF.2.1 g hg
        have b : ¬ 0 < e g - rs h x g := fun z => hroot ⟨g, hg, z⟩
        omega)
      omega
    · omega
