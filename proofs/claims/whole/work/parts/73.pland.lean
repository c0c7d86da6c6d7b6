def PWo (h : Nat) (c x : Nat → Nat → Int) (p0 q0 : Nat → Int) (K : Nat) (o : Nat → Option Nat) : Prop := ∀ w, w < h → ∃ g, o w = some g ∧ ∃ j, j < K ∧ qk' h c x p0 q0 K w = qk' h c x p0 q0 (j + 1) w ∧ qk' h c x p0 q0 (j + 1) w < qk' h c x p0 q0 j w ∧ g < h ∧ qk' h c x p0 q0 (j + 1) w = pk' h c x p0 q0 j g + c g w
/-- the start of a search -/
def IN (w : zS) (lf : Nat → Int) (n : Nat) : Prop := ∀ i, i < n → w.1 0 34 i = Int32.ofInt (if 0 < lf i then 0 else 1000000000) ∧ w.1 0 35 i = Int32.ofInt 1000000000 ∧ w.1 0 36 i = -1 ∧ w.1 0 37 i = -1
theorem findC_init {N : Nat} {lf : Nat → Int} {w : zS} (hN : 1000000000 ≤ N) (h32 : RI w 32 10 lf) (hlf : ∀ i, i < 10 → sm (lf i)) (K : Int32 → zS → Option zS) : ∃ y w', lX0_findChains_2 N K N ((0 : Int32), w) = K y w' ∧ Fm [34, 35, 36, 37] w w' ∧ IN w' lf 10 := by
  unfold lX0_findChains_2
  refine zlp_inv (fun k z => ∃ w1, z = (nI k, w1) ∧ k ≤ 10 ∧ Fm [34, 35, 36, 37] w w1 ∧ IN w1 lf k) (fun r => ∃ y w', r = K y w' ∧ Fm [34, 35, 36, 37] w w' ∧ IN w' lf 10) 10 ?_ N 0 _ ⟨w, rfl, by omega, Fm_refl _ _, fun i hi => by omega⟩ (by omega)
  rintro k z rc ⟨w1, rfl, hk, hF, hI⟩
  simp only [bX0_findChains_2]
  by_cases c1 : k = 10
  · right
    subst c1
    rw [if_pos (by decide)]
    exact ⟨_, w1, rfl, hF, hI⟩
  left
  have hk2 : k < 10 := by omega
  refine ⟨hk2, ?_⟩
  have e32 : w1.1 0 32 k = Int32.ofInt (lf k) := by rw [hF.2 0 32 (by decide)]; exact h32 k hk2
  rw [if_neg (show ¬ (10 : Int32) ≤ nI k from nI_ge (b := 10) hk2 (by omega)), zld_at hk2 (by omega), e32]
  have fin : ∀ v : Int, v = (if 0 < lf k then 0 else 1000000000) → Fm [34, 35, 36, 37] w (zsI (zsI (zsI (zsI w1 0 34 k (Int32.ofInt v)) 0 35 k 1000000000) 0 36 k (-1)) 0 37 k (-1)) ∧ IN (zsI (zsI (zsI (zsI w1 0 34 k (Int32.ofInt v)) 0 35 k 1000000000) 0 36 k (-1)) 0 37 k (-1)) lf (k + 1) := by
    intro v hv
    refine ⟨Fm_st (Fm_st (Fm_st (Fm_st hF (by decide) _ _) (by decide) _ _) (by decide) _ _) (by decide) _ _, fun i hi => ?_⟩
    by_cases e : i = k
    · subst e
      refine ⟨by simp [zsI, upd, hv], by simp [zsI, upd], by simp [zsI, upd], by simp [zsI, upd]⟩
    · obtain ⟨a1, a2, a3, a4⟩ := hI i (by omega)
      refine ⟨by simpa [zsI, upd, e] using a1, by simpa [zsI, upd, e] using a2, by simpa [zsI, upd, e] using a3, by simpa [zsI, upd, e] using a4⟩
  by_cases c2 : lf k ≤ 0
  · rw [if_pos (show Int32.ofInt (lf k) ≤ 0 from (oI_le (b := 0) (hlf k hk2) ⟨by omega, by omega⟩).mpr c2), zst_at hk2 (by omega), zst_at hk2 (by omega), zst_at hk2 (by omega), zst_at hk2 (by omega), nI_1]
    have := fin 1000000000 (by rw [if_neg (by omega)])
    exact ⟨_, ⟨_, rfl, by omega, this.1, this.2⟩, rfl⟩
  · rw [if_neg (show ¬ Int32.ofInt (lf k) ≤ 0 from fun z => c2 ((oI_le (b := 0) (hlf k hk2) ⟨by omega, by omega⟩).mp z)), zst_at hk2 (by omega), zst_at hk2 (by omega), zst_at hk2 (by omega), zst_at hk2 (by omega), nI_1]
    have := fin 0 (by rw [if_pos (by omega)])
    exact ⟨_, ⟨_, rfl, by omega, this.1, this.2⟩, rfl⟩
theorem lv_bds {h : Nat} {c x : Nat → Nat → Int} {e : Nat → Int} {B : Int} {p0 q0 P Q : Nat → Int} (hR : Root h c x e B p0 q0) (hP : PC h c e B x P Q) : ∀ k, (∀ g, g < h → 0 ≤ pk' h c x p0 q0 k g ∧ pk' h c x p0 q0 k g ≤ B) ∧ ∀ w, w < h → 0 ≤ qk' h c x p0 q0 k w ∧ qk' h c x p0 q0 k w ≤ B := by
  have hp : ∀ k g, g < h → 0 ≤ pk' h c x p0 q0 k g ∧ pk' h c x p0 q0 k g ≤ B := by
    intro k g hg
    have a1 := (lv_low hR hP k).1 g hg
    have a2 := (hP.2.1 g hg).1
    have a3 := p_mono (h := h) (c := c) (x := x) (p0 := p0) (q0 := q0) (show 0 ≤ k by omega) g
    have a4 : pk' h c x p0 q0 0 g = _ := hR.1 g hg
    have := hR.2.2.2.1
    rw [a4] at a3
    refine ⟨by omega, ?_⟩
    split at a3 <;> omega
  intro k
  refine ⟨hp k, ?_⟩
  induction k with
  | zero =>
    intro w hw
    have : qk' h c x p0 q0 0 w = B := hR.2.1 w
    have := hR.2.2.2.1
    omega
  | succ k ih =>
    intro w hw
    have a1 := q_dec (h := h) (c := c) (x := x) (p0 := p0) (q0 := q0) k w
    have a2 := ih w hw
    refine ⟨?_, by omega⟩
    rcases q_at (h := h) (c := c) (x := x) (p0 := p0) (q0 := q0) k w with z | ⟨g, hg, z⟩
    · omega
    · have := hp k g hg
      have := hR.2.2.2.2 g w hg hw
      omega
theorem findC_root {N h : Nat} {c x : Nat → Nat → Int} {e P Q : Nat → Int} {w : zS} (hN : 1000000000 ≤ N) (hS : SX w h c x) (h32 : RI w 32 10 (fun g => if g < h then e g - rs h x g else 0)) (hlf : ∀ g, g < h → sm (e g - rs h x g)) (hr : ∃ g, g < h ∧ 0 < e g - rs h x g) (hP : PC h c e 1000000000 x P Q) : ∃ w' p0 q0 L o fw, fX0_findChains N w = some w' ∧ Fm [34, 35, 36, 37] w w' ∧ Root h c x e 1000000000 p0 q0 ∧ 1 ≤ L ∧ L ≤ 10 ∧ RI w' 34 h (pk' h c x p0 q0 L) ∧ RI w' 35 h (qk' h c x p0 q0 L) ∧ RO w' 36 h o ∧ RO w' 37 h fw ∧ (∀ g v, g < h → v < h → qk' h c x p0 q0 L v ≤ pk' h c x p0 q0 L g + c g v) ∧ PWo h c x p0 q0 L o ∧ FG h c x p0 q0 L fw := by
  obtain ⟨s1, s2, s3, s4, s5⟩ := id hS
  unfold fX0_findChains
  obtain ⟨y, w1, e1, f1, i1⟩ := findC_init (w := w) hN h32 (fun i hi => by by_cases q : i < h; rw [if_pos q]; exact hlf i q; rw [if_neg q]; exact ⟨by omega, by omega⟩) (fun y10 w11 => lX0_findChains_59 N (fun y16 w17 => some w17) N ((0 : Int32), w11))
  rw [e1]
  obtain ⟨p0, ep0⟩ : ∃ p0 : Nat → Int, p0 = fun g => if 0 < e g - rs h x g then 0 else 1000000000 := ⟨_, rfl⟩
  obtain ⟨q0, eq0⟩ : ∃ q0 : Nat → Int, q0 = fun _ => 1000000000 := ⟨_, rfl⟩
  have hR : Root h c x e 1000000000 p0 q0 := ⟨fun g _ => by rw [ep0], fun w => by rw [eq0], hr, by omega, fun g v hg hv => ⟨(s5 g v hg hv).1, (s5 g v hg hv).2.1⟩⟩
  have bds := lv_bds hR hP
  unfold lX0_findChains_59
  refine zlp_inv (fun k z => ∃ w2 o fw, z = (nI k, w2) ∧ Fm [34, 35, 36, 37] w w2 ∧ RI w2 34 h (pk' h c x p0 q0 k) ∧ RI w2 35 h (qk' h c x p0 q0 k) ∧ RO w2 36 h o ∧ RO w2 37 h fw ∧ (1 ≤ k → PWo h c x p0 q0 k o) ∧ FG h c x p0 q0 k fw ∧ ∀ j, k = j + 1 → ∃ g, g < h ∧ pk' h c x p0 q0 k g < pk' h c x p0 q0 j g) (fun r => ∃ w' p0 q0 L o fw, r = some w' ∧ Fm [34, 35, 36, 37] w w' ∧ Root h c x e 1000000000 p0 q0 ∧ 1 ≤ L ∧ L ≤ 10 ∧ RI w' 34 h (pk' h c x p0 q0 L) ∧ RI w' 35 h (qk' h c x p0 q0 L) ∧ RO w' 36 h o ∧ RO w' 37 h fw ∧ (∀ g v, g < h → v < h → qk' h c x p0 q0 L v ≤ pk' h c x p0 q0 L g + c g v) ∧ PWo h c x p0 q0 L o ∧ FG h c x p0 q0 L fw) 20 ?_ N 0 _ ⟨w1, fun _ => none, fun _ => none, rfl, f1, fun i hi => ?_, fun i hi => ?_, fun i hi => (i1 i (by omega)).2.2.1, fun i hi => (i1 i (by omega)).2.2.2, fun z => by omega, fun g hg => Or.inl ⟨rfl, rfl⟩, fun j z => by omega⟩ (by omega)
  · rintro k z rc ⟨w2, o, fw, rfl, hF, h34, h35, h36, h37, hW, hG, hI⟩
    have hk : k ≤ 9 := by
      rcases Nat.eq_zero_or_pos k with q | q
      · omega
      · obtain ⟨g, hg, z⟩ := hI (k - 1) (by omega)
        have : pk' h c x p0 q0 (k - 1 + 1) g < pk' h c x p0 q0 (k - 1) g := by rw [show k - 1 + 1 = k by omega]; exact z
        have := lv_bd hR hP s4 hg this
        omega
    simp only [bX0_findChains_59]
    rw [if_neg (show ¬ (20 : Int32) ≤ nI k from nI_ge (b := 20) (by omega) (by omega))]
    have S2 : SX w2 h c x := SX_fm hS hF (by decide) (by decide) (by decide)
    obtain ⟨w3, f3, o3, fl3, e3, F3, k35, k36, kI⟩ := reachW_eq hN S2 h34 h35 h36 (fun g hg => (bds k).1 g hg) (fun v hv => (bds k).2 v hv)
    have ef3 : ∀ v, v < h → f3 v = qk' h c x p0 q0 (k + 1) v := by
      intro v hv
      have := (kI.1 v hv).1
      rw [if_neg (by omega)] at this
      exact this
    have k35' : RI w3 35 h (qk' h c x p0 q0 (k + 1)) := fun v hv => by rw [k35 v hv, ef3 v hv]
    have k34 : RI w3 34 h (pk' h c x p0 q0 k) := fun v hv => by rw [F3.2 0 34 (by decide)]; exact h34 v hv
    have k37 : RO w3 37 h fw := fun v hv => by rw [F3.2 0 37 (by decide)]; exact h37 v hv
    have F3' : Fm [34, 35, 36, 37] w w3 := Fm_tr hF (Fm_sub F3 (by decide))
    have hW' : PWo h c x p0 q0 (k + 1) o3 := by
      intro v hv
      rcases (kI.1 v hv).2 with ⟨z1, z2⟩ | ⟨z1, g, z2, z3, z4⟩
      · rw [ef3 v hv] at z1
        rcases Nat.eq_zero_or_pos k with q | q
        · subst q
          exfalso
          have := q_small hR hv 0
          have z0 : qk' h c x p0 q0 0 v = 1000000000 := hR.2.1 v
          omega
        · obtain ⟨g, y1, j, y2, y3, y4, y5, y6⟩ := hW q v hv
          exact ⟨g, by rw [z2]; exact y1, j, by omega, by rw [z1]; exact y3, y4, y5, y6⟩
      · rw [ef3 v hv] at z1 z4
        exact ⟨g, z2, k, by omega, rfl, z1, z3, z4⟩
    rw [e3]
    simp only [zbi]
    rcases kI.2 with ⟨z1, z2⟩ | ⟨z1, v0, z2, z3⟩
    · -- no want got cheaper
      right
      subst z1
      rw [if_pos (show flg false = 0 from rfl)]
      have hk1 : 1 ≤ k := by
        rcases Nat.eq_zero_or_pos k with q | q
        · subst q
          exfalso
          obtain ⟨g, hg, -⟩ := hr
          have a := z2 g hg
          rw [ef3 g hg] at a
          have := q_small hR hg 0
          have z0 : qk' h c x p0 q0 0 g = 1000000000 := hR.2.1 g
          omega
        · exact q
      have eqq : ∀ v, v < h → qk' h c x p0 q0 (k + 1) v = qk' h c x p0 q0 k v := fun v hv => by rw [← ef3 v hv]; exact z2 v hv
      refine ⟨w3, p0, q0, k, o3, fw, rfl, F3', hR, hk1, by omega, k34, fun v hv => by rw [k35' v hv, eqq v hv], k36, k37, fun g v hg hv => ?_, fun v hv => ?_, hG⟩
      · rw [← eqq v hv]
        exact q_up hg k v
      · rcases (kI.1 v hv).2 with ⟨y1, y2⟩ | ⟨y1, -⟩
        · obtain ⟨g, u1, u2⟩ := hW hk1 v hv
          exact ⟨g, by rw [y2]; exact u1, u2⟩
        · have := z2 v hv
          omega
    · subst z1
      rw [if_neg (show ¬ flg true = 0 by decide)]
      have S3 : SX w3 h c x := SX_fm hS F3' (by decide) (by decide) (by decide)
      obtain ⟨w4, f4, o4, fl4, e4, F4, m34, m37, mI⟩ := reachG_eq hN S3 k34 k35' k37 (fun g hg => (bds k).1 g hg) (fun v hv => (bds (k + 1)).2 v hv)
      have ef4 : ∀ g, g < h → f4 g = pk' h c x p0 q0 (k + 1) g := by
        intro g hg
        have := (mI.1 g hg).1
        rw [if_pos hg] at this
        exact this
      have m34' : RI w4 34 h (pk' h c x p0 q0 (k + 1)) := fun v hv => by rw [m34 v hv, ef4 v hv]
      have m35 : RI w4 35 h (qk' h c x p0 q0 (k + 1)) := fun v hv => by rw [F4.2 0 35 (by decide)]; exact k35' v hv
      have m36 : RO w4 36 h o3 := fun v hv => by rw [F4.2 0 36 (by decide)]; exact k36 v hv
      have F4' : Fm [34, 35, 36, 37] w w4 := Fm_tr F3' (Fm_sub F4 (by decide))
      have hG' : FG h c x p0 q0 (k + 1) o4 := by
        intro g hg
        rcases (mI.1 g hg).2 with ⟨y1, y2⟩ | ⟨y1, v, y2, y3, y4, y5⟩
        · rw [ef4 g hg] at y1
          rcases hG g hg with ⟨u1, u2⟩ | ⟨v, j, u1, u2, u3, u4, u5, u6, u7⟩
          · exact Or.inl ⟨by rw [y2]; exact u1, by rw [y1]; exact u2⟩
          · exact Or.inr ⟨v, j, by rw [y2]; exact u1, u2, u3, by omega, by rw [y1]; exact u5, u6, u7⟩
        · rw [ef4 g hg] at y1 y5
          exact Or.inr ⟨v, k, y2, y3, y4, by omega, rfl, y1, y5⟩
      rw [e4]
      simp only []
      rcases mI.2 with ⟨y1, y2⟩ | ⟨y1, g0, y2, y3⟩
      · right
        subst y1
        rw [if_pos (show flg false = 0 from rfl)]
        refine ⟨w4, p0, q0, k + 1, o3, o4, rfl, F4', hR, by omega, by omega, m34', m35, m36, m37, fun g v hg hv => ?_, hW', hG'⟩
        have a := y2 g hg
        rw [ef4 g hg] at a
        rw [a]
        exact q_up hg k v
      · left
        subst y1
        rw [if_neg (show ¬ flg true = 0 by decide), nI_1]
        refine ⟨by omega, _, ⟨w4, o3, o4, rfl, F4', m34', m35, m36, m37, fun _ => hW', hG', fun j hj => ⟨g0, y2, ?_⟩⟩, rfl⟩
        have : j = k := by omega
        subst this
        rw [← ef4 g0 y2]
        exact y3
  · have a := (i1 i (by omega)).1
    rw [a]
    show Int32.ofInt (if 0 < (if i < h then e i - rs h x i else 0) then 0 else 1000000000) = Int32.ofInt (p0 i)
    rw [ep0, if_pos hi]
  · have a := (i1 i (by omega)).2.1
    rw [a]
    show _ = Int32.ofInt (q0 i)
    rw [eq0]
theorem findC_none {N h : Nat} {c x : Nat → Nat → Int} {e : Nat → Int} {w : zS} (hN : 1000000000 ≤ N) (hS : SX w h c x) (h32 : RI w 32 10 (fun g => if g < h then e g - rs h x g else 0)) (hlf : ∀ g, g < h → sm (e g - rs h x g)) (hr : ¬ ∃ g, g < h ∧ 0 < e g - rs h x g) : ∃ w', fX0_findChains N w = some w' ∧ Fm [34, 35, 36, 37] w w' ∧ RI w' 35 h (fun _ => 1000000000) := by
  obtain ⟨s1, s2, s3, s4, s5⟩ := id hS
  unfold fX0_findChains
  obtain ⟨y, w1, e1, f1, i1⟩ := findC_init (w := w) hN h32 (fun i hi => by by_cases q : i < h; rw [if_pos q]; exact hlf i q; rw [if_neg q]; exact ⟨by omega, by omega⟩) (fun y10 w11 => lX0_findChains_59 N (fun y16 w17 => some w17) N ((0 : Int32), w11))
  rw [e1]
  obtain ⟨n, rfl⟩ : ∃ n, N = n + 1 := ⟨N - 1, by omega⟩
  show ∃ w', bX0_findChains_59 (n + 1) (fun y16 w17 => some w17) _ (0 : Int32) w1 = some w' ∧ _
  simp only [bX0_findChains_59]
  rw [if_neg (by decide)]
  have S1 : SX w1 h c x := SX_fm hS f1 (by decide) (by decide) (by decide)
  obtain ⟨qB, eqB⟩ : ∃ f : Nat → Int, ∀ v, f v = 1000000000 := ⟨fun _ => 1000000000, fun _ => rfl⟩
  have h34 : RI w1 34 h qB := by
    intro i hi
    rw [(i1 i (by omega)).1, eqB]
    simp only [if_pos hi]
    rw [if_neg (fun z => hr ⟨i, hi, z⟩)]
  have h35 : RI w1 35 h qB := fun i hi => by rw [eqB]; exact (i1 i (by omega)).2.1
  obtain ⟨w3, f3, o3, fl3, e3, F3, k35, k36, kI⟩ := reachW_eq (o0 := fun _ => none) hN S1 h34 h35 (fun i hi => (i1 i (by omega)).2.2.1) (fun g hg => ⟨by rw [eqB]; omega, by rw [eqB]; omega⟩) (fun v hv => ⟨by rw [eqB]; omega, by rw [eqB]; omega⟩)
  have no : ∀ v, v < h → f3 v = 1000000000 := by
    intro v hv
    have a1 := (kI.1 v hv).1
    rw [if_neg (by omega)] at a1
    have a2 : (1000000000 : Int) ≤ f3 v := by
      rw [a1]
      refine mnI_ge (by rw [eqB]; omega) (fun i hi => ?_)
      have := s5 i v hi hv
      rw [eqB]
      omega
    have a3 := (kI.1 v hv).2
    rw [eqB] at a3
    rcases a3 with z | z <;> omega
  rw [e3]
  simp only [zbi]
  rcases kI.2 with ⟨z1, z2⟩ | ⟨z1, v0, z2, z3⟩
  · subst z1
    rw [if_pos (show flg false = 0 from rfl)]
    exact ⟨w3, rfl, Fm_tr f1 (Fm_sub F3 (by decide)), fun v hv => by rw [k35 v hv, no v hv]⟩
  · have := no v0 z2
    rw [eqB] at z3
    omega
theorem cheap_eq {N h : Nat} {w : zS} {um q : Nat → Int} (hN : 1000000000 ≤ N) (hh : h ≤ 10) (e5 : w.1 0 5 10 = nI h) (h33 : RI w 33 h um) (h35 : RI w 35 h q) (hu : ∀ v, v < h → sm (um v)) (hq : ∀ v, v < h → sm (q v)) : (fX0_cheapestUnmet N w = some (-1, w) ∧ ∀ v, v < h → um v ≤ 0 ∨ 1000000000 ≤ q v) ∨ ∃ v, v < h ∧ fX0_cheapestUnmet N w = some (nI v, w) ∧ 0 < um v ∧ q v < 1000000000 := by
  unfold fX0_cheapestUnmet lX0_cheapestUnmet_4
  refine zlp_inv (fun k z => ∃ b : Int32, z = (b, nI k, w) ∧ k ≤ h ∧ ((b = -1 ∧ ∀ v, v < k → um v ≤ 0 ∨ 1000000000 ≤ q v) ∨ ∃ v, v < h ∧ b = nI v ∧ 0 < um v ∧ q v < 1000000000)) (fun r => (r = some (-1, w) ∧ ∀ v, v < h → um v ≤ 0 ∨ 1000000000 ≤ q v) ∨ ∃ v, v < h ∧ r = some (nI v, w) ∧ 0 < um v ∧ q v < 1000000000) h ?_ N 0 _ ⟨-1, rfl, by omega, Or.inl ⟨rfl, fun v hv => by omega⟩⟩ (by omega)
  rintro k z rc ⟨b, rfl, hk, hb⟩
  simp only [bX0_cheapestUnmet_4, e5]
  by_cases c1 : k = h
  · right
    rw [if_pos (nI_le (by omega) (by omega))]
    subst c1
    rcases hb with ⟨rfl, z⟩ | ⟨v, z1, rfl, z2, z3⟩
    · exact Or.inl ⟨rfl, z⟩
    · exact Or.inr ⟨v, z1, rfl, z2, z3⟩
  left
  have hk2 : k < h := by omega
  refine ⟨hk2, ?_⟩
  rw [if_neg (nI_ge hk2 (by omega))]
  simp only [zld_at (show k < 10 by omega) (show 10 < 2 ^ 31 by omega), h33 k hk2, h35 k hk2, if_true, if_neg c10, nI_1]
  have skip : (um k ≤ 0 ∨ 1000000000 ≤ q k) → ∃ s', (∃ b_1 : Int32, s' = (b_1, nI (k + 1), w) ∧ k + 1 ≤ h ∧ ((b_1 = -1 ∧ ∀ v, v < k + 1 → um v ≤ 0 ∨ 1000000000 ≤ q v) ∨ ∃ v, v < h ∧ b_1 = nI v ∧ 0 < um v ∧ q v < 1000000000)) ∧ rc (b, nI (k + 1), w) = rc s' := by
    intro hx
    refine ⟨_, ⟨b, rfl, by omega, ?_⟩, rfl⟩
    rcases hb with ⟨z0, z⟩ | z
    · refine Or.inl ⟨z0, fun v hv => ?_⟩
      by_cases e : v = k
      · subst e; exact hx
      · exact z v (by omega)
    · exact Or.inr z
  by_cases c2 : um k ≤ 0
  · rw [if_pos (show Int32.ofInt (um k) ≤ 0 from (oI_le (b := 0) (hu k hk2) ⟨by omega, by omega⟩).mpr c2)]
    exact skip (Or.inl c2)
  rw [if_neg (show ¬ Int32.ofInt (um k) ≤ 0 from fun z => c2 ((oI_le (b := 0) (hu k hk2) ⟨by omega, by omega⟩).mp z))]
  by_cases c3 : 1000000000 ≤ q k
  · rw [if_pos (show (1000000000 : Int32) ≤ Int32.ofInt (q k) from (oI_le (a := 1000000000) ⟨by omega, by omega⟩ (hq k hk2)).mpr c3)]
    exact skip (Or.inr c3)
  rw [if_neg (show ¬ (1000000000 : Int32) ≤ Int32.ofInt (q k) from fun z => c3 ((oI_le (a := 1000000000) ⟨by omega, by omega⟩ (hq k hk2)).mp z))]
  have take : ∃ s', (∃ b_1 : Int32, s' = (b_1, nI (k + 1), w) ∧ k + 1 ≤ h ∧ ((b_1 = -1 ∧ ∀ v, v < k + 1 → um v ≤ 0 ∨ 1000000000 ≤ q v) ∨ ∃ v, v < h ∧ b_1 = nI v ∧ 0 < um v ∧ q v < 1000000000)) ∧ rc (nI k, nI (k + 1), w) = rc s' := ⟨_, ⟨nI k, rfl, by omega, Or.inr ⟨k, hk2, rfl, by omega, by omega⟩⟩, rfl⟩
  rcases hb with ⟨rfl, z⟩ | ⟨v, z1, rfl, z2, z3⟩
  · rw [if_pos (by decide)]
    exact take
  · rw [if_neg (nI_pos (by omega))]
    simp only [zld_at (show v < 10 by omega) (show 10 < 2 ^ 31 by omega), h35 v z1]
    by_cases c4 : Int32.ofInt (q v) ≤ Int32.ofInt (q k)
    · rw [if_pos c4]
      exact ⟨_, ⟨nI v, rfl, by omega, Or.inr ⟨v, z1, rfl, z2, z3⟩⟩, rfl⟩
    · rw [if_neg c4]
      exact take
