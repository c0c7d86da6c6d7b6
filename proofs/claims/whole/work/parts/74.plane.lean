/-- the wants along a chain -/
def pth (gw : Nat → Nat) (fw : Nat → Option Nat) (E : Nat) : Nat → Option Nat
  | 0 => some E
  | i + 1 => match pth gw fw E i with
    | none => none
    | some w => fw (gw w)
theorem pth_none {gw : Nat → Nat} {fw : Nat → Option Nat} {E i : Nat} (h : pth gw fw E i = none) : ∀ j, i ≤ j → pth gw fw E j = none := by
  intro j
  induction j with
  | zero => intro hj; have : i = 0 := by omega
            subst this; exact h
  | succ j ih =>
    intro hj
    by_cases e : i = j + 1
    · subst e; exact h
    · have := ih (by omega)
      simp only [pth, this]
theorem pth_some {gw : Nat → Nat} {fw : Nat → Option Nat} {E i w : Nat} (h : pth gw fw E i = some w) : pth gw fw E (i + 1) = fw (gw w) := by
  simp only [pth, h]
section PT
variable {h : Nat} {c x : Nat → Nat → Int} {e p q : Nat → Int} {gw : Nat → Nat} {fw : Nat → Option Nat} {tw tg : Nat → Nat} {T E : Nat}
/-- giver of a want, and what lies behind it -/
theorem Chn_g (hC : Chn h c x e p q gw fw tw tg T) (hc : ∀ g w, g < h → w < h → 0 ≤ c g w) (hq : ∀ w, w < h → q w ≤ 1000) {w : Nat} (hw : w < h) : gw w < h ∧ q w = p (gw w) + c (gw w) w ∧ tg (gw w) ≤ tw w ∧ ((fw (gw w) = none ∧ p (gw w) = 0 ∧ 0 < e (gw w) - rs h x (gw w)) ∨ ∃ w', fw (gw w) = some w' ∧ w' < h ∧ 0 < x (gw w) w' ∧ q w' = p (gw w) + c (gw w) w' ∧ tw w' < tg (gw w)) := by
  obtain ⟨a1, a2, a3, a4⟩ := hC.1 w hw
  have b := hc (gw w) w a2 hw
  have d := hq w hw
  exact ⟨a2, a3, a4, hC.2 (gw w) a2 (by omega)⟩
theorem pth_tw (hC : Chn h c x e p q gw fw tw tg T) (hc : ∀ g w, g < h → w < h → 0 ≤ c g w) (hq : ∀ w, w < h → q w ≤ 1000) (hE : E < h) : ∀ i w, pth gw fw E i = some w → w < h ∧ tw w + i ≤ tw E := by
  intro i
  induction i with
  | zero => intro w hw; cases hw; exact ⟨hE, by omega⟩
  | succ i ih =>
    intro w hw
    simp only [pth] at hw
    split at hw
    · cases hw
    · next v hv =>
      obtain ⟨a1, a2⟩ := ih v hv
      obtain ⟨b1, b2, b3, b4⟩ := Chn_g hC hc hq a1
      rcases b4 with ⟨z, -⟩ | ⟨w', z1, z2, z3, z4, z5⟩
      · rw [z] at hw; cases hw
      · rw [z1] at hw
        cases hw
        exact ⟨z2, by omega⟩
end PT
/-- an amount that can go along -/
def CA (x : Nat → Nat → Int) (lf : Nat → Int) (gw : Nat → Nat) (fw : Nat → Option Nat) (A : Int) (w : Nat) : Prop := match fw (gw w) with
  | some w' => A ≤ x (gw w) w'
  | none => A ≤ lf (gw w)
theorem CA_mono {x : Nat → Nat → Int} {lf : Nat → Int} {gw : Nat → Nat} {fw : Nat → Option Nat} {A A' : Int} {w : Nat} (h : CA x lf gw fw A w) (hl : A' ≤ A) : CA x lf gw fw A' w := by
  unfold CA at h ⊢
  split at h <;> omega
theorem amount_eq {N h E : Nat} {c x : Nat → Nat → Int} {e p q um lf : Nat → Int} {gw : Nat → Nat} {fw : Nat → Option Nat} {tw tg : Nat → Nat} {w : zS} (hN : 1000000000 ≤ N) (hS : SX w h c x) (hC : Chn h c x e p q gw fw tw tg 9) (hq : ∀ v, v < h → q v ≤ 1000) (h32 : RI w 32 10 lf) (hlf : ∀ g, g < h → lf g = e g - rs h x g ∧ lf g ≤ 1000) (h33 : RI w 33 10 um) (h36 : ∀ v, v < h → w.1 0 36 v = nI (gw v)) (h37 : RO w 37 h fw) (hE : E < h) (hu : 0 < um E ∧ um E ≤ 1000) : ∃ A : Int, fX0_amountAlong N (nI E) w = some (Int32.ofInt A, w) ∧ 1 ≤ A ∧ A ≤ um E ∧ ∀ i v, pth gw fw E i = some v → CA x lf gw fw A v := by
  obtain ⟨s1, s2, s3, s4, s5⟩ := hS
  have hc : ∀ g w, g < h → w < h → 0 ≤ c g w := fun g w hg hw => (s5 g w hg hw).1
  have hT := pth_tw (E := E) hC hc hq hE
  have tE := (hC.1 E hE).1
  unfold fX0_amountAlong lX0_amountAlong_12
  rw [zld_at (by omega) (by omega), h33 E (by omega)]
  refine zlp_inv (fun i z => ∃ A : Int, z = (Int32.ofInt A, ov (pth gw fw E i), nI i, w) ∧ i ≤ 10 ∧ 1 ≤ A ∧ A ≤ um E ∧ ∀ j v, j < i → pth gw fw E j = some v → CA x lf gw fw A v) (fun r => ∃ A : Int, r = some (Int32.ofInt A, w) ∧ 1 ≤ A ∧ A ≤ um E ∧ ∀ i v, pth gw fw E i = some v → CA x lf gw fw A v) 10 ?_ N 0 _ ⟨um E, rfl, by omega, by omega, Int.le_refl _, fun j v hj => by omega⟩ (by omega)
  rintro i z rc ⟨A, rfl, hi, a1, a2, a3⟩
  simp only [bX0_amountAlong_12]
  by_cases c1 : i = 10
  · right
    subst c1
    rw [if_pos (by decide)]
    refine ⟨A, rfl, a1, a2, fun j v hj => ?_⟩
    rcases Nat.lt_or_ge j 10 with z | z
    · exact a3 j v z hj
    · have := (hT j v hj).2
      omega
  rw [if_neg (show ¬ (10 : Int32) ≤ nI i from nI_ge (b := 10) (by omega) (by omega))]
  cases hv : pth gw fw E i with
  | none =>
    right
    rw [if_pos (show ov none < 0 by decide)]
    refine ⟨A, rfl, a1, a2, fun j v hj => ?_⟩
    rcases Nat.lt_or_ge j i with z | z
    · exact a3 j v z hj
    · rw [pth_none hv j z] at hj
      cases hj
  | some v =>
    left
    refine ⟨by omega, ?_⟩
    obtain ⟨v1, v2⟩ := hT i v hv
    obtain ⟨b1, b2, b3, b4⟩ := Chn_g hC hc hq v1
    have ln := hlf (gw v) b1
    have nxt := pth_some hv
    show ∃ s', _ ∧ (if nI v < 0 then _ else zld w 36 10 (nI v) _) = _
    rw [if_neg (nI_pos (by omega)), zld_at (by omega) (by omega), h36 v v1, if_pos (nI_pos' (by omega)), zld_at (by omega) (by omega), h37 (gw v) b1]
    have ext : ∀ A' : Int, A' ≤ A → CA x lf gw fw A' v → ∀ j u, j < i + 1 → pth gw fw E j = some u → CA x lf gw fw A' u := by
      intro A' hA' hcv j u hj hu'
      by_cases ej : j = i
      · subst ej
        rw [hv] at hu'
        cases hu'
        exact hcv
      · exact CA_mono (a3 j u (by omega) hu') hA'
    rcases b4 with ⟨z1, z2, z3⟩ | ⟨w', z1, z2, z3, z4, z5⟩
    · rw [z1]
      rw [if_pos (show ov none < 0 by decide), zld_at (by omega) (by omega), h32 (gw v) (by omega), nI_1]
      have hm : (if Int32.ofInt (lf (gw v)) < Int32.ofInt A then Int32.ofInt (lf (gw v)) else Int32.ofInt A) = Int32.ofInt (min (lf (gw v)) A) := by
        by_cases q1 : lf (gw v) < A
        · rw [if_pos ((oI_lt ⟨by omega, by omega⟩ ⟨by omega, by omega⟩).mpr q1), Int.min_eq_left (by omega)]
        · rw [if_neg (fun z => q1 ((oI_lt ⟨by omega, by omega⟩ ⟨by omega, by omega⟩).mp z)), Int.min_eq_right (by omega)]
      rw [hm]
      refine ⟨_, ⟨min (lf (gw v)) A, rfl, by omega, by omega, by omega, ext _ (by omega) ?_⟩, ?_⟩
      · unfold CA
        rw [z1]
        show min (lf (gw v)) A ≤ lf (gw v)
        omega
      · rw [nxt, z1]
    · rw [z1]
      have xb := s5 (gw v) w' b1 z2
      rw [show ov (some w') = nI w' from rfl, if_neg (nI_pos (by omega)), i10, zld_at (by omega) (by omega), s3 (gw v) w' (by omega) (by omega), nI_1]
      have hm : (if Int32.ofInt (x (gw v) w') < Int32.ofInt A then Int32.ofInt (x (gw v) w') else Int32.ofInt A) = Int32.ofInt (min (x (gw v) w') A) := by
        by_cases q1 : x (gw v) w' < A
        · rw [if_pos ((oI_lt ⟨by omega, by omega⟩ ⟨by omega, by omega⟩).mpr q1), Int.min_eq_left (by omega)]
        · rw [if_neg (fun z => q1 ((oI_lt ⟨by omega, by omega⟩ ⟨by omega, by omega⟩).mp z)), Int.min_eq_right (by omega)]
      rw [hm]
      refine ⟨_, ⟨min (x (gw v) w') A, rfl, by omega, by omega, by omega, ext _ (by omega) ?_⟩, ?_⟩
      · unfold CA
        rw [z1]
        show min (x (gw v) w') A ≤ x (gw v) w'
        omega
      · rw [nxt, z1]
        rfl
theorem R2_bump {w : zS} {c : Nat} {f : Nat → Nat → Int} (h : R2 w c f) {g v : Nat} (hg : g < 10) (hv : v < 10) (d : Int) : R2 (zsI w 0 c (10 * g + v) (Int32.ofInt (f g v + d))) c (bump f g v d) := by
  intro g' v' hg' hv'
  rw [zsI_at]
  by_cases e : g' = g ∧ v' = v
  · obtain ⟨rfl, rfl⟩ := e
    rw [pk_us, bump_at]
  · rw [pk_un (show 10 * g' + v' ≠ 10 * g + v by omega), bump_ne f d e]
    exact h g' v' hg' hv'
theorem R2_ne {w : zS} {c c' : Nat} {f : Nat → Nat → Int} (h : R2 w c f) (hc : c ≠ c') (j : Nat) (v : Int32) : R2 (zsI w 0 c' j v) c f := by
  intro g u hg hu
  rw [zsI_ne w j v hc]
  exact h g u hg hu
theorem carry_eq {N h E : Nat} {c x : Nat → Nat → Int} {e wn p q um lf : Nat → Int} {B : Int} {gw : Nat → Nat} {fw : Nat → Option Nat} {tw tg : Nat → Nat} {w : zS} (hN : 1000000000 ≤ N) (hS : SX w h c x) (hF : Feas h e wn x) (hP : PC h c e B x p q) (hC : Chn h c x e p q gw fw tw tg 9) (hq : ∀ v, v < h → q v ≤ 1000) (h32 : RI w 32 10 lf) (hlf : ∀ g, g < h → lf g = e g - rs h x g ∧ lf g ≤ 1000) (h33 : RI w 33 10 um) (hum : um E = wn E - cs h x E) (h36 : ∀ v, v < h → w.1 0 36 v = nI (gw v)) (h37 : RO w 37 h fw) (hE : E < h) (hu : 0 < um E ∧ um E ≤ 1000) : ∃ (A : Int) (w' : zS) (x' : Nat → Nat → Int) (g0 : Nat), fX0_carryAlong N (nI E) w = some (Int32.ofInt A, w') ∧ Fm [31, 32, 33] w w' ∧ 1 ≤ A ∧ R2 w' 31 x' ∧ RI w' 32 10 (fun g => if g = g0 then lf g - A else lf g) ∧ RI w' 33 10 (fun v => if v = E then um v - A else um v) ∧ g0 < h ∧ Feas h e wn x' ∧ PC h c e B x' p q ∧ cost h c x' = cost h c x + A * q E ∧ (∀ v, v < h → cs h x' v = cs h x v + if v = E then A else 0) ∧ ∀ g', g' < h → rs h x' g' = rs h x g' + if g' = g0 then A else 0 := by
  obtain ⟨A, eA, A1, A2, A3⟩ := amount_eq hN hS hC hq h32 hlf h33 h36 h37 hE hu
  obtain ⟨s1, s2, s3, s4, s5⟩ := id hS
  have hc : ∀ g w, g < h → w < h → 0 ≤ c g w := fun g w hg hw => (s5 g w hg hw).1
  have hT := pth_tw (E := E) hC hc hq hE
  have tE := (hC.1 E hE).1
  unfold fX0_carryAlong
  rw [eA]
  simp only [zbi]
  rw [zld_at (by omega) (by omega), h33 E (by omega), zst_at (by omega) (by omega), oI_sub]
  unfold lX0_carryAlong_21
  have i33 := RI_st h33 E (um E - A)
  have i33' : RI (zsI w 0 33 E (Int32.ofInt (um E - A))) 33 10 (fun v => if v = E then um v - A else um v) := by
    intro i hi
    rw [i33 i hi]
    congr 1
    by_cases ei : i = E
    · simp only [if_pos ei, ei]
    · simp only [if_neg ei]
  refine zlp_inv (fun i z => ∃ w1, z = (ov (pth gw fw E i), nI i, w1) ∧ i ≤ 10 ∧ Fm [31, 32, 33] w w1 ∧ RI w1 33 10 (fun v => if v = E then um v - A else um v) ∧ ((∃ v cur, pth gw fw E i = some v ∧ R2 w1 31 cur ∧ RI w1 32 10 lf ∧ Aug h c x p q A E tg cur v (tw v)) ∨ (pth gw fw E i = none ∧ ∃ x' g0, R2 w1 31 x' ∧ RI w1 32 10 (fun g => if g = g0 then lf g - A else lf g) ∧ g0 < h ∧ Feas h e wn x' ∧ PC h c e B x' p q ∧ cost h c x' = cost h c x + A * q E ∧ (∀ v, v < h → cs h x' v = cs h x v + if v = E then A else 0) ∧ ∀ g', g' < h → rs h x' g' = rs h x g' + if g' = g0 then A else 0))) (fun r => ∃ (A_1 : Int) (w' : zS) (x' : Nat → Nat → Int) (g0 : Nat), r = some (Int32.ofInt A_1, w') ∧ Fm [31, 32, 33] w w' ∧ 1 ≤ A_1 ∧ R2 w' 31 x' ∧ RI w' 32 10 (fun g => if g = g0 then lf g - A_1 else lf g) ∧ RI w' 33 10 (fun v => if v = E then um v - A_1 else um v) ∧ g0 < h ∧ Feas h e wn x' ∧ PC h c e B x' p q ∧ cost h c x' = cost h c x + A_1 * q E ∧ (∀ v, v < h → cs h x' v = cs h x v + if v = E then A_1 else 0) ∧ ∀ g', g' < h → rs h x' g' = rs h x g' + if g' = g0 then A_1 else 0) 10 ?_ N 0 _ ⟨zsI w 0 33 E (Int32.ofInt (um E - A)), rfl, by omega, Fm_st (Fm_refl _ _) (by decide) _ _, i33', Or.inl ⟨E, x, rfl, R2_ne s3 (by decide) _ _, RI_ne h32 (by decide) _ _, Aug_0 hF hP A E tg (tw E)⟩⟩ (by omega)
  rintro i z rc ⟨w1, rfl, hi, f1, k33, hcase⟩
  simp only [bX0_carryAlong_21]
  rcases hcase with ⟨v, cur, hv, k31, k32, hA⟩ | ⟨hv, x', g0, k31, k32, k⟩
  · left
    obtain ⟨v1, v2⟩ := hT i v hv
    have hi10 : i < 10 := by omega
    refine ⟨hi10, ?_⟩
    rw [if_neg (show ¬ (10 : Int32) ≤ nI i from nI_ge (b := 10) hi10 (by omega)), hv]
    obtain ⟨b1, b2, b3, b4⟩ := Chn_g hC hc hq v1
    have ln := hlf (gw v) b1
    have nxt := pth_some hv
    have cav := A3 i v hv
    show ∃ s', _ ∧ (if nI v < 0 then _ else zld w1 36 10 (nI v) _) = _
    have e36 : w1.1 0 36 v = nI (gw v) := by rw [f1.2 0 36 (by decide)]; exact h36 v v1
    have e37 : ∀ j u, (zsI w1 0 31 j u).1 0 37 (gw v) = ov (fw (gw v)) := fun j u => by rw [zsI_ne _ _ _ (by decide), f1.2 0 37 (by decide)]; exact h37 (gw v) b1
    rw [if_neg (nI_pos (by omega)), zld_at (by omega) (by omega), e36, if_pos (nI_pos' (by omega)), show ov (some v) = nI v from rfl, i10, zld_at (by omega) (by omega), zst_at (by omega) (by omega), k31 (gw v) v (by omega) (by omega), oI_add, zld_at (by omega) (by omega), e37]
    have k31' := R2_bump k31 (g := gw v) (v := v) (by omega) (by omega) A
    rcases b4 with ⟨z1, z2, z3⟩ | ⟨w', z1, z2, z3, z4, z5⟩
    · rw [z1, if_pos (show ov none < 0 by decide), zld_at (by omega) (by omega), zst_at (by omega) (by omega), zsI_ne _ _ _ (by decide), k32 (gw v) (by omega), oI_sub, nI_1]
      have hle : A ≤ lf (gw v) := by unfold CA at cav; rw [z1] at cav; exact cav
      have fin := Aug_end hF hP hA (by omega) v1 b1 b2 z2 (by omega) hE (by omega)
      refine ⟨_, ⟨zsI (zsI w1 0 31 (10 * gw v + v) (Int32.ofInt (cur (gw v) v + A))) 0 32 (gw v) (Int32.ofInt (lf (gw v) - A)), rfl, by omega, Fm_st (Fm_st f1 (by decide) _ _) (by decide) _ _, RI_ne (RI_ne k33 (by decide) _ _) (by decide) _ _, Or.inr ⟨by rw [nxt]; exact z1, bump cur (gw v) v A, gw v, R2_ne k31' (by decide) _ _, ?_, b1, fin⟩⟩, by rw [nxt, z1]⟩
      have := RI_st (RI_ne (c' := 31) k32 (by decide) (10 * gw v + v) (Int32.ofInt (cur (gw v) v + A))) (gw v) (lf (gw v) - A)
      intro j hj
      rw [this j hj]
      congr 1
      by_cases ej : j = gw v
      · simp only [if_pos ej, ej]
      · simp only [if_neg ej]
    · have hle : A ≤ x (gw v) w' := by unfold CA at cav; rw [z1] at cav; exact cav
      have hne : w' ≠ v := fun z => by rw [z] at z5; omega
      rw [z1, show ov (some w') = nI w' from rfl, if_neg (nI_pos (by omega)), i10, zld_at (by omega) (by omega), zst_at (by omega) (by omega), k31' (gw v) w' (by omega) (by omega), oI_sub, nI_1]
      have k31'' := R2_bump k31' (g := gw v) (v := w') (by omega) (by omega) (-A)
      have stp := Aug_step hA (by omega) v1 b1 b2 b3 z2 hne hle z4 z5 (by omega)
      rw [← Int.sub_eq_add_neg] at k31''
      exact ⟨_, ⟨zsI (zsI w1 0 31 (10 * gw v + v) (Int32.ofInt (cur (gw v) v + A))) 0 31 (10 * gw v + w') (Int32.ofInt (bump cur (gw v) v A (gw v) w' - A)), rfl, by omega, Fm_st (Fm_st f1 (by decide) _ _) (by decide) _ _, RI_ne (RI_ne k33 (by decide) _ _) (by decide) _ _, Or.inl ⟨w', _, by rw [nxt]; exact z1, k31'', RI_ne (RI_ne k32 (by decide) _ _) (by decide) _ _, stp⟩⟩, by rw [nxt, z1]; rfl⟩
  · right
    rw [hv]
    by_cases c1 : i = 10
    · subst c1
      rw [if_pos (by decide)]
      exact ⟨A, w1, x', g0, rfl, f1, A1, k31, k32, k33, k⟩
    · rw [if_neg (show ¬ (10 : Int32) ≤ nI i from nI_ge (b := 10) (by omega) (by omega)), if_pos (show ov none < 0 by decide)]
      exact ⟨A, w1, x', g0, rfl, f1, A1, k31, k32, k33, k⟩
