/-! PLAN: flows, and why a plan with potentials is the least -/
theorem isum_sub (f g : Nat → Int) (n : Nat) : isum (fun i => f i - g i) n = isum f n - isum g n := by
  induction n with
  | zero => rfl
  | succ n ih => simp only [isum, ih]; omega
theorem isum_add (f g : Nat → Int) (n : Nat) : isum (fun i => f i + g i) n = isum f n + isum g n := by
  induction n with
  | zero => rfl
  | succ n ih => simp only [isum, ih]; omega
theorem isum_mulr (f : Nat → Int) (k : Int) (n : Nat) : isum (fun i => f i * k) n = isum f n * k := by
  induction n with
  | zero => simp [isum]
  | succ n ih => simp only [isum, ih]; rw [Int.add_mul]
theorem isum_zero (n : Nat) : isum (fun _ => 0) n = 0 := isum_0 (fun _ => rfl) n
theorem isum_swap (f : Nat → Nat → Int) (m n : Nat) : isum (fun i => isum (f i) m) n = isum (fun j => isum (fun i => f i j) n) m := by
  induction n with
  | zero => simp only [isum]; rw [isum_zero]
  | succ n ih =>
    simp only [isum]
    rw [ih, ← isum_add]
def rs (h : Nat) (x : Nat → Nat → Int) (g : Nat) : Int := isum (fun w => x g w) h
def cs (h : Nat) (x : Nat → Nat → Int) (w : Nat) : Int := isum (fun g => x g w) h
def cost (h : Nat) (c x : Nat → Nat → Int) : Int := isum (fun g => isum (fun w => x g w * c g w) h) h
/-- potentials that show a plan to be the least of its size -/
def PC (h : Nat) (c : Nat → Nat → Int) (e : Nat → Int) (B : Int) (x : Nat → Nat → Int) (p q : Nat → Int) : Prop := (∀ g w, g < h → w < h → q w ≤ p g + c g w ∧ (0 < x g w → p g + c g w ≤ q w)) ∧ (∀ g, g < h → 0 ≤ p g ∧ p g ≤ B ∧ (0 < p g → rs h x g = e g)) ∧ ∀ w, w < h → q w ≤ B
def Feas (h : Nat) (e wn : Nat → Int) (x : Nat → Nat → Int) : Prop := (∀ g w, 0 ≤ x g w) ∧ (∀ g, g < h → rs h x g ≤ e g) ∧ ∀ w, w < h → cs h x w ≤ wn w
theorem flow_pot (h : Nat) (x : Nat → Nat → Int) (p q : Nat → Int) : isum (fun g => isum (fun w => x g w * (q w - p g)) h) h = isum (fun w => cs h x w * q w) h - isum (fun g => rs h x g * p g) h := by
  have e1 : ∀ g, isum (fun w => x g w * (q w - p g)) h = isum (fun w => x g w * q w) h - rs h x g * p g := by
    intro g
    unfold rs
    rw [← isum_mulr, ← isum_sub]
    exact isum_congr (fun i _ => Int.mul_sub _ _ _)
  rw [isum_congr (fun g _ => e1 g), isum_sub, isum_swap (fun g w => x g w * q w)]
  congr 1
  refine isum_congr (fun w _ => ?_)
  unfold cs
  rw [isum_mulr]
theorem plan_opt {h : Nat} {c : Nat → Nat → Int} {e wn : Nat → Int} {B : Int} {x y : Nat → Nat → Int} {p q : Nat → Int} (hx : Feas h e wn x) (fx : ∀ w, w < h → cs h x w = wn w) (px : PC h c e B x p q) (hy : Feas h e wn y) (fy : ∀ w, w < h → cs h y w = wn w) : cost h c x ≤ cost h c y := by
  have l1 : isum (fun g => isum (fun w => y g w * (q w - p g)) h) h ≤ cost h c y := by
    refine isum_le (fun g hg => isum_le (fun w hw => ?_))
    exact Int.mul_le_mul_of_nonneg_left (by have := (px.1 g w hg hw).1; omega) (hy.1 g w)
  have l2 : isum (fun g => isum (fun w => x g w * (q w - p g)) h) h = cost h c x := by
    refine isum_congr (fun g hg => isum_congr (fun w hw => ?_))
    rcases (show x g w = 0 ∨ 0 < x g w by have := hx.1 g w; omega) with z | z
    · rw [z, Int.zero_mul, Int.zero_mul]
    · have := px.1 g w hg hw
      have e : q w - p g = c g w := by have := this.2 z; omega
      rw [e]
  rw [flow_pot] at l1 l2
  have l3 : isum (fun g => rs h y g * p g) h ≤ isum (fun g => rs h x g * p g) h := by
    refine isum_le (fun g hg => ?_)
    obtain ⟨a1, -, a2⟩ := px.2.1 g hg
    rcases (show p g = 0 ∨ 0 < p g by omega) with z | z
    · rw [z, Int.mul_zero, Int.mul_zero]; exact Int.le_refl _
    · rw [a2 z]
      exact Int.mul_le_mul_of_nonneg_right (hy.2.1 g hg) a1
  have l4 : isum (fun w => cs h y w * q w) h = isum (fun w => cs h x w * q w) h := isum_congr (fun w hw => by rw [fx w hw, fy w hw])
  omega
/-- one number of a plan changes -/
def bump (x : Nat → Nat → Int) (g0 w0 : Nat) (d : Int) : Nat → Nat → Int := fun g w => if g = g0 ∧ w = w0 then x g w + d else x g w
theorem bump_at (x : Nat → Nat → Int) (g w : Nat) (d : Int) : bump x g w d g w = x g w + d := if_pos ⟨rfl, rfl⟩
theorem bump_ne (x : Nat → Nat → Int) {g0 w0 g w : Nat} (d : Int) (h : ¬ (g = g0 ∧ w = w0)) : bump x g0 w0 d g w = x g w := if_neg h
theorem rs_bump {h : Nat} (x : Nat → Nat → Int) {g0 w0 : Nat} (hw : w0 < h) (d : Int) (g : Nat) : rs h (bump x g0 w0 d) g = rs h x g + if g = g0 then d else 0 := by
  unfold rs
  by_cases e : g = g0
  · subst e
    rw [isum_one (f := fun w => x g w) (j := w0) hw (fun i _ hn => bump_ne x d (fun z => hn z.2)), bump_at, if_pos rfl]
    omega
  · rw [if_neg e, isum_congr (g := fun w => x g w) (fun i _ => bump_ne x d (fun z => e z.1))]
    omega
theorem cs_bump {h : Nat} (x : Nat → Nat → Int) {g0 w0 : Nat} (hg : g0 < h) (d : Int) (w : Nat) : cs h (bump x g0 w0 d) w = cs h x w + if w = w0 then d else 0 := by
  unfold cs
  by_cases e : w = w0
  · subst e
    rw [isum_one (f := fun g => x g w) (j := g0) hg (fun i _ hn => bump_ne x d (fun z => hn z.1)), bump_at, if_pos rfl]
    omega
  · rw [if_neg e, isum_congr (g := fun g => x g w) (fun i _ => bump_ne x d (fun z => e z.2))]
    omega
theorem cost_bump {h : Nat} (c x : Nat → Nat → Int) {g0 w0 : Nat} (hg : g0 < h) (hw : w0 < h) (d : Int) : cost h c (bump x g0 w0 d) = cost h c x + d * c g0 w0 := by
  unfold cost
  rw [isum_one (f := fun g => isum (fun w => x g w * c g w) h) (j := g0) hg (fun i _ hn => isum_congr (fun w _ => by rw [bump_ne x d (fun z => hn z.1)]))]
  have e2 : isum (fun w => bump x g0 w0 d g0 w * c g0 w) h = isum (fun w => x g0 w * c g0 w) h - x g0 w0 * c g0 w0 + bump x g0 w0 d g0 w0 * c g0 w0 := isum_one hw (fun i _ hn => by rw [bump_ne x d (fun z => hn z.2)])
  rw [e2, bump_at, Int.add_mul]
  omega
/-- a plan on the way along a chain, at want w -/
def Aug (h : Nat) (c x0 : Nat → Nat → Int) (p q : Nat → Int) (A : Int) (E : Nat) (tg : Nat → Nat) (cur : Nat → Nat → Int) (w ρ : Nat) : Prop := (∀ g, g < h → rs h cur g = rs h x0 g) ∧ (∀ v, v < h → cs h cur v = cs h x0 v + (if v = E then A else 0) - (if v = w then A else 0)) ∧ cost h c cur = cost h c x0 + (A * q E - A * q w) ∧ (∀ g v, 0 ≤ cur g v) ∧ (∀ g v, g < h → v < h → 0 < cur g v → p g + c g v ≤ q v) ∧ ∀ g v, tg g ≤ ρ → x0 g v ≤ cur g v
theorem Aug_0 {h : Nat} {c : Nat → Nat → Int} {e wn : Nat → Int} {B : Int} {x0 : Nat → Nat → Int} {p q : Nat → Int} (hF : Feas h e wn x0) (hP : PC h c e B x0 p q) (A : Int) (E : Nat) (tg : Nat → Nat) (ρ : Nat) : Aug h c x0 p q A E tg x0 E ρ := by
  refine ⟨fun g _ => rfl, fun v _ => by omega, by omega, hF.1, fun g v hg hv h0 => (hP.1 g v hg hv).2 h0, fun g v _ => Int.le_refl _⟩
theorem Aug_step {h : Nat} {c x0 : Nat → Nat → Int} {p q : Nat → Int} {A : Int} {E : Nat} {tg : Nat → Nat} {cur : Nat → Nat → Int} {w ρ g w' ρ' : Nat} (hA : Aug h c x0 p q A E tg cur w ρ) (h0 : 0 ≤ A) (hw : w < h) (hg : g < h) (t1 : q w = p g + c g w) (r1 : tg g ≤ ρ) (hw' : w' < h) (hne : w' ≠ w) (hx : A ≤ x0 g w') (t2 : q w' = p g + c g w') (r2 : ρ' < tg g) (r3 : ρ' ≤ ρ) : Aug h c x0 p q A E tg (bump (bump cur g w A) g w' (-A)) w' ρ' := by
  obtain ⟨k1, k2, k3, k4, k5, k6⟩ := hA
  refine ⟨fun g' hg' => ?_, fun v hv => ?_, ?_, fun g' v => ?_, fun g' v hg' hv hp => ?_, fun g' v ht => ?_⟩
  · rw [rs_bump _ hw', rs_bump _ hw, k1 g' hg']
    split <;> omega
  · rw [cs_bump _ hg, cs_bump _ hg, k2 v hv]
    by_cases e1 : v = w
    · have e2 : ¬ v = w' := fun z => hne (z.symm.trans e1)
      simp only [if_pos e1, if_neg e2]
      omega
    · simp only [if_neg e1]
      split <;> omega
  · rw [cost_bump c _ hg hw', cost_bump c _ hg hw, k3, t1, t2, Int.mul_add, Int.mul_add, Int.neg_mul]
    omega
  · unfold bump
    by_cases e1 : g' = g ∧ v = w'
    · have e2 : ¬ (g' = g ∧ v = w) := fun z => hne (e1.2.symm.trans z.2)
      simp only [if_pos e1, if_neg e2]
      have := k6 g' v (by rw [e1.1]; exact r1)
      rw [e1.1, e1.2] at this ⊢
      omega
    · simp only [if_neg e1]
      have := k4 g' v
      split <;> omega
  · by_cases e1 : g' = g ∧ v = w'
    · rw [e1.1, e1.2, t2]; exact Int.le_refl _
    · by_cases e2 : g' = g ∧ v = w
      · rw [e2.1, e2.2, t1]; exact Int.le_refl _
      · rw [bump_ne _ _ e1, bump_ne _ _ e2] at hp
        exact k5 g' v hg' hv hp
  · have e1 : g' ≠ g := fun z => by rw [z] at ht; omega
    rw [bump_ne _ _ (fun z => e1 z.1), bump_ne _ _ (fun z => e1 z.1)]
    exact k6 g' v (by omega)
theorem Aug_end {h : Nat} {c : Nat → Nat → Int} {e wn : Nat → Int} {B : Int} {x0 : Nat → Nat → Int} {p q : Nat → Int} {A : Int} {E : Nat} {tg : Nat → Nat} {cur : Nat → Nat → Int} {w ρ g : Nat} (hF : Feas h e wn x0) (hP : PC h c e B x0 p q) (hA : Aug h c x0 p q A E tg cur w ρ) (h0 : 0 ≤ A) (hw : w < h) (hg : g < h) (t1 : q w = p g + c g w) (hp : p g = 0) (he : rs h x0 g + A ≤ e g) (hE : E < h) (hwn : cs h x0 E + A ≤ wn E) : Feas h e wn (bump cur g w A) ∧ PC h c e B (bump cur g w A) p q ∧ cost h c (bump cur g w A) = cost h c x0 + A * q E ∧ (∀ v, v < h → cs h (bump cur g w A) v = cs h x0 v + if v = E then A else 0) ∧ ∀ g', g' < h → rs h (bump cur g w A) g' = rs h x0 g' + if g' = g then A else 0 := by
  obtain ⟨k1, k2, k3, k4, k5, k6⟩ := hA
  have r1 : ∀ g', g' < h → rs h (bump cur g w A) g' = rs h x0 g' + if g' = g then A else 0 := fun g' hg' => by rw [rs_bump _ hw, k1 g' hg']
  have r2 : ∀ v, v < h → cs h (bump cur g w A) v = cs h x0 v + if v = E then A else 0 := fun v hv => by
    rw [cs_bump _ hg, k2 v hv]
    split <;> split <;> omega
  refine ⟨⟨fun g' v => ?_, fun g' hg' => ?_, fun v hv => ?_⟩, ⟨fun g' v hg' hv => ⟨(hP.1 g' v hg' hv).1, fun hb => ?_⟩, fun g' hg' => ?_, hP.2.2⟩, ?_, r2, r1⟩
  · unfold bump
    have := k4 g' v
    split <;> omega
  · rw [r1 g' hg']
    have := hF.2.1 g' hg'
    by_cases e1 : g' = g
    · subst e1; rw [if_pos rfl]; exact he
    · rw [if_neg e1]; omega
  · rw [r2 v hv]
    have := hF.2.2 v hv
    by_cases e1 : v = E
    · subst e1; rw [if_pos rfl]; exact hwn
    · rw [if_neg e1]; omega
  · by_cases e2 : g' = g ∧ v = w
    · rw [e2.1, e2.2, t1]; exact Int.le_refl _
    · rw [bump_ne _ _ e2] at hb
      exact k5 g' v hg' hv hb
  · obtain ⟨a1, a2, a3⟩ := hP.2.1 g' hg'
    refine ⟨a1, a2, fun hpos => ?_⟩
    rw [r1 g' hg', a3 hpos, if_neg (fun z => by rw [z, hp] at hpos; omega)]
    omega
  · rw [cost_bump c _ hg hw, k3, t1, hp, Int.mul_add]
    omega
