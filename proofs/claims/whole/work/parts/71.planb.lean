/-! the class's search, level by level -/
def mnI (f : Nat → Int) (b : Int) : Nat → Int
  | 0 => b
  | n + 1 => min (mnI f b n) (f n)
theorem mnI_b (f : Nat → Int) (b : Int) (n : Nat) : mnI f b n ≤ b := by
  induction n with
  | zero => exact Int.le_refl _
  | succ n ih => simp only [mnI]; omega
theorem mnI_le (f : Nat → Int) (b : Int) {n i : Nat} (h : i < n) : mnI f b n ≤ f i := by
  induction n with
  | zero => omega
  | succ n ih =>
    simp only [mnI]
    by_cases e : i = n
    · subst e; omega
    · have := ih (by omega)
      omega
theorem mnI_at (f : Nat → Int) (b : Int) (n : Nat) : mnI f b n = b ∨ ∃ i, i < n ∧ mnI f b n = f i := by
  induction n with
  | zero => left; rfl
  | succ n ih =>
    simp only [mnI]
    rcases Int.le_total (mnI f b n) (f n) with q | q
    · rw [Int.min_eq_left q]
      rcases ih with z | ⟨i, z1, z2⟩
      · left; exact z
      · right; exact ⟨i, by omega, z2⟩
    · rw [Int.min_eq_right q]
      right; exact ⟨n, by omega, rfl⟩
theorem mnI_ge {f : Nat → Int} {b m : Int} {n : Nat} (hb : m ≤ b) (h : ∀ i, i < n → m ≤ f i) : m ≤ mnI f b n := by
  rcases mnI_at f b n with z | ⟨i, z1, z2⟩
  · rw [z]; exact hb
  · rw [z2]; exact h i z1
def QS (h : Nat) (c : Nat → Nat → Int) (p q : Nat → Int) : Nat → Int := fun w => mnI (fun g => p g + c g w) (q w) h
def PS (h : Nat) (c x : Nat → Nat → Int) (p q : Nat → Int) : Nat → Int := fun g => mnI (fun w => if 0 < x g w then q w - c g w else p g) (p g) h
def PQ (h : Nat) (c x : Nat → Nat → Int) (p0 q0 : Nat → Int) : Nat → (Nat → Int) × (Nat → Int)
  | 0 => (p0, q0)
  | k + 1 => (PS h c x (PQ h c x p0 q0 k).1 (QS h c (PQ h c x p0 q0 k).1 (PQ h c x p0 q0 k).2), QS h c (PQ h c x p0 q0 k).1 (PQ h c x p0 q0 k).2)
def pk' (h : Nat) (c x : Nat → Nat → Int) (p0 q0 : Nat → Int) (k : Nat) : Nat → Int := (PQ h c x p0 q0 k).1
def qk' (h : Nat) (c x : Nat → Nat → Int) (p0 q0 : Nat → Int) (k : Nat) : Nat → Int := (PQ h c x p0 q0 k).2
section LV
variable {h : Nat} {c x : Nat → Nat → Int} {p0 q0 : Nat → Int}
theorem q_dec (k w : Nat) : qk' h c x p0 q0 (k + 1) w ≤ qk' h c x p0 q0 k w := mnI_b _ _ _
theorem p_dec (k g : Nat) : pk' h c x p0 q0 (k + 1) g ≤ pk' h c x p0 q0 k g := mnI_b _ _ _
theorem q_mono {i j : Nat} (hij : i ≤ j) (w : Nat) : qk' h c x p0 q0 j w ≤ qk' h c x p0 q0 i w := by
  induction j with
  | zero => have : i = 0 := by omega
            subst this; exact Int.le_refl _
  | succ j ih =>
    by_cases e : i = j + 1
    · subst e; exact Int.le_refl _
    · exact Int.le_trans (q_dec j w) (ih (by omega))
theorem p_mono {i j : Nat} (hij : i ≤ j) (g : Nat) : pk' h c x p0 q0 j g ≤ pk' h c x p0 q0 i g := by
  induction j with
  | zero => have : i = 0 := by omega
            subst this; exact Int.le_refl _
  | succ j ih =>
    by_cases e : i = j + 1
    · subst e; exact Int.le_refl _
    · exact Int.le_trans (p_dec j g) (ih (by omega))
theorem q_up {g : Nat} (hg : g < h) (k w : Nat) : qk' h c x p0 q0 (k + 1) w ≤ pk' h c x p0 q0 k g + c g w := mnI_le (fun g => pk' h c x p0 q0 k g + c g w) _ hg
theorem p_up {w : Nat} (hw : w < h) (k : Nat) {g : Nat} (hx : 0 < x g w) : pk' h c x p0 q0 (k + 1) g ≤ qk' h c x p0 q0 (k + 1) w - c g w := by
  have := mnI_le (fun w => if 0 < x g w then qk' h c x p0 q0 (k + 1) w - c g w else pk' h c x p0 q0 k g) (pk' h c x p0 q0 k g) hw
  simp only [if_pos hx] at this
  exact this
theorem q_at (k w : Nat) : qk' h c x p0 q0 (k + 1) w = qk' h c x p0 q0 k w ∨ ∃ g, g < h ∧ qk' h c x p0 q0 (k + 1) w = pk' h c x p0 q0 k g + c g w := mnI_at _ _ _
theorem p_at (k g : Nat) : pk' h c x p0 q0 (k + 1) g = pk' h c x p0 q0 k g ∨ ∃ w, w < h ∧ 0 < x g w ∧ pk' h c x p0 q0 (k + 1) g = qk' h c x p0 q0 (k + 1) w - c g w := by
  rcases mnI_at (fun w => if 0 < x g w then qk' h c x p0 q0 (k + 1) w - c g w else pk' h c x p0 q0 k g) (pk' h c x p0 q0 k g) h with z | ⟨w, z1, z2⟩
  · left; exact z
  · by_cases e : 0 < x g w
    · right
      rw [if_pos e] at z2
      exact ⟨w, z1, e, z2⟩
    · left
      rw [if_neg e] at z2
      exact z2
end LV
/-- an injection -/
theorem pigeon (f : Nat → Nat) (m n : Nat) (h1 : ∀ i, i < m → f i < n) (h2 : ∀ i j, i < m → j < m → f i = f j → i = j) : m ≤ n := by
  have s1 : isum (fun v => isum (fun i => if f i = v then (1 : Int) else 0) m) n = m := by
    rw [isum_swap (fun v i => if f i = v then (1 : Int) else 0)]
    have : ∀ i, i < m → isum (fun v => if f i = v then (1 : Int) else 0) n = 1 := by
      intro i hi
      rw [isum_one (f := fun _ => 0) (j := f i) (h1 i hi) (fun v _ hn => if_neg (fun e => hn e.symm)), isum_zero, if_pos rfl]
      rfl
    rw [isum_congr this]
    have : ∀ k : Nat, isum (fun _ => (1 : Int)) k = k := by
      intro k
      induction k with
      | zero => rfl
      | succ k ih => simp only [isum, ih]; omega
    exact this m
  have s2 : ∀ v, isum (fun i => if f i = v then (1 : Int) else 0) m ≤ 1 := by
    intro v
    by_cases e : ∃ i, i < m ∧ f i = v
    · obtain ⟨i, hi, ev⟩ := e
      rw [isum_one (f := fun _ => 0) (j := i) hi (fun j hj hn => if_neg (fun z => hn (h2 j i hj hi (z.trans ev.symm)))), isum_zero, if_pos ev]
      omega
    · rw [isum_congr (g := fun _ => 0) (fun i hi => if_neg (fun z => e ⟨i, hi, z⟩)), isum_zero]
      omega
  have s3 : isum (fun v => isum (fun i => if f i = v then (1 : Int) else 0) m) n ≤ isum (fun _ => 1) n := isum_le (fun v _ => s2 v)
  have : ∀ k : Nat, isum (fun _ => (1 : Int)) k = k := by
    intro k
    induction k with
    | zero => rfl
    | succ k ih => simp only [isum, ih]; omega
  rw [s1, this n] at s3
  omega
/-- what the search starts from -/
def Root (h : Nat) (c x : Nat → Nat → Int) (e : Nat → Int) (B : Int) (p0 q0 : Nat → Int) : Prop := (∀ g, g < h → p0 g = if 0 < e g - rs h x g then 0 else B) ∧ (∀ w, q0 w = B) ∧ (∃ g, g < h ∧ 0 < e g - rs h x g) ∧ 2000 ≤ B ∧ ∀ g w, g < h → w < h → 0 ≤ c g w ∧ c g w ≤ 1000
section CH
variable {h : Nat} {c x : Nat → Nat → Int} {e wn : Nat → Int} {B : Int} {p0 q0 P Q : Nat → Int}
theorem q_small (hR : Root h c x e B p0 q0) {w : Nat} (hw : w < h) (k : Nat) : qk' h c x p0 q0 (k + 1) w ≤ 1000 := by
  obtain ⟨r1, r2, ⟨g, hg, r3⟩, r4, r5⟩ := hR
  have a1 := q_mono (h := h) (c := c) (x := x) (p0 := p0) (q0 := q0) (show 0 + 1 ≤ k + 1 by omega) w
  have a2 := q_up (h := h) (c := c) (x := x) (p0 := p0) (q0 := q0) hg 0 w
  have a3 : pk' h c x p0 q0 0 g = 0 := by
    show p0 g = 0
    rw [r1 g hg, if_pos r3]
  have a4 := r5 g w hg hw
  omega
theorem imp_lv (hR : Root h c x e B p0 q0) {k g : Nat} (hi : pk' h c x p0 q0 (k + 1) g < pk' h c x p0 q0 k g) : ∃ w g', w < h ∧ g' < h ∧ 0 < x g w ∧ pk' h c x p0 q0 (k + 1) g = pk' h c x p0 q0 k g' + c g' w - c g w ∧ (∀ j, k = j + 1 → pk' h c x p0 q0 k g' < pk' h c x p0 q0 j g') := by
  rcases p_at (h := h) (c := c) (x := x) (p0 := p0) (q0 := q0) k g with z | ⟨w, hw, hx, z⟩
  · omega
  have hq : qk' h c x p0 q0 (k + 1) w < qk' h c x p0 q0 k w := by
    cases k with
    | zero =>
      have := q_small hR hw 0
      have e0 : qk' h c x p0 q0 0 w = B := hR.2.1 w
      have := hR.2.2.2.1
      omega
    | succ k =>
      have a1 := q_dec (h := h) (c := c) (x := x) (p0 := p0) (q0 := q0) (k + 1) w
      have a2 := p_up (h := h) (c := c) (x := x) (p0 := p0) (q0 := q0) hw k hx
      omega
  rcases q_at (h := h) (c := c) (x := x) (p0 := p0) (q0 := q0) k w with y | ⟨g', hg', y⟩
  · omega
  · refine ⟨w, g', hw, hg', hx, by omega, fun j ej => ?_⟩
    subst ej
    have a1 := q_up (h := h) (c := c) (x := x) (p0 := p0) (q0 := q0) hg' j w
    have a2 := p_dec (h := h) (c := c) (x := x) (p0 := p0) (q0 := q0) j g'
    omega
theorem chain_lv (hR : Root h c x e B p0 q0) (hP : PC h c e B x P Q) : ∀ k g, g < h → pk' h c x p0 q0 (k + 1) g < pk' h c x p0 q0 k g → ∃ G : Nat → Nat, G (k + 1) = g ∧ (∀ i, i ≤ k + 1 → G i < h) ∧ (∀ i, i ≤ k → pk' h c x p0 q0 (i + 1) (G (i + 1)) < pk' h c x p0 q0 i (G (i + 1))) ∧ ∀ i, i ≤ k → pk' h c x p0 q0 i (G i) - P (G i) ≤ pk' h c x p0 q0 (i + 1) (G (i + 1)) - P (G (i + 1)) := by
  have arc : ∀ g g' w, g < h → g' < h → w < h → 0 < x g w → P g - P g' ≤ c g' w - c g w := by
    intro g g' w hg hg' hw hx
    have a1 := (hP.1 g w hg hw).2 hx
    have a2 := (hP.1 g' w hg' hw).1
    omega
  intro k
  induction k with
  | zero =>
    intro g hg hi
    obtain ⟨w, g', hw, hg', hx, e1, -⟩ := imp_lv hR hi
    have := arc g g' w hg hg' hw hx
    refine ⟨fun i => if i = 0 then g' else g, by simp, fun i _ => ?_, fun i hi0 => ?_, fun i hi0 => ?_⟩
    · by_cases q : i = 0
      · simp only [if_pos q]; exact hg'
      · simp only [if_neg q]; exact hg
    · have : i = 0 := by omega
      subst this
      simpa using hi
    · have : i = 0 := by omega
      subst this
      simp only [if_true, if_neg (show ¬ 0 + 1 = 0 by omega)]
      omega
  | succ k ih =>
    intro g hg hi
    obtain ⟨w, g', hw, hg', hx, e1, e2⟩ := imp_lv hR hi
    obtain ⟨G, y1, y2, y3, y4⟩ := ih g' hg' (e2 k rfl)
    have := arc g g' w hg hg' hw hx
    refine ⟨fun i => if i = k + 1 + 1 then g else G i, by simp, fun i hi0 => ?_, fun i hi0 => ?_, fun i hi0 => ?_⟩
    · by_cases q : i = k + 1 + 1
      · simp only [if_pos q]; exact hg
      · simp only [if_neg q]; exact y2 i (by omega)
    · by_cases q : i = k + 1
      · subst q
        simp only [if_true]
        exact hi
      · simp only [if_neg (show ¬ i + 1 = k + 1 + 1 by omega)]
        exact y3 i (by omega)
    · by_cases q : i = k + 1
      · subst q
        simp only [if_true, if_neg (show ¬ k + 1 = k + 1 + 1 by omega), y1]
        omega
      · simp only [if_neg (show ¬ i + 1 = k + 1 + 1 by omega), if_neg (show ¬ i = k + 1 + 1 by omega)]
        exact y4 i (by omega)
/-- no giver gets cheaper once all have had their turn -/
theorem lv_bd (hR : Root h c x e B p0 q0) (hP : PC h c e B x P Q) (hh : h ≤ 10) {k g : Nat} (hg : g < h) (hi : pk' h c x p0 q0 (k + 1) g < pk' h c x p0 q0 k g) : k ≤ 8 := by
  obtain ⟨G, y1, y2, y3, y4⟩ := chain_lv hR hP k g hg hi
  have mono : ∀ d i, i + d ≤ k + 1 → pk' h c x p0 q0 i (G i) - P (G i) ≤ pk' h c x p0 q0 (i + d) (G (i + d)) - P (G (i + d)) := by
    intro d
    induction d with
    | zero => intro i _; exact Int.le_refl _
    | succ d ih =>
      intro i hi0
      have a1 := ih i (by omega)
      have a2 := y4 (i + d) (by omega)
      rw [← Nat.add_assoc]
      omega
  have lt : ∀ i j, i < j → j ≤ k + 1 → G i ≠ G j := by
    intro i j h1 h2 e0
    have a1 := mono (j - i) i (by omega)
    rw [show i + (j - i) = j by omega, e0] at a1
    have a2 := y3 (j - 1) (by omega)
    rw [show j - 1 + 1 = j by omega] at a2
    have a3 := p_mono (h := h) (c := c) (x := x) (p0 := p0) (q0 := q0) (show i ≤ j - 1 by omega) (G j)
    omega
  have := pigeon G (k + 2) h (fun i hi0 => y2 i (by omega)) (fun i j h1 h2 e0 => by
    rcases Nat.lt_trichotomy i j with z | z | z
    · exact absurd e0 (lt i j z (by omega))
    · exact z
    · exact absurd e0.symm (lt j i z (by omega)))
  omega
theorem lv_low (hR : Root h c x e B p0 q0) (hP : PC h c e B x P Q) : ∀ k, (∀ g, g < h → P g ≤ pk' h c x p0 q0 k g) ∧ ∀ w, w < h → Q w ≤ qk' h c x p0 q0 k w := by
  intro k
  induction k with
  | zero =>
    refine ⟨fun g hg => ?_, fun w hw => ?_⟩
    · show P g ≤ p0 g
      rw [hR.1 g hg]
      obtain ⟨a1, a2, a3⟩ := hP.2.1 g hg
      by_cases q : 0 < e g - rs h x g
      · rw [if_pos q]
        rcases (show P g ≤ 0 ∨ 0 < P g by omega) with z | z
        · exact z
        · have := a3 z; omega
      · rw [if_neg q]; exact a2
    · show Q w ≤ q0 w
      rw [hR.2.1 w]; exact hP.2.2 w hw
  | succ k ih =>
    have hq : ∀ w, w < h → Q w ≤ qk' h c x p0 q0 (k + 1) w := by
      intro w hw
      rcases q_at (h := h) (c := c) (x := x) (p0 := p0) (q0 := q0) k w with z | ⟨g, hg, z⟩
      · rw [z]; exact ih.2 w hw
      · have := ih.1 g hg
        have := (hP.1 g w hg hw).1
        omega
    refine ⟨fun g hg => ?_, hq⟩
    rcases p_at (h := h) (c := c) (x := x) (p0 := p0) (q0 := q0) k g with z | ⟨w, hw, hx, z⟩
    · rw [z]; exact ih.1 g hg
    · have := hq w hw
      have := (hP.1 g w hg hw).2 hx
      omega
end CH
/-- givers of wants, wants that givers give up: as they were found -/
def PW (h : Nat) (c x : Nat → Nat → Int) (p0 q0 : Nat → Int) (K : Nat) (gw : Nat → Nat) : Prop := ∀ w, w < h → ∃ j, j < K ∧ qk' h c x p0 q0 K w = qk' h c x p0 q0 (j + 1) w ∧ qk' h c x p0 q0 (j + 1) w < qk' h c x p0 q0 j w ∧ gw w < h ∧ qk' h c x p0 q0 (j + 1) w = pk' h c x p0 q0 j (gw w) + c (gw w) w
def FG (h : Nat) (c x : Nat → Nat → Int) (p0 q0 : Nat → Int) (K : Nat) (fw : Nat → Option Nat) : Prop := ∀ g, g < h → (fw g = none ∧ pk' h c x p0 q0 K g = p0 g) ∨ ∃ w j, fw g = some w ∧ w < h ∧ 0 < x g w ∧ j < K ∧ pk' h c x p0 q0 K g = pk' h c x p0 q0 (j + 1) g ∧ pk' h c x p0 q0 (j + 1) g < pk' h c x p0 q0 j g ∧ pk' h c x p0 q0 (j + 1) g = qk' h c x p0 q0 (j + 1) w - c g w
/-- chains that go back to a giver with empties left -/
def Chn (h : Nat) (c x : Nat → Nat → Int) (e : Nat → Int) (p q : Nat → Int) (gw : Nat → Nat) (fw : Nat → Option Nat) (tw tg : Nat → Nat) (T : Nat) : Prop := (∀ w, w < h → tw w ≤ T ∧ gw w < h ∧ q w = p (gw w) + c (gw w) w ∧ tg (gw w) ≤ tw w) ∧ ∀ g, g < h → p g ≤ 1000 → (fw g = none ∧ p g = 0 ∧ 0 < e g - rs h x g) ∨ ∃ w, fw g = some w ∧ w < h ∧ 0 < x g w ∧ q w = p g + c g w ∧ tw w < tg g
theorem Chn_lv {h : Nat} {c x : Nat → Nat → Int} {e : Nat → Int} {B : Int} {p0 q0 P Q : Nat → Int} (hR : Root h c x e B p0 q0) (hP : PC h c e B x P Q) (hF : ∀ g, g < h → rs h x g ≤ e g) {L : Nat} (hL : L ≤ 10) (h1 : 1 ≤ L) {gw : Nat → Nat} {fw : Nat → Option Nat} (hq : ∀ g w, g < h → w < h → qk' h c x p0 q0 L w ≤ pk' h c x p0 q0 L g + c g w) (hW : PW h c x p0 q0 L gw) (hG : FG h c x p0 q0 L fw) : PC h c e B x (pk' h c x p0 q0 L) (qk' h c x p0 q0 L) ∧ ∃ tw tg, Chn h c x e (pk' h c x p0 q0 L) (qk' h c x p0 q0 L) gw fw tw tg 9 := by
  obtain ⟨l, rfl⟩ : ∃ l, L = l + 1 := ⟨L - 1, by omega⟩
  have hp : ∀ g w, w < h → 0 < x g w → pk' h c x p0 q0 (l + 1) g ≤ qk' h c x p0 q0 (l + 1) w - c g w := fun g w hw hx => p_up hw l hx
  have low := lv_low hR hP (l + 1)
  refine ⟨⟨fun g w hg hw => ⟨hq g w hg hw, fun hx => by have := hp g w hw hx; omega⟩, fun g hg => ⟨?_, ?_, fun h0 => ?_⟩, fun w hw => ?_⟩, ?_⟩
  · have := low.1 g hg
    have := (hP.2.1 g hg).1
    omega
  · have a1 := p_mono (h := h) (c := c) (x := x) (p0 := p0) (q0 := q0) (show 0 ≤ l + 1 by omega) g
    have a2 : pk' h c x p0 q0 0 g = _ := hR.1 g hg
    have := hR.2.2.2.1
    rw [a2] at a1
    split at a1 <;> omega
  · have a1 := p_mono (h := h) (c := c) (x := x) (p0 := p0) (q0 := q0) (show 0 ≤ l + 1 by omega) g
    have a2 : pk' h c x p0 q0 0 g = _ := hR.1 g hg
    rw [a2] at a1
    by_cases z : 0 < e g - rs h x g
    · rw [if_pos z] at a1; omega
    · have := hF g hg
      omega
  · have := q_small hR hw l
    have := hR.2.2.2.1
    omega
  · have w1 : ∀ w, ∃ j, w < h → j < l + 1 ∧ qk' h c x p0 q0 (l + 1) w = qk' h c x p0 q0 (j + 1) w ∧ qk' h c x p0 q0 (j + 1) w < qk' h c x p0 q0 j w ∧ gw w < h ∧ qk' h c x p0 q0 (j + 1) w = pk' h c x p0 q0 j (gw w) + c (gw w) w := by
      intro w
      by_cases hw : w < h
      · obtain ⟨j, y⟩ := hW w hw
        exact ⟨j, fun _ => y⟩
      · exact ⟨0, fun z => absurd z hw⟩
    obtain ⟨tw, htw⟩ := Classical.axiomOfChoice w1
    have g1 : ∀ g, ∃ t, g < h → (fw g = none ∧ pk' h c x p0 q0 (l + 1) g = p0 g ∧ t = 0) ∨ ∃ w j, t = j + 1 ∧ fw g = some w ∧ w < h ∧ 0 < x g w ∧ j < l + 1 ∧ pk' h c x p0 q0 (l + 1) g = pk' h c x p0 q0 (j + 1) g ∧ pk' h c x p0 q0 (j + 1) g < pk' h c x p0 q0 j g ∧ pk' h c x p0 q0 (j + 1) g = qk' h c x p0 q0 (j + 1) w - c g w := by
      intro g
      by_cases hg : g < h
      · rcases hG g hg with ⟨y1, y2⟩ | ⟨w, j, y⟩
        · exact ⟨0, fun _ => Or.inl ⟨y1, y2, rfl⟩⟩
        · exact ⟨j + 1, fun _ => Or.inr ⟨w, j, rfl, y⟩⟩
      · exact ⟨0, fun z => absurd z hg⟩
    obtain ⟨tg, htg⟩ := Classical.axiomOfChoice g1
    refine ⟨tw, tg, fun w hw => ?_, fun g hg hs => ?_⟩
    · obtain ⟨a1, a2, a3, a4, a5⟩ := htw w hw
      have m1 := p_mono (h := h) (c := c) (x := x) (p0 := p0) (q0 := q0) (show tw w ≤ l + 1 by omega) (gw w)
      have m2 := hq (gw w) w a4 hw
      refine ⟨by omega, a4, by omega, ?_⟩
      rcases htg (gw w) a4 with ⟨-, -, y⟩ | ⟨v, j, y1, y2, y3, y4, y5, y6, y7, y8⟩
      · omega
      · rcases Nat.lt_or_ge j (tw w) with z | z
        · omega
        · have m3 := p_mono (h := h) (c := c) (x := x) (p0 := p0) (q0 := q0) z (gw w)
          omega
    · rcases htg g hg with ⟨y1, y2, y3⟩ | ⟨w, j, y1, y2, y3, y4, y5, y6, y7, y8⟩
      · left
        have a2 := hR.1 g hg
        have := hR.2.2.2.1
        rw [a2] at y2
        by_cases z : 0 < e g - rs h x g
        · rw [if_pos z] at y2
          exact ⟨y1, y2, z⟩
        · rw [if_neg z] at y2
          omega
      · right
        have m1 := q_mono (h := h) (c := c) (x := x) (p0 := p0) (q0 := q0) (show j + 1 ≤ l + 1 by omega) w
        have m2 := hp g w y3 y4
        refine ⟨w, y2, y3, y4, by omega, ?_⟩
        obtain ⟨a1, a2, a3, a4, a5⟩ := htw w y3
        rcases Nat.lt_or_ge (tw w) (j + 1) with z | z
        · omega
        · have m3 := q_mono (h := h) (c := c) (x := x) (p0 := p0) (q0 := q0) z w
          omega
