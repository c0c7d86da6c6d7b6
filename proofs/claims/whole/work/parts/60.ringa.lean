/-! RINGS: steps back to a house, by certificate -/
/-- st a: the fewest debts from a to s through greater houses (0: none) -/
def Cert (D : Nat → Nat → Nat) (s : Nat) (st : Nat → Nat) : Prop := (∀ a, st a ≠ 0 → s < a ∧ a < 10 ∧ st a ≤ 9 ∧ ∃ b, 0 < D a b ∧ st a = st b + 1 ∧ (b = s ∨ st b ≠ 0)) ∧ ∀ a b, s < a → a < 10 → 0 < D a b → (b = s ∨ st b ≠ 0) → st a ≠ 0 ∧ st a ≤ st b + 1
theorem Cert_s {D : Nat → Nat → Nat} {s : Nat} {st : Nat → Nat} (h : Cert D s st) : st s = 0 := by
  rcases Nat.eq_zero_or_pos (st s) with q | q
  · exact q
  · have := (h.1 s (by omega)).1
    omega
theorem Cert_le {D : Nat → Nat → Nat} {s : Nat} {f g : Nat → Nat} (hf : Cert D s f) (hg : Cert D s g) : ∀ n a, f a = n → f a ≠ 0 → g a ≠ 0 ∧ g a ≤ f a := by
  intro n
  induction n with
  | zero => intro a h1 h2; omega
  | succ n ih =>
    intro a h1 h2
    obtain ⟨q1, q2, q3, b, q4, q5, q6⟩ := hf.1 a h2
    rcases q6 with rfl | q6
    · have := hg.2 a b q1 q2 q4 (Or.inl rfl)
      have z1 := Cert_s hf
      have z2 := Cert_s hg
      omega
    · have hb := ih b (by omega) q6
      have := hg.2 a b q1 q2 q4 (Or.inr hb.1)
      omega
theorem Cert_uq {D : Nat → Nat → Nat} {s : Nat} {f g : Nat → Nat} (hf : Cert D s f) (hg : Cert D s g) : f = g := by
  funext a
  rcases Nat.eq_zero_or_pos (f a) with q | q
  · rcases Nat.eq_zero_or_pos (g a) with r | r
    · omega
    · have := Cert_le hg hf (g a) a rfl (by omega)
      omega
  · have h1 := Cert_le hf hg (f a) a rfl (by omega)
    have h2 := Cert_le hg hf (g a) a rfl h1.1
    omega
/-- the size of the least ring at s (0: none) -/
def SzC (D : Nat → Nat → Nat) (s : Nat) (st : Nat → Nat) (n : Nat) : Prop := (n = 0 ∧ ∀ a, st a ≠ 0 → D s a = 0) ∨ (n ≠ 0 ∧ (∃ a, st a ≠ 0 ∧ 0 < D s a ∧ n = st a + 1) ∧ ∀ a, st a ≠ 0 → 0 < D s a → n ≤ st a + 1)
theorem SzC_uq {D : Nat → Nat → Nat} {s : Nat} {st : Nat → Nat} {n m : Nat} (h1 : SzC D s st n) (h2 : SzC D s st m) : n = m := by
  rcases h1 with ⟨a1, a2⟩ | ⟨a1, ⟨a, a2, a3, a4⟩, a5⟩
  · rcases h2 with ⟨b1, b2⟩ | ⟨b1, ⟨b, b2, b3, b4⟩, b5⟩
    · omega
    · have := a2 b b2
      omega
  · rcases h2 with ⟨b1, b2⟩ | ⟨b1, ⟨b, b2, b3, b4⟩, b5⟩
    · have := b2 a a2
      omega
    · have := a5 b b2 b3
      have := b5 a a2 a3
      omega
/-- the ring itself -/
def RG (D : Nat → Nat → Nat) (s n : Nat) (st R : Nat → Nat) : Prop := R 0 = s ∧ ∀ i, 1 ≤ i → i < n → s < R i ∧ R i < 10 ∧ st (R i) = n - i ∧ 0 < D (R (i - 1)) (R i) ∧ ∀ b, s < b → b < R i → ¬ (st b = n - i ∧ 0 < D (R (i - 1)) b)
theorem RG_uq {D : Nat → Nat → Nat} {s n : Nat} {st R Q : Nat → Nat} (h1 : RG D s n st R) (h2 : RG D s n st Q) : ∀ i, i < n → R i = Q i := by
  intro i
  induction i with
  | zero => intro _; rw [h1.1, h2.1]
  | succ i ih =>
    intro hi
    have e := ih (by omega)
    obtain ⟨a1, a2, a3, a4, a5⟩ := h1.2 (i + 1) (by omega) hi
    obtain ⟨b1, b2, b3, b4, b5⟩ := h2.2 (i + 1) (by omega) hi
    rw [Nat.add_sub_cancel] at a4 a5 b4 b5
    rw [e] at a4 a5
    rcases Nat.lt_trichotomy (R (i + 1)) (Q (i + 1)) with q | q | q
    · exact absurd ⟨a3, a4⟩ (b5 _ a1 q)
    · exact q
    · exact absurd ⟨b3, b4⟩ (a5 _ b1 q)
/-- the first ring: its size and its least house -/
def FR (Z : Nat → Nat) (n s : Nat) : Prop := (n = 0 ∧ ∀ t, t < 10 → Z t = 0) ∨ (n ≠ 0 ∧ s < 10 ∧ Z s = n ∧ ∀ t, t < 10 → Z t ≠ 0 → n ≤ Z t ∧ (t < s → n < Z t))
theorem FR_uq {Z : Nat → Nat} {n s m t : Nat} (h1 : FR Z n s) (h2 : FR Z m t) : n = m ∧ (n ≠ 0 → s = t) := by
  rcases h1 with ⟨a1, a2⟩ | ⟨a1, a2, a3, a4⟩
  · rcases h2 with ⟨b1, b2⟩ | ⟨b1, b2, b3, b4⟩
    · omega
    · have := a2 t b2
      omega
  · rcases h2 with ⟨b1, b2⟩ | ⟨b1, b2, b3, b4⟩
    · have := b2 s a2
      omega
    · have u := a4 t b2 (by omega)
      have v := b4 s a2 (by omega)
      rcases Nat.lt_trichotomy s t with q | q | q
      · have := v.2 q; omega
      · omega
      · have := u.2 q; omega
/-- how many are reached -/
def cntS (st : Nat → Nat) : Int := isum (fun a => if st a = 0 then 0 else 1) 10
theorem cntS_full {st : Nat → Nat} {a b : Nat} (ha : a < 10) (hb : b < 10) (hab : a ≠ b) (h1 : st a = 0) (h2 : st b = 0) : cntS st ≤ 8 := by
  unfold cntS
  have e1 : isum (fun i => if i = a then (0 : Int) else 1) 10 = 9 := by
    rw [isum_one (f := fun _ => 1) (j := a) ha (fun i _ hn => if_neg hn)]
    simp [isum]
  have e2 : isum (fun i => if i = a then (0 : Int) else if i = b then 0 else 1) 10 = 8 := by
    rw [isum_one (f := fun i => if i = a then (0 : Int) else 1) (j := b) hb (fun i _ hn => by by_cases q : i = a; rw [if_pos q, if_pos q]; rw [if_neg q, if_neg q, if_neg hn])]
    rw [e1, if_neg (fun e => hab e.symm), if_neg (fun e => hab e.symm), if_pos rfl]
    rfl
  rw [← e2]
  refine isum_le (fun i hi => ?_)
  by_cases q : i = a
  · rw [q, if_pos h1, if_pos rfl]; omega
  · rw [if_neg q]
    by_cases r : i = b
    · rw [r, if_pos h2, if_pos rfl]; omega
    · rw [if_neg r]
      split <;> omega
/-- the search from house s, at place q of a queue of qn -/
def BQ (D : Nat → Nat → Nat) (s q qn : Nat) (st qu : Nat → Nat) : Prop := (qu 0 = s ∧ 1 ≤ qn ∧ qn ≤ 10 ∧ q ≤ qn) ∧ (∀ i, 0 < i → i < qn → s < qu i ∧ qu i < 10 ∧ st (qu i) ≠ 0) ∧ (∀ a, st a ≠ 0 → s < a ∧ a < 10 ∧ ∃ i, 0 < i ∧ i < qn ∧ qu i = a) ∧ (∀ i j, i ≤ j → j < qn → st (qu i) ≤ st (qu j)) ∧ (∀ j, j < qn → q < qn → st (qu j) ≤ st (qu q) + 1) ∧ (∀ a, st a ≠ 0 → ∃ b, 0 < D a b ∧ st a = st b + 1 ∧ (b = s ∨ st b ≠ 0)) ∧ (∀ i a, i < q → s < a → a < 10 → 0 < D a (qu i) → st a ≠ 0 ∧ st a ≤ st (qu i) + 1) ∧ (∀ i, i < qn → st (qu i) ≤ i) ∧ cntS st = (qn : Int) - 1
theorem BQ_0 (D : Nat → Nat → Nat) {s : Nat} {qu : Nat → Nat} (hq : qu 0 = s) : BQ D s 0 1 (fun _ => 0) qu := by
  refine ⟨⟨hq, by omega, by omega, by omega⟩, fun i h1 h2 => by omega, fun a h => absurd rfl h, fun i j _ _ => Nat.le_refl _, fun j _ _ => Nat.zero_le _, fun a h => absurd rfl h, fun i a h => by omega, fun i _ => Nat.zero_le _, ?_⟩
  unfold cntS
  simp [isum]
theorem BQ_s {D : Nat → Nat → Nat} {s q qn : Nat} {st qu : Nat → Nat} (h : BQ D s q qn st qu) : st s = 0 := by
  rcases Nat.eq_zero_or_pos (st s) with z | z
  · exact z
  · have := (h.2.2.1 s (by omega)).1
    omega
/-- one more house comes into the queue -/
theorem BQ_add {D : Nat → Nat → Nat} {s q qn : Nat} {st qu : Nat → Nat} (h : BQ D s q qn st qu) {a : Nat} (hq : q < qn) (h10 : qn < 10) (hs : s < a) (ha : a < 10) (h0 : st a = 0) (hD : 0 < D a (qu q)) : BQ D s q (qn + 1) (fun x => if x = a then st (qu q) + 1 else st x) (fun i => if i = qn then a else qu i) := by
  have hss := BQ_s h
  obtain ⟨⟨p1, p2, p3, p4⟩, k1, k2, k3, k4, k5, k6, k7, k8⟩ := h
  -- queue members aren't a
  have ne : ∀ i, i < qn → qu i ≠ a := by
    intro i hi e
    rcases Nat.eq_zero_or_pos i with z | z
    · rw [z, p1] at e; omega
    · have := (k1 i z hi).2.2
      rw [e] at this
      exact this h0
  have qv : ∀ i, i < qn → (if i = qn then a else qu i) = qu i := fun i hi => if_neg (by omega)
  have sv : ∀ i, i < qn → (if qu i = a then st (qu q) + 1 else st (qu i)) = st (qu i) := fun i hi => if_neg (ne i hi)
  refine ⟨⟨(qv 0 (by omega)).trans p1, by omega, by omega, by omega⟩, fun i h1 h2 => ?_, fun x hx => ?_, fun i j h1 h2 => ?_, fun j h1 h2 => ?_, fun x hx => ?_, fun i x h1 h2 h3 h4 => ?_, fun i h1 => ?_, ?_⟩
  · by_cases e : i = qn
    · subst e
      simp only [if_true]
      exact ⟨hs, ha, by omega⟩
    · simp only [qv i (by omega), sv i (by omega)]
      exact k1 i h1 (by omega)
  · by_cases e : x = a
    · subst e
      exact ⟨hs, ha, qn, by omega, by omega, by simp⟩
    · simp only [if_neg e] at hx
      obtain ⟨u1, u2, i, u3, u4, u5⟩ := k2 x hx
      exact ⟨u1, u2, i, u3, by omega, by simp only [qv i u4]; exact u5⟩
  · by_cases e : j = qn
    · subst e
      simp only [if_true]
      by_cases e2 : i = j
      · subst e2
        simp
      · simp only [qv i (by omega), sv i (by omega)]
        exact k4 i (by omega) hq
    · simp only [qv i (by omega), sv i (by omega), qv j (by omega), sv j (by omega)]
      exact k3 i j h1 (by omega)
  · simp only [qv q hq, sv q hq]
    by_cases e : j = qn
    · subst e
      simp
    · simp only [qv j (by omega), sv j (by omega)]
      exact k4 j (by omega) hq
  · by_cases e : x = a
    · subst e
      refine ⟨qu q, hD, ?_, ?_⟩
      · simp only [if_true, if_neg (ne q hq)]
      · simp only [if_neg (ne q hq)]
        rcases Nat.eq_zero_or_pos q with z | z
        · left; rw [z]; exact p1
        · right; exact (k1 q z hq).2.2
    · simp only [if_neg e] at hx ⊢
      obtain ⟨b, u1, u2, u3⟩ := k5 x hx
      have eb : b ≠ a := by
        rintro rfl
        rcases u3 with u3 | u3
        · omega
        · exact u3 h0
      exact ⟨b, u1, by rw [if_neg eb]; exact u2, by rw [if_neg eb]; exact u3⟩
  · simp only [qv i (by omega)] at h4
    simp only [qv i (by omega), sv i (by omega)]
    obtain ⟨u1, u2⟩ := k6 i x h1 h2 h3 h4
    have e : x ≠ a := fun e => u1 (by rw [e]; exact h0)
    simp only [if_neg e]
    exact ⟨u1, u2⟩
  · by_cases e : i = qn
    · subst e
      simp only [if_true]
      have := k7 q hq
      omega
    · simp only [qv i (by omega), sv i (by omega)]
      exact k7 i (by omega)
  · unfold cntS at k8 ⊢
    rw [isum_one (f := fun a => if st a = 0 then (0 : Int) else 1) (j := a) ha (fun i _ hn => by simp only [if_neg hn]), k8, if_pos h0]
    simp
/-- a house that is reached is no farther than it may be -/
theorem BQ_old {D : Nat → Nat → Nat} {s q qn : Nat} {st qu : Nat → Nat} (h : BQ D s q qn st qu) {a : Nat} (hq : q < qn) (h0 : st a ≠ 0) : st a ≤ st (qu q) + 1 := by
  obtain ⟨-, -, k2, -, k4, -⟩ := h
  obtain ⟨-, -, i, u3, u4, u5⟩ := k2 a h0
  have := k4 i u4 hq
  rw [u5] at this
  exact this
theorem BQ_next {D : Nat → Nat → Nat} {s q qn : Nat} {st qu : Nat → Nat} (h : BQ D s q qn st qu) (hq : q < qn) (hp : ∀ a, s < a → a < 10 → 0 < D a (qu q) → st a ≠ 0 ∧ st a ≤ st (qu q) + 1) : BQ D s (q + 1) qn st qu := by
  obtain ⟨⟨p1, p2, p3, p4⟩, k1, k2, k3, k4, k5, k6, k7, k8⟩ := h
  refine ⟨⟨p1, p2, p3, by omega⟩, k1, k2, k3, fun j h1 h2 => ?_, k5, fun i a h1 h2 h3 h4 => ?_, k7, k8⟩
  · have u := k4 j h1 hq
    have v := k3 q (q + 1) (by omega) h2
    omega
  · by_cases e : i = q
    · subst e
      exact hp a h2 h3 h4
    · exact k6 i a (by omega) h2 h3 h4
theorem BQ_end {D : Nat → Nat → Nat} {s qn : Nat} {st qu : Nat → Nat} (h : BQ D s qn qn st qu) : Cert D s st := by
  obtain ⟨⟨p1, p2, p3, p4⟩, k1, k2, k3, k4, k5, k6, k7, k8⟩ := h
  refine ⟨fun a ha => ?_, fun a b h1 h2 h3 h4 => ?_⟩
  · obtain ⟨u1, u2, i, u3, u4, u5⟩ := k2 a ha
    have := k7 i u4
    rw [u5] at this
    exact ⟨u1, u2, by omega, k5 a ha⟩
  · rcases h4 with rfl | h4
    · have := k6 0 a (by omega) h1 h2 (by rw [p1]; exact h3)
      rw [p1] at this
      exact this
    · obtain ⟨u1, u2, i, u3, u4, u5⟩ := k2 b h4
      have := k6 i a u4 h1 h2 (by rw [u5]; exact h3)
      rw [u5] at this
      exact this
