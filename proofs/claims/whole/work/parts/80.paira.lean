/-! PAIR: the best way to pair, as the reference reckons it and as one number -/
def mxN (f : Nat → Nat) (b : Nat) : Nat → Nat
  | 0 => b
  | n + 1 => max (mxN f b n) (f n)
theorem mxN_b (f : Nat → Nat) (b n : Nat) : b ≤ mxN f b n := by
  induction n with
  | zero => exact Nat.le_refl _
  | succ n ih => simp only [mxN]; omega
theorem mxN_le (f : Nat → Nat) (b : Nat) {n i : Nat} (h : i < n) : f i ≤ mxN f b n := by
  induction n with
  | zero => omega
  | succ n ih =>
    simp only [mxN]
    by_cases e : i = n
    · subst e; omega
    · have := ih (by omega)
      omega
theorem mxN_at (f : Nat → Nat) (b n : Nat) : mxN f b n = b ∨ ∃ i, i < n ∧ mxN f b n = f i := by
  induction n with
  | zero => left; rfl
  | succ n ih =>
    simp only [mxN]
    rcases Nat.le_total (f n) (mxN f b n) with q | q
    · rw [Nat.max_eq_left q]
      rcases ih with z | ⟨i, z1, z2⟩
      · left; exact z
      · right; exact ⟨i, by omega, z2⟩
    · rw [Nat.max_eq_right q]
      right; exact ⟨n, by omega, rfl⟩
/-- may give i have take j, those of U being taken -/
def okk (nr : Nat → Nat → Bool) (i U j : Nat) : Prop := nr i j = true ∧ U.testBit j = false
/-- the reference's best worth of the last r gives -/
def Bf (n m : Nat) (nr : Nat → Nat → Bool) (ap : Nat → Nat → Nat) : Nat → Nat → Nat
  | 0, _ => 0
  | r + 1, U => mxN (fun j => if nr (n - r - 1) j = true ∧ U.testBit j = false then 1000 - ap (n - r - 1) j + Bf n m nr ap r (U ||| 2 ^ j) else 0) (Bf n m nr ap r U) m
/-- what a pair adds to the class's number -/
def vl (ap : Nat → Nat → Nat) (i j : Nat) : Nat := (256 - ap i j) * 4294967296 + (8 - j) * 16 ^ (7 - i)
def Sf (n m : Nat) (nr : Nat → Nat → Bool) (ap : Nat → Nat → Nat) : Nat → Nat → Nat
  | 0, _ => 0
  | r + 1, U => mxN (fun j => if nr (n - r - 1) j = true ∧ U.testBit j = false then vl ap (n - r - 1) j + Sf n m nr ap r (U ||| 2 ^ j) else 0) (Sf n m nr ap r U) m
section MT
variable {n m : Nat} {nr : Nat → Nat → Bool} {ap : Nat → Nat → Nat}
/-- two ways, each with its number of pairs, days apart and choice -/
theorem two_ways {c a C c' a' C' : Nat} (h1 : a ≤ 3 * c) (h2 : c ≤ 8) (h3 : C < 4294967296) (h1' : a' ≤ 3 * c') (h2' : c' ≤ 8) (hb : 1000 * c - a < 1000 * c' - a') : (256 * c - a) * 4294967296 + C < (256 * c' - a') * 4294967296 + C' := by
  have : 256 * c - a + 1 ≤ 256 * c' - a' := by omega
  omega
theorem same_way {c a c' a' : Nat} (h1 : a ≤ 3 * c) (h2 : c ≤ 8) (h1' : a' ≤ 3 * c') (h2' : c' ≤ 8) (hb : 1000 * c - a = 1000 * c' - a') : c = c' ∧ a = a' := by omega
/-- the choice of the reference at give n - r - 1 -/
def GR (n m : Nat) (nr : Nat → Nat → Bool) (ap : Nat → Nat → Nat) (r U j : Nat) : Prop := (j = 8 ∧ ∀ j', j' < m → okk nr (n - r - 1) U j' → 1000 - ap (n - r - 1) j' + Bf n m nr ap r (U ||| 2 ^ j') ≠ Bf n m nr ap (r + 1) U) ∨ (j < m ∧ okk nr (n - r - 1) U j ∧ 1000 - ap (n - r - 1) j + Bf n m nr ap r (U ||| 2 ^ j) = Bf n m nr ap (r + 1) U ∧ ∀ j', j' < j → okk nr (n - r - 1) U j' → 1000 - ap (n - r - 1) j' + Bf n m nr ap r (U ||| 2 ^ j') ≠ Bf n m nr ap (r + 1) U)
theorem GR_ex (n m : Nat) (nr : Nat → Nat → Bool) (ap : Nat → Nat → Nat) (r U : Nat) : ∃ j, GR n m nr ap r U j := by
  by_cases h : ∃ j, j < m ∧ okk nr (n - r - 1) U j ∧ 1000 - ap (n - r - 1) j + Bf n m nr ap r (U ||| 2 ^ j) = Bf n m nr ap (r + 1) U
  · obtain ⟨j, ⟨h1, h2, h3⟩, h4⟩ := pk_least _ h
    exact ⟨j, Or.inr ⟨h1, h2, h3, fun j' hj' hok e => h4 j' hj' ⟨by omega, hok, e⟩⟩⟩
  · exact ⟨8, Or.inl ⟨rfl, fun j' h1 h2 h3 => h ⟨j', h1, h2, h3⟩⟩⟩
/-- what the numbers are made of, and that the reference's choice is the class's -/
def Dec (n m : Nat) (nr : Nat → Nat → Bool) (ap : Nat → Nat → Nat) (r U : Nat) : Prop := ∃ c a C, Bf n m nr ap r U = 1000 * c - a ∧ Sf n m nr ap r U = (256 * c - a) * 4294967296 + C ∧ C < 16 ^ (8 - n + r) ∧ a ≤ 3 * c ∧ c ≤ r
theorem SB (hn : n ≤ 8) (hm : m ≤ 8) (hap : ∀ i j, nr i j = true → ap i j ≤ 3) : ∀ r, r ≤ n → ∀ U, Dec n m nr ap r U ∧ ∀ s, r = s + 1 → ∀ j, GR n m nr ap s U j → Sf n m nr ap r U = if j = 8 then Sf n m nr ap s U else vl ap (n - s - 1) j + Sf n m nr ap s (U ||| 2 ^ j) := by
  intro r
  induction r with
  | zero =>
    intro _ U
    exact ⟨⟨0, 0, 0, rfl, rfl, Nat.pow_pos (by omega), by omega, by omega⟩, fun s hs => by omega⟩
  | succ r ih =>
    intro hr U
    obtain ⟨D, eD⟩ : ∃ D, D = 16 ^ (8 - n + r) := ⟨_, rfl⟩
    have D1 : 16 ^ (8 - n + (r + 1)) = 16 * D := by rw [eD, ← Nat.add_assoc, Nat.pow_succ, Nat.mul_comm]
    have D2 : 16 * D ≤ 4294967296 := by
      rw [← D1]
      have : (16 : Nat) ^ (8 - n + (r + 1)) ≤ 16 ^ 8 := Nat.pow_le_pow_right (by omega) (by omega)
      have e : (16 : Nat) ^ 8 = 4294967296 := by decide
      omega
    have D0 : 16 ^ (7 - (n - r - 1)) = D := by rw [eD]; congr 1; omega
    have Dp : 0 < D := by rw [eD]; exact Nat.pow_pos (by omega)
    -- each option
    have none : Dec n m nr ap r U := (ih (by omega) U).1
    have opt : ∀ j, j < m → okk nr (n - r - 1) U j → ∃ c a C, 1000 - ap (n - r - 1) j + Bf n m nr ap r (U ||| 2 ^ j) = 1000 * c - a ∧ vl ap (n - r - 1) j + Sf n m nr ap r (U ||| 2 ^ j) = (256 * c - a) * 4294967296 + C ∧ (8 - j) * D ≤ C ∧ C < (8 - j) * D + D ∧ a ≤ 3 * c ∧ c ≤ r + 1 := by
      intro j hj hok
      obtain ⟨c, a, C, d1, d2, d3, d4, d5⟩ := (ih (by omega) (U ||| 2 ^ j)).1
      have hap3 := hap _ _ hok.1
      refine ⟨c + 1, a + ap (n - r - 1) j, (8 - j) * D + C, by omega, ?_, by omega, by rw [← eD] at d3; omega, by omega, by omega⟩
      unfold vl
      rw [d2, D0]
      have : 256 * (c + 1) - (a + ap (n - r - 1) j) = (256 - ap (n - r - 1) j) + (256 * c - a) := by omega
      rw [this, Nat.add_mul]
      omega
    obtain ⟨cN, aN, CN, nB, nS, nC, na, nc⟩ := none
    rw [← eD] at nC
    have Sge : ∀ j, j < m → okk nr (n - r - 1) U j → vl ap (n - r - 1) j + Sf n m nr ap r (U ||| 2 ^ j) ≤ Sf n m nr ap (r + 1) U := by
      intro j hj hok
      have := mxN_le (fun j => if nr (n - r - 1) j = true ∧ U.testBit j = false then vl ap (n - r - 1) j + Sf n m nr ap r (U ||| 2 ^ j) else 0) (Sf n m nr ap r U) hj
      simp only [if_pos (show nr (n - r - 1) j = true ∧ U.testBit j = false from hok)] at this
      exact this
    have SgeN : Sf n m nr ap r U ≤ Sf n m nr ap (r + 1) U := mxN_b _ _ _
    have Sat : Sf n m nr ap (r + 1) U = Sf n m nr ap r U ∨ ∃ j, j < m ∧ okk nr (n - r - 1) U j ∧ Sf n m nr ap (r + 1) U = vl ap (n - r - 1) j + Sf n m nr ap r (U ||| 2 ^ j) := by
      rcases mxN_at (fun j => if nr (n - r - 1) j = true ∧ U.testBit j = false then vl ap (n - r - 1) j + Sf n m nr ap r (U ||| 2 ^ j) else 0) (Sf n m nr ap r U) m with z | ⟨j, z1, z2⟩
      · left; exact z
      · by_cases q : nr (n - r - 1) j = true ∧ U.testBit j = false
        · rw [if_pos q] at z2
          right; exact ⟨j, z1, q, z2⟩
        · rw [if_neg q] at z2
          have e : Sf n m nr ap (r + 1) U = 0 := z2
          left; omega
    have Bge : ∀ j, j < m → okk nr (n - r - 1) U j → 1000 - ap (n - r - 1) j + Bf n m nr ap r (U ||| 2 ^ j) ≤ Bf n m nr ap (r + 1) U := by
      intro j hj hok
      have := mxN_le (fun j => if nr (n - r - 1) j = true ∧ U.testBit j = false then 1000 - ap (n - r - 1) j + Bf n m nr ap r (U ||| 2 ^ j) else 0) (Bf n m nr ap r U) hj
      simp only [if_pos (show nr (n - r - 1) j = true ∧ U.testBit j = false from hok)] at this
      exact this
    have BgeN : Bf n m nr ap r U ≤ Bf n m nr ap (r + 1) U := mxN_b _ _ _
    have Bat : Bf n m nr ap (r + 1) U = Bf n m nr ap r U ∨ ∃ j, j < m ∧ okk nr (n - r - 1) U j ∧ Bf n m nr ap (r + 1) U = 1000 - ap (n - r - 1) j + Bf n m nr ap r (U ||| 2 ^ j) := by
      rcases mxN_at (fun j => if nr (n - r - 1) j = true ∧ U.testBit j = false then 1000 - ap (n - r - 1) j + Bf n m nr ap r (U ||| 2 ^ j) else 0) (Bf n m nr ap r U) m with z | ⟨j, z1, z2⟩
      · left; exact z
      · by_cases q : nr (n - r - 1) j = true ∧ U.testBit j = false
        · rw [if_pos q] at z2
          right; exact ⟨j, z1, q, z2⟩
        · rw [if_neg q] at z2
          have e : Bf n m nr ap (r + 1) U = 0 := z2
          left; omega
    -- the choice's own numbers, and that no other beats it
    have key : ∀ j, GR n m nr ap r U j → (Sf n m nr ap (r + 1) U = if j = 8 then Sf n m nr ap r U else vl ap (n - r - 1) j + Sf n m nr ap r (U ||| 2 ^ j)) ∧ Dec n m nr ap (r + 1) U := by
      intro j hg
      rcases hg with ⟨rfl, hno⟩ | ⟨hj, hok, hB, hmin⟩
      · -- none is best
        have eB : Bf n m nr ap (r + 1) U = Bf n m nr ap r U := by
          rcases Bat with z | ⟨j, z1, z2, z3⟩
          · exact z
          · exact absurd z3.symm (hno j z1 z2)
        have eS : Sf n m nr ap (r + 1) U = Sf n m nr ap r U := by
          rcases Sat with z | ⟨j, z1, z2, z3⟩
          · exact z
          · exfalso
            obtain ⟨c, a, C, o1, o2, o3, o4, o5, o6⟩ := opt j z1 z2
            have b1 := Bge j z1 z2
            have b2 := hno j z1 z2
            have lt := two_ways (C := C) (C' := CN) o5 (by omega) (by
              have : (8 - j) * D ≤ 8 * D := Nat.mul_le_mul_right D (by omega)
              omega) na (by omega) (by rw [← o1, ← nB]; omega)
            omega
        refine ⟨by rw [if_pos rfl]; exact eS, cN, aN, CN, by rw [eB]; exact nB, by rw [eS]; exact nS, by rw [D1]; omega, na, by omega⟩
      · obtain ⟨c, a, C, o1, o2, o3, o4, o5, o6⟩ := opt j hj hok
        have hC8 : (8 - j) * D ≤ 8 * D := Nat.mul_le_mul_right D (by omega)
        have hj8 : D ≤ (8 - j) * D := by
          have : 1 * D ≤ (8 - j) * D := Nat.mul_le_mul_right D (by omega)
          omega
        have eS : Sf n m nr ap (r + 1) U = vl ap (n - r - 1) j + Sf n m nr ap r (U ||| 2 ^ j) := by
          have hle := Sge j hj hok
          rcases Sat with z | ⟨j', z1, z2, z3⟩
          · -- none can't be better
            rcases Nat.lt_or_ge (Bf n m nr ap r U) (Bf n m nr ap (r + 1) U) with y | y
            · have lt := two_ways (C := CN) (C' := C) na (by omega) (by omega) o5 (by omega) (by rw [← o1, ← nB, hB]; exact y)
              omega
            · have e1 : 1000 * cN - aN = 1000 * c - a := by rw [← nB, ← o1, hB]; omega
              obtain ⟨e2, e3⟩ := same_way na (by omega) o5 (by omega) e1
              subst e2 e3
              omega
          · obtain ⟨c', a', C', p1, p2, p3, p4, p5, p6⟩ := opt j' z1 z2
            have b1 := Bge j' z1 z2
            have hC8' : (8 - j') * D ≤ 8 * D := Nat.mul_le_mul_right D (by omega)
            rcases Nat.lt_or_ge (1000 - ap (n - r - 1) j' + Bf n m nr ap r (U ||| 2 ^ j')) (Bf n m nr ap (r + 1) U) with y | y
            · have lt := two_ways (C := C') (C' := C) p5 (by omega) (by omega) o5 (by omega) (by rw [← o1, ← p1, hB]; exact y)
              omega
            · have e1 : 1000 * c' - a' = 1000 * c - a := by rw [← p1, ← o1, hB]; omega
              obtain ⟨e2, e3⟩ := same_way p5 (by omega) o5 (by omega) e1
              subst e2 e3
              rcases Nat.lt_trichotomy j' j with w | w | w
              · exact absurd (by omega) (hmin j' w z2)
              · subst w; exact z3
              · have : (8 - j') * D + D ≤ (8 - j) * D := by
                  have : (8 - j' + 1) * D ≤ (8 - j) * D := Nat.mul_le_mul_right D (by omega)
                  rw [Nat.add_mul] at this
                  omega
                omega
        refine ⟨by rw [if_neg (by omega)]; exact eS, c, a, C, by rw [← hB]; exact o1, by rw [eS]; exact o2, by rw [D1]; omega, o5, by omega⟩
    obtain ⟨j, hj⟩ := GR_ex n m nr ap r U
    refine ⟨(key j hj).2, fun s hs j' hj' => ?_⟩
    have : s = r := by omega
    subst this
    exact (key j' hj').1
end MT
