/-! from kit/laws/BITS.to-paste: two rows -/
theorem pf_lI {a : Nat} (h : a < 2 ^ 63) : (lN a).toInt = (a : Int) := lg_ofNat_toInt h
theorem pf_shr {a d : Nat} {D : Int64} (hD : (D.toBitVec.smod 64).toNat = d) (h : a < 2 ^ 62) : lN a >>> D = lN (a / 2 ^ d) := by
  have hd : a / 2 ^ d ≤ a := Nat.div_le_self _ _
  apply Int64.toInt_inj.mp
  have e : (lN a >>> D).toInt = (lN a).toInt >>> d := by
    rw [← hD]
    exact BitVec.toInt_sshiftRight ..
  rw [e, Int.shiftRight_eq_div_pow, pf_lI (by omega), pf_lI (by omega)]
  rfl
/-! bits of small sets -/
theorem bits1 : ∀ s, s < 256 → ∀ t, t < 8 → (s.testBit t = true → (s - 2 ^ t).testBit t = false ∧ (s - 2 ^ t) ||| 2 ^ t = s ∧ s - 2 ^ t < s) ∧ (s.testBit t = false → (s ||| 2 ^ t).testBit t = true ∧ (s ||| 2 ^ t) - 2 ^ t = s ∧ s ||| 2 ^ t < 256) := by decide +kernel
theorem bits2 : ∀ s, s < 256 → ∀ t, t < 8 → ((nI s >>> (nI t &&& 31)) &&& 1) = (if s.testBit t = true then (1 : Int32) else 0) ∧ (nI s ||| ((1 : Int32) <<< (nI t &&& 31))) = nI (s ||| 2 ^ t) ∧ (nI s &&& (((1 : Int32) <<< (nI t &&& 31)) ^^^ (-1))) = nI (if s.testBit t = true then s - 2 ^ t else s) := by decide +kernel
theorem bits3 : ∀ m, m < 9 → ((1 : Int32) <<< (nI m &&& 31)) = nI (2 ^ m) ∧ 2 ^ m ≤ 256 ∧ 1 ≤ 2 ^ m := by decide +kernel
theorem bits4 : ∀ g, g < 8 → ∀ t, t < 8 → ((8 : Int32) - nI t).toInt64 <<< (((4 : Int32) * ((7 : Int32) - nI g)).toInt64 &&& 63) = lN ((8 - t) * 16 ^ (7 - g)) := by decide +kernel
theorem bits5 : ∀ g, g < 8 → ((((4 : Int32) * ((7 : Int32) - nI g)).toInt64 &&& 63).toBitVec.smod 64).toNat = 4 * (7 - g) := by decide +kernel
theorem bits6 {s m t : Nat} (hs : s < 2 ^ m) (ht : t < m) : s ||| 2 ^ t < 2 ^ m := Nat.or_lt_two_pow hs (Nat.pow_lt_pow_right (by omega) ht)
section GS
variable {n m : Nat} {nr : Nat → Nat → Bool} {ap : Nat → Nat → Nat}
theorem GR_uq (hm : m ≤ 8) {r U j j' : Nat} (h1 : GR n m nr ap r U j) (h2 : GR n m nr ap r U j') : j = j' := by
  rcases h1 with ⟨a1, a2⟩ | ⟨a1, a2, a3, a4⟩
  · rcases h2 with ⟨b1, b2⟩ | ⟨b1, b2, b3, b4⟩
    · omega
    · exact absurd b3 (a2 j' b1 b2)
  · rcases h2 with ⟨b1, b2⟩ | ⟨b1, b2, b3, b4⟩
    · exact absurd a3 (b2 j a1 a2)
    · rcases Nat.lt_trichotomy j j' with q | q | q
      · exact absurd a3 (b4 j q a2)
      · exact q
      · exact absurd b3 (a4 j' q b2)
end GS
/-- the reference's choices, give by give -/
noncomputable def gch (n m : Nat) (nr : Nat → Nat → Bool) (ap : Nat → Nat → Nat) (r U : Nat) : Nat := Classical.choose (GR_ex n m nr ap r U)
noncomputable def Us (n m : Nat) (nr : Nat → Nat → Bool) (ap : Nat → Nat → Nat) : Nat → Nat
  | 0 => 0
  | i + 1 => if gch n m nr ap (n - i - 1) (Us n m nr ap i) = 8 then Us n m nr ap i else Us n m nr ap i ||| 2 ^ gch n m nr ap (n - i - 1) (Us n m nr ap i)
noncomputable def chs (n m : Nat) (nr : Nat → Nat → Bool) (ap : Nat → Nat → Nat) (i : Nat) : Nat := gch n m nr ap (n - i - 1) (Us n m nr ap i)
section GT
variable {n m : Nat} {nr : Nat → Nat → Bool} {ap : Nat → Nat → Nat}
theorem chs_gr (i : Nat) : GR n m nr ap (n - i - 1) (Us n m nr ap i) (chs n m nr ap i) := Classical.choose_spec (GR_ex n m nr ap (n - i - 1) (Us n m nr ap i))
theorem Us_succ (i : Nat) : Us n m nr ap (i + 1) = if chs n m nr ap i = 8 then Us n m nr ap i else Us n m nr ap i ||| 2 ^ chs n m nr ap i := rfl
theorem chs_lt (i : Nat) : chs n m nr ap i = 8 ∨ chs n m nr ap i < m := by
  rcases chs_gr (n := n) (m := m) (nr := nr) (ap := ap) i with ⟨a, -⟩ | ⟨a, -⟩
  · exact Or.inl a
  · exact Or.inr a
theorem Us_lt (i : Nat) : Us n m nr ap i < 2 ^ m := by
  induction i with
  | zero => exact Nat.two_pow_pos m
  | succ i ih =>
    rw [Us_succ]
    by_cases e : chs n m nr ap i = 8
    · rw [if_pos e]; exact ih
    · rw [if_neg e]
      rcases chs_lt (n := n) (m := m) (nr := nr) (ap := ap) i with z | z
      · exact absurd z e
      · exact bits6 ih z
/-- all the choices in one number -/
theorem digits (hn : n ≤ 8) (hm : m ≤ 8) (hap : ∀ i j, nr i j = true → ap i j ≤ 3) : ∀ i, i ≤ n → ∃ X, Sf n m nr ap n 0 = 16 ^ (8 - i) * X + Sf n m nr ap (n - i) (Us n m nr ap i) := by
  intro i
  induction i with
  | zero => intro _; exact ⟨0, by simp [Us]⟩
  | succ i ih =>
    intro hi
    obtain ⟨X, hX⟩ := ih (by omega)
    have st := ((SB (ap := ap) (nr := nr) hn hm hap (n - i) (by omega) (Us n m nr ap i)).2 (n - i - 1) (by omega) _ (chs_gr i))
    rw [show n - (n - i - 1) - 1 = i by omega] at st
    have e16 : 16 ^ (8 - i) = 16 * 16 ^ (8 - (i + 1)) := by rw [show 8 - i = (8 - (i + 1)) + 1 by omega, Nat.pow_succ, Nat.mul_comm]
    rw [hX, st, Us_succ, show n - (i + 1) = n - i - 1 by omega, e16]
    by_cases e : chs n m nr ap i = 8
    · rw [if_pos e, if_pos e]
      exact ⟨16 * X, by rw [Nat.mul_assoc, Nat.mul_left_comm]⟩
    · rw [if_neg e, if_neg e]
      obtain ⟨D, eD⟩ : ∃ D, D = 16 ^ (8 - (i + 1)) := ⟨_, rfl⟩
      have eD2 : 16 ^ (7 - i) = D := by rw [eD]; congr 1; omega
      have e32 : 4294967296 = D * 16 ^ (i + 1) := by
        rw [eD, ← Nat.pow_add, show 8 - (i + 1) + (i + 1) = 8 by omega]
      rw [← eD]
      refine ⟨16 * X + ((256 - ap i (chs n m nr ap i)) * 16 ^ (i + 1) + (8 - chs n m nr ap i)), ?_⟩
      unfold vl
      rw [eD2, e32, Nat.mul_add, Nat.mul_add]
      have a1 : 16 * D * X = D * (16 * X) := by rw [Nat.mul_comm 16 D, Nat.mul_assoc]
      have a2 : (256 - ap i (chs n m nr ap i)) * (D * 16 ^ (i + 1)) = D * ((256 - ap i (chs n m nr ap i)) * 16 ^ (i + 1)) := by rw [Nat.mul_left_comm]
      have a3 : (8 - chs n m nr ap i) * D = D * (8 - chs n m nr ap i) := Nat.mul_comm _ _
      omega
theorem digit (hn : n ≤ 8) (hm : m ≤ 8) (hap : ∀ i j, nr i j = true → ap i j ≤ 3) {i : Nat} (hi : i < n) : Sf n m nr ap n 0 / 16 ^ (7 - i) % 16 = if chs n m nr ap i = 8 then 0 else 8 - chs n m nr ap i := by
  obtain ⟨X, hX⟩ := digits (ap := ap) (nr := nr) hn hm hap i (by omega)
  have st := ((SB (ap := ap) (nr := nr) hn hm hap (n - i) (by omega) (Us n m nr ap i)).2 (n - i - 1) (by omega) _ (chs_gr i))
  rw [show n - (n - i - 1) - 1 = i by omega] at st
  have e16 : 16 ^ (8 - i) = 16 * 16 ^ (7 - i) := by rw [show 8 - i = (7 - i) + 1 by omega, Nat.pow_succ, Nat.mul_comm]
  have e32 : 4294967296 = 16 ^ (7 - i) * (16 * 16 ^ i) := by
    rw [show 16 * 16 ^ i = 16 ^ (i + 1) by rw [Nat.pow_succ, Nat.mul_comm], ← Nat.pow_add, show 7 - i + (i + 1) = 8 by omega]
  obtain ⟨D, eD⟩ : ∃ D, D = 16 ^ (7 - i) := ⟨_, rfl⟩
  have Dp : 0 < D := by rw [eD]; exact Nat.pow_pos (by omega)
  rw [← eD] at e16 e32
  rw [hX, st, e16, ← eD]
  have low : ∀ U, ∃ Z C, Sf n m nr ap (n - i - 1) U = D * (16 * Z) + C ∧ C < D := by
    intro U
    obtain ⟨c, a, C, -, d2, d3, -⟩ := (SB (ap := ap) (nr := nr) hn hm hap (n - i - 1) (by omega) U).1
    rw [show 8 - n + (n - i - 1) = 7 - i by omega, ← eD] at d3
    refine ⟨(256 * c - a) * 16 ^ i, C, ?_, d3⟩
    rw [d2, e32]
    congr 1
    rw [Nat.mul_left_comm (256 * c - a) D, Nat.mul_left_comm (256 * c - a) 16]
  have fin : ∀ Y d C, d < 16 → C < D → (D * (16 * Y + d) + C) / D % 16 = d := by
    intro Y d C hd hC
    rw [Nat.add_comm, Nat.add_mul_div_left _ _ Dp, Nat.div_eq_of_lt hC, Nat.zero_add, Nat.mul_add_mod, Nat.mod_eq_of_lt hd]
  by_cases e : chs n m nr ap i = 8
  · rw [if_pos e, if_pos e]
    obtain ⟨Z, C, h1, h2⟩ := low (Us n m nr ap i)
    rw [h1]
    have e1 : 16 * D * X + (D * (16 * Z) + C) = D * (16 * (X + Z) + 0) + C := by
      have a1 : 16 * D * X = D * (16 * X) := by rw [Nat.mul_comm 16 D, Nat.mul_assoc]
      rw [a1]
      simp only [Nat.mul_add]
      omega
    rw [e1]
    exact fin (X + Z) 0 C (by omega) h2
  · rw [if_neg e, if_neg e]
    obtain ⟨Z, C, h1, h2⟩ := low (Us n m nr ap i ||| 2 ^ chs n m nr ap i)
    rw [h1]
    unfold vl
    rw [← eD, e32]
    obtain ⟨d, hd⟩ : ∃ d, d = 8 - chs n m nr ap i := ⟨_, rfl⟩
    obtain ⟨A, hA⟩ : ∃ A, A = 256 - ap i (chs n m nr ap i) := ⟨_, rfl⟩
    rw [← hd, ← hA]
    have e1 : 16 * D * X + (A * (D * (16 * 16 ^ i)) + d * D + (D * (16 * Z) + C)) = D * (16 * (X + A * 16 ^ i + Z) + d) + C := by
      have a1 : 16 * D * X = D * (16 * X) := by rw [Nat.mul_comm 16 D, Nat.mul_assoc]
      have a2 : A * (D * (16 * 16 ^ i)) = D * (16 * (A * 16 ^ i)) := by rw [Nat.mul_left_comm _ D, Nat.mul_left_comm _ 16]
      have a3 : d * D = D * d := Nat.mul_comm _ _
      rw [a1, a2, a3]
      simp only [Nat.mul_add]
      omega
    rw [e1]
    exact fin (X + A * 16 ^ i + Z) d C (by omega) h2
theorem Sf_bd (hn : n ≤ 8) (hm : m ≤ 8) (hap : ∀ i j, nr i j = true → ap i j ≤ 3) {r : Nat} (hr : r ≤ n) (U : Nat) : Sf n m nr ap r U < 17592186044416 := by
  obtain ⟨c, a, C, -, d2, d3, -, d5⟩ := (SB (ap := ap) (nr := nr) hn hm hap r hr U).1
  have : 16 ^ (8 - n + r) ≤ 16 ^ 8 := Nat.pow_le_pow_right (by omega) (by omega)
  have e : (16 : Nat) ^ 8 = 4294967296 := by decide
  have : (256 * c - a) * 4294967296 ≤ 2048 * 4294967296 := Nat.mul_le_mul_right _ (by omega)
  omega
/-- the class's row of best numbers, g gives done -/
def FI (n m : Nat) (nr : Nat → Nat → Bool) (ap : Nat → Nat → Nat) (g : Nat) (β : Nat → Option Nat) : Prop := (∀ s b, s < 2 ^ m → β s = some b → b + Sf n m nr ap (n - g) s ≤ Sf n m nr ap n 0) ∧ ∃ s b, s < 2 ^ m ∧ β s = some b ∧ b + Sf n m nr ap (n - g) s = Sf n m nr ap n 0
/-- a set's number, when takes below t have been tried -/
def PA (m : Nat) (nr : Nat → Nat → Bool) (ap : Nat → Nat → Nat) (g : Nat) (β : Nat → Option Nat) (s t : Nat) (v : Option Nat) : Prop := (∀ b, β s = some b → ∃ b', v = some b' ∧ b ≤ b') ∧ (∀ u b, u < t → s.testBit u = true → nr g u = true → β (s - 2 ^ u) = some b → ∃ b', v = some b' ∧ b + vl ap g u ≤ b') ∧ ∀ b', v = some b' → β s = some b' ∨ ∃ u b, u < t ∧ s.testBit u = true ∧ nr g u = true ∧ β (s - 2 ^ u) = some b ∧ b' = b + vl ap g u
theorem FI_step (hm : m ≤ 8) {g : Nat} (hg : g < n) {β β' : Nat → Option Nat} (hF : FI n m nr ap g β) (hA : ∀ s, s < 2 ^ m → PA m nr ap g β s m (β' s)) : FI n m nr ap (g + 1) β' := by
  have p256 : 2 ^ m ≤ 256 := (bits3 m (by omega)).2.1
  obtain ⟨r, hr⟩ : ∃ r, n - g = r + 1 := ⟨n - g - 1, by omega⟩
  have hr2 : n - (g + 1) = r := by omega
  have hgi : n - r - 1 = g := by omega
  have Sge : ∀ U j, j < m → nr g j = true → U.testBit j = false → vl ap g j + Sf n m nr ap r (U ||| 2 ^ j) ≤ Sf n m nr ap (r + 1) U := by
    intro U j hj h1 h2
    have := mxN_le (fun j => if nr (n - r - 1) j = true ∧ U.testBit j = false then vl ap (n - r - 1) j + Sf n m nr ap r (U ||| 2 ^ j) else 0) (Sf n m nr ap r U) hj
    rw [hgi] at this
    simp only [if_pos (show nr g j = true ∧ U.testBit j = false from ⟨h1, h2⟩)] at this
    have e : Sf n m nr ap (r + 1) U = mxN (fun j => if nr g j = true ∧ U.testBit j = false then vl ap g j + Sf n m nr ap r (U ||| 2 ^ j) else 0) (Sf n m nr ap r U) m := by
      rw [← hgi]; rfl
    rw [e]
    exact this
  have SgeN : ∀ U, Sf n m nr ap r U ≤ Sf n m nr ap (r + 1) U := fun U => mxN_b _ _ _
  have Sat : ∀ U, Sf n m nr ap (r + 1) U = Sf n m nr ap r U ∨ ∃ j, j < m ∧ nr g j = true ∧ U.testBit j = false ∧ Sf n m nr ap (r + 1) U = vl ap g j + Sf n m nr ap r (U ||| 2 ^ j) := by
    intro U
    rcases mxN_at (fun j => if nr (n - r - 1) j = true ∧ U.testBit j = false then vl ap (n - r - 1) j + Sf n m nr ap r (U ||| 2 ^ j) else 0) (Sf n m nr ap r U) m with z | ⟨j, z1, z2⟩
    · left; exact z
    · rw [hgi] at z2
      by_cases q : nr g j = true ∧ U.testBit j = false
      · rw [if_pos q] at z2
        right
        refine ⟨j, z1, q.1, q.2, ?_⟩
        rw [← z2, ← hgi]; rfl
      · rw [if_neg q] at z2
        have e : Sf n m nr ap (r + 1) U = 0 := by rw [← z2, ← hgi]; rfl
        have := SgeN U
        left; omega
  obtain ⟨f1, s0, b0, f2, f3, f4⟩ := hF
  rw [hr] at f1 f4
  have up : ∀ s b, s < 2 ^ m → β' s = some b → b + Sf n m nr ap r s ≤ Sf n m nr ap n 0 := by
    intro s b hs hb
    obtain ⟨-, -, a3⟩ := hA s hs
    rcases a3 b hb with z | ⟨t, c, z1, z2, z3, z4, z5⟩
    · have := f1 s b hs z
      have := SgeN s
      omega
    · obtain ⟨y1, y2, y3⟩ := (bits1 s (by omega) t (by omega)).1 z2
      have := f1 (s - 2 ^ t) c (by omega) z4
      have := Sge (s - 2 ^ t) t z1 z3 y1
      rw [y2] at this
      omega
  refine ⟨by rw [hr2]; exact up, ?_⟩
  rw [hr2]
  rcases Sat s0 with z | ⟨j, z1, z2, z3, z4⟩
  · obtain ⟨b', y1, y2⟩ := (hA s0 f2).1 b0 f3
    have := up s0 b' f2 y1
    exact ⟨s0, b', f2, y1, by omega⟩
  · have q := (bits1 s0 (by omega) j (by omega)).2 z3
    have hs : s0 ||| 2 ^ j < 2 ^ m := bits6 f2 z1
    obtain ⟨b', y1, y2⟩ := (hA (s0 ||| 2 ^ j) hs).2.1 j b0 z1 q.1 z2 (by rw [q.2.1]; exact f3)
    have := up (s0 ||| 2 ^ j) b' hs y1
    exact ⟨s0 ||| 2 ^ j, b', hs, y1, by omega⟩
end GT
