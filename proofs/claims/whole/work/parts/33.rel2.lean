/-- the account of a house and kind: all its entries -/
def zacc (ne : Nat) (eh ek em : Nat → Int32) (a b : Nat) : Int := isum (fun e => if eh e = nI a ∧ ek e = nI b then (em e).toInt else 0) ne
/-- bounds: what k calls can bring about -/
def Jb (k np ne : Nat) (eh ek em lo bo br : Nat → Int32) (mb : Nat → Int64) : Prop := (∀ a b : Nat, -(100000 + 1000 * ((k : Int) + np)) ≤ zacc ne eh ek em a b ∧ zacc ne eh ek em a b ≤ 100000 + 1000 * ((k : Int) + np)) ∧ isum (fun i => ((lo i).toInt.natAbs : Int)) 60 ≤ 1000000 * (k : Int) ∧ ∀ b : Nat, b < 6 → (bo b).toInt - (br b).toInt = (mb b).toInt ∧ (mb b).toInt = isum (fun e => if ek e = nI b then (em e).toInt else 0) ne + isum (fun a => (lo (6 * a + b)).toInt) 10 ∧ 0 ≤ (bo b).toInt ∧ (bo b).toInt ≤ 1000 * (k : Int) ∧ 0 ≤ (br b).toInt ∧ (br b).toInt ≤ 1000000 * (k : Int)
/-- the states of class and reference belong together, k calls having been made -/
def JJ (k : Nat) (σ μ : zS) : Prop := ∃ d h kn ru ne cl nt np : Nat, Js d h kn ru ne cl nt np σ μ ∧ Je σ μ ∧ Jk kn (μ.1 0 1) (μ.1 0 2) ∧ Jl d h kn ne (σ.1 0 13) (μ.1 0 3) (μ.1 0 4) (μ.1 0 5) ∧ Jt d h kn nt σ μ ∧ Jp nt np σ μ ∧ (zvalT σ ∧ zvalP σ) ∧ Jd h (μ.1 0 22) (μ.1 0 21) ∧ Jc h (μ.1 0 23) (μ.1 0 24) (μ.1 0 25) ∧ Jb k np ne (μ.1 0 3) (μ.1 0 4) (μ.1 0 6) (μ.1 0 21) (σ.1 0 8) (σ.1 0 9) (μ.2.1 0 7)
theorem isum_0 {f : Nat → Int} (h : ∀ i, f i = 0) (n : Nat) : isum f n = 0 := by
  induction n with
  | zero => rfl
  | succ n ih => simp only [isum, ih, h n]; rfl
/-- the start -/
theorem JJ_0 : JJ 0 zσ0 zσ0 := by
  refine ⟨0, 0, 0, 0, 0, 0, 0, 0, ⟨⟨rfl, rfl⟩, ⟨rfl, rfl⟩, ⟨rfl, rfl⟩, ⟨rfl, rfl⟩, ⟨rfl, rfl⟩, ⟨rfl, rfl⟩, ⟨rfl, rfl⟩, ⟨rfl, rfl⟩, rfl, by omega⟩, ⟨rfl, rfl, rfl, rfl, rfl, rfl, rfl, rfl, rfl, rfl, rfl⟩, ⟨fun i h => absurd h (by omega), fun i _ => rfl⟩, fun e h => absurd h (by omega), ⟨fun t h => absurd h (by omega), fun t _ => rfl⟩, ⟨fun q h => absurd h (by omega), fun q _ => rfl, rfl⟩, ⟨fun q c i t _ h => (by cases h), fun i t h => (by cases h)⟩, ⟨fun k a b _ _ => ⟨0, by omega, rfl, fun _ => rfl⟩, fun i _ => rfl⟩, ⟨fun i => ⟨0, 0, by omega, by omega, rfl, rfl, fun _ => ⟨rfl, rfl⟩⟩, fun a b _ _ => ⟨0, by omega, rfl, fun _ => rfl⟩⟩, ?_⟩
  refine ⟨fun a b => ?_, ?_, fun b hb => ?_⟩
  · show _ ≤ (0 : Int) ∧ (0 : Int) ≤ _
    omega
  · have e : isum (fun i => ((zσ0.1 0 21 i).toInt.natAbs : Int)) 60 = 0 := isum_0 (fun i => rfl) 60
    rw [e]; omega
  · have e : isum (fun a => (zσ0.1 0 21 (6 * a + b)).toInt) 10 = 0 := isum_0 (fun i => rfl) 10
    refine ⟨rfl, ?_, ?_, ?_, ?_, ?_⟩
    · rw [e]; rfl
    · show (0 : Int) ≤ 0; omega
    · show (0 : Int) ≤ 1000 * 0; omega
    · show (0 : Int) ≤ 0; omega
    · show (0 : Int) ≤ 1000000 * 0; omega
