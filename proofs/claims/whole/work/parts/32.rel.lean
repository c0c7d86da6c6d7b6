/-! THE RELATION between the states of class and reference -/
def isum (f : Nat → Int) : Nat → Int
  | 0 => 0
  | n + 1 => isum f n + f n
/-- small numbers that both sides hold -/
def Js (d h kn ru ne cl nt np : Nat) (σ μ : zS) : Prop := (σ.1 0 0 0 = nI d ∧ μ.1 0 0 0 = nI d) ∧ (σ.1 0 0 1 = nI h ∧ μ.1 0 0 1 = nI h) ∧ (σ.1 0 0 2 = nI kn ∧ μ.1 0 0 2 = nI kn) ∧ (σ.1 0 0 3 = nI ru ∧ μ.1 0 0 22 = nI ru) ∧ (σ.1 0 1 4 = nI ne ∧ μ.1 0 0 5 = nI ne) ∧ (σ.1 0 1 5 = nI cl ∧ μ.1 0 0 11 = nI cl) ∧ (σ.1 0 2 4 = nI nt ∧ μ.1 0 0 13 = nI nt) ∧ (σ.1 0 2 5 = nI np ∧ μ.1 0 0 23 = nI np) ∧ σ.2.2.2 = (nt, np) ∧ (d ≤ 599 ∧ h ≤ 10 ∧ kn ≤ 6 ∧ ru ≤ 3 ∧ ne ≤ 2000 ∧ 30 * cl ≤ d ∧ nt ≤ 400 ∧ 2 * np ≤ nt)
/-- rows that both sides hold alike -/
def Je (σ μ : zS) : Prop := σ.1 0 6 = μ.1 0 1 ∧ σ.1 0 7 = μ.1 0 2 ∧ σ.1 0 14 = μ.1 0 5 ∧ σ.1 0 15 = μ.1 0 6 ∧ σ.1 0 10 = μ.1 0 21 ∧ σ.1 0 11 = μ.1 0 26 ∧ σ.2.1 0 12 = μ.2.1 0 8 ∧ σ.1 0 24 = μ.1 0 22 ∧ σ.1 0 28 = μ.1 0 23 ∧ σ.1 0 29 = μ.1 0 24 ∧ σ.1 0 30 = μ.1 0 25
/-- kinds: worth and fee -/
def Jk (kn : Nat) (wo fe : Nat → Int32) : Prop := (∀ i, i < kn → ∃ a b : Nat, wo i = nI a ∧ fe i = nI b ∧ 1 ≤ a ∧ a ≤ 1000 ∧ b ≤ 100) ∧ ∀ i, kn ≤ i → fe i = 0
/-- entries -/
def Jl (d h kn ne : Nat) (sl eh ek ed : Nat → Int32) : Prop := ∀ e, e < ne → ∃ a b x : Nat, a < h ∧ b < kn ∧ x ≤ d ∧ eh e = nI a ∧ ek e = nI b ∧ sl e = nI (6 * a + b) ∧ ed e = nI x
/-- tellings -/
def Jt (d h kn nt : Nat) (σ μ : zS) : Prop := (∀ t, t < nt → σ.2.2.1 0 17 t = some t ∧ σ.1 1 t 0 = nI t ∧ (∃ g : Nat, g ≤ 1 ∧ σ.1 1 t 1 = nI g ∧ μ.1 0 9 t = nI g) ∧ (∃ a b c : Nat, a < h ∧ b < h ∧ a ≠ b ∧ c < kn ∧ σ.1 1 t 2 = nI a ∧ μ.1 0 10 t = nI a ∧ σ.1 1 t 3 = nI b ∧ μ.1 0 11 t = nI b ∧ σ.1 1 t 4 = nI c ∧ μ.1 0 12 t = nI c) ∧ (∃ m : Nat, 1 ≤ m ∧ m ≤ 1000 ∧ σ.1 1 t 5 = nI m ∧ μ.1 0 13 t = nI m) ∧ (∃ x : Nat, x ≤ d ∧ σ.1 1 t 6 = nI x ∧ μ.1 0 14 t = nI x) ∧ (∃ s : Nat, s ≤ 2 ∧ σ.1 1 t 7 = nI s ∧ μ.1 0 15 t = nI s) ∧ σ.1 1 t 8 = μ.1 0 16 t) ∧ ∀ t, nt ≤ t → μ.1 0 15 t = 0
/-- pairs -/
def Jp (nt np : Nat) (σ μ : zS) : Prop := (∀ q, q < np → σ.2.2.1 0 18 q = some q ∧ (∃ g t : Nat, g < nt ∧ t < nt ∧ σ.2.2.1 2 q 0 = some g ∧ μ.1 0 17 q = nI g ∧ σ.2.2.1 2 q 1 = some t ∧ μ.1 0 18 q = nI t ∧ μ.1 0 10 g = μ.1 0 10 t ∧ μ.1 0 11 g = μ.1 0 11 t ∧ μ.1 0 12 g = μ.1 0 12 t) ∧ (∃ m : Nat, m ≤ 1000 ∧ σ.1 2 q 2 = nI m ∧ μ.1 0 19 q = nI m) ∧ (∃ j : Nat, j ≤ 1 ∧ σ.1 2 q 3 = nI j ∧ μ.1 0 20 q = nI j)) ∧ (∀ q, np ≤ q → μ.1 0 20 q = 0) ∧ isum (fun t => if μ.1 0 15 t = 1 then 1 else 0) nt = 2 * (np : Int)
/-- debts; nothing is lost at houses that aren't there -/
def Jd (h : Nat) (de lo : Nat → Int32) : Prop := (∀ k a b : Nat, a < 10 → b < 10 → ∃ x : Nat, x ≤ 100000 ∧ de (100 * k + 10 * a + b) = nI x ∧ (h ≤ a ∨ h ≤ b ∨ a = b → x = 0)) ∧ ∀ i, 6 * h ≤ i → lo i = 0
/-- empties, wants, ways -/
def Jc (h : Nat) (em wa wy : Nat → Int32) : Prop := (∀ i, ∃ x y : Nat, x ≤ 100 ∧ y ≤ 100 ∧ em i = nI x ∧ wa i = nI y ∧ (h ≤ i → x = 0 ∧ y = 0)) ∧ ∀ a b : Nat, a < 10 → b < 10 → ∃ x : Nat, x ≤ 1000 ∧ wy (10 * a + b) = nI x ∧ (a = b → x = 0)
