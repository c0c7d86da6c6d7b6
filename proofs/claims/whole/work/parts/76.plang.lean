/-! the reference's search -/
def bgv (o : Option Nat) : Int32 := match o with
  | none => -9
  | some v => nI (10 + v)
def bwv (o : Option Nat) : Int32 := match o with
  | none => -9
  | some g => nI g
/-- far and by, as numbers -/
def RM (w : zS) (h : Nat) (p q : Nat → Int) (bw bg : Nat → Option Nat) : Prop := (∀ g, g < h → w.1 0 33 g = Int32.ofInt (p g) ∧ w.1 0 34 g = bgv (bg g)) ∧ ∀ v, v < h → w.1 0 33 (10 + v) = Int32.ofInt (q v) ∧ w.1 0 34 (10 + v) = bwv (bw v)
/-- what holds while the search goes on; Tg, Tw: when each was last made cheaper -/
def SI (h : Nat) (c x : Nat → Nat → Int) (P Q p0 : Nat → Int) (p q : Nat → Int) (bw bg : Nat → Option Nat) (Tg Tw : Nat → Nat) (clk : Nat) : Prop := (∀ g, g < h → P g ≤ p g ∧ p g ≤ p0 g) ∧ (∀ v, v < h → Q v ≤ q v ∧ 0 ≤ q v ∧ q v ≤ 1000000) ∧ (∀ v, v < h → (bw v = none ∧ q v = 1000000) ∨ ∃ g, g < h ∧ bw v = some g ∧ ((q v = p g + c g v ∧ Tg g < Tw v) ∨ p g + c g v < q v)) ∧ (∀ g, g < h → (bg g = none ∧ p g = p0 g) ∨ ∃ v, v < h ∧ bg g = some v ∧ 0 < x g v ∧ ((p g = q v - c g v ∧ Tw v < Tg g) ∨ q v - c g v < p g)) ∧ (∀ g, g < h → Tg g ≤ clk) ∧ (∀ v, v < h → Tw v ≤ clk) ∧ (clk : Int) + (isum p h + isum q h) ≤ 20000000
/-- what the reference's plan so far is like -/
def PM (h : Nat) (c x : Nat → Nat → Int) (P Q p0 : Nat → Int) : Prop := h ≤ 10 ∧ (∀ g v, g < h → v < h → 0 ≤ c g v ∧ c g v ≤ 1000 ∧ 0 ≤ x g v ∧ x g v ≤ 1000) ∧ (∀ g v, g < h → v < h → Q v ≤ P g + c g v ∧ (0 < x g v → P g + c g v ≤ Q v)) ∧ ∀ g, g < h → 0 ≤ P g ∧ p0 g ≤ 1000000
theorem SI_want {h : Nat} {c x : Nat → Nat → Int} {P Q p0 p q : Nat → Int} {bw bg : Nat → Option Nat} {Tg Tw : Nat → Nat} {clk : Nat} (hM : PM h c x P Q p0) (hS : SI h c x P Q p0 p q bw bg Tg Tw clk) {g v : Nat} (hg : g < h) (hv : v < h) (hl : p g + c g v < q v) : SI h c x P Q p0 p (fun y => if y = v then p g + c g v else q y) (fun y => if y = v then some g else bw y) bg Tg (fun y => if y = v then clk + 1 else Tw y) (clk + 1) := by
  obtain ⟨m1, m2, m3, m4⟩ := hM
  obtain ⟨s1, s2, s3, s4, s5, s6, s7⟩ := hS
  refine ⟨s1, fun y hy => ?_, fun y hy => ?_, fun y hy => ?_, fun y hy => by have := s5 y hy; omega, fun y hy => ?_, ?_⟩
  · by_cases e : y = v
    · subst e
      simp only [if_true]
      have a1 := (m3 g y hg hy).1
      have a2 := (s1 g hg).1
      have a3 := (m4 g hg).1
      have a4 := (m2 g y hg hy).1
      have a5 := (s2 y hy)
      omega
    · simp only [if_neg e]; exact s2 y hy
  · by_cases e : y = v
    · subst e
      simp only [if_true]
      exact Or.inr ⟨g, hg, rfl, Or.inl ⟨rfl, by have := s5 g hg; omega⟩⟩
    · simp only [if_neg e]; exact s3 y hy
  · rcases s4 y hy with z | ⟨u, z1, z2, z3, z4⟩
    · exact Or.inl z
    · refine Or.inr ⟨u, z1, z2, z3, ?_⟩
      by_cases e : u = v
      · subst e
        simp only [if_true]
        right
        rcases z4 with z4 | z4 <;> omega
      · simp only [if_neg e]; exact z4
  · by_cases e : y = v
    · simp only [if_pos e]; omega
    · simp only [if_neg e]; have := s6 y hy; omega
  · have e : isum (fun y => if y = v then p g + c g v else q y) h = isum q h - q v + (if v = v then p g + c g v else q v) := isum_one hv (fun i _ hn => if_neg hn)
    rw [if_pos rfl] at e
    rw [e]
    omega
theorem SI_giver {h : Nat} {c x : Nat → Nat → Int} {P Q p0 p q : Nat → Int} {bw bg : Nat → Option Nat} {Tg Tw : Nat → Nat} {clk : Nat} (hM : PM h c x P Q p0) (hS : SI h c x P Q p0 p q bw bg Tg Tw clk) {g v : Nat} (hg : g < h) (hv : v < h) (hx : 0 < x g v) (hl : q v - c g v < p g) : SI h c x P Q p0 (fun y => if y = g then q v - c g v else p y) q bw (fun y => if y = g then some v else bg y) (fun y => if y = g then clk + 1 else Tg y) Tw (clk + 1) := by
  obtain ⟨m1, m2, m3, m4⟩ := hM
  obtain ⟨s1, s2, s3, s4, s5, s6, s7⟩ := hS
  refine ⟨fun y hy => ?_, s2, fun y hy => ?_, fun y hy => ?_, fun y hy => ?_, fun y hy => by have := s6 y hy; omega, ?_⟩
  · by_cases e : y = g
    · subst e
      simp only [if_true]
      have a1 := (m3 y v hy hv).2 hx
      have a2 := (s2 v hv).1
      have a3 := s1 y hy
      omega
    · simp only [if_neg e]; exact s1 y hy
  · rcases s3 y hy with z | ⟨u, z1, z2, z3⟩
    · exact Or.inl z
    · refine Or.inr ⟨u, z1, z2, ?_⟩
      by_cases e : u = g
      · subst e
        simp only [if_true]
        right
        rcases z3 with z3 | z3 <;> omega
      · simp only [if_neg e]; exact z3
  · by_cases e : y = g
    · subst e
      simp only [if_true]
      exact Or.inr ⟨v, hv, rfl, hx, Or.inl ⟨rfl, by have := s6 v hv; omega⟩⟩
    · simp only [if_neg e]; exact s4 y hy
  · by_cases e : y = g
    · simp only [if_pos e]; omega
    · simp only [if_neg e]; have := s5 y hy; omega
  · have e : isum (fun y => if y = g then q v - c g v else p y) h = isum p h - p g + (if g = g then q v - c g v else p g) := isum_one hg (fun i _ hn => if_neg hn)
    rw [if_pos rfl] at e
    rw [e]
    omega
/-- pairs ahead of (a, b) are settled -/
def FX (h : Nat) (c x : Nat → Nat → Int) (a b : Nat) (p q : Nat → Int) : Prop := ∀ g v, (g < a ∨ (g = a ∧ v < b)) → g < h → v < h → q v ≤ p g + c g v ∧ (0 < x g v → p g ≤ q v - c g v)
def Phi (h : Nat) (p q : Nat → Int) : Int := isum p h + isum q h
/-- a state of the search -/
def SS (h : Nat) (c x : Nat → Nat → Int) (P Q p0 : Nat → Int) (w0 w : zS) (a b : Nat) (F0 : Int) (fl : Bool) : Prop := ∃ p q bw bg Tg Tw clk, Fm [33, 34] w0 w ∧ RM w h p q bw bg ∧ SI h c x P Q p0 p q bw bg Tg Tw clk ∧ (fl = false → FX h c x a b p q) ∧ Phi h p q ≤ F0 ∧ (fl = true → Phi h p q < F0)
/-- what the search reads -/
def SM (w : zS) (h : Nat) (c x : Nat → Nat → Int) : Prop := w.1 0 0 1 = nI h ∧ R2 w 25 c ∧ R2 w 32 x
theorem i1010 (v : Nat) : (10 : Int32) + nI v = nI (10 + v) := by rw [show (10 : Int32) = nI 10 from rfl, nI_add]
theorem RM_want {w : zS} {h : Nat} {p q : Nat → Int} {bw bg : Nat → Option Nat} (hh : h ≤ 10) (hR : RM w h p q bw bg) {v : Nat} (g : Nat) (d : Int) : RM (zsI (zsI w 0 33 (10 + v) (Int32.ofInt d)) 0 34 (10 + v) (nI g)) h p (fun y => if y = v then d else q y) (fun y => if y = v then some g else bw y) bg := by
  refine ⟨fun y hy => ⟨?_, ?_⟩, fun y hy => ⟨?_, ?_⟩⟩
  · rw [zsI_ne _ _ _ (by decide), zsI_at, pk_un (by omega)]; exact (hR.1 y hy).1
  · rw [zsI_at, pk_un (by omega), zsI_ne _ _ _ (by decide)]; exact (hR.1 y hy).2
  · rw [zsI_ne _ _ _ (by decide), zsI_at]
    by_cases e : y = v
    · subst e; simp [pk_us]
    · simp only [if_neg e]; rw [pk_un (by omega)]; exact (hR.2 y hy).1
  · rw [zsI_at]
    by_cases e : y = v
    · subst e; simp [pk_us, bwv]
    · simp only [if_neg e]; rw [pk_un (by omega), zsI_ne _ _ _ (by decide)]; exact (hR.2 y hy).2
theorem RM_giver {w : zS} {h : Nat} {p q : Nat → Int} {bw bg : Nat → Option Nat} (hh : h ≤ 10) (hR : RM w h p q bw bg) {g : Nat} (hg : g < 10) (v : Nat) (d : Int) : RM (zsI (zsI w 0 33 g (Int32.ofInt d)) 0 34 g (nI (10 + v))) h (fun y => if y = g then d else p y) q bw (fun y => if y = g then some v else bg y) := by
  refine ⟨fun y hy => ⟨?_, ?_⟩, fun y hy => ⟨?_, ?_⟩⟩
  · rw [zsI_ne _ _ _ (by decide), zsI_at]
    by_cases e : y = g
    · subst e; simp [pk_us]
    · simp only [if_neg e]; rw [pk_un e]; exact (hR.1 y hy).1
  · rw [zsI_at]
    by_cases e : y = g
    · subst e; simp [pk_us, bgv]
    · simp only [if_neg e]; rw [pk_un e, zsI_ne _ _ _ (by decide)]; exact (hR.1 y hy).2
  · rw [zsI_ne _ _ _ (by decide), zsI_at, pk_un (by omega)]; exact (hR.2 y hy).1
  · rw [zsI_at, pk_un (by omega), zsI_ne _ _ _ (by decide)]; exact (hR.2 y hy).2
theorem pass_in {N h a : Nat} {c x : Nat → Nat → Int} {P Q p0 : Nat → Int} {w0 w : zS} {F0 : Int} {fl : Bool} (hN : 1000000000 ≤ N) (hM : PM h c x P Q p0) (hS : SM w0 h c x) (ha : a < h) (hI : SS h c x P Q p0 w0 w a 0 F0 fl) (K : Int32 → Int32 → zS → Option (Int32 × zS)) : ∃ y w' fl', lX8_carryOne_70 N (nI a) K N (flg fl, (0 : Int32), w) = K (flg fl') y w' ∧ SS h c x P Q p0 w0 w' (a + 1) 0 F0 fl' := by
  obtain ⟨m1, m2, m3, m4⟩ := id hM
  obtain ⟨r1, r2, r3⟩ := hS
  unfold lX8_carryOne_70
  refine zlp_inv (fun b z => ∃ w fl, z = (flg fl, nI b, w) ∧ b ≤ h ∧ SS h c x P Q p0 w0 w a b F0 fl) (fun r => ∃ y w' fl', r = K (flg fl') y w' ∧ SS h c x P Q p0 w0 w' (a + 1) 0 F0 fl') h ?_ N 0 _ ⟨w, fl, rfl, by omega, hI⟩ (by omega)
  rintro b z rc ⟨w, fl, rfl, hb, p, q, bw, bg, Tg, Tw, clk, hF, hR, hSI, hfx, hphi, hphi2⟩
  have e1 : w.1 0 0 1 = nI h := by rw [hF.2 0 0 (by decide)]; exact r1
  simp only [bX8_carryOne_70, e1]
  by_cases c1 : b = h
  · right
    rw [if_pos (nI_le (by omega) (by omega))]
    refine ⟨_, w, fl, rfl, p, q, bw, bg, Tg, Tw, clk, hF, hR, hSI, fun hf g v h1 h2 h3 => hfx hf g v (by omega) h2 h3, hphi, hphi2⟩
  left
  have hb2 : b < h := by omega
  refine ⟨hb2, ?_⟩
  have e25 : ∀ g v, g < 10 → v < 10 → w.1 0 25 (10 * g + v) = Int32.ofInt (c g v) := fun g v hg hv => by rw [hF.2 0 25 (by decide)]; exact r2 g v hg hv
  have e32 : w.1 0 32 (10 * a + b) = Int32.ofInt (x a b) := by rw [hF.2 0 32 (by decide)]; exact r3 a b (by omega) (by omega)
  have pb := hSI.1 a ha
  have pb2 := m4 a ha
  have qb := hSI.2.1 b hb2
  have cb := m2 a b ha hb2
  rw [if_neg (nI_ge hb2 (by omega))]
  simp only [i1010, i10', zld_at (show a < 20 by omega) (show 20 < 2 ^ 31 by omega), zld_at (show 10 + b < 20 by omega) (show 20 < 2 ^ 31 by omega), zld_at (show 10 * a + b < 100 by omega) (show 100 < 2 ^ 31 by omega), (hR.1 a ha).1, (hR.2 b hb2).1, e25 a b (by omega) (by omega), e32, oI_add, oI_sub, nI_1]
  by_cases c2 : q b ≤ p a + c a b
  · rw [if_pos ((oI_le ⟨by omega, by omega⟩ ⟨by omega, by omega⟩).mpr c2)]
    have settle : (0 < x a b → p a ≤ q b - c a b) → ∃ s', (∃ w fl, s' = (flg fl, nI (b + 1), w) ∧ b + 1 ≤ h ∧ SS h c x P Q p0 w0 w a (b + 1) F0 fl) ∧ rc (flg fl, nI (b + 1), w) = rc s' := by
      intro hk
      refine ⟨_, ⟨w, fl, rfl, by omega, p, q, bw, bg, Tg, Tw, clk, hF, hR, hSI, fun hf g v h1 h2 h3 => ?_, hphi, hphi2⟩, rfl⟩
      by_cases e : g = a ∧ v = b
      · obtain ⟨rfl, rfl⟩ := e
        exact ⟨c2, hk⟩
      · exact hfx hf g v (by omega) h2 h3
    by_cases c3 : x a b ≤ 0
    · rw [if_pos (show Int32.ofInt (x a b) ≤ 0 from (oI_le (b := 0) ⟨by omega, by omega⟩ ⟨by omega, by omega⟩).mpr c3)]
      exact settle (fun z => by omega)
    rw [if_neg (show ¬ Int32.ofInt (x a b) ≤ 0 from fun z => c3 ((oI_le (b := 0) ⟨by omega, by omega⟩ ⟨by omega, by omega⟩).mp z))]
    by_cases c4 : p a ≤ q b - c a b
    · rw [if_pos ((oI_le ⟨by omega, by omega⟩ ⟨by omega, by omega⟩).mpr c4)]
      exact settle (fun _ => c4)
    · rw [if_neg (fun z => c4 ((oI_le ⟨by omega, by omega⟩ ⟨by omega, by omega⟩).mp z)), zst_at (by omega) (by omega), zst_at (by omega) (by omega)]
      refine ⟨_, ⟨zsI (zsI w 0 33 a (Int32.ofInt (q b - c a b))) 0 34 a (nI (10 + b)), true, rfl, by omega, _, _, _, _, _, _, _, Fm_st (Fm_st hF (by decide) _ _) (by decide) _ _, RM_giver m1 hR (by omega) b (q b - c a b), SI_giver hM hSI ha hb2 (by omega) (by omega), (fun z => by cases z), ?_, fun _ => ?_⟩, rfl⟩
      all_goals
        unfold Phi at hphi ⊢
        have e : isum (fun y => if y = a then q b - c a b else p y) h = isum p h - p a + (if a = a then q b - c a b else p a) := isum_one ha (fun i _ hn => if_neg hn)
        rw [if_pos rfl] at e
        rw [e]
        omega
  · rw [if_neg (fun z => c2 ((oI_le ⟨by omega, by omega⟩ ⟨by omega, by omega⟩).mp z)), zst_at (by omega) (by omega), zst_at (by omega) (by omega)]
    have hR' := RM_want m1 hR (v := b) a (p a + c a b)
    have e32' : (zsI (zsI w 0 33 (10 + b) (Int32.ofInt (p a + c a b))) 0 34 (10 + b) (nI a)).1 0 32 (10 * a + b) = Int32.ofInt (x a b) := by rw [zsI_ne _ _ _ (by decide), zsI_ne _ _ _ (by decide)]; exact e32
    have e25' : (zsI (zsI w 0 33 (10 + b) (Int32.ofInt (p a + c a b))) 0 34 (10 + b) (nI a)).1 0 25 (10 * a + b) = Int32.ofInt (c a b) := by rw [zsI_ne _ _ _ (by decide), zsI_ne _ _ _ (by decide)]; exact e25 a b (by omega) (by omega)
    have q' := (hR'.2 b hb2).1
    simp only [if_true] at q'
    have p' := (hR'.1 a ha).1
    simp only [zld_at (show a < 20 by omega) (show 20 < 2 ^ 31 by omega), zld_at (show 10 + b < 20 by omega) (show 20 < 2 ^ 31 by omega), zld_at (show 10 * a + b < 100 by omega) (show 100 < 2 ^ 31 by omega), e32', e25', q', p', oI_sub]
    rw [show p a + c a b - c a b = p a by omega, if_pos (Int32.le_refl (Int32.ofInt (p a)))]
    rw [show (if Int32.ofInt (x a b) ≤ 0 then rc (1, nI (b + 1), zsI (zsI w 0 33 (10 + b) (Int32.ofInt (p a + c a b))) 0 34 (10 + b) (nI a)) else rc (1, nI (b + 1), zsI (zsI w 0 33 (10 + b) (Int32.ofInt (p a + c a b))) 0 34 (10 + b) (nI a))) = rc (1, nI (b + 1), zsI (zsI w 0 33 (10 + b) (Int32.ofInt (p a + c a b))) 0 34 (10 + b) (nI a)) by split <;> rfl]
    refine ⟨_, ⟨zsI (zsI w 0 33 (10 + b) (Int32.ofInt (p a + c a b))) 0 34 (10 + b) (nI a), true, rfl, by omega, _, _, _, _, _, _, _, Fm_st (Fm_st hF (by decide) _ _) (by decide) _ _, hR', SI_want hM hSI ha hb2 (by omega), (fun z => by cases z), ?_, fun _ => ?_⟩, rfl⟩
    all_goals
      unfold Phi at hphi ⊢
      have e : isum (fun y => if y = b then p a + c a b else q y) h = isum q h - q b + (if b = b then p a + c a b else q b) := isum_one hb2 (fun i _ hn => if_neg hn)
      rw [if_pos rfl] at e
      rw [e]
      omega
theorem pass_eq {N h : Nat} {c x : Nat → Nat → Int} {P Q p0 : Nat → Int} {w0 w : zS} {F0 : Int} (hN : 1000000000 ≤ N) (hM : PM h c x P Q p0) (hS : SM w0 h c x) (hI : SS h c x P Q p0 w0 w 0 0 F0 false) (K : Int32 → Int32 → zS → Option (Int32 × zS)) : ∃ y w' fl', lX8_carryOne_60 N K N ((0 : Int32), (0 : Int32), w) = K (flg fl') y w' ∧ SS h c x P Q p0 w0 w' h 0 F0 fl' := by
  obtain ⟨r1, r2, r3⟩ := id hS
  have m1 := hM.1
  unfold lX8_carryOne_60
  refine zlp_inv (fun a z => ∃ w fl, z = (flg fl, nI a, w) ∧ a ≤ h ∧ SS h c x P Q p0 w0 w a 0 F0 fl) (fun r => ∃ y w' fl', r = K (flg fl') y w' ∧ SS h c x P Q p0 w0 w' h 0 F0 fl') h ?_ N 0 _ ⟨w, false, rfl, by omega, hI⟩ (by omega)
  rintro a z rc ⟨w, fl, rfl, ha, hI⟩
  have hF : Fm [33, 34] w0 w := by obtain ⟨p, q, bw, bg, Tg, Tw, clk, hF, -⟩ := hI; exact hF
  have e1 : w.1 0 0 1 = nI h := by rw [hF.2 0 0 (by decide)]; exact r1
  simp only [bX8_carryOne_60, e1]
  by_cases c1 : a = h
  · right
    rw [if_pos (nI_le (by omega) (by omega))]
    subst c1
    exact ⟨_, w, fl, rfl, hI⟩
  left
  refine ⟨by omega, ?_⟩
  rw [if_neg (nI_ge (by omega) (by omega))]
  obtain ⟨y, w', fl', e, k⟩ := pass_in (a := a) hN hM hS (by omega) hI (fun y34 y35 w36 => rc (y34, nI a + 1, w36))
  rw [e]
  exact ⟨_, ⟨w', fl', rfl, by omega, k⟩, by rw [nI_1]⟩
