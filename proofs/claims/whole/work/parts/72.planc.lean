/-! the class's loops of the search -/
def ov (o : Option Nat) : Int32 := match o with
  | none => -1
  | some v => nI v
def RI (w : zS) (c n : Nat) (f : Nat → Int) : Prop := ∀ i, i < n → w.1 0 c i = Int32.ofInt (f i)
def RO (w : zS) (c n : Nat) (f : Nat → Option Nat) : Prop := ∀ i, i < n → w.1 0 c i = ov (f i)
def R2 (w : zS) (c : Nat) (f : Nat → Nat → Int) : Prop := ∀ g v, g < 10 → v < 10 → w.1 0 c (10 * g + v) = Int32.ofInt (f g v)
def sm (a : Int) : Prop := -2147483648 ≤ a ∧ a < 2147483648
theorem oI_le {a b : Int} (ha : sm a) (hb : sm b) : Int32.ofInt a ≤ Int32.ofInt b ↔ a ≤ b := by
  rw [Int32.le_iff_toInt_le, ofInt_bd ha.1 ha.2, ofInt_bd hb.1 hb.2]
theorem oI_lt {a b : Int} (ha : sm a) (hb : sm b) : Int32.ofInt a < Int32.ofInt b ↔ a < b := by
  rw [Int32.lt_iff_toInt_lt, ofInt_bd ha.1 ha.2, ofInt_bd hb.1 hb.2]
theorem oI_add (a b : Int) : Int32.ofInt a + Int32.ofInt b = Int32.ofInt (a + b) := (Int32.ofInt_add a b).symm
theorem oI_sub (a b : Int) : Int32.ofInt a - Int32.ofInt b = Int32.ofInt (a - b) := (Int32.ofInt_sub a b).symm
theorem oI_nat (n : Nat) : Int32.ofInt (n : Int) = nI n := rfl
/-- what the search reads and doesn't change -/
def SX (w : zS) (h : Nat) (c x : Nat → Nat → Int) : Prop := w.1 0 5 10 = nI h ∧ R2 w 30 c ∧ R2 w 31 x ∧ h ≤ 10 ∧ ∀ g v, g < h → v < h → 0 ≤ c g v ∧ c g v ≤ 1000 ∧ 0 ≤ x g v ∧ x g v ≤ 1000
theorem SX_fm {w w' : zS} {h : Nat} {c x : Nat → Nat → Int} {L : List Nat} (hS : SX w h c x) (hF : Fm L w w') (h5 : 5 ∉ L) (h30 : 30 ∉ L) (h31 : 31 ∉ L) : SX w' h c x := by
  obtain ⟨a1, a2, a3, a4, a5⟩ := hS
  refine ⟨?_, fun g v hg hv => ?_, fun g v hg hv => ?_, a4, a5⟩
  · rw [hF.2 0 5 (fun z => h5 z.2)]; exact a1
  · rw [hF.2 0 30 (fun z => h30 z.2)]; exact a2 g v hg hv
  · rw [hF.2 0 31 (fun z => h31 z.2)]; exact a3 g v hg hv
theorem RI_st {w : zS} {c n : Nat} {f : Nat → Int} (h : RI w c n f) (j : Nat) (v : Int) : RI (zsI w 0 c j (Int32.ofInt v)) c n (fun i => if i = j then v else f i) := by
  intro i hi
  rw [zsI_at]
  by_cases e : i = j
  · subst e; simp [pk_us]
  · simp only [pk_un e, if_neg e]; exact h i hi
theorem RI_ne {w : zS} {c c' n : Nat} {f : Nat → Int} (h : RI w c n f) (hc : c ≠ c') (j : Nat) (v : Int32) : RI (zsI w 0 c' j v) c n f := by
  intro i hi
  rw [zsI_ne w j v hc]
  exact h i hi
theorem RO_st {w : zS} {c n : Nat} {f : Nat → Option Nat} (h : RO w c n f) (j v : Nat) : RO (zsI w 0 c j (nI v)) c n (fun i => if i = j then some v else f i) := by
  intro i hi
  rw [zsI_at]
  by_cases e : i = j
  · subst e; simp [pk_us, ov]
  · simp only [pk_un e, if_neg e]; exact h i hi
theorem RO_ne {w : zS} {c c' n : Nat} {f : Nat → Option Nat} (h : RO w c n f) (hc : c ≠ c') (j : Nat) (v : Int32) : RO (zsI w 0 c' j v) c n f := by
  intro i hi
  rw [zsI_ne w j v hc]
  exact h i hi
def flg (b : Bool) : Int32 := if b then 1 else 0
/-- while wants are reached: givers below G are done, giver G for wants below W -/
def WI (h : Nat) (c : Nat → Nat → Int) (p q : Nat → Int) (o0 : Nat → Option Nat) (G W : Nat) (f : Nat → Int) (o : Nat → Option Nat) (fl : Bool) : Prop := (∀ v, v < h → f v = mnI (fun g => p g + c g v) (q v) (if v < W then G + 1 else G) ∧ ((f v = q v ∧ o v = o0 v) ∨ (f v < q v ∧ ∃ g, o v = some g ∧ g < h ∧ f v = p g + c g v))) ∧ ((fl = false ∧ ∀ v, v < h → f v = q v) ∨ (fl = true ∧ ∃ v, v < h ∧ f v < q v))
theorem WI_keep {h : Nat} {c : Nat → Nat → Int} {p q : Nat → Int} {o0 : Nat → Option Nat} {G W : Nat} {f : Nat → Int} {o : Nat → Option Nat} {fl : Bool} (hI : WI h c p q o0 G W f o fl) (hl : f W ≤ p G + c G W) : WI h c p q o0 G (W + 1) f o fl := by
  refine ⟨fun v hv => ⟨?_, (hI.1 v hv).2⟩, hI.2⟩
  have a := (hI.1 v hv).1
  by_cases e : v = W
  · subst e
    rw [if_neg (by omega)] at a
    rw [if_pos (by omega)]
    simp only [mnI]
    rw [← a]
    omega
  · by_cases e2 : v < W
    · rw [if_pos e2] at a; rw [if_pos (by omega)]; exact a
    · rw [if_neg e2] at a; rw [if_neg (by omega)]; exact a
theorem WI_set {h : Nat} {c : Nat → Nat → Int} {p q : Nat → Int} {o0 : Nat → Option Nat} {G W : Nat} {f : Nat → Int} {o : Nat → Option Nat} {fl : Bool} (hI : WI h c p q o0 G W f o fl) (hG : G < h) (hW : W < h) (hl : p G + c G W < f W) : WI h c p q o0 G (W + 1) (fun v => if v = W then p G + c G W else f v) (fun v => if v = W then some G else o v) true := by
  have up : ∀ v, v < h → f v ≤ q v := by
    intro v hv
    rcases (hI.1 v hv).2 with z | z
    · omega
    · omega
  refine ⟨fun v hv => ?_, Or.inr ⟨rfl, W, hW, ?_⟩⟩
  · have a := (hI.1 v hv).1
    by_cases e : v = W
    · subst e
      rw [if_neg (by omega)] at a
      rw [if_pos (by omega : v < v + 1)]
      simp only [if_true]
      refine ⟨?_, Or.inr ⟨?_, G, rfl, hG, rfl⟩⟩
      · simp only [mnI]
        rw [← a]
        omega
      · have := up v hv; omega
    · simp only [if_neg e]
      refine ⟨?_, (hI.1 v hv).2⟩
      by_cases e2 : v < W
      · rw [if_pos e2] at a; rw [if_pos (by omega)]; exact a
      · rw [if_neg e2] at a; rw [if_neg (by omega)]; exact a
  · simp only [if_true]
    have := up W hW
    omega
theorem WI_next {h : Nat} {c : Nat → Nat → Int} {p q : Nat → Int} {o0 : Nat → Option Nat} {G : Nat} {f : Nat → Int} {o : Nat → Option Nat} {fl : Bool} (hI : WI h c p q o0 G h f o fl) : WI h c p q o0 (G + 1) 0 f o fl := by
  refine ⟨fun v hv => ⟨?_, (hI.1 v hv).2⟩, hI.2⟩
  have a := (hI.1 v hv).1
  rw [if_pos hv] at a
  rw [if_neg (by omega)]
  exact a
theorem reachW_in {N h G : Nat} {c x : Nat → Nat → Int} {p q : Nat → Int} {o0 : Nat → Option Nat} {w0 w : zS} (hN : 1000000000 ≤ N) (hS : SX w0 h c x) (h34 : RI w0 34 h p) (hG : G < h) (hp : ∀ g, g < h → 0 ≤ p g ∧ p g ≤ 1000000000) (hq : ∀ v, v < h → 0 ≤ q v ∧ q v ≤ 1000000000) (hF : Fm [35, 36] w0 w) {f : Nat → Int} {o : Nat → Option Nat} {fl : Bool} (h35 : RI w 35 h f) (h36 : RO w 36 h o) (hI : WI h c p q o0 G 0 f o fl) (K : Int32 → Int32 → zS → Option (Int32 × zS)) : ∃ y w' f' o' fl', lX0_reachWants_28 N (nI G) K N (flg fl, (0 : Int32), w) = K (flg fl') y w' ∧ Fm [35, 36] w0 w' ∧ RI w' 35 h f' ∧ RO w' 36 h o' ∧ WI h c p q o0 (G + 1) 0 f' o' fl' := by
  obtain ⟨s1, s2, s3, s4, s5⟩ := hS
  unfold lX0_reachWants_28
  refine zlp_inv (fun W z => ∃ w f o fl, z = (flg fl, nI W, w) ∧ W ≤ h ∧ Fm [35, 36] w0 w ∧ RI w 35 h f ∧ RO w 36 h o ∧ WI h c p q o0 G W f o fl) (fun r => ∃ y w' f' o' fl', r = K (flg fl') y w' ∧ Fm [35, 36] w0 w' ∧ RI w' 35 h f' ∧ RO w' 36 h o' ∧ WI h c p q o0 (G + 1) 0 f' o' fl') h ?_ N 0 _ ⟨w, f, o, fl, rfl, by omega, hF, h35, h36, hI⟩ (by omega)
  rintro W z rc ⟨w, f, o, fl, rfl, hW, hF, h35, h36, hI⟩
  have e5 : w.1 0 5 10 = nI h := by rw [hF.2 0 5 (by decide)]; exact s1
  simp only [bX0_reachWants_28, e5]
  by_cases c1 : W = h
  · right
    rw [if_pos (nI_le (by omega) (by omega))]
    subst c1
    exact ⟨_, w, f, o, fl, rfl, hF, h35, h36, WI_next hI⟩
  left
  have hW2 : W < h := by omega
  refine ⟨hW2, ?_⟩
  have pb := hp G hG
  have cb := s5 G W hG hW2
  have fb : 0 ≤ f W ∧ f W ≤ 1000000000 := by
    have := hq W hW2
    rcases (hI.1 W hW2).2 with z | ⟨z1, g, z2, z3, z4⟩
    · omega
    · have := hp g z3
      have := s5 g W z3 hW2
      omega
  have e34 : w.1 0 34 G = Int32.ofInt (p G) := by rw [hF.2 0 34 (by decide)]; exact h34 G hG
  have e30 : w.1 0 30 (10 * G + W) = Int32.ofInt (c G W) := by rw [hF.2 0 30 (by decide)]; exact s2 G W (by omega) (by omega)
  rw [if_neg (nI_ge hW2 (by omega)), zld_at (by omega) (by omega), i10, zld_at (by omega) (by omega), zld_at (by omega) (by omega), e34, e30, h35 W hW2, oI_add]
  by_cases c2 : f W ≤ p G + c G W
  · rw [if_pos ((oI_le ⟨by omega, by omega⟩ ⟨by omega, by omega⟩).mpr c2), nI_1]
    exact ⟨_, ⟨w, f, o, fl, rfl, by omega, hF, h35, h36, WI_keep hI c2⟩, rfl⟩
  · rw [if_neg (fun z => c2 ((oI_le ⟨by omega, by omega⟩ ⟨by omega, by omega⟩).mp z)), zst_at (by omega) (by omega), zst_at (by omega) (by omega), nI_1]
    exact ⟨_, ⟨zsI (zsI w 0 35 W (Int32.ofInt (p G + c G W))) 0 36 W (nI G), _, _, true, rfl, by omega, Fm_st (Fm_st hF (by decide) _ _) (by decide) _ _, RI_ne (RI_st h35 W (p G + c G W)) (by decide) _ _, RO_st (RO_ne h36 (by decide) _ _) W G, WI_set hI hG hW2 (by omega)⟩, rfl⟩
theorem reachW_eq {N h : Nat} {c x : Nat → Nat → Int} {p q : Nat → Int} {o0 : Nat → Option Nat} {w0 : zS} (hN : 1000000000 ≤ N) (hS : SX w0 h c x) (h34 : RI w0 34 h p) (h35 : RI w0 35 h q) (h36 : RO w0 36 h o0) (hp : ∀ g, g < h → 0 ≤ p g ∧ p g ≤ 1000000000) (hq : ∀ v, v < h → 0 ≤ q v ∧ q v ≤ 1000000000) : ∃ w' f' o' fl', fX0_reachWants N w0 = some (flg fl', w') ∧ Fm [35, 36] w0 w' ∧ RI w' 35 h f' ∧ RO w' 36 h o' ∧ WI h c p q o0 h 0 f' o' fl' := by
  obtain ⟨s1, s2, s3, s4, s5⟩ := id hS
  unfold fX0_reachWants lX0_reachWants_4
  refine zlp_inv (fun G z => ∃ w f o fl, z = (flg fl, nI G, w) ∧ G ≤ h ∧ Fm [35, 36] w0 w ∧ RI w 35 h f ∧ RO w 36 h o ∧ WI h c p q o0 G 0 f o fl) (fun r => ∃ w' f' o' fl', r = some (flg fl', w') ∧ Fm [35, 36] w0 w' ∧ RI w' 35 h f' ∧ RO w' 36 h o' ∧ WI h c p q o0 h 0 f' o' fl') h ?_ N 0 _ ⟨w0, q, o0, false, rfl, by omega, Fm_refl _ _, h35, h36, fun v _ => ⟨by rw [if_neg (by omega)]; rfl, Or.inl ⟨rfl, rfl⟩⟩, Or.inl ⟨rfl, fun v _ => rfl⟩⟩ (by omega)
  rintro G z rc ⟨w, f, o, fl, rfl, hG, hF, h35, h36, hI⟩
  have e5 : w.1 0 5 10 = nI h := by rw [hF.2 0 5 (by decide)]; exact s1
  simp only [bX0_reachWants_4, e5]
  by_cases c1 : G = h
  · right
    rw [if_pos (nI_le (by omega) (by omega))]
    subst c1
    refine ⟨w, f, o, fl, ?_, hF, h35, h36, hI⟩
    rw [if_pos (by cases fl <;> simp [flg])]
  left
  have hG2 : G < h := by omega
  refine ⟨hG2, ?_⟩
  have pb := hp G hG2
  have e34 : w.1 0 34 G = Int32.ofInt (p G) := by rw [hF.2 0 34 (by decide)]; exact h34 G hG2
  rw [if_neg (nI_ge hG2 (by omega)), zld_at (by omega) (by omega), e34]
  by_cases c2 : p G < 1000000000
  · rw [if_pos (show Int32.ofInt (p G) < 1000000000 from (oI_lt (b := 1000000000) ⟨by omega, by omega⟩ ⟨by omega, by omega⟩).mpr c2)]
    obtain ⟨y, w', f', o', fl', e, k1, k2, k3, k4⟩ := reachW_in hN hS h34 hG2 hp hq hF h35 h36 hI (fun y7 y8 w9 => rc (y7, nI G + 1, w9))
    rw [e]
    exact ⟨_, ⟨w', f', o', fl', rfl, by omega, k1, k2, k3, k4⟩, by rw [nI_1]⟩
  · rw [if_neg (show ¬ Int32.ofInt (p G) < 1000000000 from fun z => c2 ((oI_lt (b := 1000000000) ⟨by omega, by omega⟩ ⟨by omega, by omega⟩).mp z)), nI_1]
    refine ⟨_, ⟨w, f, o, fl, rfl, by omega, hF, h35, h36, fun v hv => ⟨?_, (hI.1 v hv).2⟩, hI.2⟩, rfl⟩
    have a := (hI.1 v hv).1
    rw [if_neg (by omega)] at a ⊢
    simp only [mnI]
    rw [← a]
    have := hq v hv
    have := s5 G v hG2 hv
    have : f v ≤ q v := by rcases (hI.1 v hv).2 with z | z <;> omega
    omega
/-- while givers are reached -/
def GI (h : Nat) (c x : Nat → Nat → Int) (p q : Nat → Int) (o0 : Nat → Option Nat) (G W : Nat) (f : Nat → Int) (o : Nat → Option Nat) (fl : Bool) : Prop := (∀ g, g < h → f g = mnI (fun w => if 0 < x g w then q w - c g w else p g) (p g) (if g < G then h else if g = G then W else 0) ∧ ((f g = p g ∧ o g = o0 g) ∨ (f g < p g ∧ ∃ w, o g = some w ∧ w < h ∧ 0 < x g w ∧ f g = q w - c g w))) ∧ ((fl = false ∧ ∀ g, g < h → f g = p g) ∨ (fl = true ∧ ∃ g, g < h ∧ f g < p g))
theorem GI_keep {h : Nat} {c x : Nat → Nat → Int} {p q : Nat → Int} {o0 : Nat → Option Nat} {G W : Nat} {f : Nat → Int} {o : Nat → Option Nat} {fl : Bool} (hI : GI h c x p q o0 G W f o fl) (hl : 0 < x G W → f G ≤ q W - c G W) (hG : G < h) : GI h c x p q o0 G (W + 1) f o fl := by
  refine ⟨fun g hg => ⟨?_, (hI.1 g hg).2⟩, hI.2⟩
  have a := (hI.1 g hg).1
  by_cases e : g = G
  · subst e
    rw [if_neg (by omega), if_pos rfl] at a ⊢
    simp only [mnI]
    rw [← a]
    have : f g ≤ p g := by rcases (hI.1 g hg).2 with z | z <;> omega
    by_cases e2 : 0 < x g W
    · rw [if_pos e2]; have := hl e2; omega
    · rw [if_neg e2]; omega
  · rw [if_neg e] at a ⊢
    exact a
theorem GI_set {h : Nat} {c x : Nat → Nat → Int} {p q : Nat → Int} {o0 : Nat → Option Nat} {G W : Nat} {f : Nat → Int} {o : Nat → Option Nat} {fl : Bool} (hI : GI h c x p q o0 G W f o fl) (hG : G < h) (hW : W < h) (hx : 0 < x G W) (hl : q W - c G W < f G) : GI h c x p q o0 G (W + 1) (fun g => if g = G then q W - c G W else f g) (fun g => if g = G then some W else o g) true := by
  have up : f G ≤ p G := by rcases (hI.1 G hG).2 with z | z <;> omega
  refine ⟨fun g hg => ?_, Or.inr ⟨rfl, G, hG, ?_⟩⟩
  · have a := (hI.1 g hg).1
    by_cases e : g = G
    · subst e
      rw [if_neg (by omega), if_pos rfl] at a
      rw [if_neg (by omega : ¬ g < g), if_pos rfl]
      simp only [if_true]
      refine ⟨?_, Or.inr ⟨by omega, W, rfl, hW, hx, rfl⟩⟩
      simp only [mnI]
      rw [← a, if_pos hx]
      omega
    · simp only [if_neg e] at a ⊢
      exact ⟨a, (hI.1 g hg).2⟩
  · simp only [if_true]; omega
theorem GI_next {h : Nat} {c x : Nat → Nat → Int} {p q : Nat → Int} {o0 : Nat → Option Nat} {G : Nat} {f : Nat → Int} {o : Nat → Option Nat} {fl : Bool} (hI : GI h c x p q o0 G h f o fl) : GI h c x p q o0 (G + 1) 0 f o fl := by
  refine ⟨fun g hg => ⟨?_, (hI.1 g hg).2⟩, hI.2⟩
  have a := (hI.1 g hg).1
  by_cases e1 : g < G
  · rw [if_pos e1] at a; rw [if_pos (by omega)]; exact a
  · by_cases e2 : g = G
    · rw [if_neg e1, if_pos e2] at a; rw [if_pos (by omega)]; exact a
    · rw [if_neg e1, if_neg e2] at a
      rw [if_neg (by omega)]
      split <;> exact a
theorem reachG_in {N h G : Nat} {c x : Nat → Nat → Int} {p q : Nat → Int} {o0 : Nat → Option Nat} {w0 w : zS} (hN : 1000000000 ≤ N) (hS : SX w0 h c x) (h35 : RI w0 35 h q) (hG : G < h) (hp : ∀ g, g < h → 0 ≤ p g ∧ p g ≤ 1000000000) (hq : ∀ v, v < h → 0 ≤ q v ∧ q v ≤ 1000000000) (hF : Fm [34, 37] w0 w) {f : Nat → Int} {o : Nat → Option Nat} {fl : Bool} (h34 : RI w 34 h f) (h37 : RO w 37 h o) (hI : GI h c x p q o0 G 0 f o fl) (K : Int32 → Int32 → zS → Option (Int32 × zS)) : ∃ y w' f' o' fl', lX0_reachGivers_14 N (nI G) K N (flg fl, (0 : Int32), w) = K (flg fl') y w' ∧ Fm [34, 37] w0 w' ∧ RI w' 34 h f' ∧ RO w' 37 h o' ∧ GI h c x p q o0 (G + 1) 0 f' o' fl' := by
  obtain ⟨s1, s2, s3, s4, s5⟩ := hS
  unfold lX0_reachGivers_14
  refine zlp_inv (fun W z => ∃ w f o fl, z = (flg fl, nI W, w) ∧ W ≤ h ∧ Fm [34, 37] w0 w ∧ RI w 34 h f ∧ RO w 37 h o ∧ GI h c x p q o0 G W f o fl) (fun r => ∃ y w' f' o' fl', r = K (flg fl') y w' ∧ Fm [34, 37] w0 w' ∧ RI w' 34 h f' ∧ RO w' 37 h o' ∧ GI h c x p q o0 (G + 1) 0 f' o' fl') h ?_ N 0 _ ⟨w, f, o, fl, rfl, by omega, hF, h34, h37, hI⟩ (by omega)
  rintro W z rc ⟨w, f, o, fl, rfl, hW, hF, h34, h37, hI⟩
  have e5 : w.1 0 5 10 = nI h := by rw [hF.2 0 5 (by decide)]; exact s1
  simp only [bX0_reachGivers_14, e5]
  by_cases c1 : W = h
  · right
    rw [if_pos (nI_le (by omega) (by omega))]
    subst c1
    exact ⟨_, w, f, o, fl, rfl, hF, h34, h37, GI_next hI⟩
  left
  have hW2 : W < h := by omega
  refine ⟨hW2, ?_⟩
  have qb := hq W hW2
  have cb := s5 G W hG hW2
  have fb : -1000 ≤ f G ∧ f G ≤ 1000000000 := by
    have := hp G hG
    rcases (hI.1 G hG).2 with z | ⟨z1, v, z2, z3, z4, z5⟩
    · omega
    · have := hq v z3
      have := s5 G v hG z3
      omega
  have e35 : w.1 0 35 W = Int32.ofInt (q W) := by rw [hF.2 0 35 (by decide)]; exact h35 W hW2
  have e30 : w.1 0 30 (10 * G + W) = Int32.ofInt (c G W) := by rw [hF.2 0 30 (by decide)]; exact s2 G W (by omega) (by omega)
  have e31 : w.1 0 31 (10 * G + W) = Int32.ofInt (x G W) := by rw [hF.2 0 31 (by decide)]; exact s3 G W (by omega) (by omega)
  rw [if_neg (nI_ge hW2 (by omega)), zld_at (by omega) (by omega), i10, zld_at (by omega) (by omega), zld_at (by omega) (by omega), e35, e30, e31, oI_sub]
  by_cases c0 : x G W ≤ 0
  · rw [if_pos (show Int32.ofInt (x G W) ≤ 0 from (oI_le (b := 0) ⟨by omega, by omega⟩ ⟨by omega, by omega⟩).mpr c0), nI_1]
    exact ⟨_, ⟨w, f, o, fl, rfl, by omega, hF, h34, h37, GI_keep hI (fun z => by omega) hG⟩, rfl⟩
  rw [if_neg (show ¬ Int32.ofInt (x G W) ≤ 0 from fun z => c0 ((oI_le (b := 0) ⟨by omega, by omega⟩ ⟨by omega, by omega⟩).mp z)), zld_at (by omega) (by omega), h34 G hG]
  by_cases c2 : f G ≤ q W - c G W
  · rw [if_pos ((oI_le ⟨by omega, by omega⟩ ⟨by omega, by omega⟩).mpr c2), nI_1]
    exact ⟨_, ⟨w, f, o, fl, rfl, by omega, hF, h34, h37, GI_keep hI (fun _ => c2) hG⟩, rfl⟩
  · rw [if_neg (fun z => c2 ((oI_le ⟨by omega, by omega⟩ ⟨by omega, by omega⟩).mp z)), zst_at (by omega) (by omega), zst_at (by omega) (by omega), nI_1]
    exact ⟨_, ⟨zsI (zsI w 0 34 G (Int32.ofInt (q W - c G W))) 0 37 G (nI W), _, _, true, rfl, by omega, Fm_st (Fm_st hF (by decide) _ _) (by decide) _ _, RI_ne (RI_st h34 G (q W - c G W)) (by decide) _ _, RO_st (RO_ne h37 (by decide) _ _) G W, GI_set hI hG hW2 (by omega) (by omega)⟩, rfl⟩
theorem reachG_eq {N h : Nat} {c x : Nat → Nat → Int} {p q : Nat → Int} {o0 : Nat → Option Nat} {w0 : zS} (hN : 1000000000 ≤ N) (hS : SX w0 h c x) (h34 : RI w0 34 h p) (h35 : RI w0 35 h q) (h37 : RO w0 37 h o0) (hp : ∀ g, g < h → 0 ≤ p g ∧ p g ≤ 1000000000) (hq : ∀ v, v < h → 0 ≤ q v ∧ q v ≤ 1000000000) : ∃ w' f' o' fl', fX0_reachGivers N w0 = some (flg fl', w') ∧ Fm [34, 37] w0 w' ∧ RI w' 34 h f' ∧ RO w' 37 h o' ∧ GI h c x p q o0 h 0 f' o' fl' := by
  obtain ⟨s1, s2, s3, s4, s5⟩ := id hS
  unfold fX0_reachGivers lX0_reachGivers_4
  refine zlp_inv (fun G z => ∃ w f o fl, z = (flg fl, nI G, w) ∧ G ≤ h ∧ Fm [34, 37] w0 w ∧ RI w 34 h f ∧ RO w 37 h o ∧ GI h c x p q o0 G 0 f o fl) (fun r => ∃ w' f' o' fl', r = some (flg fl', w') ∧ Fm [34, 37] w0 w' ∧ RI w' 34 h f' ∧ RO w' 37 h o' ∧ GI h c x p q o0 h 0 f' o' fl') h ?_ N 0 _ ⟨w0, p, o0, false, rfl, by omega, Fm_refl _ _, h34, h37, fun v _ => ⟨by rw [if_neg (by omega)]; split <;> rfl, Or.inl ⟨rfl, rfl⟩⟩, Or.inl ⟨rfl, fun v _ => rfl⟩⟩ (by omega)
  rintro G z rc ⟨w, f, o, fl, rfl, hG, hF, h34, h37, hI⟩
  have e5 : w.1 0 5 10 = nI h := by rw [hF.2 0 5 (by decide)]; exact s1
  simp only [bX0_reachGivers_4, e5]
  by_cases c1 : G = h
  · right
    rw [if_pos (nI_le (by omega) (by omega))]
    subst c1
    refine ⟨w, f, o, fl, ?_, hF, h34, h37, hI⟩
    rw [if_pos (by cases fl <;> simp [flg])]
  left
  have hG2 : G < h := by omega
  refine ⟨hG2, ?_⟩
  rw [if_neg (nI_ge hG2 (by omega))]
  obtain ⟨y, w', f', o', fl', e, k1, k2, k3, k4⟩ := reachG_in hN hS h35 hG2 hp hq hF h34 h37 hI (fun y7 y8 w9 => rc (y7, nI G + 1, w9))
  rw [e]
  exact ⟨_, ⟨w', f', o', fl', rfl, by omega, k1, k2, k3, k4⟩, by rw [nI_1]⟩
