theorem left_eq {N h k : Nat} {e : Nat → Int} {x : Nat → Nat → Int} {w : zS} (hN : 1000000000 ≤ N) (hh : h ≤ 10) (e1 : w.1 0 0 1 = nI h) (h23 : RI w 23 10 e) (h32 : R2 w 32 x) (hk : k < 10) : fX8_left N (nI k) w = some (Int32.ofInt (e k - rs h x k), w) := by
  unfold fX8_left lX8_left_9
  rw [zld_at hk (by omega), h23 k hk]
  have := zlp_for (st := fun i => (Int32.ofInt (e k - isum (fun v => x k v) i), nI i, w)) (E := h) (b := fun rc s => bX8_left_9 N (nI k) (fun y3 y4 w5 => some (y3, w5)) rc s.1 s.2.1 s.2.2) (r := some (Int32.ofInt (e k - rs h x k), w)) (fun i hi rc => ?_) (fun rc => ?_) N 0 (by omega) (by omega)
  · simp only [isum, Int.sub_zero] at this
    exact this
  · simp only [bX8_left_9, e1, if_neg (nI_ge hi (show h < 2 ^ 31 by omega)), i10', zld_at (show 10 * k + i < 100 by omega) (show 100 < 2 ^ 31 by omega), h32 k i hk (by omega), oI_sub, nI_1, isum]
    rw [show e k - isum (fun v => x k v) i - x k i = e k - (isum (fun v => x k v) i + x k i) by omega]
  · simp only [bX8_left_9, e1, if_pos (nI_le (Nat.le_refl h) (show h < 2 ^ 31 by omega))]
    rfl
theorem lacks_eq {N h k : Nat} {wn : Nat → Int} {x : Nat → Nat → Int} {w : zS} (hN : 1000000000 ≤ N) (hh : h ≤ 10) (e1 : w.1 0 0 1 = nI h) (h24 : RI w 24 10 wn) (h32 : R2 w 32 x) (hk : k < 10) : fX8_lacks N (nI k) w = some (Int32.ofInt (wn k - cs h x k), w) := by
  unfold fX8_lacks lX8_lacks_9
  rw [zld_at hk (by omega), h24 k hk]
  have := zlp_for (st := fun i => (Int32.ofInt (wn k - isum (fun v => x v k) i), nI i, w)) (E := h) (b := fun rc s => bX8_lacks_9 N (nI k) (fun y3 y4 w5 => some (y3, w5)) rc s.1 s.2.1 s.2.2) (r := some (Int32.ofInt (wn k - cs h x k), w)) (fun i hi rc => ?_) (fun rc => ?_) N 0 (by omega) (by omega)
  · simp only [isum, Int.sub_zero] at this
    exact this
  · simp only [bX8_lacks_9, e1, if_neg (nI_ge hi (show h < 2 ^ 31 by omega)), i10', zld_at (show 10 * i + k < 100 by omega) (show 100 < 2 ^ 31 by omega), h32 i k (by omega) hk, oI_sub, nI_1, isum]
    rw [show wn k - isum (fun v => x v k) i - x i k = wn k - (isum (fun v => x v k) i + x i k) by omega]
  · simp only [bX8_lacks_9, e1, if_pos (nI_le (Nat.le_refl h) (show h < 2 ^ 31 by omega))]
    rfl
/-- the start of the reference's search -/
def INM (w : zS) (h : Nat) (e : Nat → Int) (x : Nat → Nat → Int) (n : Nat) : Prop := ∀ i, i < n → w.1 0 33 i = Int32.ofInt (if i < h ∧ 0 < e i - rs h x i then 0 else 1000000) ∧ w.1 0 34 i = -9
theorem initM {N h : Nat} {e : Nat → Int} {x : Nat → Nat → Int} {w : zS} (hN : 1000000000 ≤ N) (hh : h ≤ 10) (e1 : w.1 0 0 1 = nI h) (h23 : RI w 23 10 e) (h32 : R2 w 32 x) (hsm : ∀ g, g < h → sm (e g - rs h x g)) (K : Int32 → zS → Option (Int32 × zS)) : ∃ y w', lX8_carryOne_2 N K N ((0 : Int32), w) = K y w' ∧ Fm [33, 34] w w' ∧ INM w' h e x 20 := by
  unfold lX8_carryOne_2
  refine zlp_inv (fun k z => ∃ w1, z = (nI k, w1) ∧ k ≤ 20 ∧ Fm [33, 34] w w1 ∧ INM w1 h e x k) (fun r => ∃ y w', r = K y w' ∧ Fm [33, 34] w w' ∧ INM w' h e x 20) 20 ?_ N 0 _ ⟨w, rfl, by omega, Fm_refl _ _, fun i hi => by omega⟩ (by omega)
  rintro k z rc ⟨w1, rfl, hk, hF, hI⟩
  have k1 : w1.1 0 0 1 = nI h := by rw [hF.2 0 0 (by decide)]; exact e1
  simp only [bX8_carryOne_2, k1]
  by_cases c1 : k = 20
  · right
    subst c1
    rw [if_pos (by decide)]
    exact ⟨_, w1, rfl, hF, hI⟩
  left
  have hk2 : k < 20 := by omega
  refine ⟨hk2, ?_⟩
  rw [if_neg (show ¬ (20 : Int32) ≤ nI k from nI_ge (b := 20) hk2 (by omega))]
  have fin : ∀ v : Int, v = (if k < h ∧ 0 < e k - rs h x k then 0 else 1000000) → Fm [33, 34] w (zsI (zsI w1 0 33 k (Int32.ofInt v)) 0 34 k (-9)) ∧ INM (zsI (zsI w1 0 33 k (Int32.ofInt v)) 0 34 k (-9)) h e x (k + 1) := by
    intro v hv
    refine ⟨Fm_st (Fm_st hF (by decide) _ _) (by decide) _ _, fun i hi => ?_⟩
    by_cases q : i = k
    · subst q
      exact ⟨by simp [zsI, upd, hv], by simp [zsI, upd]⟩
    · obtain ⟨a1, a2⟩ := hI i (by omega)
      exact ⟨by simpa [zsI, upd, q] using a1, by simpa [zsI, upd, q] using a2⟩
  have big : (¬ (k < h ∧ 0 < e k - rs h x k)) → ∃ s', (∃ w1, s' = (nI (k + 1), w1) ∧ k + 1 ≤ 20 ∧ Fm [33, 34] w w1 ∧ INM w1 h e x (k + 1)) ∧ (zst w1 33 20 (nI k) (1000000 : Int32) fun w5 => zst w5 34 20 (nI k) (-9 : Int32) fun w6 => rc (nI k + 1, w6)) = rc s' := by
    intro hn
    rw [zst_at hk2 (by omega), zst_at hk2 (by omega), nI_1]
    have := fin 1000000 (by rw [if_neg hn])
    exact ⟨_, ⟨_, rfl, by omega, this.1, this.2⟩, rfl⟩
  by_cases c2 : h ≤ k
  · rw [if_pos (nI_le c2 (by omega))]
    exact big (fun z => by omega)
  · rw [if_neg (nI_ge (by omega) (by omega)), left_eq hN hh k1 (fun i hi => by rw [hF.2 0 23 (by decide)]; exact h23 i hi) (fun g v hg hv => by rw [hF.2 0 32 (by decide)]; exact h32 g v hg hv) (by omega)]
    simp only [zbi]
    by_cases c3 : e k - rs h x k ≤ 0
    · rw [if_pos (show Int32.ofInt (e k - rs h x k) ≤ 0 from (oI_le (b := 0) (hsm k (by omega)) ⟨by omega, by omega⟩).mpr c3)]
      exact big (fun z => by omega)
    · rw [if_neg (show ¬ Int32.ofInt (e k - rs h x k) ≤ 0 from fun z => c3 ((oI_le (b := 0) (hsm k (by omega)) ⟨by omega, by omega⟩).mp z)), zst_at hk2 (by omega), zst_at hk2 (by omega), nI_1]
      have := fin 0 (by rw [if_pos ⟨by omega, by omega⟩])
      exact ⟨_, ⟨_, rfl, by omega, this.1, this.2⟩, rfl⟩
theorem endM {N h : Nat} {wn q : Nat → Int} {x : Nat → Nat → Int} {w : zS} (y : Int32) (hN : 1000000000 ≤ N) (hh : h ≤ 10) (e1 : w.1 0 0 1 = nI h) (h24 : RI w 24 10 wn) (h32 : R2 w 32 x) (hsm : ∀ g, g < h → sm (wn g - cs h x g)) (hex : ∃ v, v < h ∧ 0 < wn v - cs h x v) (K : Int32 → Int32 → zS → Option (Int32 × zS)) : ∃ u E, lX8_carryOne_250 N y K N ((-9 : Int32), (0 : Int32), w) = K (nI E) u w ∧ E < h ∧ 0 < wn E - cs h x E := by
  unfold lX8_carryOne_250
  refine zlp_inv (fun k z => ∃ b : Int32, z = (b, nI k, w) ∧ k ≤ h ∧ ((b = -9 ∧ ∀ v, v < k → wn v - cs h x v ≤ 0) ∨ ∃ v, v < h ∧ b = nI v ∧ 0 < wn v - cs h x v)) (fun r => ∃ u E, r = K (nI E) u w ∧ E < h ∧ 0 < wn E - cs h x E) h ?_ N 0 _ ⟨-9, rfl, by omega, Or.inl ⟨rfl, fun v hv => by omega⟩⟩ (by omega)
  rintro k z rc ⟨b, rfl, hk, hb⟩
  simp only [bX8_carryOne_250, e1]
  by_cases c1 : k = h
  · right
    rw [if_pos (nI_le (by omega) (by omega))]
    rcases hb with ⟨-, z⟩ | ⟨v, z1, rfl, z2⟩
    · obtain ⟨v, h1, h2⟩ := hex
      have := z v (by omega)
      omega
    · exact ⟨_, v, rfl, z1, z2⟩
  left
  have hk2 : k < h := by omega
  refine ⟨hk2, ?_⟩
  rw [if_neg (nI_ge hk2 (by omega)), lacks_eq hN hh e1 h24 h32 (by omega)]
  simp only [zbi, nI_1]
  by_cases c2 : wn k - cs h x k ≤ 0
  · rw [if_pos (show Int32.ofInt (wn k - cs h x k) ≤ 0 from (oI_le (b := 0) (hsm k hk2) ⟨by omega, by omega⟩).mpr c2)]
    refine ⟨_, ⟨b, rfl, by omega, ?_⟩, rfl⟩
    rcases hb with ⟨z0, z⟩ | z
    · refine Or.inl ⟨z0, fun v hv => ?_⟩
      by_cases q : v = k
      · subst q; exact c2
      · exact z v (by omega)
    · exact Or.inr z
  rw [if_neg (show ¬ Int32.ofInt (wn k - cs h x k) ≤ 0 from fun z => c2 ((oI_le (b := 0) (hsm k hk2) ⟨by omega, by omega⟩).mp z))]
  have take : ∃ s', (∃ b : Int32, s' = (b, nI (k + 1), w) ∧ k + 1 ≤ h ∧ ((b = -9 ∧ ∀ v, v < k + 1 → wn v - cs h x v ≤ 0) ∨ ∃ v, v < h ∧ b = nI v ∧ 0 < wn v - cs h x v)) ∧ rc (nI k, nI (k + 1), w) = rc s' := ⟨_, ⟨nI k, rfl, by omega, Or.inr ⟨k, hk2, rfl, by omega⟩⟩, rfl⟩
  rcases hb with ⟨rfl, z⟩ | ⟨v, z1, rfl, z2⟩
  · rw [if_pos rfl]
    exact take
  · have nv : ¬ nI v = -9 := fun z => by
      have := congrArg Int32.toInt z
      rw [nI_toInt (by omega)] at this
      have : (-9 : Int32).toInt = -9 := rfl
      omega
    rw [if_neg nv]
    simp only [i1010, zld_at (show 10 + k < 20 by omega) (show 20 < 2 ^ 31 by omega), zld_at (show 10 + v < 20 by omega) (show 20 < 2 ^ 31 by omega)]
    by_cases c4 : w.1 0 33 (10 + v) ≤ w.1 0 33 (10 + k)
    · rw [if_pos c4]
      exact ⟨_, ⟨nI v, rfl, by omega, Or.inr ⟨v, z1, rfl, z2⟩⟩, rfl⟩
    · rw [if_neg c4]
      exact take
theorem nI_m9 {v : Nat} (h : v < 2 ^ 31) : ¬ nI v = -9 := fun z => by
  have := congrArg Int32.toInt z
  rw [nI_toInt h] at this
  have : (-9 : Int32).toInt = -9 := rfl
  omega
/-- the walk back along the chain -/
theorem walkM {N h E : Nat} {c x : Nat → Nat → Int} {e wn p q : Nat → Int} {B : Int} {gw : Nat → Nat} {bw fw : Nat → Option Nat} {tw tg : Nat → Nat} {T : Nat} {w : zS} (y1 y2 y3 : Int32) (hN : 1000000000 ≤ N) (hT : 2 * T + 5 < N) (hh : h ≤ 10) (hc : ∀ g v, g < h → v < h → 0 ≤ c g v) (hF : Feas h e wn x) (hP : PC h c e B x p q) (hC : Chn h c x e p q gw fw tw tg T) (hq : ∀ v, v < h → q v ≤ 1000) (hbw : ∀ v, v < h → bw v = some (gw v)) (hR : RM w h p q bw fw) (h32 : R2 w 32 x) (hE : E < h) (hwn : cs h x E + 1 ≤ wn E) (K : Int32 → zS → Option (Int32 × zS)) : ∃ y w' x', lX8_carryOne_321 N y1 y2 y3 K N (nI (10 + E), w) = K y w' ∧ Fm [32] w w' ∧ R2 w' 32 x' ∧ Feas h e wn x' ∧ PC h c e B x' p q ∧ cost h c x' = cost h c x + 1 * q E ∧ ∀ v, v < h → cs h x' v = cs h x v + if v = E then 1 else 0 := by
  have tE := (hC.1 E hE).1
  unfold lX8_carryOne_321
  refine zlp_inv (fun i z => ∃ w1, Fm [32] w w1 ∧ ((∃ v cur, z = (nI (10 + v), w1) ∧ v < h ∧ R2 w1 32 cur ∧ Aug h c x p q 1 E tg cur v (tw v) ∧ i + 2 * tw v ≤ 2 * tw E) ∨ (∃ v cur, z = (nI (gw v), w1) ∧ v < h ∧ R2 w1 32 (bump cur (gw v) v 1) ∧ Aug h c x p q 1 E tg cur v (tw v) ∧ i + 2 * tg (gw v) ≤ 2 * tw E + 1))) (fun r => ∃ y w' x', r = K y w' ∧ Fm [32] w w' ∧ R2 w' 32 x' ∧ Feas h e wn x' ∧ PC h c e B x' p q ∧ cost h c x' = cost h c x + 1 * q E ∧ ∀ v, v < h → cs h x' v = cs h x v + if v = E then 1 else 0) (2 * T + 3) ?_ N 0 _ ⟨w, Fm_refl _ _, Or.inl ⟨E, x, rfl, hE, h32, Aug_0 hF hP 1 E tg (tw E), by omega⟩⟩ (by omega)
  rintro i z rc ⟨w1, f1, ⟨v, cur, rfl, hv, k32, hA, hi⟩ | ⟨v, cur, rfl, hv, k32, hA, hi⟩⟩
  · left
    obtain ⟨b1, b2, b3, b4⟩ := Chn_g hC hc hq hv
    refine ⟨by omega, ?_⟩
    have e34 : w1.1 0 34 (10 + v) = nI (gw v) := by rw [f1.2 0 34 (by decide), (hR.2 v hv).2, hbw v hv]; rfl
    simp only [bX8_carryOne_321]
    rw [zld_at (by omega) (by omega), e34, if_neg (nI_m9 (by omega)), if_neg (show ¬ nI (10 + v) < 10 from nI_nlt (b := 10) (by omega) (by omega)), zld_at (by omega) (by omega), e34]
    have ei : (10 : Int32) * nI (gw v) + nI (10 + v) - 10 = nI (10 * gw v + v) := by
      rw [i10', show (10 : Int32) = nI 10 from rfl, pk_sub (by omega)]
      congr 1
      omega
    rw [ei, zld_at (by omega) (by omega), if_neg (show ¬ nI (10 + v) < 10 from nI_nlt (b := 10) (by omega) (by omega)), zst_at (by omega) (by omega), k32 (gw v) v (by omega) (by omega), zld_at (by omega) (by omega), zsI_ne _ _ _ (by decide), e34]
    have := R2_bump k32 (g := gw v) (v := v) (by omega) (by omega) 1
    refine ⟨_, ⟨zsI w1 0 32 (10 * gw v + v) (Int32.ofInt (cur (gw v) v + 1)), Fm_st f1 (by decide) _ _, Or.inr ⟨v, cur, rfl, hv, this, hA, by omega⟩⟩, ?_⟩
    rw [Int32.ofInt_add]
    rfl
  · obtain ⟨b1, b2, b3, b4⟩ := Chn_g hC hc hq hv
    have e34 : w1.1 0 34 (gw v) = bgv (fw (gw v)) := by rw [f1.2 0 34 (by decide)]; exact (hR.1 (gw v) b1).2
    simp only [bX8_carryOne_321]
    rw [zld_at (by omega) (by omega), e34]
    rcases b4 with ⟨z1, z2, z3⟩ | ⟨w', z1, z2, z3, z4, z5⟩
    · right
      rw [z1, if_pos (show bgv none = -9 from rfl)]
      have fin := Aug_end hF hP hA (by omega) hv b1 b2 z2 (by omega) hE hwn
      exact ⟨_, w1, _, rfl, f1, k32, fin.1, fin.2.1, fin.2.2.1, fin.2.2.2.1⟩
    · left
      refine ⟨by omega, ?_⟩
      have hne : w' ≠ v := fun z => by rw [z] at z5; omega
      rw [z1, show bgv (some w') = nI (10 + w') from rfl, if_neg (nI_m9 (by omega)), if_pos (show nI (gw v) < 10 from nI_lt (b := 10) (by omega) (by omega)), zld_at (by omega) (by omega), e34, z1, show bgv (some w') = nI (10 + w') from rfl]
      have ei : (10 : Int32) * nI (gw v) + nI (10 + w') - 10 = nI (10 * gw v + w') := by
        rw [i10', show (10 : Int32) = nI 10 from rfl, pk_sub (by omega)]
        congr 1
        omega
      rw [ei, zld_at (by omega) (by omega), if_pos (show nI (gw v) < 10 from nI_lt (b := 10) (by omega) (by omega)), zst_at (by omega) (by omega), k32 (gw v) w' (by omega) (by omega), zld_at (by omega) (by omega), zsI_ne _ _ _ (by decide), e34, z1]
      have k32' := R2_bump k32 (g := gw v) (v := w') (by omega) (by omega) (-1)
      have stp := Aug_step hA (by omega) hv b1 b2 b3 z2 hne (by omega) z4 z5 (by omega)
      refine ⟨_, ⟨zsI w1 0 32 (10 * gw v + w') (Int32.ofInt (bump cur (gw v) v 1 (gw v) w' + -1)), Fm_st f1 (by decide) _ _, Or.inl ⟨w', _, rfl, z2, k32', stp, by omega⟩⟩, ?_⟩
      rw [Int32.ofInt_add]
      rfl
