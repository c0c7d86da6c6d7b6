/-- a state with one row of ints put in -/
def zrow (σ : zS) (c : Nat) (f : Nat → Int32) : zS := (fun q' c' => if q' = 0 ∧ c' = c then f else σ.1 q' c', σ.2)
theorem zrow_at (σ : zS) (c : Nat) (f : Nat → Int32) : (zrow σ c f).1 0 c = f := by simp [zrow]
theorem zrow_ne (σ : zS) {c q' c' : Nat} (f : Nat → Int32) (h : ¬ (q' = 0 ∧ c' = c)) : (zrow σ c f).1 q' c' = σ.1 q' c' := by simp only [zrow, if_neg h]
theorem zrow_st (σ : zS) (c : Nat) (f : Nat → Int32) (j : Nat) (v : Int32) : zsI (zrow σ c f) 0 c j v = zrow σ c (upd f j v) := by
  refine Prod.ext (funext fun a => funext fun b => ?_) rfl
  simp only [zsI, zrow]
  by_cases h : a = 0 ∧ b = c
  · simp only [if_pos h, and_self, if_true]
  · simp only [if_neg h]
theorem zrow_self (σ : zS) (c : Nat) : zrow σ c (σ.1 0 c) = σ := by
  refine Prod.ext (funext fun a => funext fun b => ?_) rfl
  simp only [zrow]
  by_cases h : a = 0 ∧ b = c
  · rw [if_pos h, h.1, h.2]
  · rw [if_neg h]
theorem zsum_add (f g : Nat → Int32) (n : Nat) : zsum f n + zsum g n = zsum (fun i => f i + g i) n := by
  induction n with
  | zero => rfl
  | succ n ih =>
    simp only [zsum]
    rw [← ih, Int32.add_assoc, Int32.add_assoc, ← Int32.add_assoc (f n), Int32.add_comm (f n), Int32.add_assoc (zsum g n)]
/-- the first n slots of a row are filled -/
def fil (f : Nat → Int32) (v : Int32) (n j : Nat) : Int32 := if j < n then v else f j
theorem fil_st (f : Nat → Int32) (v : Int32) (n : Nat) : upd (fil f v n) n v = fil f v (n + 1) := by
  funext j
  unfold upd fil
  by_cases h : j = n
  · rw [if_pos h, if_pos (by omega)]
  · rw [if_neg h]
    by_cases h2 : j < n
    · rw [if_pos h2, if_pos (by omega)]
    · rw [if_neg h2, if_neg (by omega)]
theorem fill16_eq {N : Nat} (w : zS) (hN : 1000000000 ≤ N) : fJ7_fill_53178_c16 N 0 w = some (zrow w 16 (fil (w.1 0 16) 0 180)) := by
  unfold fJ7_fill_53178_c16 lJ7_fill_53178_c16_5
  have := zlp_for (st := fun i => (nI i, zrow w 16 (fil (w.1 0 16) 0 i))) (E := 180) (b := fun rc s => bJ7_fill_53178_c16_5 N 0 180 (fun y2 w3 => some w3) rc s.1 s.2) (r := some (zrow w 16 (fil (w.1 0 16) 0 180))) (fun i hi rc => ?_) (fun rc => ?_) N 0 (by omega) (by omega)
  · have e : zrow w 16 (fil (w.1 0 16) 0 0) = w := zrow_self w 16
    rw [e] at this
    exact this
  · have q : ¬ (180 : Int32) ≤ nI i := nI_ge (b := 180) hi (by omega)
    simp only [bJ7_fill_53178_c16_5, if_neg q, zst_at hi (show 180 < 2 ^ 31 by omega), zrow_st, fil_st, nI_1]
  · have q : (180 : Int32) ≤ nI 180 := by decide
    simp only [bJ7_fill_53178_c16_5, if_pos q]
/-- the day of the month of an entry: what stood ahead of it counts as its first day -/
def dm (μ : zS) (m e : Nat) : Nat := (μ.1 0 5 e).toNatClampNeg - 30 * m
/-- what entry e brings to slot j of the changes -/
def gc (μ : zS) (a m j e : Nat) : Int32 := if μ.1 0 3 e = nI a ∧ μ.1 0 4 e = nI (j / 30) ∧ dm μ m e = j % 30 then μ.1 0 6 e else 0
def rwc (μ : zS) (a m : Nat) (f : Nat → Int32) (n j : Nat) : Int32 := if j < 180 then zsum (gc μ a m j) n else f j
/-- what the class reads of its ledger is what the reference holds -/
def LX (w μ : zS) (d h kn ne : Nat) : Prop := w.1 0 1 4 = nI ne ∧ w.1 0 14 = μ.1 0 5 ∧ w.1 0 15 = μ.1 0 6 ∧ w.1 0 7 = μ.1 0 2 ∧ Jl d h kn ne (w.1 0 13) (μ.1 0 3) (μ.1 0 4) (μ.1 0 5) ∧ h ≤ 10 ∧ kn ≤ 6 ∧ ne ≤ 2000 ∧ d ≤ 599
theorem gather_eq {N : Nat} {w μ : zS} {d h kn ne : Nat} (hw : LX w μ d h kn ne) (hN : 1000000000 ≤ N) {a m : Nat} (ha : a < 10) (hm : m < 20) : fX3_gatherChanges N (nI a) (nI m * 30) w = some (zrow w 16 (rwc μ a m (w.1 0 16) ne)) := by
  obtain ⟨w1, w2, w3, w4, w5, b1, b2, b3, b4⟩ := hw
  unfold fX3_gatherChanges lX3_gatherChanges_10
  rw [fill16_eq w hN, i30]
  simp only [zbv]
  have e0 : fil (w.1 0 16) 0 180 = rwc μ a m (w.1 0 16) 0 := by
    funext j
    unfold fil rwc
    simp only [zsum]
  rw [e0]
  refine zlp_for (st := fun i => (nI i, zrow w 16 (rwc μ a m (w.1 0 16) i))) (E := ne) (fun i hi rc => ?_) (fun rc => ?_) N 0 (by omega) (by omega)
  · obtain ⟨u, v, x, hu, hv, hx, eu, ev, es, ex⟩ := w5 i hi
    have edm : dm μ m i = x - 30 * m := by unfold dm; rw [ex, nI_clamp (by omega)]
    have r13 : ∀ f, (zrow w 16 f).1 0 13 = w.1 0 13 := fun f => zrow_ne w f (by omega)
    have r14 : ∀ f, (zrow w 16 f).1 0 14 = μ.1 0 5 := fun f => (zrow_ne w f (by omega)).trans w2
    have r15 : ∀ f, (zrow w 16 f).1 0 15 = μ.1 0 6 := fun f => (zrow_ne w f (by omega)).trans w3
    have r1 : ∀ f, (zrow w 16 f).1 0 1 4 = nI ne := fun f => by rw [zrow_ne w f (by omega)]; exact w1
    have edd : (if nI x - nI (30 * m) < 0 then (0 : Int32) else nI x - nI (30 * m)) = nI (x - 30 * m) := by
      by_cases q : x < 30 * m
      · rw [if_pos (pk_sneg (by omega) q), show x - 30 * m = 0 by omega]; rfl
      · rw [pk_sub (by omega), if_neg (nI_pos (by omega))]
    simp only [bX3_gatherChanges_10, r1, if_neg (nI_ge hi (show ne < 2 ^ 31 by omega)), zld_at (show i < 2000 by omega) (show 2000 < 2 ^ 31 by omega), r13, r14, r15, es, ex, edd, nI_1]
    rw [show nI a * (6 : Int32) = nI (6 * a) by rw [show (6 : Int32) = nI 6 from rfl, pk_mul, Nat.mul_comm]]
    have same : (∀ j, j < 180 → gc μ a m j i = 0) → rwc μ a m (w.1 0 16) (i + 1) = rwc μ a m (w.1 0 16) i := by
      intro hz
      funext j
      unfold rwc
      by_cases hj : j < 180
      · rw [if_pos hj, if_pos hj]
        simp only [zsum]
        rw [hz j hj, Int32.add_zero]
      · rw [if_neg hj, if_neg hj]
    by_cases q1 : u = a
    · subst q1
      have ek : nI (6 * u + v) - nI (6 * u) = nI v := by rw [pk_sub (by omega)]; congr 1; omega
      rw [ek, if_neg (nI_pos (by omega)), if_neg (show ¬ (6 : Int32) ≤ nI v from nI_ge (b := 6) (by omega) (by omega))]
      by_cases q2 : x - 30 * m < 30
      · rw [if_neg (show ¬ (30 : Int32) ≤ nI (x - 30 * m) from nI_ge (b := 30) q2 (by omega))]
        have ej : nI v * 30 + nI (x - 30 * m) = nI (30 * v + (x - 30 * m)) := by rw [i30, nI_add]
        rw [ej, zld_at (by omega) (by omega), zst_at (by omega) (by omega), zrow_at, zrow_st]
        have er : upd (rwc μ u m (w.1 0 16) i) (30 * v + (x - 30 * m)) (rwc μ u m (w.1 0 16) i (30 * v + (x - 30 * m)) + μ.1 0 6 i) = rwc μ u m (w.1 0 16) (i + 1) := by
          funext j
          by_cases hj : j = 30 * v + (x - 30 * m)
          · subst hj
            rw [pk_us]
            unfold rwc
            rw [if_pos (by omega), if_pos (by omega)]
            simp only [zsum]
            congr 1
            unfold gc
            rw [if_pos ⟨eu, by rw [ev]; congr 1; omega, by rw [edm]; omega⟩]
          · rw [pk_un hj]
            unfold rwc
            by_cases h180 : j < 180
            · rw [if_pos h180, if_pos h180]
              simp only [zsum]
              unfold gc
              rw [if_neg (fun e => hj ?_), Int32.add_zero]
              obtain ⟨-, e2, e3⟩ := e
              rw [ev] at e2
              have := (nI_eq (a := v) (b := j / 30) (by omega) (by omega)).mp e2
              rw [edm] at e3
              omega
            · rw [if_neg h180, if_neg h180]
        rw [er]
      · rw [if_pos (show (30 : Int32) ≤ nI (x - 30 * m) from nI_le (a := 30) (by omega) (by omega)), same]
        intro j hj
        unfold gc
        rw [if_neg (fun e => ?_)]
        have := e.2.2
        rw [edm] at this
        omega
    · have hz : ∀ j, j < 180 → gc μ a m j i = 0 := by
        intro j hj
        unfold gc
        rw [if_neg (fun e => q1 ?_)]
        have := e.1
        rw [eu] at this
        exact (nI_eq (by omega) (by omega)).mp this
      rw [same hz]
      rcases Nat.lt_or_ge u a with q2 | q2
      · rw [if_pos (pk_sneg (by omega) (by omega))]
      · rw [pk_sub (by omega), if_neg (nI_pos (by omega)), if_pos (show (6 : Int32) ≤ nI (6 * u + v - 6 * a) from nI_le (a := 6) (by omega) (by omega))]
  · have r1 : ∀ f, (zrow w 16 f).1 0 1 4 = nI ne := fun f => by rw [zrow_ne w f (by omega)]; exact w1
    simp only [bX3_gatherChanges_10, r1, if_pos (nI_le (Nat.le_refl ne) (show ne < 2 ^ 31 by omega))]
/-- the account of a kind ahead of day D of the month -/
def ac (μ : zS) (ne a m kd D : Nat) : Int32 := zsum (fun e => if μ.1 0 3 e = nI a ∧ μ.1 0 4 e = nI kd ∧ dm μ m e < D then μ.1 0 6 e else 0) ne
theorem ac_succ (μ : zS) (ne a m kd D : Nat) (hD : D < 30) : ac μ ne a m kd D + zsum (gc μ a m (30 * kd + D)) ne = ac μ ne a m kd (D + 1) := by
  unfold ac
  rw [zsum_add]
  refine zsum_congr (fun e he => ?_)
  unfold gc
  have e1 : (30 * kd + D) / 30 = kd := by omega
  have e2 : (30 * kd + D) % 30 = D := by omega
  rw [e1, e2]
  by_cases q : μ.1 0 3 e = nI a ∧ μ.1 0 4 e = nI kd
  · rcases Nat.lt_trichotomy (dm μ m e) D with z | z | z
    · rw [if_pos ⟨q.1, q.2, z⟩, if_neg (fun c => by have := c.2.2; omega), if_pos ⟨q.1, q.2, by omega⟩, Int32.add_zero]
    · rw [if_neg (fun c => by have := c.2.2; omega), if_pos ⟨q.1, q.2, z⟩, if_pos ⟨q.1, q.2, by omega⟩, Int32.zero_add]
    · rw [if_neg (fun c => by have := c.2.2; omega), if_neg (fun c => by have := c.2.2; omega), if_neg (fun c => by have := c.2.2; omega), Int32.add_zero]
  · rw [if_neg (fun c => q ⟨c.1, c.2.1⟩), if_neg (fun c => q ⟨c.1, c.2.1⟩), if_neg (fun c => q ⟨c.1, c.2.1⟩), Int32.add_zero]
/-- no less than nothing -/
def ps (x : Int32) : Int64 := (if x < 0 then (0 : Int32) else x).toInt64
theorem daySums_eq {N : Nat} {w μ : zS} {ne a m kd : Nat} {f : Nat → Int32} (hN : 1000000000 ≤ N) (hk : kd < 6) (ew : w.1 0 16 = rwc μ a m f ne) : fX3_daySums N (nI kd) w = some (lsum (fun D => ps (ac μ ne a m kd (D + 1))) 30, w) := by
  unfold fX3_daySums lX3_daySums_8
  have a0 : ac μ ne a m kd 0 = 0 := by
    unfold ac
    have : ∀ n, zsum (fun e => if μ.1 0 3 e = nI a ∧ μ.1 0 4 e = nI kd ∧ dm μ m e < 0 then μ.1 0 6 e else 0) n = 0 := by
      intro n
      induction n with
      | zero => rfl
      | succ n ih => simp only [zsum, ih]; simp
    exact this ne
  have := zlp_for (st := fun i => (lsum (fun D => ps (ac μ ne a m kd (D + 1))) i, ac μ ne a m kd i, nI i, w)) (E := 30) (b := fun rc s => bX3_daySums_8 N (nI kd) (fun y2 y3 y4 w5 => some (y2, w5)) rc s.1 s.2.1 s.2.2.1 s.2.2.2) (r := some (lsum (fun D => ps (ac μ ne a m kd (D + 1))) 30, w)) (fun i hi rc => ?_) (fun rc => ?_) N 0 (by omega) (by omega)
  · rw [a0] at this
    exact this
  · have q : ¬ (30 : Int32) ≤ nI i := nI_ge (b := 30) hi (by omega)
    have e1 : nI kd * 30 + nI i = nI (30 * kd + i) := by rw [i30, nI_add]
    have e2 : rwc μ a m f ne (30 * kd + i) = zsum (gc μ a m (30 * kd + i)) ne := by unfold rwc; rw [if_pos (by omega)]
    simp only [bX3_daySums_8, if_neg q, e1, zld_at (show 30 * kd + i < 180 by omega) (show 180 < 2 ^ 31 by omega), ew, e2, ac_succ μ ne a m kd i hi, nI_1, lsum, ps]
  · have q : (30 : Int32) ≤ nI 30 := by decide
    simp only [bX3_daySums_8, if_pos q]
/-- the fees of a house for a month -/
def feeF (μ : zS) (ne a m : Nat) : Int64 := lsum (fun kd => lsum (fun D => ps (ac μ ne a m kd (D + 1))) 30 * (μ.1 0 2 kd).toInt64) 6
theorem feesX_eq {N : Nat} {w μ : zS} {d h kn ne : Nat} (hw : LX w μ d h kn ne) (hN : 1000000000 ≤ N) {a m : Nat} (ha : a < 10) (hm : m < 20) : fX3_feesOfMonth_c7 N (nI a) (nI m) w = some (feeF μ ne a m, zrow w 16 (rwc μ a m (w.1 0 16) ne)) := by
  unfold fX3_feesOfMonth_c7 lX3_feesOfMonth_c7_15
  rw [gather_eq hw hN ha hm]
  obtain ⟨w1, w2, w3, w4, w5, b1, b2, b3, b4⟩ := hw
  simp only [zbv]
  refine zlp_for (st := fun i => (lsum (fun kd => lsum (fun D => ps (ac μ ne a m kd (D + 1))) 30 * (μ.1 0 2 kd).toInt64) i, nI i, zrow w 16 (rwc μ a m (w.1 0 16) ne))) (E := 6) (fun i hi rc => ?_) (fun rc => ?_) N 0 (by omega) (by omega)
  · have q : ¬ (6 : Int32) ≤ nI i := nI_ge (b := 6) hi (by omega)
    have r7 : (zrow w 16 (rwc μ a m (w.1 0 16) ne)).1 0 7 = μ.1 0 2 := (zrow_ne w _ (by omega)).trans w4
    simp only [bX3_feesOfMonth_c7_15, if_neg q, daySums_eq hN hi (zrow_at w 16 (rwc μ a m (w.1 0 16) ne)), zbi, zld_at hi (show 6 < 2 ^ 31 by omega), r7, nI_1, lsum]
  · have q : (6 : Int32) ≤ nI 6 := by decide
    simp only [bX3_feesOfMonth_c7_15, if_pos q]
    rfl
