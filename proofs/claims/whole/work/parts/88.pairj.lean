/-- chains stand as they were -/
def FQ (w w' : zS) : Prop := FP w w' ∧ (∀ g, w'.2.2.1 0 19 g = w.2.2.1 0 19 g) ∧ ∀ t, w'.2.2.1 1 t 9 = w.2.2.1 1 t 9
theorem FQ_refl (w : zS) : FQ w w := ⟨FP_refl w, fun _ => rfl, fun _ => rfl⟩
theorem FQ_tr {u v w : zS} (h1 : FQ u v) (h2 : FQ v w) : FQ u w := ⟨FP_tr h1.1 h2.1, fun g => (h2.2.1 g).trans (h1.2.1 g), fun t => (h2.2.2 t).trans (h1.2.2 t)⟩
theorem FQ_FL {u v : zS} (h : FL u v) : FQ u v := ⟨FP_FL h, fun g => by rw [h.2.1], fun t => by rw [h.2.1]⟩
theorem FQ_i3 {w w1 : zS} (h : FQ w w1) (j : Nat) (v : Int32) : FQ w (zsI w1 0 3 j v) := by
  refine ⟨FP_tr h.1 ⟨rfl, fun q c hn => ?_, fun _ _ _ => rfl, fun _ _ _ _ _ => rfl⟩, h.2.1, h.2.2⟩
  simp only [zsI, if_neg hn]
theorem FQ_r {w w1 : zS} (h : FQ w w1) {c : Nat} (hc : c = 20 ∨ c = 21) (j : Nat) (v : Option Nat) : FQ w (zsR w1 0 c j v) := by
  refine ⟨FP_tr h.1 ⟨rfl, fun _ _ _ => rfl, fun _ _ _ => rfl, fun q c' i hn _ => ?_⟩, fun g => ?_, fun t => ?_⟩
  · simp only [zsR]
    rw [if_neg (fun z => hn ⟨z.1, by omega⟩)]
  · simp only [zsR]
    rw [if_neg (fun z => by omega)]
    exact h.2.1 g
  · simp only [zsR]
    rw [if_neg (fun z => by omega)]
    exact h.2.2 t
theorem zval_r {w : zS} (h : zvalT w) {c j t : Nat} (hc : c = 20 ∨ c = 21) (ht : t < w.2.2.2.1) : zvalT (zsR w 0 c j (some t)) := by
  intro q c' i u hq hu
  show u < w.2.2.2.1
  simp only [zsR] at hu
  by_cases q1 : q = 0 ∧ c' = c
  · rw [if_pos q1] at hu
    by_cases q2 : i = j
    · subst q2
      simp [va_up] at hu
      omega
    · simp only [va_up, if_neg q2] at hu
      exact h 0 c i u (by omega) hu
  · rw [if_neg q1] at hu
    exact h q c' i u hq hu
def RLR (row : Nat → Option Nat) (c : List Nat) : Prop := ∀ i, i < c.length → row i = some (c.getD i 0)
theorem RLR_add {row : Nat → Option Nat} {c : List Nat} (h : RLR row c) (t : Nat) : RLR (va_up row c.length (some t)) (c ++ [t]) := by
  intro i hi
  simp at hi
  by_cases e : i = c.length
  · subst e; rw [getD_last]; simp [va_up]
  · rw [getD_app (by omega)]
    simp only [va_up, if_neg e]
    exact h i (by omega)
/-- tellings of a chain are offered -/
theorem offer_eq {N nt np : Nat} {w : zS} {l : List Nat} {o : Option Nat} {gv : Nat → Nat} (y1 y2 y3 : Int32) (hN : 1000000000 ≤ N) (hl : l.length ≤ 400) (hc : w.2.2.2 = (nt, np)) (h4 : w.1 0 3 4 = 0) (h5 : w.1 0 3 5 = 0) (hv : zvalT w) (ht : ∀ t, t ∈ l → t < nt ∧ w.1 1 t 1 = nI (gv t) ∧ gv t ≤ 1) (hch : chn (fun t => w.2.2.1 1 t 9) l o) (K : Option Nat → zS → Option (Int32 × zS)) : ∃ y w', lX2_pairGroup_15 N y1 y2 y3 K N (o, w) = K y w' ∧ FQ w w' ∧ zvalT w' ∧ w'.2.1 = w.2.1 ∧ w'.1 0 3 4 = nI (tk8 (l.filter (fun t => gv t == 1)) []).length ∧ w'.1 0 3 5 = nI (tk8 (l.filter (fun t => gv t == 0)) []).length ∧ RLR (w'.2.2.1 0 20) (tk8 (l.filter (fun t => gv t == 1)) []) ∧ RLR (w'.2.2.1 0 21) (tk8 (l.filter (fun t => gv t == 0)) []) := by
  unfold lX2_pairGroup_15
  refine zlp_inv (fun i z => ∃ (o : Option Nat) (w1 : zS) (l' cg ct : List Nat), z = (o, w1) ∧ l'.length + i = l.length ∧ (∀ t, t ∈ l' → t ∈ l) ∧ chn (fun t => w.2.2.1 1 t 9) l' o ∧ FQ w w1 ∧ zvalT w1 ∧ w1.2.1 = w.2.1 ∧ cg.length ≤ 8 ∧ ct.length ≤ 8 ∧ w1.1 0 3 4 = nI cg.length ∧ w1.1 0 3 5 = nI ct.length ∧ RLR (w1.2.2.1 0 20) cg ∧ RLR (w1.2.2.1 0 21) ct ∧ tk8 (l.filter (fun t => gv t == 1)) [] = tk8 (l'.filter (fun t => gv t == 1)) cg ∧ tk8 (l.filter (fun t => gv t == 0)) [] = tk8 (l'.filter (fun t => gv t == 0)) ct) (fun r => ∃ y w', r = K y w' ∧ FQ w w' ∧ zvalT w' ∧ w'.2.1 = w.2.1 ∧ w'.1 0 3 4 = nI (tk8 (l.filter (fun t => gv t == 1)) []).length ∧ w'.1 0 3 5 = nI (tk8 (l.filter (fun t => gv t == 0)) []).length ∧ RLR (w'.2.2.1 0 20) (tk8 (l.filter (fun t => gv t == 1)) []) ∧ RLR (w'.2.2.1 0 21) (tk8 (l.filter (fun t => gv t == 0)) [])) l.length ?_ N 0 _ ⟨o, w, l, [], [], rfl, by omega, fun t h => h, hch, FQ_refl w, hv, rfl, by simp, by simp, h4, h5, fun i hi => by simp at hi, fun i hi => by simp at hi, rfl, rfl⟩ (by omega)
  rintro i z rc ⟨o, w1, l', cg, ct, rfl, hi, hsub, hch, f1, v1, j1, g8, t8, k4, k5, r20, r21, eg, et⟩
  simp only [bX2_pairGroup_15]
  cases l' with
  | nil =>
    right
    have : o = none := hch
    subst this
    simp only [List.filter_nil, tk8_nil] at eg et
    rw [eg, et]
    exact ⟨_, w1, rfl, f1, v1, j1, k4, k5, r20, r21⟩
  | cons t l' =>
    left
    simp at hi
    refine ⟨by omega, ?_⟩
    obtain ⟨e0, hch'⟩ := hch
    subst e0
    obtain ⟨ht1, ht2, ht3⟩ := ht t (hsub t (List.mem_cons_self ..))
    have cnt : w1.2.2.2 = (nt, np) := by rw [f1.1.1]; exact hc
    have e1 : w1.1 1 t 1 = nI (gv t) := by rw [f1.1.2.1 1 t (by omega)]; exact ht2
    have sub' : ∀ u, u ∈ l' → u ∈ l := fun u hu => hsub u (List.mem_cons_of_mem t hu)
    have nx : ∀ w2, FQ w w2 → w2.2.2.1 1 t 9 = w.2.2.1 1 t 9 := fun w2 h => h.2.2 t
    simp only [zon]
    have cont : ∀ (w2 : zS) (cg' ct' : List Nat), w2.2.2.2 = (nt, np) → FQ w w2 → zvalT w2 → w2.2.1 = w.2.1 → cg'.length ≤ 8 → ct'.length ≤ 8 → w2.1 0 3 4 = nI cg'.length → w2.1 0 3 5 = nI ct'.length → RLR (w2.2.2.1 0 20) cg' → RLR (w2.2.2.1 0 21) ct' → tk8 (l.filter (fun t => gv t == 1)) [] = tk8 (l'.filter (fun t => gv t == 1)) cg' → tk8 (l.filter (fun t => gv t == 0)) [] = tk8 (l'.filter (fun t => gv t == 0)) ct' → ∃ s', (∃ (o : Option Nat) (w1 : zS) (l' cg ct : List Nat), s' = (o, w1) ∧ l'.length + (i + 1) = l.length ∧ (∀ t, t ∈ l' → t ∈ l) ∧ chn (fun t => w.2.2.1 1 t 9) l' o ∧ FQ w w1 ∧ zvalT w1 ∧ w1.2.1 = w.2.1 ∧ cg.length ≤ 8 ∧ ct.length ≤ 8 ∧ w1.1 0 3 4 = nI cg.length ∧ w1.1 0 3 5 = nI ct.length ∧ RLR (w1.2.2.1 0 20) cg ∧ RLR (w1.2.2.1 0 21) ct ∧ tk8 (l.filter (fun t => gv t == 1)) [] = tk8 (l'.filter (fun t => gv t == 1)) cg ∧ tk8 (l.filter (fun t => gv t == 0)) [] = tk8 (l'.filter (fun t => gv t == 0)) ct) ∧ (zbv (some w2) fun w3 => zgTR w3 (some t) 9 fun v4 => rc (v4, w3)) = rc s' := by
      intro w2 cg' ct' hcnt q1 q2 q3 q4 q5 q6 q7 q8 q9 q10 q11
      refine ⟨(w.2.2.1 1 t 9, w2), ⟨_, w2, l', cg', ct', rfl, by omega, sub', hch', q1, q2, q3, q4, q5, q6, q7, q8, q9, q10, q11⟩, ?_⟩
      simp only [zbv, zgTR, hcnt, if_pos ht1, nx w2 q1]
    unfold fX4_offer
    simp only [zgT, cnt, if_pos ht1, e1, k4, k5]
    rcases (show gv t = 0 ∨ gv t = 1 by omega) with z | z
    · -- a take
      have f1' : (t :: l').filter (fun t => gv t == 1) = l'.filter (fun t => gv t == 1) := List.filter_cons_of_neg (by simp [z])
      have f0' : (t :: l').filter (fun t => gv t == 0) = t :: l'.filter (fun t => gv t == 0) := List.filter_cons_of_pos (by simp [z])
      rw [f1'] at eg
      rw [f0'] at et
      rw [z, if_pos (show nI 0 = 0 from rfl), if_pos (show nI 0 = 0 from rfl)]
      by_cases q : ct.length = 8
      · rw [if_pos (show (8 : Int32) ≤ nI ct.length from nI_le (a := 8) (by omega) (by omega))]
        exact cont w1 cg ct cnt f1 v1 j1 g8 t8 k4 k5 r20 r21 eg (by rw [et, tk8_full (by omega), tk8_full (by omega)])
      · rw [if_neg (show ¬ (8 : Int32) ≤ nI ct.length from nI_ge (b := 8) (by omega) (by omega)), zstT_some (by omega) (by omega) (by rw [cnt]; exact ht1)]
        have e5 : (zsR w1 0 21 ct.length (some t)).1 0 3 5 = nI ct.length := k5
        simp only [zlet, e5, nI_1]
        refine cont (zsI (zsR w1 0 21 ct.length (some t)) 0 3 5 (nI (ct.length + 1))) cg (ct ++ [t]) cnt (FQ_i3 (FQ_r f1 (by omega) _ _) _ _) (zval_r v1 (by omega) (by rw [cnt]; exact ht1)) j1 g8 (by simp; omega) ?_ ?_ ?_ ?_ eg (by rw [et, tk8_cons (by omega)])
        · rw [zsI_at, pk_un (by decide)]; exact k4
        · rw [zsI_at, pk_us]; simp
        · have : (zsI (zsR w1 0 21 ct.length (some t)) 0 3 5 (nI (ct.length + 1))).2.2.1 0 20 = w1.2.2.1 0 20 := by simp [zsI, zsR]
          rw [this]; exact r20
        · have : (zsI (zsR w1 0 21 ct.length (some t)) 0 3 5 (nI (ct.length + 1))).2.2.1 0 21 = va_up (w1.2.2.1 0 21) ct.length (some t) := by simp [zsI, zsR]
          rw [this]; exact RLR_add r21 t
    · have f1' : (t :: l').filter (fun t => gv t == 1) = t :: l'.filter (fun t => gv t == 1) := List.filter_cons_of_pos (by simp [z])
      have f0' : (t :: l').filter (fun t => gv t == 0) = l'.filter (fun t => gv t == 0) := List.filter_cons_of_neg (by simp [z])
      rw [f1'] at eg
      rw [f0'] at et
      rw [z, if_neg (show ¬ nI 1 = 0 by decide)]
      by_cases q : cg.length = 8
      · rw [if_pos (show (8 : Int32) ≤ nI cg.length from nI_le (a := 8) (by omega) (by omega)), if_neg (show ¬ nI 1 = 0 by decide)]
        exact cont w1 cg ct cnt f1 v1 j1 g8 t8 k4 k5 r20 r21 (by rw [eg, tk8_full (by omega), tk8_full (by omega)]) et
      · rw [if_neg (show ¬ (8 : Int32) ≤ nI cg.length from nI_ge (b := 8) (by omega) (by omega)), zstT_some (by omega) (by omega) (by rw [cnt]; exact ht1)]
        have e5 : (zsR w1 0 20 cg.length (some t)).1 0 3 4 = nI cg.length := k4
        simp only [zlet, e5, nI_1]
        refine cont (zsI (zsR w1 0 20 cg.length (some t)) 0 3 4 (nI (cg.length + 1))) (cg ++ [t]) ct cnt (FQ_i3 (FQ_r f1 (by omega) _ _) _ _) (zval_r v1 (by omega) (by rw [cnt]; exact ht1)) j1 (by simp; omega) t8 ?_ ?_ ?_ ?_ (by rw [eg, tk8_cons (by omega)]) et
        · rw [zsI_at, pk_us]; simp
        · rw [zsI_at, pk_un (by decide)]; exact k5
        · have : (zsI (zsR w1 0 20 cg.length (some t)) 0 3 4 (nI (cg.length + 1))).2.2.1 0 20 = va_up (w1.2.2.1 0 20) cg.length (some t) := by simp [zsI, zsR]
          rw [this]; exact RLR_add r20 t
        · have : (zsI (zsR w1 0 20 cg.length (some t)) 0 3 4 (nI (cg.length + 1))).2.2.1 0 21 = w1.2.2.1 0 21 := by simp [zsI, zsR]
          rw [this]; exact r21
/-- the ledger's data of a pair -/
abbrev Dat : Type := Nat → (Nat × Nat × Nat × Nat × Int32)
def lgf (dat : Dat) (ne0 : Nat) : Nat → zS → zS
  | 0, μ => μ
  | j + 1, μ => entM (entM (lgf dat ne0 j μ) (ne0 + 2 * j) (dat j).1 (dat j).2.2.1 (dat j).2.2.2.1 (-(dat j).2.2.2.2)) (ne0 + 2 * j + 1) (dat j).2.1 (dat j).2.2.1 (dat j).2.2.2.1 (dat j).2.2.2.2
theorem lgf_congr {dat dat' : Dat} {ne0 : Nat} {μ : zS} : ∀ j, (∀ i, i < j → dat i = dat' i) → lgf dat ne0 j μ = lgf dat' ne0 j μ := by
  intro j
  induction j with
  | zero => intro _; rfl
  | succ j ih =>
    intro h
    simp only [lgf]
    rw [ih (fun i hi => h i (by omega)), h j (by omega)]
/-- the same ledger -/
def LE (α γ : zS) : Prop := α.1 0 3 = γ.1 0 3 ∧ α.1 0 4 = γ.1 0 4 ∧ α.1 0 5 = γ.1 0 5 ∧ α.1 0 6 = γ.1 0 6 ∧ α.1 0 0 5 = γ.1 0 0 5
/-- the same but for ledger and room -/
def SL (α β : zS) : Prop := α.2 = β.2 ∧ (∀ q c, ¬ (q = 0 ∧ (c = 0 ∨ c = 3 ∨ c = 4 ∨ c = 5 ∨ c = 6 ∨ c = 27 ∨ c = 28 ∨ c = 29)) → α.1 q c = β.1 q c) ∧ ∀ j, j ≠ 5 → α.1 0 0 j = β.1 0 0 j
theorem LE_ent {α γ : zS} (h : LE α γ) (ne a b x : Nat) (v : Int32) : LE (entM α ne a b x v) (entM γ ne a b x v) := by
  obtain ⟨h1, h2, h3, h4, h5⟩ := h
  refine ⟨?_, ?_, ?_, ?_, ?_⟩
  · simp [entM, zsI, h1]
  · simp [entM, zsI, h2]
  · simp [entM, zsI, h3]
  · simp [entM, zsI, h4]
  · simp [entM, zsI, upd]
theorem LE_lgf {α γ : zS} (h : LE α γ) (dat : Dat) (ne0 : Nat) : ∀ j, LE (lgf dat ne0 j α) (lgf dat ne0 j γ) := by
  intro j
  induction j with
  | zero => exact h
  | succ j ih => exact LE_ent (LE_ent ih _ _ _ _ _) _ _ _ _ _
theorem LE_sy {α γ : zS} (h : LE α γ) : LE γ α := ⟨h.1.symm, h.2.1.symm, h.2.2.1.symm, h.2.2.2.1.symm, h.2.2.2.2.symm⟩
theorem LE_tr {α β γ : zS} (h1 : LE α β) (h2 : LE β γ) : LE α γ := ⟨h1.1.trans h2.1, h1.2.1.trans h2.2.1, h1.2.2.1.trans h2.2.2.1, h1.2.2.2.1.trans h2.2.2.2.1, h1.2.2.2.2.trans h2.2.2.2.2⟩
theorem SL_ent {α β : zS} (h : SL α β) (ne a b x : Nat) (v : Int32) : SL (entM α ne a b x v) β := by
  obtain ⟨h1, h2, h3⟩ := h
  refine ⟨h1, fun q c hn => ?_, fun j hj => ?_⟩
  · rw [← h2 q c hn]
    have n0 : ¬ (q = 0 ∧ c = 0) := fun z => hn ⟨z.1, by omega⟩
    have n3 : ¬ (q = 0 ∧ c = 3) := fun z => hn ⟨z.1, by omega⟩
    have n4 : ¬ (q = 0 ∧ c = 4) := fun z => hn ⟨z.1, by omega⟩
    have n5 : ¬ (q = 0 ∧ c = 5) := fun z => hn ⟨z.1, by omega⟩
    have n6 : ¬ (q = 0 ∧ c = 6) := fun z => hn ⟨z.1, by omega⟩
    simp only [entM, zsI, if_neg n0, if_neg n3, if_neg n4, if_neg n5, if_neg n6]
  · rw [← h3 j hj]
    simp [entM, zsI, upd, hj]
theorem SL_mad {α β : zS} (h : SL α β) (g t np : Nat) (v : Int32) : SL (madB α g t np v) (madB β g t np v) := by
  obtain ⟨h1, h2, h3⟩ := h
  obtain ⟨m1, m2, m3, m4, m5, m6, m7, m8, m9, m10⟩ := madB_i α g t np v
  obtain ⟨k1, k2, k3, k4, k5, k6, k7, k8, k9, k10⟩ := madB_i β g t np v
  refine ⟨by rw [m10, k10]; exact h1, fun q c hn => ?_, fun j hj => ?_⟩
  · by_cases z : q = 0 ∧ (c = 0 ∨ c = 15 ∨ c = 16 ∨ c = 17 ∨ c = 18 ∨ c = 19)
    · obtain ⟨rfl, z⟩ := z
      have h15 : α.1 0 15 = β.1 0 15 := h2 0 15 (by omega)
      have h16 : α.1 0 16 = β.1 0 16 := h2 0 16 (by omega)
      have h17 : α.1 0 17 = β.1 0 17 := h2 0 17 (by omega)
      have h18 : α.1 0 18 = β.1 0 18 := h2 0 18 (by omega)
      have h19 : α.1 0 19 = β.1 0 19 := h2 0 19 (by omega)
      rcases z with z | z | z | z | z | z
      · exact absurd ⟨rfl, by omega⟩ hn
      · subst z; simp [madB, madW, zsI, h15]
      · subst z; simp [madB, madW, zsI, h16]
      · subst z; simp [madB, madW, zsI, h17]
      · subst z; simp [madB, madW, zsI, h18]
      · subst z; simp [madB, madW, zsI, h19]
    · rw [m1 q c z, k1 q c z]; exact h2 q c hn
  · by_cases z : j = 23
    · subst z; rw [m3, k3]
    · rw [m2 j z, k2 j z]; exact h3 j hj
theorem LE_mad (β : zS) (g t np : Nat) (v : Int32) : LE (madB β g t np v) β := by
  obtain ⟨m1, m2, -⟩ := madB_i β g t np v
  exact ⟨m1 0 3 (by omega), m1 0 4 (by omega), m1 0 5 (by omega), m1 0 6 (by omega), m2 5 (by decide)⟩
