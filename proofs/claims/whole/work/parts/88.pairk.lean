def LB (β μ0 : zS) : Prop := LE β μ0 ∧ β.1 0 21 = μ0.1 0 21 ∧ β.2 = μ0.2
/-- the two sides while pairs are made; the class's ledger lags -/
def RQ (d h kn ru ne0 cl nt np0 : Nat) (μ0 : zS) (came : Nat) (σ β α : zS) : Prop := JA d h kn ru ne0 cl nt (np0 + came) σ β ∧ SL α β ∧ LB β μ0 ∧ α.1 0 0 5 = nI (ne0 + 2 * came) ∧ ∃ dat : Dat, LE α (lgf dat ne0 came μ0) ∧ ∀ j, j < came → ∃ g t x, β.1 0 17 (np0 + j) = nI g ∧ β.1 0 18 (np0 + j) = nI t ∧ g < nt ∧ t < nt ∧ β.1 0 10 g = nI (dat j).1 ∧ β.1 0 11 g = nI (dat j).2.1 ∧ β.1 0 12 g = nI (dat j).2.2.1 ∧ β.1 0 14 t = nI x ∧ (dat j).2.2.2.1 = max x (30 * cl) ∧ β.1 0 19 (np0 + j) = (dat j).2.2.2.2 ∧ x ≤ d ∧ (dat j).1 < h ∧ (dat j).2.1 < h ∧ (dat j).2.2.1 < kn
theorem RQ_pair {N d h kn ru ne0 cl nt np0 came g t : Nat} {μ0 σ β α : zS} (hR : RQ d h kn ru ne0 cl nt np0 μ0 came σ β α) (hne : ne0 + 2 * came + 1 < 2000) (hg : g < nt) (ht : t < nt) (hgt : g ≠ t) (og : β.1 0 15 g = 0) (ot : β.1 0 15 t = 0) (e10 : β.1 0 10 g = β.1 0 10 t) (e11 : β.1 0 11 g = β.1 0 11 t) (e12 : β.1 0 12 g = β.1 0 12 t) : ∃ v α', fX2_keepPair N (some g) (some t) (nI ru) σ = some (keepX σ g t (np0 + came) (nI v)) ∧ fX8_made N (nI g) (nI t) α = some α' ∧ RQ d h kn ru ne0 cl nt np0 μ0 (came + 1) (keepX σ g t (np0 + came) (nI v)) (madB β g t (np0 + came) (nI v)) α' ∧ (∀ c, c = 14 ∨ c = 27 ∨ c = 28 ∨ c = 29 → α'.1 0 c = α.1 0 c) := by
  obtain ⟨hA, hS, hL, h5', dat, hD, hP⟩ := hR
  have rm := room_pair hA hg ht hgt og ot
  obtain ⟨h1, h2, h3, h4, h5, h6, h7, h8, h9⟩ := id hA
  obtain ⟨b0, b1, b2, b3, b4, b5, b6, b7⟩ := JJ_b h1
  obtain ⟨-, -, -, ⟨a, b, c, ha, hb, hab, hc, a1, a2, bb1, bb2, cc1, cc2⟩, ⟨mg, hmg1, hmg2, mg1, mg2⟩, -⟩ := h5.1 g hg
  obtain ⟨-, -, -, -, ⟨mt, hmt1, hmt2, mt1, mt2⟩, ⟨x, hx, x1, x2⟩, -⟩ := h5.1 t ht
  have hv := cntd_bd (ru := ru) hmg2 hmt2
  have sr : ∀ c, ¬ (c = 0 ∨ c = 3 ∨ c = 4 ∨ c = 5 ∨ c = 6 ∨ c = 27 ∨ c = 28 ∨ c = 29) → α.1 0 c = β.1 0 c := fun c hc => hS.2.1 0 c (fun z => hc z.2)
  have kp := keep_eq (N := N) (σ := σ) (np := np0 + came) (JJ_cnt h1) hg ht h7.2 h1.2.2.2.2.2.2.2.1.1 (by omega) mg1 mt1 hmg2 hmt2 b3
  have md := made_eq (N := N) (w := α) (np := np0 + came) (ne := ne0 + 2 * came) (cl := cl) (a := a) (b := b) (c := c) (x := x) (g := g) (t := t) (mg := mg) (mt := mt) (ru := ru) hne (by omega) (by omega) (by omega) (by omega) (by omega) (by rw [hS.2.2 23 (by decide)]; exact h1.2.2.2.2.2.2.2.1.2) (by rw [hS.2.2 22 (by decide)]; exact h1.2.2.2.1.2) b3 h5' (by rw [hS.2.2 11 (by decide)]; exact h1.2.2.2.2.2.1.2) (by rw [sr 10 (by omega)]; exact a2) (by rw [sr 11 (by omega)]; exact bb2) (by rw [sr 12 (by omega)]; exact cc2) (by rw [sr 14 (by omega)]; exact x2) (by rw [sr 13 (by omega)]; exact mg2) (by rw [sr 13 (by omega)]; exact mt2) hmg2 hmt2
  obtain ⟨v, ev⟩ : ∃ v, v = cntd ru mg mt := ⟨_, rfl⟩
  rw [← ev] at kp md hv
  refine ⟨v, _, kp, md, ⟨?_, SL_ent (SL_ent (SL_mad hS g t (np0 + came) (nI v)) _ _ _ _ _) _ _ _ _ _, ⟨LE_tr (LE_mad β g t (np0 + came) (nI v)) hL.1, ((madB_i β g t (np0 + came) (nI v)).1 0 21 (by omega)).trans hL.2.1, hL.2.2⟩, ?_, fun j => if j = came then (a, b, c, max x (30 * cl), nI v) else dat j, ?_, fun j hj => ?_⟩, ?_⟩
  · exact JA_pair hA hg ht hgt og ot e10 e11 e12 hv
  · rw [show ne0 + 2 * (came + 1) = ne0 + 2 * came + 1 + 1 by omega]
    simp [entM, zsI, upd]
  · show LE _ (entM (entM _ _ _ _ _ _) _ _ _ _ _)
    have e0 : lgf (fun j => if j = came then (a, b, c, max x (30 * cl), nI v) else dat j) ne0 came μ0 = lgf dat ne0 came μ0 := lgf_congr came (fun i hi => if_neg (by omega))
    rw [e0]
    simp only [if_true]
    exact LE_ent (LE_ent (LE_tr (LE_mad α g t (np0 + came) (nI v)) hD) _ _ _ _ _) _ _ _ _ _
  · obtain ⟨m1, m2, m3, m4, m5, m6, m7, m8, m9, m10⟩ := madB_i β g t (np0 + came) (nI v)
    rw [m1 0 10 (by omega), m1 0 11 (by omega), m1 0 12 (by omega), m1 0 14 (by omega)]
    by_cases q : j = came
    · subst q
      simp only [if_true]
      exact ⟨g, t, x, m7, m8, hg, ht, a2, bb2, cc2, x2, rfl, m9, hx, ha, hb, hc⟩
    · simp only [if_neg q]
      obtain ⟨g', t', x', y⟩ := hP j (by omega)
      rw [(m6 (np0 + j) (by omega)).1, (m6 (np0 + j) (by omega)).2.1, (m6 (np0 + j) (by omega)).2.2]
      exact ⟨g', t', x', y⟩
  · intro c' hc'
    have : c' ≠ 0 ∧ c' ≠ 3 ∧ c' ≠ 4 ∧ c' ≠ 5 ∧ c' ≠ 6 := by omega
    have e1 := (madB_i α g t (np0 + came) (nI v)).1 0 c' (by omega)
    rw [← e1]
    simp [entM, zsI, this]
/-- the class keeps what it has gathered -/
theorem MX_keep {w : zS} {n m : Nat} {G T dg dt : Nat → Nat} (hM : MX w n m G T dg dt) {g t np : Nat} (hp : w.2.2.2.2 = np) (v : Int32) : MX (keepX w g t np v) n m G T dg dt := by
  obtain ⟨x1, x2, x3, x4, x5, x6, x7, x8⟩ := keepX_i w g t np v hp
  obtain ⟨r1, r2, r3, r4, r5, r6, r7, r8⟩ := keepX_r w g t np v hp
  obtain ⟨a1, a2, a3, a4, a5, a6⟩ := hM
  have e6 : ∀ u, (keepX w g t np v).1 1 u 6 = w.1 1 u 6 := by
    intro u
    by_cases q : u = g ∨ u = t
    · exact (x5 u q).2.2 6 (by decide) (by decide)
    · rw [x4 u (fun z => q (Or.inl z)) (fun z => q (Or.inr z))]
  unfold MX
  rw [x1 3 (by decide), r1 0 20 (by omega) (by omega), r1 0 21 (by omega) (by omega), r8]
  refine ⟨a1, a2, a3, a4, fun i hi => ?_, fun j hj => ?_⟩
  · rw [e6]; exact a5 i hi
  · rw [e6]; exact a6 j hj
theorem tailX {N n m : Nat} {G T dg dt : Nat → Nat} {y1 y2 : Int32} {room c : Nat} {σ : zS} (hM : MX σ n m G T dg dt) (hr : room ≤ 25) (hc : c ≤ 25) : ∀ (f i : Nat), n ≤ i → i ≤ 8 → 8 - i < f → lX2_pairGroup_64 N y1 y2 (nI room) (fun y15 y16 w17 => some (y15, w17)) f (nI c, nI i, σ) = some (nI c, σ) := by
  intro f
  induction f with
  | zero => intro i _ _ h; omega
  | succ f ih =>
    intro i hi hi8 hf
    show bX2_pairGroup_64 N y1 y2 (nI room) (fun y15 y16 w17 => some (y15, w17)) _ (nI c) (nI i) σ = _
    simp only [bX2_pairGroup_64]
    by_cases c1 : i = 8
    · subst c1
      rw [if_pos (by decide)]
    rw [if_neg (show ¬ (8 : Int32) ≤ nI i from nI_ge (b := 8) (by omega) (by omega))]
    by_cases c2 : room ≤ c
    · rw [if_pos (nI_le c2 (by omega))]
    rw [if_neg (nI_ge (by omega) (by omega)), give_out hM hi (by omega)]
    simp only [zbi]
    have tf : fX4_takeFor N (nI i) σ = some (none, σ) := by
      unfold fX4_takeFor
      rw [if_neg (nI_pos (by omega)), hM.1, if_neg (nI_nlt hi (by omega))]
    rw [tf]
    simp only [zon, nI_1]
    exact ih (i + 1) (by omega) (by omega) (by omega)
/-- only chains are asked for -/
def FQ' (w w' : zS) : Prop := (∀ g, w'.2.2.1 0 19 g = w.2.2.1 0 19 g) ∧ (∀ t, w'.2.2.1 1 t 9 = w.2.2.1 1 t 9) ∧ ∀ c, c = 8 ∨ c = 9 → w'.1 0 c = w.1 0 c
/-- the choices of a group are carried out, step by step on both sides -/
theorem lock {N d h kn ru ne0 cl nt np0 came0 n m room : Nat} {G T dg dt : Nat → Nat} {μ0 : zS} (y1 y2 y3 y4 : Int32) (hN : 1000000000 ≤ N) (hroom : room ≤ 25) (hne : ne0 + 2 * (came0 + room) ≤ 1990) (hGn : ∀ i, i < n → G i < nt) (hTn : ∀ j, j < m → T j < nt) (hGT : ∀ i j, i < n → j < m → G i ≠ T j) (hGi : ∀ i i', i < n → i' < n → G i = G i' → i = i') (hTi : ∀ i i', i < m → i' < m → T i = T i' → i = i') (ch : Nat → Nat) (hch : ch = chs n m (nrD dg dt) (apD dg dt)) (ga gb gk : Int32) : ∀ (r i c : Nat) (σ β α : zS) (fX fM : Nat), i + r = n → c ≤ room → RQ d h kn ru ne0 cl nt np0 μ0 (came0 + c) σ β α → MX σ n m G T dg dt → σ.2.1 0 3 6 = lN (Sf n m (nrD dg dt) (apD dg dt) n 0) → MM α n m G T dg dt → (∀ i, i ≤ n → RT α n m (nrD dg dt) (apD dg dt) i) → (∀ u, (∃ i', i' < n ∧ u = G i') ∨ (∃ j, j < m ∧ u = T j) → β.1 0 10 u = ga ∧ β.1 0 11 u = gb ∧ β.1 0 12 u = gk) → (∀ i', i ≤ i' → i' < n → β.1 0 15 (G i') = 0) → (∀ j, j < m → (Us n m (nrD dg dt) (apD dg dt) i).testBit j = false → β.1 0 15 (T j) = 0) → 8 - i < fX → r < fM → ∃ e σ' β' α', lX2_pairGroup_64 N y1 (nI ru) (nI room) (fun y15 y16 w17 => some (y15, w17)) fX (nI c, nI i, σ) = some (nI e, σ') ∧ lX8_pairThose_230 N y2 y3 y4 (nI room) (nI n) (nI m) (fun y33 y34 y35 w36 => some (y34, w36)) fM (nI (Us n m (nrD dg dt) (apD dg dt) i), nI c, nI i, α) = some (nI e, α') ∧ c ≤ e ∧ e ≤ room ∧ RQ d h kn ru ne0 cl nt np0 μ0 (came0 + e) σ' β' α' ∧ FQ' σ σ' ∧ (∀ u, (¬ ∃ i', i' < n ∧ u = G i') → (¬ ∃ j, j < m ∧ u = T j) → β'.1 0 15 u = β.1 0 15 u) ∧ (β'.1 0 9 = β.1 0 9 ∧ β'.1 0 10 = β.1 0 10 ∧ β'.1 0 11 = β.1 0 11 ∧ β'.1 0 12 = β.1 0 12) ∧ ((∀ i', i' < n → ch i' = 8) → e = c ∧ α' = α) := by
  intro r
  induction r with
  | zero =>
    intro i c σ β α fX fM hir hc hR hMX h6 hMM hRT hgrp hoG hoT f3 f4
    have hi : i = n := by omega
    subst hi
    have n8 := hMX.2.2.1
    obtain ⟨fM', rfl⟩ : ∃ f, fM = f + 1 := ⟨fM - 1, by omega⟩
    refine ⟨c, σ, β, α, tailX hMX hroom (by omega) fX i (Nat.le_refl i) n8 f3, ?_, Nat.le_refl c, hc, hR, ⟨fun _ => rfl, fun _ => rfl, fun _ _ => rfl⟩, fun u _ _ => rfl, ⟨rfl, rfl, rfl, rfl⟩, fun _ => ⟨rfl, rfl⟩⟩
    show bX8_pairThose_230 N y2 y3 y4 (nI room) (nI i) (nI m) (fun y33 y34 y35 w36 => some (y34, w36)) _ (nI _) (nI c) (nI i) α = _
    simp only [bX8_pairThose_230]
    rw [if_pos (nI_le (Nat.le_refl i) (by omega))]
  | succ r ih =>
    intro i c σ β α fX fM hir hc hR hMX h6 hMM hRT hgrp hoG hoT f3 f4
    have n8 := hMX.2.2.1
    have m8 := hMX.2.2.2.1
    have hi : i < n := by omega
    obtain ⟨gX, rfl⟩ : ∃ f, fX = f + 1 := ⟨fX - 1, by omega⟩
    obtain ⟨gM, rfl⟩ : ∃ f, fM = f + 1 := ⟨fM - 1, by omega⟩
    obtain ⟨p1, p256, p0⟩ := bits3 m (by omega)
    have hU := Us_lt (n := n) (m := m) (nr := nrD dg dt) (ap := apD dg dt) i
    have hUs := Us_succ (n := n) (m := m) (nr := nrD dg dt) (ap := apD dg dt) i
    have hcl := chs_lt (n := n) (m := m) (nr := nrD dg dt) (ap := apD dg dt) i
    have tk := takeFor_eq (N := N) hMX h6 hi
    rw [← hch] at hUs hcl tk
    obtain ⟨U, eU⟩ : ∃ U, U = Us n m (nrD dg dt) (apD dg dt) i := ⟨_, rfl⟩
    rw [← eU] at hU hUs hoT ⊢
    by_cases c2 : c = room
    · refine ⟨c, σ, β, α, ?_, ?_, Nat.le_refl c, hc, hR, ⟨fun _ => rfl, fun _ => rfl, fun _ _ => rfl⟩, fun u _ _ => rfl, ⟨rfl, rfl, rfl, rfl⟩, fun _ => ⟨rfl, rfl⟩⟩
      · show bX2_pairGroup_64 N y1 (nI ru) (nI room) (fun y15 y16 w17 => some (y15, w17)) _ (nI c) (nI i) σ = _
        simp only [bX2_pairGroup_64]
        rw [if_neg (show ¬ (8 : Int32) ≤ nI i from nI_ge (b := 8) (by omega) (by omega)), if_pos (nI_le (by omega) (by omega))]
      · show bX8_pairThose_230 N y2 y3 y4 (nI room) (nI n) (nI m) (fun y33 y34 y35 w36 => some (y34, w36)) _ (nI U) (nI c) (nI i) α = _
        simp only [bX8_pairThose_230]
        rw [if_neg (nI_ge hi (by omega)), if_pos (nI_le (by omega) (by omega))]
    -- the reference's choice is the class's
    obtain ⟨yy, j, ej, hj⟩ := found_eq (i := i) (U := U) y2 y3 y4 (nI room) (nI c) hN hMM hi hU hRT (fun y27 y28 w29 => if y27 < 0 then lX8_pairThose_230 N y2 y3 y4 (nI room) (nI n) (nI m) (fun y33 y34 y35 w36 => some (y34, w36)) gM (nI U, nI c, nI i + 1, w29) else (zld w29 27 8 (nI i) fun v30 => zld w29 28 8 y27 fun v31 => zbv (fX8_made N v30 v31 w29) fun w32 => lX8_pairThose_230 N y2 y3 y4 (nI room) (nI n) (nI m) (fun y33 y34 y35 w36 => some (y34, w36)) gM ((nI U ||| ((1 : Int32) <<< (y27 &&& 31))), (nI c + (1 : Int32)), (nI i + (1 : Int32)), w32)))
    have jch : j = ch i := by
      rw [hch]
      rw [eU] at hj
      exact GR_uq m8 hj (chs_gr i)
    subst jch
    have eM : lX8_pairThose_230 N y2 y3 y4 (nI room) (nI n) (nI m) (fun y33 y34 y35 w36 => some (y34, w36)) (gM + 1) (nI U, nI c, nI i, α) = (if (if ch i = 8 then (-1 : Int32) else nI (ch i)) < 0 then lX8_pairThose_230 N y2 y3 y4 (nI room) (nI n) (nI m) (fun y33 y34 y35 w36 => some (y34, w36)) gM (nI U, nI c, nI i + 1, α) else (zld α 27 8 (nI i) fun v30 => zld α 28 8 (if ch i = 8 then (-1 : Int32) else nI (ch i)) fun v31 => zbv (fX8_made N v30 v31 α) fun w32 => lX8_pairThose_230 N y2 y3 y4 (nI room) (nI n) (nI m) (fun y33 y34 y35 w36 => some (y34, w36)) gM ((nI U ||| ((1 : Int32) <<< ((if ch i = 8 then (-1 : Int32) else nI (ch i)) &&& 31))), (nI c + (1 : Int32)), (nI i + (1 : Int32)), w32))) := by
      show bX8_pairThose_230 N y2 y3 y4 (nI room) (nI n) (nI m) (fun y33 y34 y35 w36 => some (y34, w36)) _ (nI U) (nI c) (nI i) α = _
      simp only [bX8_pairThose_230]
      rw [if_neg (nI_ge hi (by omega)), if_neg (nI_ge (by omega) (by omega))]
      exact ej
    have eX : lX2_pairGroup_64 N y1 (nI ru) (nI room) (fun y15 y16 w17 => some (y15, w17)) (gX + 1) (nI c, nI i, σ) = zon (if ch i = 8 then none else some (T (ch i))) (lX2_pairGroup_64 N y1 (nI ru) (nI room) (fun y15 y16 w17 => some (y15, w17)) gX (nI c, nI (i + 1), σ)) (if (200 : Int32) ≤ (σ.1 0 2 5) then lX2_pairGroup_64 N y1 (nI ru) (nI room) (fun y15 y16 w17 => some (y15, w17)) gX (nI c, nI (i + 1), σ) else (zbv (fX2_keepPair N (some (G i)) (if ch i = 8 then none else some (T (ch i))) (nI ru) σ) fun w14 => lX2_pairGroup_64 N y1 (nI ru) (nI room) (fun y15 y16 w17 => some (y15, w17)) gX (nI (c + 1), nI (i + 1), w14))) := by
      show bX2_pairGroup_64 N y1 (nI ru) (nI room) (fun y15 y16 w17 => some (y15, w17)) _ (nI c) (nI i) σ = _
      simp only [bX2_pairGroup_64]
      rw [if_neg (show ¬ (8 : Int32) ≤ nI i from nI_ge (b := 8) (by omega) (by omega)), if_neg (nI_ge (by omega) (by omega)), give_in hMX hi]
      simp only [zbi]
      rw [tk]
      simp only [zon, nI_1]
      rfl
    rw [eX, eM]
    by_cases q8 : ch i = 8
    · rw [if_pos q8] at hUs
      simp only [if_pos q8, zon]
      rw [if_pos (by decide), nI_1, ← hUs]
      exact ih (i + 1) c σ β α gX gM (by omega) hc hR hMX h6 hMM hRT hgrp (fun i' g1 g2 => hoG i' (by omega) g2) (fun j' g1 g2 => hoT j' g1 (by rw [hUs] at g2; exact g2)) (by omega) (by omega)
    · have hjm : ch i < m := by
        rcases hcl with z | z
        · exact absurd z q8
        · exact z
      rw [if_neg q8] at hUs
      simp only [if_neg q8, zon]
      have gr := chs_gr (n := n) (m := m) (nr := nrD dg dt) (ap := apD dg dt) i
      rw [← hch, ← eU] at gr
      have ub : U.testBit (ch i) = false := by
        rcases gr with ⟨z, -⟩ | ⟨-, z, -⟩
        · exact absurd z q8
        · exact z.2
      obtain ⟨ga1, gb1, gk1⟩ := hgrp (G i) (Or.inl ⟨i, hi, rfl⟩)
      obtain ⟨ga2, gb2, gk2⟩ := hgrp (T (ch i)) (Or.inr ⟨ch i, hjm, rfl⟩)
      obtain ⟨v, α', k1, k2, k3, k4⟩ := RQ_pair (N := N) hR (by omega) (hGn i hi) (hTn (ch i) hjm) (hGT i (ch i) hi hjm) (hoG i (Nat.le_refl i) hi) (hoT (ch i) hjm ub) (by rw [ga1, ga2]) (by rw [gb1, gb2]) (by rw [gk1, gk2])
      have hA := hR.1
      have rmp := room_pair hA (hGn i hi) (hTn (ch i) hjm) (hGT i (ch i) hi hjm) (hoG i (Nat.le_refl i) hi) (hoT (ch i) hjm ub)
      have bnd := JJ_b hA.1
      have np5 : σ.1 0 2 5 = nI (np0 + (came0 + c)) := hA.1.2.2.2.2.2.2.2.1.1
      rw [np5, if_neg (show ¬ (200 : Int32) ≤ nI (np0 + (came0 + c)) from nI_ge (b := 200) (by omega) (by omega)), k1, if_neg (nI_pos (by omega)), zld_at (by omega) (by omega), zld_at (by omega) (by omega), (hMM.2.2.1 i hi).1, (hMM.2.2.2 (ch i) hjm).1, k2]
      simp only [zbv]
      rw [(bits2 U (by omega) (ch i) (by omega)).2.1, nI_1, nI_1, ← hUs]
      have hp : σ.2.2.2.2 = np0 + (came0 + c) := by rw [JJ_cnt hA.1]
      have MM' : MM α' n m G T dg dt := by
        unfold MM at hMM ⊢
        rw [k4 27 (by omega), k4 28 (by omega), k4 14 (by omega)]
        exact hMM
      obtain ⟨m1, m2, m3, m4, m5, m6, m7, m8', m9, m10⟩ := madB_i β (G i) (T (ch i)) (np0 + (came0 + c)) (nI v)
      obtain ⟨r1, r2, r3, r4, r5, r6, r7, r8⟩ := keepX_r σ (G i) (T (ch i)) (np0 + (came0 + c)) (nI v) hp
      obtain ⟨e, σ', β', α'', z1, z2, z3, z4, z5, z6, z7, z8, -⟩ := ih (i + 1) (c + 1) (keepX σ (G i) (T (ch i)) (np0 + (came0 + c)) (nI v)) (madB β (G i) (T (ch i)) (np0 + (came0 + c)) (nI v)) α' gX gM (by omega) (by omega) k3 (MX_keep hMX hp (nI v)) (by rw [r7]; exact h6) MM' (fun i' g1 U' hU' => by rw [k4 29 (by omega)]; exact hRT i' g1 U' hU') (fun u hu => by rw [m1 0 10 (by omega), m1 0 11 (by omega), m1 0 12 (by omega)]; exact hgrp u hu) (fun i' g1 g2 => by rw [(m4 (G i') (fun z => by have := hGi i' i g2 hi z; omega) (hGT i' (ch i) g2 hjm)).1]; exact hoG i' (by omega) g2) (fun j' g1 g2 => by
          have nj : j' ≠ ch i := by
            rintro rfl
            rw [hUs, ((bits1 U (by omega) (ch i) (by omega)).2 ub).1] at g2
            cases g2
          have ng : T j' ≠ G i := fun z => hGT i j' hi g1 z.symm
          have nt' : T j' ≠ T (ch i) := fun z => nj (hTi j' (ch i) g1 hjm z)
          rw [(m4 (T j') ng nt').1]
          refine hoT j' g1 ?_
          rw [hUs, Nat.testBit_or] at g2
          cases hb : U.testBit j' with
          | true => rw [hb] at g2; simp at g2
          | false => rfl) (by omega) (by omega)
      refine ⟨e, σ', β', α'', z1, z2, by omega, z4, z5, ?_, ?_, ?_, fun z => absurd (z i hi) q8⟩
      · refine ⟨fun g => ?_, fun t => ?_, fun c' hc' => ?_⟩
        · rw [z6.1 g, r1 0 19 (by omega) (by omega)]
        · rw [z6.2.1 t, r1 1 t (by omega) (by omega)]
        · rw [z6.2.2 c' hc', (keepX_i σ (G i) (T (ch i)) (np0 + (came0 + c)) (nI v) hp).1 c' (by omega)]
      · intro u g1 g2
        rw [z7 u g1 g2, (m4 u (fun z => g1 ⟨i, hi, z⟩) (fun z => g2 ⟨ch i, hjm, z⟩)).1]
      · rw [m1 0 9 (by omega), m1 0 10 (by omega), m1 0 11 (by omega), m1 0 12 (by omega)] at z8
        exact z8
