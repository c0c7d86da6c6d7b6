theorem LL_sorted (op : Nat → Bool) (nt : Nat) : ∀ j, j ≤ nt → (LL op nt j).Pairwise (· < ·) := by
  intro j
  induction j with
  | zero => intro _; exact List.Pairwise.nil
  | succ j ih =>
    intro hj
    simp only [LL]
    by_cases q : op (nt - j - 1) = true
    · rw [if_pos q]
      refine List.Pairwise.cons (fun u hu => ?_) (ih (by omega))
      have := (LL_mem (by omega) hu).1
      omega
    · rw [if_neg q]; exact ih (by omega)
theorem LL_len (op : Nat → Bool) (nt : Nat) : ∀ j, (LL op nt j).length ≤ j := by
  intro j
  induction j with
  | zero => simp [LL]
  | succ j ih =>
    simp only [LL]
    split
    · simp; exact ih
    · omega
theorem tk8_sub (l : List Nat) : (tk8 l []).Sublist l := by
  unfold tk8
  simp only [List.nil_append]
  exact List.take_sublist _ _
theorem getD_mem {c : List Nat} {i : Nat} (h : i < c.length) : c.getD i 0 ∈ c := by
  have : c.getD i 0 = c[i] := by simp [List.getD, h]
  rw [this]
  exact List.getElem_mem h
theorem getD_inj {c : List Nat} (hs : c.Pairwise (· < ·)) {i j : Nat} (hi : i < c.length) (hj : j < c.length) (h : c.getD i 0 = c.getD j 0) : i = j := by
  have e1 : c.getD i 0 = c[i] := by simp [List.getD, hi]
  have e2 : c.getD j 0 = c[j] := by simp [List.getD, hj]
  rw [e1, e2] at h
  rcases Nat.lt_trichotomy i j with q | q | q
  · have := List.pairwise_iff_getElem.mp hs i j hi hj q
    omega
  · exact q
  · have := List.pairwise_iff_getElem.mp hs j i hj hi q
    omega
theorem RQ_scr {d h kn ru ne0 cl nt np0 came : Nat} {μ0 σ β α σ' α' : zS} (hR : RQ d h kn ru ne0 cl nt np0 μ0 came σ β α) (hX : FP σ σ') (hv : zvalT σ') (hM : Fm [27, 28, 29] α α') : RQ d h kn ru ne0 cl nt np0 μ0 came σ' β α' := by
  obtain ⟨hA, hS, hL, h5, dat, hD, hP⟩ := hR
  refine ⟨JA_FP hA hX hv (Fm_refl _ _), ⟨hM.1.trans hS.1, fun q c hn => ?_, fun j hj => ?_⟩, hL, ?_, dat, ?_, hP⟩
  · rw [hM.2 q c (fun z => hn ⟨z.1, by have := z.2; simp at this; omega⟩)]
    exact hS.2.1 q c hn
  · rw [hM.2 0 0 (by decide)]; exact hS.2.2 j hj
  · rw [hM.2 0 0 (by decide)]; exact h5
  · unfold LE
    rw [hM.2 0 3 (by decide), hM.2 0 4 (by decide), hM.2 0 5 (by decide), hM.2 0 6 (by decide), hM.2 0 0 (by decide)]
    exact hD
theorem chn_none {nx : Nat → Option Nat} {l : List Nat} (h : chn nx l none) : l = [] := by
  cases l with
  | nil => rfl
  | cons t l => have := h.1; cases this
set_option maxHeartbeats 1000000 in
theorem group_eq {N d h kn ru ne0 cl nt np0 came a b k : Nat} {μ0 σ β α : zS} (hN : 1000000000 ≤ N) (hR : RQ d h kn ru ne0 cl nt np0 μ0 came σ β α) (hc : came < 25) (hne : ne0 ≤ 1900) (ha : a < 10) (hb : b < 10) (hk : k < 6) (hch : chn (fun t => σ.2.2.1 1 t 9) (LL (oG β a b k) nt nt) (σ.2.2.1 0 19 (gix a b k))) : ∃ e σ' β' α', e ≤ 25 - came ∧ ((σ.2.2.1 0 19 (gix a b k) = none ∧ σ' = σ ∧ e = 0) ∨ ((∃ u, σ.2.2.1 0 19 (gix a b k) = some u) ∧ fX2_pairGroup N (nI (gix a b k)) (nI ru) (nI (25 - came)) σ = some (nI e, σ'))) ∧ fX8_pairThose N (nI a) (nI b) (nI k) (nI (25 - came)) α = some (nI e, α') ∧ RQ d h kn ru ne0 cl nt np0 μ0 (came + e) σ' β' α' ∧ FQ' σ σ' ∧ (∀ u, ¬ (β.1 0 10 u = nI a ∧ β.1 0 11 u = nI b ∧ β.1 0 12 u = nI k) → β'.1 0 15 u = β.1 0 15 u) ∧ β'.1 0 9 = β.1 0 9 ∧ β'.1 0 10 = β.1 0 10 ∧ β'.1 0 11 = β.1 0 11 ∧ β'.1 0 12 = β.1 0 12 := by
  obtain ⟨hA, hS, -⟩ := id hR
  obtain ⟨h1, h2, h3, h4, h5, h6, h7, h8, h9⟩ := id hA
  obtain ⟨b0, b1, b2, b3, b4, b5, b6, b7⟩ := JJ_b h1
  have cnt := JJ_cnt h1
  have sr : ∀ c, ¬ (c = 0 ∨ c = 3 ∨ c = 4 ∨ c = 5 ∨ c = 6 ∨ c = 27 ∨ c = 28 ∨ c = 29) → α.1 0 c = β.1 0 c := fun c hc => hS.2.1 0 c (fun z => hc z.2)
  -- what each telling tells
  obtain ⟨gv, hgv⟩ : ∃ gv : Nat → Nat, ∀ t, t < nt → gv t ≤ 1 ∧ σ.1 1 t 1 = nI (gv t) ∧ β.1 0 9 t = nI (gv t) := by
    refine ⟨fun t => (β.1 0 9 t).toNatClampNeg, fun t ht => ?_⟩
    obtain ⟨-, -, ⟨g, g1, g2, g3⟩, -⟩ := h5.1 t ht
    simp only [g3, nI_clamp (show g < 2 ^ 31 by omega)]
    exact ⟨g1, g2, trivial⟩
  obtain ⟨dy, hdy⟩ : ∃ dy : Nat → Nat, ∀ t, t < nt → dy t ≤ 599 ∧ σ.1 1 t 6 = nI (dy t) ∧ β.1 0 14 t = nI (dy t) := by
    refine ⟨fun t => (β.1 0 14 t).toNatClampNeg, fun t ht => ?_⟩
    obtain ⟨-, -, -, -, -, ⟨x, g1, g2, g3⟩, -⟩ := h5.1 t ht
    simp only [g3, nI_clamp (show x < 2 ^ 31 by omega)]
    exact ⟨by omega, g2, trivial⟩
  obtain ⟨l, el⟩ : ∃ l, l = LL (oG β a b k) nt nt := ⟨_, rfl⟩
  rw [← el] at hch
  have lm : ∀ u, u ∈ l → u < nt ∧ oG β a b k u = true := fun u hu => by
    rw [el] at hu
    have := LL_mem (Nat.le_refl nt) hu
    exact ⟨this.2.1, this.2.2⟩
  have lso : l.Pairwise (· < ·) := by rw [el]; exact LL_sorted _ _ _ (Nat.le_refl nt)
  have llen : l.length ≤ 400 := by rw [el]; have := LL_len (oG β a b k) nt nt; omega
  obtain ⟨CG, eCG⟩ : ∃ c, c = tk8 (l.filter (fun t => gv t == 1)) [] := ⟨_, rfl⟩
  obtain ⟨CT, eCT⟩ : ∃ c, c = tk8 (l.filter (fun t => gv t == 0)) [] := ⟨_, rfl⟩
  have gm : ∀ u, u ∈ CG → u ∈ l ∧ gv u = 1 := by
    intro u hu
    rw [eCG] at hu
    have := (tk8_sub _).subset hu
    simp at this
    exact this
  have tm : ∀ u, u ∈ CT → u ∈ l ∧ gv u = 0 := by
    intro u hu
    rw [eCT] at hu
    have := (tk8_sub _).subset hu
    simp at this
    exact this
  have gso : CG.Pairwise (· < ·) := by rw [eCG]; exact List.Pairwise.sublist ((tk8_sub _).trans (List.filter_sublist)) lso
  have tso : CT.Pairwise (· < ·) := by rw [eCT]; exact List.Pairwise.sublist ((tk8_sub _).trans (List.filter_sublist)) lso
  have n8 : CG.length ≤ 8 := by rw [eCG]; exact tk8_len _ (by simp)
  have m8 : CT.length ≤ 8 := by rw [eCT]; exact tk8_len _ (by simp)
  obtain ⟨G, hG⟩ : ∃ G : Nat → Nat, ∀ i, G i = CG.getD i 0 := ⟨fun i => CG.getD i 0, fun _ => rfl⟩
  obtain ⟨T, hT⟩ : ∃ T : Nat → Nat, ∀ i, T i = CT.getD i 0 := ⟨fun i => CT.getD i 0, fun _ => rfl⟩
  obtain ⟨dg, hdg⟩ : ∃ dg : Nat → Nat, ∀ i, dg i = dy (G i) := ⟨fun i => dy (G i), fun _ => rfl⟩
  obtain ⟨dt, hdt⟩ : ∃ dt : Nat → Nat, ∀ i, dt i = dy (T i) := ⟨fun i => dy (T i), fun _ => rfl⟩
  have Gm : ∀ i, i < CG.length → G i ∈ l ∧ gv (G i) = 1 := fun i hi => by rw [hG]; exact gm _ (getD_mem hi)
  have Tm : ∀ i, i < CT.length → T i ∈ l ∧ gv (T i) = 0 := fun i hi => by rw [hT]; exact tm _ (getD_mem hi)
  have Gn : ∀ i, i < CG.length → G i < nt := fun i hi => (lm _ (Gm i hi).1).1
  have Tn : ∀ i, i < CT.length → T i < nt := fun i hi => (lm _ (Tm i hi).1).1
  -- the reference gathers
  have opE : ∀ (w : zS) (g : Nat), g ≤ 1 → (∀ c, c = 9 ∨ c = 10 ∨ c = 11 ∨ c = 12 ∨ c = 15 → w.1 0 c = β.1 0 c) → LL (opM w g a b k) nt nt = l.filter (fun t => gv t == g) := by
    intro w g hg hw
    rw [el, ← LL_filter]
    refine LL_congr (fun t ht => ?_) nt (Nat.le_refl nt)
    obtain ⟨y1, y2, y3⟩ := hgv t ht
    unfold opM oG
    rw [hw 9 (by omega), hw 10 (by omega), hw 11 (by omega), hw 12 (by omega), hw 15 (by omega), y3]
    have e : (nI (gv t) = nI g) ↔ gv t = g := nI_eq (by omega) (by omega)
    by_cases q : gv t = g
    · simp [q]
    · simp [e, q]
  have aw : ∀ c, c = 9 ∨ c = 10 ∨ c = 11 ∨ c = 12 ∨ c = 15 → α.1 0 c = β.1 0 c := fun c hc => sr c (by omega)
  obtain ⟨α1, g1, f1, r27⟩ := gather27 (N := N) (nt := nt) (g := 1) (a := a) (b := b) (k := k) (w := α) hN b6 (by rw [hS.2.2 13 (by decide)]; exact h1.2.2.2.2.2.2.1.2)
  rw [opE α 1 (by omega) aw, ← eCG] at g1 r27
  have aw1 : ∀ c, c = 9 ∨ c = 10 ∨ c = 11 ∨ c = 12 ∨ c = 15 → α1.1 0 c = β.1 0 c := fun c hc => by rw [f1.2 0 c (fun z => by have := z.2; simp at this; omega)]; exact aw c hc
  obtain ⟨α2, g2, f2, r28⟩ := gather28 (N := N) (nt := nt) (g := 0) (a := a) (b := b) (k := k) (w := α1) hN b6 (by rw [f1.2 0 0 (by decide), hS.2.2 13 (by decide)]; exact h1.2.2.2.2.2.2.1.2)
  rw [opE α1 0 (by omega) aw1, ← eCT] at g2 r28
  have f12 : Fm [27, 28, 29] α α2 := Fm_tr (Fm_sub f1 (by decide)) (Fm_sub f2 (by decide))
  have MM2 : MM α2 CG.length CT.length G T dg dt := by
    have e14 : α2.1 0 14 = β.1 0 14 := by rw [f12.2 0 14 (by decide)]; exact sr 14 (by omega)
    refine ⟨n8, m8, fun i hi => ⟨?_, by have := Gn i hi; omega, ?_, ?_⟩, fun j hj => ⟨?_, by have := Tn j hj; omega, ?_, ?_⟩⟩
    · rw [f2.2 0 27 (by decide), hG]; exact r27 i hi
    · rw [e14, hdg]; exact (hdy _ (Gn i hi)).2.2
    · rw [hdg]; exact (hdy _ (Gn i hi)).1
    · rw [hT]; exact r28 j hj
    · rw [e14, hdt]; exact (hdy _ (Tn j hj)).2.2
    · rw [hdt]; exact (hdy _ (Tn j hj)).1
  have eP : fX8_pairThose N (nI a) (nI b) (nI k) (nI (25 - came)) α = lX8_pairThose_31 N (nI a) (nI b) (nI k) (nI (25 - came)) (nI CG.length) (nI CT.length) (fun _ w7 => lX8_pairThose_66 N (nI a) (nI b) (nI k) (nI (25 - came)) (nI CG.length) (nI CT.length) (fun y19 w20 => lX8_pairThose_230 N (nI a) (nI b) (nI k) (nI (25 - came)) (nI CG.length) (nI CT.length) (fun y33 y34 y35 w36 => some (y34, w36)) N ((0 : Int32), (0 : Int32), (0 : Int32), w20)) N ((nI CG.length - (1 : Int32)), w7)) N ((0 : Int32), α2) := by
    unfold fX8_pairThose
    rw [show (1 : Int32) = nI 1 from rfl, g1]
    simp only [zbi]
    rw [show (0 : Int32) = nI 0 from rfl, g2]
  obtain ⟨yt, α3, g3, f3, r29⟩ := table_eq (nI a) (nI b) (nI k) (nI (25 - came)) hN MM2 (fun y19 w20 => lX8_pairThose_230 N (nI a) (nI b) (nI k) (nI (25 - came)) (nI CG.length) (nI CT.length) (fun y33 y34 y35 w36 => some (y34, w36)) N ((0 : Int32), (0 : Int32), (0 : Int32), w20))
  rw [g3] at eP
  have MM3 : MM α3 CG.length CT.length G T dg dt := MM_fm MM2 f3 (by decide) (by decide) (by decide)
  have f13 : Fm [27, 28, 29] α α3 := Fm_tr f12 (Fm_sub f3 (by decide))
  -- the class, if there is a chain
  cases hf : σ.2.2.1 0 19 (gix a b k) with
  | none =>
    rw [hf] at hch
    have l0 := chn_none hch
    have nG : CG.length = 0 := by rw [eCG, l0]; rfl
    obtain ⟨n, rfl⟩ : ∃ n, N = n + 1 := ⟨N - 1, by omega⟩
    refine ⟨0, σ, β, α3, by omega, Or.inl ⟨rfl, rfl, rfl⟩, ?_, RQ_scr hR (FP_refl σ) h7.1 f13, ⟨fun _ => rfl, fun _ => rfl, fun _ _ => rfl⟩, fun u _ => rfl, rfl, rfl, rfl, rfl⟩
    rw [eP]
    show bX8_pairThose_230 (n + 1) (nI a) (nI b) (nI k) (nI (25 - came)) (nI CG.length) (nI CT.length) (fun y33 y34 y35 w36 => some (y34, w36)) _ (0 : Int32) (0 : Int32) (0 : Int32) α3 = _
    simp only [bX8_pairThose_230]
    rw [if_pos (show nI CG.length ≤ 0 from (nI_le0 (by omega)).mpr nG)]
    rfl
  | some u0 =>
    have gl : gix a b k < 600 := by unfold gix; omega
    obtain ⟨σa, eσa⟩ : ∃ σa, σa = zsJ (zsI (zsI σ 0 3 4 0) 0 3 5 0) 0 3 6 0 := ⟨_, rfl⟩
    have fa : FQ σ σa := by
      rw [eσa]
      have := FQ_i3 (FQ_i3 (FQ_refl σ) 4 0) 5 0
      exact FQ_tr this (FQ_FL (FL_st (FL_refl _) (by omega) 6 0))
    have va : zvalT σa := by rw [eσa]; exact h7.1
    have ca : σa.2.2.2 = (nt, np0 + came) := by rw [eσa]; exact cnt
    have a4 : σa.1 0 3 4 = 0 := by rw [eσa]; simp [zsJ, zsI, upd]
    have a5 : σa.1 0 3 5 = 0 := by rw [eσa]; simp [zsJ, zsI, upd]
    have a6 : σa.2.1 0 3 6 = 0 := by rw [eσa]; simp [zsJ, vp_updL]
    have af : σa.2.2.1 0 19 (gix a b k) = some u0 := by rw [fa.2.1]; exact hf
    have ha1 : chn (fun t => σa.2.2.1 1 t 9) l (some u0) := by
      rw [← hf]
      exact chn_congr (fun u _ => fa.2.2 u) hch
    have eG0 : fX2_pairGroup N (nI (gix a b k)) (nI ru) (nI (25 - came)) σ = lX2_pairGroup_15 N (nI (gix a b k)) (nI ru) (nI (25 - came)) (fun y5 w6 => zbi (fX4_hasNear N w6) fun v8 w7 => if v8 = 0 then (some ((0 : Int32), w7)) else (zbv (fX4_solve N w7) fun w9 => lX2_pairGroup_64 N (nI (gix a b k)) (nI ru) (nI (25 - came)) (fun y15 y16 w17 => some (y15, w17)) N ((0 : Int32), (0 : Int32), w9))) N (some u0, σa) := by
      unfold fX2_pairGroup fX4_clear
      simp only [zlet, zbv]
      rw [← eσa, zldR_at gl (by omega), af]
    obtain ⟨yo, σb, e2, fb, vb, jb, b4', b5', b20, b21⟩ := offer_eq (w := σa) (l := l) (gv := gv) (nI (gix a b k)) (nI ru) (nI (25 - came)) hN llen ca a4 a5 va (fun t ht => by
      have := lm t ht
      obtain ⟨y1, y2, y3⟩ := hgv t this.1
      exact ⟨this.1, by rw [fa.1.2.1 1 t (by omega)]; exact y2, y1⟩) ha1 (fun y5 w6 => zbi (fX4_hasNear N w6) fun v8 w7 => if v8 = 0 then (some ((0 : Int32), w7)) else (zbv (fX4_solve N w7) fun w9 => lX2_pairGroup_64 N (nI (gix a b k)) (nI ru) (nI (25 - came)) (fun y15 y16 w17 => some (y15, w17)) N ((0 : Int32), (0 : Int32), w9)))
    rw [← eCG] at b4' b20
    rw [← eCT] at b5' b21
    rw [e2] at eG0
    have fab : FQ σ σb := FQ_tr fa fb
    have cb : σb.2.2.2 = (nt, np0 + came) := by rw [fb.1.1]; exact ca
    have MXb : MX σb CG.length CT.length G T dg dt := by
      refine ⟨b4', b5', n8, m8, fun i hi => ⟨?_, ?_, ?_, ?_⟩, fun j hj => ⟨?_, ?_, ?_, ?_⟩⟩
      · rw [hG]; exact b20 i hi
      · rw [cb]; exact Gn i hi
      · rw [fab.1.2.1 1 _ (by omega), hdg]; exact (hdy _ (Gn i hi)).2.1
      · rw [hdg]; exact (hdy _ (Gn i hi)).1
      · rw [hT]; exact b21 j hj
      · rw [cb]; exact Tn j hj
      · rw [fab.1.2.1 1 _ (by omega), hdt]; exact (hdy _ (Tn j hj)).2.1
      · rw [hdt]; exact (hdy _ (Tn j hj)).1
    have j6 : σb.2.1 0 3 6 = 0 := by rw [jb]; exact a6
    obtain ⟨σc, e3, fc, c6⟩ := solve_eq (N := N) hN MXb j6
    have MXc := MX_fl MXb fc
    have vc : zvalT σc := by unfold zvalT at vb ⊢; rw [fc.2.1]; exact vb
    have fac : FQ σ σc := FQ_tr fab (FQ_FL fc)
    have oGm : ∀ u, u ∈ l → β.1 0 15 u = 0 ∧ β.1 0 10 u = nI a ∧ β.1 0 11 u = nI b ∧ β.1 0 12 u = nI k := by
      intro u hu
      have := (lm u hu).2
      unfold oG at this
      simpa using this
    have Rc : RQ d h kn ru ne0 cl nt np0 μ0 came σc β α3 := RQ_scr hR fac.1 vc f13
    obtain ⟨e, σ', β', α', z1, z2, z3, z4, z5, z6, z7, z8, z9⟩ := lock (N := N) (n := CG.length) (m := CT.length) (room := 25 - came) (came0 := came) (G := G) (T := T) (dg := dg) (dt := dt) (μ0 := μ0) (nI (gix a b k)) (nI a) (nI b) (nI k) hN (by omega) (by omega) Gn Tn (fun i j hi hj z => by
      have y1 := (Gm i hi).2
      rw [z, (Tm j hj).2] at y1
      cases y1) (fun i i' hi hi' z => by rw [hG, hG] at z; exact getD_inj gso hi hi' z) (fun i i' hi hi' z => by rw [hT, hT] at z; exact getD_inj tso hi hi' z) (chs CG.length CT.length (nrD dg dt) (apD dg dt)) rfl (nI a) (nI b) (nI k) CG.length 0 0 σc β α3 N N (by omega) (by omega) Rc MXc c6 MM3 r29 (fun u hu => by
        rcases hu with ⟨i, hi, rfl⟩ | ⟨j, hj, rfl⟩
        · exact (oGm _ (Gm i hi).1).2
        · exact (oGm _ (Tm j hj).1).2) (fun i _ hi => (oGm _ (Gm i hi).1).1) (fun j hj _ => (oGm _ (Tm j hj).1).1) (by omega) (by omega)
    have hM' : fX8_pairThose N (nI a) (nI b) (nI k) (nI (25 - came)) α = some (nI e, α') := by
      rw [eP]
      exact z2
    obtain ⟨ff, hn1, hn2⟩ := hasNear_eq (N := N) MXb hN
    rw [hn1] at eG0
    simp only [zbi] at eG0
    rcases hn2 with ⟨rfl, hno⟩ | rfl
    · -- nothing near: no pair
      rw [if_pos rfl] at eG0
      have all8 : ∀ i', i' < CG.length → chs CG.length CT.length (nrD dg dt) (apD dg dt) i' = 8 := by
        intro i' hi'
        rcases chs_gr (n := CG.length) (m := CT.length) (nr := nrD dg dt) (ap := apD dg dt) i' with ⟨y, -⟩ | ⟨y1, y2, -⟩
        · exact y
        · have := hno i' _ hi' y1
          rw [show CG.length - (CG.length - i' - 1) - 1 = i' by omega] at y2
          rw [y2.1] at this
          cases this
      obtain ⟨e0, ea⟩ := z9 all8
      rw [e0, ea] at hM'
      exact ⟨0, σb, β, α3, by omega, Or.inr ⟨⟨u0, rfl⟩, eG0⟩, hM', RQ_scr hR fab.1 vb f13, ⟨fab.2.1, fab.2.2, fun c hc => fab.1.2.1 0 c (by omega)⟩, fun u _ => rfl, rfl, rfl, rfl, rfl⟩
    · rw [if_neg c10, e3] at eG0
      simp only [zbv] at eG0
      refine ⟨e, σ', β', α', z4, Or.inr ⟨⟨u0, rfl⟩, ?_⟩, hM', z5, ⟨fun g => (z6.1 g).trans (fac.2.1 g), fun t => (z6.2.1 t).trans (fac.2.2 t), fun c hc => (z6.2.2 c hc).trans (fac.1.2.1 0 c (by omega))⟩, fun u hu => z7 u ?_ ?_, z8⟩
      · rw [eG0]; exact z1
      · rintro ⟨i, hi, rfl⟩; exact hu (oGm _ (Gm i hi).1).2
      · rintro ⟨j, hj, rfl⟩; exact hu (oGm _ (Tm j hj).1).2
