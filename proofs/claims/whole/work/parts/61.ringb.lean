/-- all but some rows of ints is as it was -/
def Fm (L : List Nat) (w0 w : zS) : Prop := w.2 = w0.2 ∧ ∀ q c, ¬ (q = 0 ∧ c ∈ L) → w.1 q c = w0.1 q c
theorem Fm_refl (L : List Nat) (w : zS) : Fm L w w := ⟨rfl, fun _ _ _ => rfl⟩
theorem Fm_st {L : List Nat} {w0 w : zS} (h : Fm L w0 w) {c : Nat} (hc : c ∈ L) (j : Nat) (v : Int32) : Fm L w0 (zsI w 0 c j v) := by
  refine ⟨h.1, fun q' c' hn => ?_⟩
  have : ¬ (q' = 0 ∧ c' = c) := fun e => hn ⟨e.1, by rw [e.2]; exact hc⟩
  simp only [zsI, if_neg this]
  exact h.2 q' c' hn
theorem Fm_row {L : List Nat} {w0 w : zS} (h : Fm L w0 w) {c : Nat} (hc : c ∈ L) (f : Nat → Int32) : Fm L w0 (zrow w c f) := by
  refine ⟨h.1, fun q' c' hn => ?_⟩
  have : ¬ (q' = 0 ∧ c' = c) := fun e => hn ⟨e.1, by rw [e.2]; exact hc⟩
  simp only [zrow, if_neg this]
  exact h.2 q' c' hn
theorem Fm_tr {L : List Nat} {u v w : zS} (h1 : Fm L u v) (h2 : Fm L v w) : Fm L u w := ⟨h2.1.trans h1.1, fun q c hn => (h2.2 q c hn).trans (h1.2 q c hn)⟩
theorem Fm_sub {L M : List Nat} {u v : zS} (h : Fm L u v) (hs : ∀ x, x ∈ L → x ∈ M) : Fm M u v := ⟨h.1, fun q c hn => h.2 q c (fun e => hn ⟨e.1, hs _ e.2⟩)⟩
theorem zsI_ne (w : zS) {c c' : Nat} (j : Nat) (v : Int32) (h : c' ≠ c) : (zsI w 0 c j v).1 0 c' = w.1 0 c' := by
  simp only [zsI]
  rw [if_neg (fun e => h e.2)]
theorem fill26_eq {N : Nat} (w : zS) (hN : 1000000000 ≤ N) : fJ7_fill_53178_c26 N 0 w = some (zrow w 26 (fil (w.1 0 26) 0 10)) := by
  unfold fJ7_fill_53178_c26 lJ7_fill_53178_c26_5
  have := zlp_for (st := fun i => (nI i, zrow w 26 (fil (w.1 0 26) 0 i))) (E := 10) (b := fun rc s => bJ7_fill_53178_c26_5 N 0 10 (fun y2 w3 => some w3) rc s.1 s.2) (r := some (zrow w 26 (fil (w.1 0 26) 0 10))) (fun i hi rc => ?_) (fun rc => ?_) N 0 (by omega) (by omega)
  · have e : zrow w 26 (fil (w.1 0 26) 0 0) = w := zrow_self w 26
    rw [e] at this
    exact this
  · have q : ¬ (10 : Int32) ≤ nI i := nI_ge (b := 10) hi (by omega)
    simp only [bJ7_fill_53178_c26_5, if_neg q, zst_at hi (show 10 < 2 ^ 31 by omega), zrow_st, fil_st, nI_1]
  · have q : (10 : Int32) ≤ nI 10 := by decide
    simp only [bJ7_fill_53178_c26_5, if_pos q]
/-- a row of small numbers -/
def Rw (w : zS) (c n : Nat) (f : Nat → Nat) : Prop := ∀ i, i < n → w.1 0 c i = nI (f i)
theorem Rw_st {w : zS} {c n : Nat} {f : Nat → Nat} (h : Rw w c n f) (j v : Nat) : Rw (zsI w 0 c j (nI v)) c n (fun i => if i = j then v else f i) := by
  intro i hi
  rw [zsI_at]
  by_cases e : i = j
  · subst e; simp [pk_us]
  · simp only [pk_un e, if_neg e]; exact h i hi
theorem Rw_ne {w : zS} {c c' n : Nat} {f : Nat → Nat} (h : Rw w c n f) (hc : c ≠ c') (j : Nat) (v : Int32) : Rw (zsI w 0 c' j v) c n f := by
  intro i hi
  rw [zsI_ne w j v hc]
  exact h i hi
/-- the debts of a kind -/
def DB (row : Nat → Int32) (c : Nat) (D : Nat → Nat → Nat) : Prop := (∀ a b, a < 10 → b < 10 → row (100 * c + 10 * a + b) = nI (D a b)) ∧ ∀ a b, D a b ≤ 100000
theorem nI_le0 {x : Nat} (hx : x < 2 ^ 31) : nI x ≤ 0 ↔ x = 0 := by
  constructor
  · intro h
    rcases Nat.eq_zero_or_pos x with q | q
    · exact q
    · exact absurd h (nI_nle q hx)
  · rintro rfl; decide
theorem nI_eq0 {x : Nat} (hx : x < 2 ^ 31) : nI x = 0 ↔ x = 0 := nI_eq (a := x) (b := 0) hx (by omega)
theorem spread_in {N c s q t : Nat} {D : Nat → Nat → Nat} {w0 : zS} (hN : 1000000000 ≤ N) (hc : c < 6) (hs : s < 10) (ht : t < 10) (hD : DB (w0.1 0 24) c D) (K : Int32 → Int32 → zS → Option zS) {qn : Nat} {st qu : Nat → Nat} {w : zS} (hF : Fm [26, 27] w0 w) (h26 : Rw w 26 10 st) (h27 : Rw w 27 qn qu) (hB : BQ D s q qn st qu) (hq : q < qn) (hqt : qu q = t) : ∃ qn' st' qu' x w', lX1_spreadBack_47 N (nI c) (nI s) (nI q) (nI t) K N (nI qn, nI s + 1, w) = K (nI qn') x w' ∧ Fm [26, 27] w0 w' ∧ Rw w' 26 10 st' ∧ Rw w' 27 qn' qu' ∧ BQ D s q qn' st' qu' ∧ q < qn' ∧ qu' q = t ∧ ∀ a, s < a → a < 10 → 0 < D a t → st' a ≠ 0 := by
  unfold lX1_spreadBack_47
  refine zlp_inv (fun i z => ∃ qn st qu w, z = (nI qn, nI (s + 1 + i), w) ∧ s + 1 + i ≤ 10 ∧ Fm [26, 27] w0 w ∧ Rw w 26 10 st ∧ Rw w 27 qn qu ∧ BQ D s q qn st qu ∧ q < qn ∧ qu q = t ∧ ∀ a, s < a → a < s + 1 + i → 0 < D a t → st a ≠ 0) (fun r => ∃ qn' st' qu' x w', r = K (nI qn') x w' ∧ Fm [26, 27] w0 w' ∧ Rw w' 26 10 st' ∧ Rw w' 27 qn' qu' ∧ BQ D s q qn' st' qu' ∧ q < qn' ∧ qu' q = t ∧ ∀ a, s < a → a < 10 → 0 < D a t → st' a ≠ 0) (9 - s) ?_ N 0 _ ⟨qn, st, qu, w, by rw [nI_1], by omega, hF, h26, h27, hB, hq, hqt, fun a h1 h2 => by omega⟩ (by omega)
  rintro i z rc ⟨qn, st, qu, w, rfl, hi, hF, h26, h27, hB, hq, hqt, hp⟩
  have hqn : qn ≤ 10 := hB.1.2.2.1
  simp only [bX1_spreadBack_47]
  by_cases c1 : s + 1 + i = 10
  · right
    rw [if_pos (show (10 : Int32) ≤ nI (s + 1 + i) from nI_le (a := 10) (by omega) (by omega))]
    exact ⟨qn, st, qu, _, w, rfl, hF, h26, h27, hB, hq, hqt, fun a h1 h2 => hp a h1 (by omega)⟩
  rw [if_neg (show ¬ (10 : Int32) ≤ nI (s + 1 + i) from nI_ge (b := 10) (by omega) (by omega))]
  by_cases c2 : qn = 10
  · right
    rw [if_pos (show (10 : Int32) ≤ nI qn from nI_le (a := 10) (by omega) (by omega))]
    refine ⟨qn, st, qu, _, w, rfl, hF, h26, h27, hB, hq, hqt, fun a h1 h2 _ h0 => ?_⟩
    have := cntS_full hs h2 (by omega) (BQ_s hB) h0
    have e := hB.2.2.2.2.2.2.2.2
    rw [c2] at e
    omega
  rw [if_neg (show ¬ (10 : Int32) ≤ nI qn from nI_ge (b := 10) (by omega) (by omega)), zld_at (by omega) (by omega), h26 (s + 1 + i) (by omega)]
  have r24 : w.1 0 24 = w0.1 0 24 := hF.2 0 24 (by decide)
  have hst : ∀ a, st a ≤ 9 := by
    intro a
    rcases Nat.eq_zero_or_pos (st a) with z | z
    · omega
    · obtain ⟨-, -, j, u3, u4, u5⟩ := hB.2.2.1 a (by omega)
      have := hB.2.2.2.2.2.2.2.1 j u4
      rw [u5] at this
      omega
  left
  refine ⟨by omega, ?_⟩
  have l1 := hst (s + 1 + i)
  have l2 := hst t
  by_cases c3 : st (s + 1 + i) = 0
  · rw [if_pos ((nI_eq0 (by omega)).mpr c3), debtX N c (s + 1 + i) t w hc (by omega) ht, r24, hD.1 _ _ (by omega) ht]
    simp only [zbi]
    have hDb := hD.2 (s + 1 + i) t
    by_cases c4 : D (s + 1 + i) t = 0
    · rw [if_pos ((nI_le0 (by omega)).mpr c4)]
      refine ⟨_, ⟨qn, st, qu, w, rfl, by omega, hF, h26, h27, hB, hq, hqt, fun a h1 h2 h3 => ?_⟩, ?_⟩
      · by_cases e : a = s + 1 + i
        · rw [e] at h3; omega
        · exact hp a h1 (by omega) h3
      · rw [nI_1]; rfl
    · rw [if_neg (fun e => c4 ((nI_le0 (by omega)).mp e)), zld_at (by omega) (by omega), h26 t ht, zst_at (by omega) (by omega), zst_at (by omega) (by omega), nI_1, nI_1]
      have hA := BQ_add hB (a := s + 1 + i) hq (by omega) (by omega) (by omega) c3 (by rw [hqt]; omega)
      refine ⟨_, ⟨qn + 1, _, _, zsI (zsI w 0 26 (s + 1 + i) (nI (st t + 1))) 0 27 qn (nI (s + 1 + i)), rfl, by omega, Fm_st (Fm_st hF (by decide) _ _) (by decide) _ _, Rw_ne (Rw_st h26 (s + 1 + i) (st t + 1)) (by decide) _ _, ?_, by rw [← hqt]; exact hA, by omega, by rw [if_neg (by omega)]; exact hqt, fun a h1 h2 h3 => ?_⟩, by rw [nI_1]; rfl⟩
      · intro j hj
        have := Rw_st (w := zsI w 0 26 (s + 1 + i) (nI (st t + 1))) (c := 27) (n := qn) (f := qu) (fun j' hj' => by rw [zsI_ne w _ _ (by decide)]; exact h27 j' hj') qn (s + 1 + i)
        by_cases e : j = qn
        · subst e
          simp [zsI_at, pk_us]
        · exact this j (by omega)
      · by_cases e : a = s + 1 + i
        · rw [if_pos e]; omega
        · rw [if_neg e]; exact hp a h1 (by omega) h3
  · rw [if_neg (fun e => c3 ((nI_eq0 (by omega)).mp e))]
    refine ⟨_, ⟨qn, st, qu, w, rfl, by omega, hF, h26, h27, hB, hq, hqt, fun a h1 h2 h3 => ?_⟩, ?_⟩
    · by_cases e : a = s + 1 + i
      · rw [e]; exact c3
      · exact hp a h1 (by omega) h3
    · rw [nI_1]; rfl
theorem spread_eq {N c s : Nat} {D : Nat → Nat → Nat} {w : zS} (hN : 1000000000 ≤ N) (hc : c < 6) (hs : s < 10) (hD : DB (w.1 0 24) c D) : ∃ w' st, fX1_spreadBack N (nI c) (nI s) w = some w' ∧ Fm [26, 27] w w' ∧ Rw w' 26 10 st ∧ Cert D s st := by
  unfold fX1_spreadBack
  rw [fill26_eq w hN]
  simp only [zbv]
  rw [show (0 : Int32) = nI 0 from rfl, zst_at (by omega) (by omega)]
  unfold lX1_spreadBack_20
  have key := zlp_inv (b := fun rc (z : Int32 × Int32 × zS) => bX1_spreadBack_20 N (nI c) (nI s) (fun y13 y14 w15 => some w15) rc z.1 z.2.1 z.2.2) (fun q z => ∃ qn st qu w1, z = (nI qn, nI q, w1) ∧ Fm [26, 27] w w1 ∧ Rw w1 26 10 st ∧ Rw w1 27 qn qu ∧ BQ D s q qn st qu) (fun r => ∃ w' st, r = some w' ∧ Fm [26, 27] w w' ∧ Rw w' 26 10 st ∧ Cert D s st) 10 ?_ N 0 (1, nI 0, zsI (zrow w 26 (fil (w.1 0 26) (nI 0) 10)) 0 27 0 (nI s)) ⟨1, fun _ => 0, fun _ => s, _, rfl, Fm_st (Fm_row (Fm_refl _ w) (by decide) _) (by decide) _ _, ?_, ?_, BQ_0 D rfl⟩ (by omega)
  · exact key
  · rintro q z rc ⟨qn, st, qu, w1, rfl, hF, h26, h27, hB⟩
    have hqn : qn ≤ 10 := hB.1.2.2.1
    have hqq : q ≤ qn := hB.1.2.2.2
    simp only [bX1_spreadBack_20]
    by_cases c1 : qn ≤ q
    · right
      rw [if_pos (nI_le c1 (by omega))]
      have : q = qn := by omega
      subst this
      exact ⟨w1, st, rfl, hF, h26, BQ_end hB⟩
    · left
      have ht : qu q < 10 := by
        rcases Nat.eq_zero_or_pos q with z | z
        · rw [z, hB.1.1]; exact hs
        · exact (hB.2.1 q z (by omega)).2.1
      refine ⟨by omega, ?_⟩
      rw [if_neg (nI_ge (by omega) (by omega)), if_neg (show ¬ (10 : Int32) ≤ nI q from nI_ge (b := 10) (by omega) (by omega)), zld_at (by omega) (by omega), h27 q (by omega)]
      have hD1 : DB (w.1 0 24) c D := hD
      obtain ⟨qn', st', qu', x, w', e, hF', h26', h27', hB', hq', hqt', hp⟩ := spread_in hN hc hs ht hD1 (fun y10 y11 w12 => rc (y10, nI q + 1, w12)) hF h26 h27 hB (by omega) rfl
      rw [e]
      refine ⟨_, ⟨qn', st', qu', w', rfl, hF', h26', h27', BQ_next hB' hq' (fun a h1 h2 h3 => ?_)⟩, by rw [nI_1]⟩
      have h0 := hp a h1 h2 (by rw [← hqt']; exact h3)
      exact ⟨h0, BQ_old hB' hq' h0⟩
  · intro i hi
    rw [zsI_ne _ _ _ (by decide), zrow_at]
    unfold fil
    rw [if_pos hi]
  · intro i hi
    have : i = 0 := by omega
    subst this
    rw [zsI_at, pk_us]
