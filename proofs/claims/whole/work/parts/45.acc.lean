/-! accounts -/
theorem zsum_ofInt (f : Nat → Int32) (n : Nat) : zsum f n = Int32.ofInt (isum (fun i => (f i).toInt) n) := by
  induction n with
  | zero => rfl
  | succ n ih => simp only [zsum, isum]; rw [Int32.ofInt_add, ← ih, Int32.ofInt_toInt]
theorem ofInt_bd {a : Int} (h1 : -2147483648 ≤ a) (h2 : a < 2147483648) : (Int32.ofInt a).toInt = a := Int32.toInt_ofInt_of_le (by simpa using h1) (by simpa using h2)
/-- an entry's part in an account as of a day -/
def sA (μ : zS) (x y z : Int32) (e : Nat) : Int32 := if μ.1 0 3 e = x ∧ μ.1 0 4 e = y ∧ μ.1 0 5 e ≤ z then μ.1 0 6 e else 0
theorem accountOf_eq {N ne : Nat} {μ : zS} (e : μ.1 0 0 5 = nI ne) (hne : ne ≤ 2000) (hN : 1000000000 ≤ N) (x y z : Int32) : fX8_accountOf N x y z μ = some (zsum (sA μ x y z) ne, μ) := by
  unfold fX8_accountOf lX8_accountOf_6
  refine zlp_for (st := fun i => (zsum (sA μ x y z) i, nI i, μ)) (E := ne) (fun i hi rc => ?_) (fun rc => ?_) N 0 (by omega) (by omega)
  · simp only [bX8_accountOf_6, e, if_neg (nI_ge hi (show ne < 2 ^ 31 by omega)), zld_at (show i < 2000 by omega) (show 2000 < 2 ^ 31 by omega), nI_1, zsum, sA]
    by_cases q1 : μ.1 0 3 i = x
    · by_cases q2 : μ.1 0 4 i = y
      · by_cases q3 : z < μ.1 0 5 i
        · have q4 : ¬ μ.1 0 5 i ≤ z := Int32.not_le.mpr q3
          simp [q1, q2, q3, q4]
        · have q4 : μ.1 0 5 i ≤ z := Int32.not_lt.mp q3
          simp [q1, q2, q3, q4]
      · simp [q1, q2]
    · simp [q1]
  · simp only [bX8_accountOf_6, e, if_pos (nI_le (Nat.le_refl ne) (show ne < 2 ^ 31 by omega))]
theorem sumUpTo_eq {d h kn ru ne cl nt np N : Nat} {σ μ : zS} (h1 : Js d h kn ru ne cl nt np σ μ) (h2 : Je σ μ) (h4 : Jl d h kn ne (σ.1 0 13) (μ.1 0 3) (μ.1 0 4) (μ.1 0 5)) (hN : 1000000000 ≤ N) (z : Int32) {a b : Nat} (ha : a < 10) (hb : b < 6) : fX3_sumUpTo N (nI a) (nI b) z σ = some (zsum (sA μ (nI a) (nI b) z) ne, σ) := by
  obtain ⟨-, b1, b2, -, b5, -⟩ := JJ_b h1
  unfold fX3_sumUpTo lX3_sumUpTo_14
  refine zlp_for (st := fun i => (zsum (sA μ (nI a) (nI b) z) i, nI i, σ)) (E := ne) (fun i hi rc => ?_) (fun rc => ?_) N 0 (by omega) (by omega)
  · obtain ⟨u, v, w, hu, hv, hw, eu, ev, es, ew⟩ := h4 i hi
    have e14 : σ.1 0 14 = μ.1 0 5 := h2.2.2.1
    have e15 : σ.1 0 15 = μ.1 0 6 := h2.2.2.2.1
    simp only [bX3_sumUpTo_14, show σ.1 0 1 4 = nI ne from h1.2.2.2.2.1.1, if_neg (nI_ge hi (show ne < 2 ^ 31 by omega)), zld_at (show i < 2000 by omega) (show 2000 < 2 ^ 31 by omega), nI_1, zsum, sA, i6, es, eu, ev, e14, e15]
    by_cases q : 6 * u + v = 6 * a + b
    · have q1 : u = a := by omega
      have q2 : v = b := by omega
      subst q1 q2
      by_cases q3 : z < μ.1 0 5 i
      · have q4 : ¬ μ.1 0 5 i ≤ z := Int32.not_le.mpr q3
        simp [q3, q4]
      · have q4 : μ.1 0 5 i ≤ z := Int32.not_lt.mp q3
        simp [q3, q4]
    · have q0 : ¬ nI (6 * u + v) = nI (6 * a + b) := fun e => q ((nI_eq (by omega) (by omega)).mp e)
      have q1 : ¬ (nI u = nI a ∧ nI v = nI b ∧ μ.1 0 5 i ≤ z) := fun e => q (by
        have := (nI_eq (a := u) (b := a) (by omega) (by omega)).mp e.1
        have := (nI_eq (a := v) (b := b) (by omega) (by omega)).mp e.2.1
        omega)
      simp only [if_neg q0, if_neg q1]
      simp
  · simp only [bX3_sumUpTo_14, show σ.1 0 1 4 = nI ne from h1.2.2.2.2.1.1, if_pos (nI_le (Nat.le_refl ne) (show ne < 2 ^ 31 by omega))]
/-- as of today the account is the sum of all -/
theorem acc_today {d h kn ne : Nat} {sl : Nat → Int32} {μ : zS} (hd : d ≤ 599) (h4 : Jl d h kn ne sl (μ.1 0 3) (μ.1 0 4) (μ.1 0 5)) (a b : Nat) : zsum (sA μ (nI a) (nI b) (nI d)) ne = Int32.ofInt (zacc ne (μ.1 0 3) (μ.1 0 4) (μ.1 0 6) a b) := by
  rw [zsum_ofInt]
  unfold zacc
  congr 1
  refine isum_congr (fun e he => ?_)
  obtain ⟨u, v, w, hu, hv, hw, eu, ev, es, ew⟩ := h4 e he
  have c : μ.1 0 5 e ≤ nI d := by rw [ew]; exact nI_le hw (by omega)
  unfold sA
  by_cases q : μ.1 0 3 e = nI a ∧ μ.1 0 4 e = nI b
  · rw [if_pos ⟨q.1, q.2, c⟩, if_pos q]
  · rw [if_neg (fun z => q ⟨z.1, z.2.1⟩), if_neg q]; rfl
/-- all of JJ but the bounds -/
def JA (d h kn ru ne cl nt np : Nat) (σ μ : zS) : Prop := Js d h kn ru ne cl nt np σ μ ∧ Je σ μ ∧ Jk kn (μ.1 0 1) (μ.1 0 2) ∧ Jl d h kn ne (σ.1 0 13) (μ.1 0 3) (μ.1 0 4) (μ.1 0 5) ∧ Jt d h kn nt σ μ ∧ Jp nt np σ μ ∧ (zvalT σ ∧ zvalP σ) ∧ Jd h (μ.1 0 22) (μ.1 0 21) ∧ Jc h (μ.1 0 23) (μ.1 0 24) (μ.1 0 25)
theorem JJ_A {k : Nat} {σ μ : zS} (hJ : JJ k σ μ) : ∃ d h kn ru ne cl nt np : Nat, JA d h kn ru ne cl nt np σ μ ∧ Jb k np ne (μ.1 0 3) (μ.1 0 4) (μ.1 0 6) (μ.1 0 21) (σ.1 0 8) (σ.1 0 9) (μ.2.1 0 7) := by
  obtain ⟨d, h, kn, ru, ne, cl, nt, np, h1, h2, h3, h4, h5, h6, h7, h8, h9, h10⟩ := hJ
  exact ⟨d, h, kn, ru, ne, cl, nt, np, ⟨h1, h2, h3, h4, h5, h6, h7, h8, h9⟩, h10⟩
theorem JJ_of {k d h kn ru ne cl nt np : Nat} {σ μ : zS} (hA : JA d h kn ru ne cl nt np σ μ) (hB : Jb k np ne (μ.1 0 3) (μ.1 0 4) (μ.1 0 6) (μ.1 0 21) (σ.1 0 8) (σ.1 0 9) (μ.2.1 0 7)) : JJ k σ μ := by
  obtain ⟨h1, h2, h3, h4, h5, h6, h7, h8, h9⟩ := hA
  exact ⟨d, h, kn, ru, ne, cl, nt, np, h1, h2, h3, h4, h5, h6, h7, h8, h9, hB⟩
/-- an entry is made -/
def entX (σ : zS) (ne s x : Nat) (v : Int32) : zS := zsI (zsI (zsI (zsI σ 0 13 ne (nI s)) 0 14 ne (nI x)) 0 15 ne v) 0 1 4 (nI (ne + 1))
def entM (μ : zS) (ne a b x : Nat) (v : Int32) : zS := zsI (zsI (zsI (zsI (zsI μ 0 3 ne (nI a)) 0 4 ne (nI b)) 0 5 ne (nI x)) 0 6 ne v) 0 0 5 (nI (ne + 1))
theorem i30 (a : Nat) : nI a * 30 = nI (30 * a) := by rw [show (30 : Int32) = nI 30 from rfl, pk_mul, Nat.mul_comm]
theorem i30' (a : Nat) : (30 : Int32) * nI a = nI (30 * a) := by rw [show (30 : Int32) = nI 30 from rfl, pk_mul]
theorem enterX {N ne cl : Nat} {σ : zS} (e : σ.1 0 1 4 = nI ne) (ec : σ.1 0 1 5 = nI cl) (hne : ne < 2000) (hcl : cl ≤ 20) {a b x : Nat} (hx : x ≤ 599) (v : Int32) : fX3_enter N (nI a) (nI b) (nI x) v σ = some (entX σ ne (6 * a + b) (max x (30 * cl)) v) := by
  unfold fX3_enter
  rw [e, if_pos (show nI ne < 2000 from nI_lt (a := ne) (b := 2000) hne (by omega)), i6, zst_at hne (by omega)]
  have e1 : (zsI σ 0 13 ne (nI (6 * a + b))).1 0 1 4 = nI ne := by simpa [zsI] using e
  have e2 : (zsI σ 0 13 ne (nI (6 * a + b))).1 0 1 5 = nI cl := by simpa [zsI] using ec
  have em : (if nI x < nI (30 * cl) then nI (30 * cl) else nI x) = nI (max x (30 * cl)) := by
    by_cases c : x < 30 * cl
    · rw [if_pos (nI_lt c (by omega)), Nat.max_eq_right (by omega)]
    · rw [if_neg (nI_nlt (by omega) (by omega)), Nat.max_eq_left (by omega)]
  rw [e1, e2, i30, em, zst_at hne (by omega)]
  have e3 : (zsI (zsI σ 0 13 ne (nI (6 * a + b))) 0 14 ne (nI (max x (30 * cl)))).1 0 1 4 = nI ne := by simpa [zsI] using e
  rw [e3, zst_at hne (by omega)]
  have e4 : (zsI (zsI (zsI σ 0 13 ne (nI (6 * a + b))) 0 14 ne (nI (max x (30 * cl)))) 0 15 ne v).1 0 1 4 = nI ne := by simpa [zsI] using e
  simp only [zlet, e4, nI_1]
  rfl
theorem enterM {N ne cl : Nat} {σ : zS} (e : σ.1 0 0 5 = nI ne) (ec : σ.1 0 0 11 = nI cl) (hne : ne < 2000) (hcl : cl ≤ 20) {a b x : Nat} (hx : x ≤ 599) (v : Int32) : fX8_enter N (nI a) (nI b) (nI x) v σ = some (entM σ ne a b (max x (30 * cl)) v) := by
  unfold fX8_enter
  rw [e, zst_at hne (by omega)]
  have e1 : (zsI σ 0 3 ne (nI a)).1 0 0 5 = nI ne := by simpa [zsI] using e
  rw [e1, zst_at hne (by omega)]
  have e2 : (zsI (zsI σ 0 3 ne (nI a)) 0 4 ne (nI b)).1 0 0 5 = nI ne := by simpa [zsI] using e
  have e3 : (zsI (zsI σ 0 3 ne (nI a)) 0 4 ne (nI b)).1 0 0 11 = nI cl := by simpa [zsI] using ec
  rw [e2, e3, i30']
  have e4 : ∀ w, (zsI (zsI (zsI σ 0 3 ne (nI a)) 0 4 ne (nI b)) 0 5 ne w).1 0 0 5 = nI ne := fun w => by simpa [zsI] using e
  have e5 : ∀ w, (zsI (zsI (zsI (zsI σ 0 3 ne (nI a)) 0 4 ne (nI b)) 0 5 ne w) 0 6 ne v).1 0 0 5 = nI ne := fun w => by simpa [zsI] using e
  by_cases c : 30 * cl ≤ x
  · rw [if_pos (nI_le c (by omega)), zst_at hne (by omega), e4, zst_at hne (by omega), Nat.max_eq_left c]
    simp only [zlet, e5, nI_1]
    rfl
  · rw [if_neg (nI_ge (by omega) (by omega)), zst_at hne (by omega), e4, zst_at hne (by omega), Nat.max_eq_right (by omega)]
    simp only [zlet, e5, nI_1]
    rfl
theorem JA_ent {d h kn ru ne cl nt np : Nat} {σ μ : zS} (hA : JA d h kn ru ne cl nt np σ μ) {a b x : Nat} (ha : a < h) (hb : b < kn) (hx : x ≤ d) (hne : ne < 2000) (v : Int32) : JA d h kn ru (ne + 1) cl nt np (entX σ ne (6 * a + b) x v) (entM μ ne a b x v) := by
  obtain ⟨h1, h2, h3, h4, h5, h6, h7, h8, h9⟩ := hA
  unfold entX entM
  refine ⟨?_, ?_, ?_, ?_, ?_, ?_, ?_, ?_, ?_⟩
  · obtain ⟨a1, a2, a3, a4, a5, a6, a7, a8, a9, a10⟩ := h1
    exact ⟨by simpa [zsI, upd] using a1, by simpa [zsI, upd] using a2, by simpa [zsI, upd] using a3, by simpa [zsI, upd] using a4, ⟨by simp [zsI, upd], by simp [zsI, upd]⟩, by simpa [zsI, upd] using a6, by simpa [zsI, upd] using a7, by simpa [zsI, upd] using a8, a9, by omega⟩
  · obtain ⟨u1, u2, u3, u4, u5, u6, u7, u8, u9, u10, u11⟩ := h2
    exact ⟨by simpa [zsI] using u1, by simpa [zsI] using u2, by simp [zsI, u3], by simp [zsI, u4], by simpa [zsI] using u5, by simpa [zsI] using u6, u7, by simpa [zsI] using u8, by simpa [zsI] using u9, by simpa [zsI] using u10, by simpa [zsI] using u11⟩
  · simpa [zsI] using h3
  · intro e he
    by_cases w : e = ne
    · subst w
      exact ⟨a, b, x, ha, hb, hx, by simp [zsI, upd], by simp [zsI, upd], by simp [zsI, upd], by simp [zsI, upd]⟩
    · obtain ⟨p, q, r, g1, g2, g3, g4, g5, g6, g7⟩ := h4 e (by omega)
      exact ⟨p, q, r, g1, g2, g3, by simpa [zsI, upd, w] using g4, by simpa [zsI, upd, w] using g5, by simpa [zsI, upd, w] using g6, by simpa [zsI, upd, w] using g7⟩
  · simpa [Jt, zsI] using h5
  · simpa [Jp, zsI] using h6
  · exact h7
  · simpa [zsI] using h8
  · simpa [zsI] using h9
theorem zacc_ent (ne : Nat) (eh ek em : Nat → Int32) (a b : Nat) (v : Int32) (a' b' : Nat) : zacc (ne + 1) (upd eh ne (nI a)) (upd ek ne (nI b)) (upd em ne v) a' b' = zacc ne eh ek em a' b' + if nI a = nI a' ∧ nI b = nI b' then v.toInt else 0 := by
  unfold zacc
  simp only [isum]
  congr 1
  · refine isum_congr (fun e he => ?_)
    have w : e ≠ ne := by omega
    simp only [upd, if_neg w]
  · simp only [upd, if_true]
theorem ksum_ent (ne : Nat) (ek em : Nat → Int32) (b : Nat) (v : Int32) (b' : Nat) : isum (fun e => if upd ek ne (nI b) e = nI b' then (upd em ne v e).toInt else 0) (ne + 1) = isum (fun e => if ek e = nI b' then (em e).toInt else 0) ne + if nI b = nI b' then v.toInt else 0 := by
  simp only [isum]
  congr 1
  · refine isum_congr (fun e he => ?_)
    have w : e ≠ ne := by omega
    simp only [upd, if_neg w]
  · simp only [upd, if_true]
theorem zacc_nI {ne : Nat} {eh ek em : Nat → Int32} {a b a' b' : Nat} (h1 : nI a = nI a') (h2 : nI b = nI b') : zacc ne eh ek em a b = zacc ne eh ek em a' b' := by
  unfold zacc
  rw [h1, h2]
