abbrev zf0 : Nat → Nat := fun _ => 0
/-- the law's world: the system's cells, then the reference's -/
abbrev zLW (D : va_G) (cy : Nat → ClassId) (a0 aT aP b0 : Nat → Nat) (A : Nat → Prop) (H0 : Heap) (σ μ : zS) (H : Heap) (locs : List Loc) : Prop := va_P D vwCl (zw cy shX 38 a0 aT aP σ ++ zw cy shM 35 b0 zf0 zf0 μ) H ∧ va_D A (zw cy shX 38 a0 aT aP σ ++ zw cy shM 35 b0 zf0 zf0 μ) ∧ va_S A H0 H locs
section ZLJ
variable {D : va_G} {A : Nat → Prop} {L1 L2 L3 : va_W} {H H1 : Heap}
theorem zPl (hP : va_P D vwCl (L1 ++ L2) H) : va_P D vwCl L1 H := fun k q h => hP k q (by rw [List.getElem?_append_left (List.getElem?_eq_some_iff.mp h).1]; exact h)
theorem zPr (hP : va_P D vwCl (L1 ++ L2) H) : va_P D vwCl L2 H := fun k q h => hP (L1.length + k) q (by rw [List.getElem?_append_right (by omega), Nat.add_sub_cancel_left]; exact h)
theorem zDl (hD : va_D A (L1 ++ L2)) : va_D A L1 := ⟨fun i j p q h1 h2 e => hD.1 i j p q (by rw [List.getElem?_append_left (List.getElem?_eq_some_iff.mp h1).1]; exact h1) (by rw [List.getElem?_append_left (List.getElem?_eq_some_iff.mp h2).1]; exact h2) e, fun k q h => hD.2 k q (by rw [List.getElem?_append_left (List.getElem?_eq_some_iff.mp h).1]; exact h)⟩
theorem zDr (hD : va_D A (L1 ++ L2)) : va_D A L2 := ⟨fun i j p q h1 h2 e => by
    have := hD.1 (L1.length + i) (L1.length + j) p q (by rw [List.getElem?_append_right (by omega), Nat.add_sub_cancel_left]; exact h1) (by rw [List.getElem?_append_right (by omega), Nat.add_sub_cancel_left]; exact h2) e
    omega, fun k q h => hD.2 (L1.length + k) q (by rw [List.getElem?_append_right (by omega), Nat.add_sub_cancel_left]; exact h)⟩
theorem zapart (hD : va_D A (L1 ++ L2)) {i j : Nat} {x y : Nat × va_E} (h1 : L1[i]? = some x) (h2 : L2[j]? = some y) : x.1 ≠ y.1 := fun e => by
  have hl := (List.getElem?_eq_some_iff.mp h1).1
  have := hD.1 i (L1.length + j) x y (by rw [List.getElem?_append_left hl]; exact h1) (by rw [List.getElem?_append_right (by omega), Nat.add_sub_cancel_left]; exact h2) e
  omega
theorem zjoin1 (hP : va_P D vwCl (L1 ++ L2) H) (hD : va_D A (L1 ++ L2)) (hk : ∀ q : Nat, q < H.size → ¬ va_A L1 H.size q → H1[q]? = H[q]?) (hF : ∀ q, va_A L1 H.size q → A q) (hP1 : va_P D vwCl L3 H1) (hD1 : va_D (va_A L1 H.size) L3) : va_P D vwCl (L3 ++ L2) H1 ∧ va_D A (L3 ++ L2) := by
  have out : ∀ (j : Nat) (y : Nat × va_E), L2[j]? = some y → y.1 < H.size ∧ ¬ va_A L1 H.size y.1 := by
    intro j y hy
    have hl := (zPr hP j y hy).lt
    refine ⟨hl, fun h => ?_⟩
    rcases h with ⟨k, e, h⟩ | h
    · exact zapart hD h hy rfl
    · omega
  refine ⟨va_P.app hP1 (fun k q hq => (zPr hP k q hq).kept (hk q.1 (out k q hq).1 (out k q hq).2)), va_D.app (hD1.weaken (fun _ q _ h => hF q.1 h)) (zDr hD) (fun i j x y hx hy e => ?_)⟩
  exact (out j y hy).2 (by rw [← e]; exact hD1.2 i x hx)
theorem zjoin2 (hP : va_P D vwCl (L1 ++ L2) H) (hD : va_D A (L1 ++ L2)) (hk : ∀ q : Nat, q < H.size → ¬ va_A L2 H.size q → H1[q]? = H[q]?) (hF : ∀ q, va_A L2 H.size q → A q) (hP1 : va_P D vwCl L3 H1) (hD1 : va_D (va_A L2 H.size) L3) : va_P D vwCl (L1 ++ L3) H1 ∧ va_D A (L1 ++ L3) := by
  have out : ∀ (j : Nat) (y : Nat × va_E), L1[j]? = some y → y.1 < H.size ∧ ¬ va_A L2 H.size y.1 := by
    intro j y hy
    have hl := (zPl hP j y hy).lt
    refine ⟨hl, fun h => ?_⟩
    rcases h with ⟨k, e, h⟩ | h
    · exact zapart hD hy h rfl
    · omega
  refine ⟨va_P.app (fun k q hq => (zPl hP k q hq).kept (hk q.1 (out k q hq).1 (out k q hq).2)) hP1, va_D.app (zDl hD) (hD1.weaken (fun _ q _ h => hF q.1 h)) (fun i j x y hx hy e => ?_)⟩
  exact (out i x hx).2 (by rw [e]; exact hD1.2 j y hy)
end ZLJ
section ZLC
variable {p : Program} {l : Launch} {e : Env} {R : Room} {s : State} {m : MethodId} {args : Array Value} {below : List Frame} {meth : Method} {c : Code} {H : Heap} {locs : List Loc} {cells slots : Nat} {Q : State → Prop}
variable {pc : Nat} {ls : Array Slot} {rest : List Value} {A : Nat → Prop} {H0 : Heap} {D : va_G} {cy : Nat → ClassId} {a0 aT aP b0 : Nat → Nat} {σ μ τ : zS} {own : String} {cc : ByteArray} {nL : Nat}
variable {y : MethodName} {bytes : ByteArray} {mL : Nat} {ret : Option FieldType} {n index : Nat} {rm : Room} {As st0 : List Value} {U : (Nat → Nat) × (Nat → Nat) → Prop} {T : u_T} {N : Nat}
theorem lawXi (hC : zC p s m args c own cc nL D cy) (hA : ∀ q, H0.size ≤ q → A q) (hZ : zLW D cy a0 aT aP b0 A H0 σ μ H locs) (V : zVk own index y bytes mL ret n) (hci : vwCl[7]? = some (y.cls, T, N)) {rv : Int32} (hM : zMi l y bytes mL ret rm D cy shX 38 a0 aT aP σ (.ref (a0 0) :: As) rv τ U) (hR : rm.frames + 1 ≤ R.frames ∧ 8 + (mL + 11) + rm.locals ≤ R.locals) (hn : As.length = n) (hsz : ls.size = nL) (hst : st0 = As.reverse ++ .ref (a0 0) :: rest) (hW : (rest.map fun v => v.category).sum ≤ 8) (hcs : cells + rm.cells ≤ R.cells ∧ slots + rm.slots ≤ R.slots) (hdg : decode cc pc = .ok (.invokevirtual index, 3))
    (kk : ∀ (u : (Nat → Nat) × (Nat → Nat)) (H1 : Heap) (locs1 : List Loc), U u → zLW D cy a0 u.1 u.2 b0 A H0 τ μ H1 locs1 → W p l e R s m args below meth c H1 locs1 (cells + rm.cells) (slots + rm.slots) Q (F0 m (pc + 3) ls (.int rv :: rest))) : W p l e R s m args below meth c H locs cells slots Q (F0 m pc ls st0) := by
  have hZ1 : zW D cy shX 38 a0 aT aP A H0 σ H locs := ⟨zPl hZ.1, zDl hZ.2.1, hZ.2.2⟩
  refine va_calli (zrun hC hZ1 V hci (zw0 (by decide)) (hM H.size) hR hn hsz hst hW hcs hdg) hZ.2.2 (fun q _ h => zfree hA hZ1 q h) (zfree hA hZ1) (fun r u t H1 locs1 ht _ hp hB _ hk1 hS1 => ?_)
  rw [hp.1]
  obtain ⟨b1, b2, b3⟩ := hB
  rw [ht] at b1
  obtain ⟨j1, j2⟩ := zjoin1 hZ.1 hZ.2.1 hk1 (zfree hA hZ1) b1 b3
  exact kk u H1 locs1 hp.2 ⟨j1, j2, hS1⟩
theorem lawXl (hC : zC p s m args c own cc nL D cy) (hA : ∀ q, H0.size ≤ q → A q) (hZ : zLW D cy a0 aT aP b0 A H0 σ μ H locs) (V : zVk own index y bytes mL ret n) (hci : vwCl[7]? = some (y.cls, T, N)) {rv : Int64} (hM : zMl l y bytes mL ret rm D cy shX 38 a0 aT aP σ (.ref (a0 0) :: As) rv τ U) (hR : rm.frames + 1 ≤ R.frames ∧ 8 + (mL + 11) + rm.locals ≤ R.locals) (hn : As.length = n) (hsz : ls.size = nL) (hst : st0 = As.reverse ++ .ref (a0 0) :: rest) (hW : (rest.map fun v => v.category).sum ≤ 8) (hcs : cells + rm.cells ≤ R.cells ∧ slots + rm.slots ≤ R.slots) (hdg : decode cc pc = .ok (.invokevirtual index, 3))
    (kk : ∀ (u : (Nat → Nat) × (Nat → Nat)) (H1 : Heap) (locs1 : List Loc), U u → zLW D cy a0 u.1 u.2 b0 A H0 τ μ H1 locs1 → W p l e R s m args below meth c H1 locs1 (cells + rm.cells) (slots + rm.slots) Q (F0 m (pc + 3) ls (.long rv :: rest))) : W p l e R s m args below meth c H locs cells slots Q (F0 m pc ls st0) := by
  have hZ1 : zW D cy shX 38 a0 aT aP A H0 σ H locs := ⟨zPl hZ.1, zDl hZ.2.1, hZ.2.2⟩
  refine va_calll (zrun hC hZ1 V hci (zw0 (by decide)) (hM H.size) hR hn hsz hst hW hcs hdg) hZ.2.2 (fun q _ h => zfree hA hZ1 q h) (zfree hA hZ1) (fun r u t H1 locs1 ht _ hp hB _ hk1 hS1 => ?_)
  rw [hp.1]
  obtain ⟨b1, b2, b3⟩ := hB
  rw [ht] at b1
  obtain ⟨j1, j2⟩ := zjoin1 hZ.1 hZ.2.1 hk1 (zfree hA hZ1) b1 b3
  exact kk u H1 locs1 hp.2 ⟨j1, j2, hS1⟩
theorem lawMi (hC : zC p s m args c own cc nL D cy) (hA : ∀ q, H0.size ≤ q → A q) (hZ : zLW D cy a0 aT aP b0 A H0 σ μ H locs) (V : zVk own index y bytes mL ret n) (hci : vwCl[8]? = some (y.cls, T, N)) {rv : Int32} (hM : zMi l y bytes mL ret rm D cy shM 35 b0 zf0 zf0 μ (.ref (b0 0) :: As) rv τ (fun u => u = (zf0, zf0))) (hR : rm.frames + 1 ≤ R.frames ∧ 8 + (mL + 11) + rm.locals ≤ R.locals) (hn : As.length = n) (hsz : ls.size = nL) (hst : st0 = As.reverse ++ .ref (b0 0) :: rest) (hW : (rest.map fun v => v.category).sum ≤ 8) (hcs : cells + rm.cells ≤ R.cells ∧ slots + rm.slots ≤ R.slots) (hdg : decode cc pc = .ok (.invokevirtual index, 3))
    (kk : ∀ (H1 : Heap) (locs1 : List Loc), zLW D cy a0 aT aP b0 A H0 σ τ H1 locs1 → W p l e R s m args below meth c H1 locs1 (cells + rm.cells) (slots + rm.slots) Q (F0 m (pc + 3) ls (.int rv :: rest))) : W p l e R s m args below meth c H locs cells slots Q (F0 m pc ls st0) := by
  have hZ1 : zW D cy shM 35 b0 zf0 zf0 A H0 μ H locs := ⟨zPr hZ.1, zDr hZ.2.1, hZ.2.2⟩
  refine va_calli (zrun hC hZ1 V hci (zw0 (by decide)) (hM H.size) hR hn hsz hst hW hcs hdg) hZ.2.2 (fun q _ h => zfree hA hZ1 q h) (zfree hA hZ1) (fun r u t H1 locs1 ht _ hp hB _ hk1 hS1 => ?_)
  rw [hp.1]
  obtain ⟨b1, b2, b3⟩ := hB
  rw [ht] at b1
  rw [hp.2] at b1 b3
  obtain ⟨j1, j2⟩ := zjoin2 hZ.1 hZ.2.1 hk1 (zfree hA hZ1) b1 b3
  exact kk H1 locs1 ⟨j1, j2, hS1⟩
theorem lawMl (hC : zC p s m args c own cc nL D cy) (hA : ∀ q, H0.size ≤ q → A q) (hZ : zLW D cy a0 aT aP b0 A H0 σ μ H locs) (V : zVk own index y bytes mL ret n) (hci : vwCl[8]? = some (y.cls, T, N)) {rv : Int64} (hM : zMl l y bytes mL ret rm D cy shM 35 b0 zf0 zf0 μ (.ref (b0 0) :: As) rv τ (fun u => u = (zf0, zf0))) (hR : rm.frames + 1 ≤ R.frames ∧ 8 + (mL + 11) + rm.locals ≤ R.locals) (hn : As.length = n) (hsz : ls.size = nL) (hst : st0 = As.reverse ++ .ref (b0 0) :: rest) (hW : (rest.map fun v => v.category).sum ≤ 8) (hcs : cells + rm.cells ≤ R.cells ∧ slots + rm.slots ≤ R.slots) (hdg : decode cc pc = .ok (.invokevirtual index, 3))
    (kk : ∀ (H1 : Heap) (locs1 : List Loc), zLW D cy a0 aT aP b0 A H0 σ τ H1 locs1 → W p l e R s m args below meth c H1 locs1 (cells + rm.cells) (slots + rm.slots) Q (F0 m (pc + 3) ls (.long rv :: rest))) : W p l e R s m args below meth c H locs cells slots Q (F0 m pc ls st0) := by
  have hZ1 : zW D cy shM 35 b0 zf0 zf0 A H0 μ H locs := ⟨zPr hZ.1, zDr hZ.2.1, hZ.2.2⟩
  refine va_calll (zrun hC hZ1 V hci (zw0 (by decide)) (hM H.size) hR hn hsz hst hW hcs hdg) hZ.2.2 (fun q _ h => zfree hA hZ1 q h) (zfree hA hZ1) (fun r u t H1 locs1 ht _ hp hB _ hk1 hS1 => ?_)
  rw [hp.1]
  obtain ⟨b1, b2, b3⟩ := hB
  rw [ht] at b1
  rw [hp.2] at b1 b3
  obtain ⟨j1, j2⟩ := zjoin2 hZ.1 hZ.2.1 hk1 (zfree hA hZ1) b1 b3
  exact kk H1 locs1 ⟨j1, j2, hS1⟩
/-- an int of the script, 6 k + j -/
theorem law_sld (hC : zC p s m args c own cc nL D cy) {b L : Nat} {xs : Nat → Int32} (hX : va_X b L xs s H0) (hbl : b < H0.size) (hbA : ¬ A b) (hS : va_S A H0 H locs) {i : Int32} {q : Nat} (hi : i = nI q) (hq : q < L) (hL : L ≤ 3072) (hdg : decode cc pc = .ok (.iaload, 1))
    (kk : W p l e R s m args below meth c H locs cells slots Q (F0 m (pc + 1) ls (.int (xs q) :: rest))) : W p l e R s m args below meth c H locs cells slots Q (F0 m pc ls (.int i :: .ref b :: rest)) := by
  subst hi
  refine va_sld hC.1.1 hC.1.2.1 hX hbl hbA hS (vp_in_nI hq (by omega)) hdg ?_
  rw [nI_clamp (by omega)]
  exact kk
end ZLC
