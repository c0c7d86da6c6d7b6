section ZA
variable {p : Program} {l : Launch} {e : Env} {R : Room} {s : State} {m : MethodId} {args : Array Value} {below : List Frame} {meth : Method} {c : Code} {H : Heap} {locs : List Loc} {cells slots : Nat} {Q : State → Prop}
variable {pc : Nat} {ls : Array Slot} {rest : List Value} {A : Nat → Prop} {H0 : Heap} {D : va_G} {cy : Nat → ClassId} {sh : Nat → zK} {nf : Nat} {a0 aT aP : Nat → Nat} {σ : zS} {own : String} {cc : ByteArray} {nL : Nat} {α : Type} {res : α}
theorem z_iald (hC : zC p s m args c own cc nL D cy) (hZ : zW D cy sh nf a0 aT aP A H0 σ H locs) {o n : Nat} (ho : o < nf) (hs : sh o = .inr (0, n)) {i : Int32} {k : Int32 → Option α} (hf : zld σ o n i k = some res) (hdg : decode cc pc = .ok (.iaload, 1))
    (kk : ∀ v : Int32, k v = some res → W p l e R s m args below meth c H locs cells slots Q (F0 m (pc + 1) ls (.int v :: rest))) : W p l e R s m args below meth c H locs cells slots Q (F0 m pc ls (.int i :: .ref (a0 o) :: rest)) := by
  unfold zld at hf
  by_cases h : i < 0 ∨ n ≤ i.toNatClampNeg
  · rw [if_pos h] at hf; cases hf
  · rw [if_neg h] at hf
    exact va_iald hC.1.1 hC.1.2.1 hC.2 hZ.1 o 0 (f := σ.1 0 o) (cA := cy 0) (n := n) ((zw0 ho).trans (by rw [hs]; rfl)) rfl h hdg (kk _ hf)
theorem z_zald (hC : zC p s m args c own cc nL D cy) (hZ : zW D cy sh nf a0 aT aP A H0 σ H locs) {o n : Nat} (ho : o < nf) (hs : sh o = .inr (2, n)) {i : Int32} {k : Int32 → Option α} (hf : zld σ o n i k = some res) (hdg : decode cc pc = .ok (.baload, 1))
    (kk : ∀ v : Int32, k v = some res → W p l e R s m args below meth c H locs cells slots Q (F0 m (pc + 1) ls (.int v :: rest))) : W p l e R s m args below meth c H locs cells slots Q (F0 m pc ls (.int i :: .ref (a0 o) :: rest)) := by
  unfold zld at hf
  by_cases h : i < 0 ∨ n ≤ i.toNatClampNeg
  · rw [if_pos h] at hf; cases hf
  · rw [if_neg h] at hf
    exact va_zald hC.1.1 hC.1.2.1 hC.2 hZ.1 o 2 (f := σ.1 0 o) (cA := cy 2) (n := n) ((zw0 ho).trans (by rw [hs]; rfl)) rfl h hdg (kk _ hf)
theorem z_lald (hC : zC p s m args c own cc nL D cy) (hZ : zW D cy sh nf a0 aT aP A H0 σ H locs) {o n : Nat} (ho : o < nf) (hs : sh o = .inr (1, n)) {i : Int32} {k : Int64 → Option α} (hf : zldJ σ o n i k = some res) (hdg : decode cc pc = .ok (.laload, 1))
    (kk : ∀ v : Int64, k v = some res → W p l e R s m args below meth c H locs cells slots Q (F0 m (pc + 1) ls (.long v :: rest))) : W p l e R s m args below meth c H locs cells slots Q (F0 m pc ls (.int i :: .ref (a0 o) :: rest)) := by
  unfold zldJ at hf
  by_cases h : i < 0 ∨ n ≤ i.toNatClampNeg
  · rw [if_pos h] at hf; cases hf
  · rw [if_neg h] at hf
    exact va_lald hC.1.1 hC.1.2.1 hC.2 hZ.1 o 1 (f := σ.2.1 0 o) (cA := cy 1) (n := n) ((zw0 ho).trans (by rw [hs]; rfl)) rfl h hdg (kk _ hf)
theorem z_aaldT (hC : zC p s m args c own cc nL D cy) (hZ : zW D cy sh nf a0 aT aP A H0 σ H locs) {o n : Nat} (ho : o < nf) (hs : sh o = .inr (3, n)) {i : Int32} {k : Option Nat → Option α} (hf : zldR σ o n i k = some res) (hdg : decode cc pc = .ok (.aaload, 1))
    (kk : ∀ v : Option Nat, k v = some res → W p l e R s m args below meth c H locs cells slots Q (F0 m (pc + 1) ls (va_rf (v.map aT) :: rest))) : W p l e R s m args below meth c H locs cells slots Q (F0 m pc ls (.int i :: .ref (a0 o) :: rest)) := by
  unfold zldR at hf
  by_cases h : i < 0 ∨ n ≤ i.toNatClampNeg
  · rw [if_pos h] at hf; cases hf
  · rw [if_neg h] at hf
    exact va_aldq hC.1.1 hC.1.2.1 hC.2 hZ.1 o 3 (f := fun i => (σ.2.2.1 0 o i).map aT) (cA := cy 3) (n := n) ((zw0 ho).trans (by rw [hs]; rfl)) rfl h hdg (kk _ hf)
theorem z_aaldP (hC : zC p s m args c own cc nL D cy) (hZ : zW D cy sh nf a0 aT aP A H0 σ H locs) {o n : Nat} (ho : o < nf) (hs : sh o = .inr (4, n)) {i : Int32} {k : Option Nat → Option α} (hf : zldR σ o n i k = some res) (hdg : decode cc pc = .ok (.aaload, 1))
    (kk : ∀ v : Option Nat, k v = some res → W p l e R s m args below meth c H locs cells slots Q (F0 m (pc + 1) ls (va_rf (v.map aP) :: rest))) : W p l e R s m args below meth c H locs cells slots Q (F0 m pc ls (.int i :: .ref (a0 o) :: rest)) := by
  unfold zldR at hf
  by_cases h : i < 0 ∨ n ≤ i.toNatClampNeg
  · rw [if_pos h] at hf; cases hf
  · rw [if_neg h] at hf
    exact va_aldq hC.1.1 hC.1.2.1 hC.2 hZ.1 o 4 (f := fun i => (σ.2.2.1 0 o i).map aP) (cA := cy 4) (n := n) ((zw0 ho).trans (by rw [hs]; rfl)) rfl h hdg (kk _ hf)
theorem zEk_upI {o n el j : Nat} {v : Int32} (h : el = 0 ∨ el = 2) : zEk cy a0 aT aP (zsI σ 0 o j v) o (.inr (el, n)) = .inl (cy el, n, .inl (upd (σ.1 0 o) j v)) := by
  rcases h with rfl | rfl <;> simp [zEk, zar, zsI_at]
theorem zW_up0 {τ : zS} {o : Nat} {x : va_E} {H1 : Heap} {locs1 : List Loc} (g1 : va_P D vwCl ((zw cy sh nf a0 aT aP σ).set o (a0 o, x)) H1) (g2 : va_D A ((zw cy sh nf a0 aT aP σ).set o (a0 o, x))) (g3 : va_S A H0 H1 locs1) (ho : o < nf) (hn : τ.2.2.2 = σ.2.2.2) (h : ∀ q' c', ¬ (q' = 0 ∧ c' = o) → zeq τ σ q' c') (hx : zEk cy a0 aT aP τ o (sh o) = x) : zW D cy sh nf a0 aT aP A H0 τ H1 locs1 := by
  rw [zw_up0 ho hn h hx] at g1 g2
  exact ⟨g1, g2, g3⟩
theorem z_iast (hC : zC p s m args c own cc nL D cy) (hZ : zW D cy sh nf a0 aT aP A H0 σ H locs) {o n : Nat} (ho : o < nf) (hs : sh o = .inr (0, n)) {i v : Int32} {k : zS → Option α} (hf : zst σ o n i v k = some res) (hdg : decode cc pc = .ok (.iastore, 1))
    (kk : ∀ (τ : zS) (H1 : Heap) (locs1 : List Loc), k τ = some res → zW D cy sh nf a0 aT aP A H0 τ H1 locs1 → W p l e R s m args below meth c H1 locs1 cells slots Q (F0 m (pc + 1) ls rest)) : W p l e R s m args below meth c H locs cells slots Q (F0 m pc ls (.int v :: .int i :: .ref (a0 o) :: rest)) := by
  unfold zst at hf
  by_cases h : i < 0 ∨ n ≤ i.toNatClampNeg
  · rw [if_pos h] at hf; cases hf
  · rw [if_neg h] at hf
    refine va_iast hC.1.1 hC.1.2.1 hC.2 hZ.1 hZ.2.1 hZ.2.2 o 0 (f := σ.1 0 o) (cA := cy 0) (n := n) ((zw0 ho).trans (by rw [hs]; rfl)) rfl h hdg fun H1 locs1 g1 g2 g3 => ?_
    exact kk _ H1 locs1 hf (zW_up0 (τ := zsI σ 0 o i.toNatClampNeg v) g1 g2 g3 ho rfl (fun q' c' h => zsI_eq q' c' h) (by rw [hs]; exact zEk_upI (Or.inl rfl)))
theorem z_zast (hC : zC p s m args c own cc nL D cy) (hZ : zW D cy sh nf a0 aT aP A H0 σ H locs) {o n : Nat} (ho : o < nf) (hs : sh o = .inr (2, n)) {i v : Int32} {k : zS → Option α} (hf : zstZ σ o n i v k = some res) (hdg : decode cc pc = .ok (.bastore, 1))
    (kk : ∀ (τ : zS) (H1 : Heap) (locs1 : List Loc), k τ = some res → zW D cy sh nf a0 aT aP A H0 τ H1 locs1 → W p l e R s m args below meth c H1 locs1 cells slots Q (F0 m (pc + 1) ls rest)) : W p l e R s m args below meth c H locs cells slots Q (F0 m pc ls (.int v :: .int i :: .ref (a0 o) :: rest)) := by
  unfold zstZ at hf
  by_cases h : i < 0 ∨ n ≤ i.toNatClampNeg
  · rw [if_pos h] at hf; cases hf
  · rw [if_neg h] at hf
    by_cases hv : v = 0 ∨ v = 1
    · rw [if_pos hv] at hf
      refine va_zast hC.1.1 hC.1.2.1 hC.2 hZ.1 hZ.2.1 hZ.2.2 o 2 (f := σ.1 0 o) (cA := cy 2) (n := n) ((zw0 ho).trans (by rw [hs]; rfl)) rfl h hdg fun H1 locs1 g1 g2 g3 => ?_
      rw [(znarrow_b hv).2.2] at g1 g2
      exact kk _ H1 locs1 hf (zW_up0 (τ := zsI σ 0 o i.toNatClampNeg v) g1 g2 g3 ho rfl (fun q' c' h => zsI_eq q' c' h) (by rw [hs]; exact zEk_upI (Or.inr rfl)))
    · rw [if_neg hv] at hf; cases hf
theorem z_last (hC : zC p s m args c own cc nL D cy) (hZ : zW D cy sh nf a0 aT aP A H0 σ H locs) {o n : Nat} (ho : o < nf) (hs : sh o = .inr (1, n)) {i : Int32} {v : Int64} {k : zS → Option α} (hf : zstJ σ o n i v k = some res) (hdg : decode cc pc = .ok (.lastore, 1))
    (kk : ∀ (τ : zS) (H1 : Heap) (locs1 : List Loc), k τ = some res → zW D cy sh nf a0 aT aP A H0 τ H1 locs1 → W p l e R s m args below meth c H1 locs1 cells slots Q (F0 m (pc + 1) ls rest)) : W p l e R s m args below meth c H locs cells slots Q (F0 m pc ls (.long v :: .int i :: .ref (a0 o) :: rest)) := by
  unfold zstJ at hf
  by_cases h : i < 0 ∨ n ≤ i.toNatClampNeg
  · rw [if_pos h] at hf; cases hf
  · rw [if_neg h] at hf
    refine va_last hC.1.1 hC.1.2.1 hC.2 hZ.1 hZ.2.1 hZ.2.2 o 1 (f := σ.2.1 0 o) (cA := cy 1) (n := n) ((zw0 ho).trans (by rw [hs]; rfl)) rfl h hdg fun H1 locs1 g1 g2 g3 => ?_
    exact kk _ H1 locs1 hf (zW_up0 (τ := zsJ σ 0 o i.toNatClampNeg v) g1 g2 g3 ho rfl (fun q' c' h => zsJ_eq q' c' h) (by rw [hs]; simp [zEk, zar, zsJ_at]))
theorem zup_map {f : Nat → Option Nat} {j : Nat} {v : Option Nat} {g : Nat → Nat} : (fun i => (va_up f j v i).map g) = va_up (fun i => (f i).map g) j (v.map g) := by
  funext i
  unfold va_up
  by_cases h : i = j <;> simp [h]
theorem z_aastT (hC : zC p s m args c own cc nL D cy) (hZ : zW D cy sh nf a0 aT aP A H0 σ H locs) {o n : Nat} (ho : o < nf) (hs : sh o = .inr (3, n)) {i : Int32} {v : Option Nat} {k : zS → Option α} (hf : zstT σ o n i v k = some res) (hdg : decode cc pc = .ok (.aastore, 1))
    (kk : ∀ (τ : zS) (H1 : Heap) (locs1 : List Loc), k τ = some res → zW D cy sh nf a0 aT aP A H0 τ H1 locs1 → W p l e R s m args below meth c H1 locs1 cells slots Q (F0 m (pc + 1) ls rest)) : W p l e R s m args below meth c H locs cells slots Q (F0 m pc ls (va_rf (v.map aT) :: .int i :: .ref (a0 o) :: rest)) := by
  unfold zstT at hf
  by_cases h : i < 0 ∨ n ≤ i.toNatClampNeg
  · rw [if_pos h] at hf; cases hf
  · rw [if_neg h] at hf
    cases v with
    | none =>
      refine va_astqN hC.1.1 hC.1.2.1 hC.2 hZ.1 hZ.2.1 hZ.2.2 o 3 (f := fun i => (σ.2.2.1 0 o i).map aT) (cA := cy 3) (n := n) ((zw0 ho).trans (by rw [hs]; rfl)) rfl h hdg fun H1 locs1 g1 g2 g3 => ?_
      exact kk _ H1 locs1 hf (zW_up0 (τ := zsR σ 0 o i.toNatClampNeg none) g1 g2 g3 ho rfl (fun q' c' h => zsR_eq q' c' h) (by rw [hs]; simp only [zEk, zar, zsR_at, zup_map]; rfl))
    | some t =>
      dsimp only at hf
      by_cases ht : t < σ.2.2.2.1
      · rw [if_pos ht] at hf
        refine va_astq hC.1.1 hC.1.2.1 hC.2 hZ.1 hZ.2.1 hZ.2.2 o 3 (nf + t) 6 (f := fun i => (σ.2.2.1 0 o i).map aT) (cA := cy 3) (n := n) (r := (RX6, TX6, 10)) ((zw0 ho).trans (by rw [hs]; rfl)) rfl (zw1 ht) rfl h hdg fun H1 locs1 g1 g2 g3 => ?_
        exact kk _ H1 locs1 hf (zW_up0 (τ := zsR σ 0 o i.toNatClampNeg (some t)) g1 g2 g3 ho rfl (fun q' c' h => zsR_eq q' c' h) (by rw [hs]; simp only [zEk, zar, zsR_at, zup_map]; rfl))
      · rw [if_neg ht] at hf; cases hf
theorem z_aastP (hC : zC p s m args c own cc nL D cy) (hZ : zW D cy sh nf a0 aT aP A H0 σ H locs) {o n : Nat} (ho : o < nf) (hs : sh o = .inr (4, n)) {i : Int32} {v : Option Nat} {k : zS → Option α} (hf : zstP σ o n i v k = some res) (hdg : decode cc pc = .ok (.aastore, 1))
    (kk : ∀ (τ : zS) (H1 : Heap) (locs1 : List Loc), k τ = some res → zW D cy sh nf a0 aT aP A H0 τ H1 locs1 → W p l e R s m args below meth c H1 locs1 cells slots Q (F0 m (pc + 1) ls rest)) : W p l e R s m args below meth c H locs cells slots Q (F0 m pc ls (va_rf (v.map aP) :: .int i :: .ref (a0 o) :: rest)) := by
  unfold zstP at hf
  by_cases h : i < 0 ∨ n ≤ i.toNatClampNeg
  · rw [if_pos h] at hf; cases hf
  · rw [if_neg h] at hf
    cases v with
    | none =>
      refine va_astqN hC.1.1 hC.1.2.1 hC.2 hZ.1 hZ.2.1 hZ.2.2 o 4 (f := fun i => (σ.2.2.1 0 o i).map aP) (cA := cy 4) (n := n) ((zw0 ho).trans (by rw [hs]; rfl)) rfl h hdg fun H1 locs1 g1 g2 g3 => ?_
      exact kk _ H1 locs1 hf (zW_up0 (τ := zsR σ 0 o i.toNatClampNeg none) g1 g2 g3 ho rfl (fun q' c' h => zsR_eq q' c' h) (by rw [hs]; simp only [zEk, zar, zsR_at, zup_map]; rfl))
    | some t =>
      dsimp only at hf
      by_cases ht : t < σ.2.2.2.2
      · rw [if_pos ht] at hf
        refine va_astq hC.1.1 hC.1.2.1 hC.2 hZ.1 hZ.2.1 hZ.2.2 o 4 (nf + σ.2.2.2.1 + t) 5 (f := fun i => (σ.2.2.1 0 o i).map aP) (cA := cy 4) (n := n) (r := (RX5, TX5, 4)) ((zw0 ho).trans (by rw [hs]; rfl)) rfl (zw2 ht) rfl h hdg fun H1 locs1 g1 g2 g3 => ?_
        exact kk _ H1 locs1 hf (zW_up0 (τ := zsR σ 0 o i.toNatClampNeg (some t)) g1 g2 g3 ho rfl (fun q' c' h => zsR_eq q' c' h) (by rw [hs]; simp only [zEk, zar, zsR_at, zup_map]; rfl))
      · rw [if_neg ht] at hf; cases hf
theorem z_alen (hC : zC p s m args c own cc nL D cy) (hZ : zW D cy sh nf a0 aT aP A H0 σ H locs) {o n el : Nat} (ho : o < nf) (hs : sh o = .inr (el, n)) {ty : FieldType} (ht : (zty cy)[el]? = some (cy el, ty)) {v : Int32} (hv : Int32.ofNat n = v) (hdg : decode cc pc = .ok (.arraylength, 1))
    (kk : W p l e R s m args below meth c H locs cells slots Q (F0 m (pc + 1) ls (.int v :: rest))) : W p l e R s m args below meth c H locs cells slots Q (F0 m pc ls (.ref (a0 o) :: rest)) :=
  va_alen hC.1.1 hC.1.2.1 hC.2 hZ.1 o el (cA := cy el) (x := (n, zar aT aP σ o el)) ((zw0 ho).trans (by rw [hs]; rfl)) ht hv hdg kk
-- branches
theorem z_ieq (hC : zC p s m args c own cc nL D cy) {x y : Int32} {off : Int} {tgt : Nat} {X Y : Option α} (hf : (if x = y then X else Y) = some res) (hdg : decode cc pc = .ok (.if_icmp .eq off, 3)) (ht : (pc : Int) + off = (tgt : Int)) (kt : X = some res → W p l e R s m args below meth c H locs cells slots Q (F0 m tgt ls rest)) (kf : Y = some res → W p l e R s m args below meth c H locs cells slots Q (F0 m (pc + 3) ls rest)) : W p l e R s m args below meth c H locs cells slots Q (F0 m pc ls (.int y :: .int x :: rest)) :=
  lv_icmp_eq hC.1.1 hC.1.2.1 hdg ht (fun h => kt (by rwa [if_pos h] at hf)) (fun h => kf (by rwa [if_neg h] at hf))
theorem z_ine (hC : zC p s m args c own cc nL D cy) {x y : Int32} {off : Int} {tgt : Nat} {X Y : Option α} (hf : (if x = y then X else Y) = some res) (hdg : decode cc pc = .ok (.if_icmp .ne off, 3)) (ht : (pc : Int) + off = (tgt : Int)) (kt : X = some res → W p l e R s m args below meth c H locs cells slots Q (F0 m (pc + 3) ls rest)) (kf : Y = some res → W p l e R s m args below meth c H locs cells slots Q (F0 m tgt ls rest)) : W p l e R s m args below meth c H locs cells slots Q (F0 m pc ls (.int y :: .int x :: rest)) :=
  lv_icmp_ne hC.1.1 hC.1.2.1 hdg ht (fun h => kf (by rwa [if_neg h] at hf)) (fun h => kt (by rwa [if_pos h] at hf))
theorem z_ilt (hC : zC p s m args c own cc nL D cy) {x y : Int32} {off : Int} {tgt : Nat} {X Y : Option α} (hf : (if x < y then X else Y) = some res) (hdg : decode cc pc = .ok (.if_icmp .lt off, 3)) (ht : (pc : Int) + off = (tgt : Int)) (kt : X = some res → W p l e R s m args below meth c H locs cells slots Q (F0 m tgt ls rest)) (kf : Y = some res → W p l e R s m args below meth c H locs cells slots Q (F0 m (pc + 3) ls rest)) : W p l e R s m args below meth c H locs cells slots Q (F0 m pc ls (.int y :: .int x :: rest)) :=
  lv_icmp_lt hC.1.1 hC.1.2.1 hdg ht (fun h => kt (by rwa [if_pos h] at hf)) (fun h => kf (by rwa [if_neg h] at hf))
theorem z_ige (hC : zC p s m args c own cc nL D cy) {x y : Int32} {off : Int} {tgt : Nat} {X Y : Option α} (hf : (if y ≤ x then X else Y) = some res) (hdg : decode cc pc = .ok (.if_icmp .ge off, 3)) (ht : (pc : Int) + off = (tgt : Int)) (kt : X = some res → W p l e R s m args below meth c H locs cells slots Q (F0 m tgt ls rest)) (kf : Y = some res → W p l e R s m args below meth c H locs cells slots Q (F0 m (pc + 3) ls rest)) : W p l e R s m args below meth c H locs cells slots Q (F0 m pc ls (.int y :: .int x :: rest)) :=
  lv_icmp_ge hC.1.1 hC.1.2.1 hdg ht (fun h => kt (by rwa [if_pos h] at hf)) (fun h => kf (by rwa [if_neg h] at hf))
theorem z_igt (hC : zC p s m args c own cc nL D cy) {x y : Int32} {off : Int} {tgt : Nat} {X Y : Option α} (hf : (if y < x then X else Y) = some res) (hdg : decode cc pc = .ok (.if_icmp .gt off, 3)) (ht : (pc : Int) + off = (tgt : Int)) (kt : X = some res → W p l e R s m args below meth c H locs cells slots Q (F0 m tgt ls rest)) (kf : Y = some res → W p l e R s m args below meth c H locs cells slots Q (F0 m (pc + 3) ls rest)) : W p l e R s m args below meth c H locs cells slots Q (F0 m pc ls (.int y :: .int x :: rest)) :=
  lv_icmp_gt hC.1.1 hC.1.2.1 hdg ht (fun h => kt (by rwa [if_pos h] at hf)) (fun h => kf (by rwa [if_neg h] at hf))
theorem z_ile (hC : zC p s m args c own cc nL D cy) {x y : Int32} {off : Int} {tgt : Nat} {X Y : Option α} (hf : (if x ≤ y then X else Y) = some res) (hdg : decode cc pc = .ok (.if_icmp .le off, 3)) (ht : (pc : Int) + off = (tgt : Int)) (kt : X = some res → W p l e R s m args below meth c H locs cells slots Q (F0 m tgt ls rest)) (kf : Y = some res → W p l e R s m args below meth c H locs cells slots Q (F0 m (pc + 3) ls rest)) : W p l e R s m args below meth c H locs cells slots Q (F0 m pc ls (.int y :: .int x :: rest)) :=
  lv_icmp_le hC.1.1 hC.1.2.1 hdg ht (fun h => kt (by rwa [if_pos h] at hf)) (fun h => kf (by rwa [if_neg h] at hf))
theorem z_eq0 (hC : zC p s m args c own cc nL D cy) {x : Int32} {off : Int} {tgt : Nat} {X Y : Option α} (hf : (if x = 0 then X else Y) = some res) (hdg : decode cc pc = .ok (.ifCond .eq off, 3)) (ht : (pc : Int) + off = (tgt : Int)) (kt : X = some res → W p l e R s m args below meth c H locs cells slots Q (F0 m tgt ls rest)) (kf : Y = some res → W p l e R s m args below meth c H locs cells slots Q (F0 m (pc + 3) ls rest)) : W p l e R s m args below meth c H locs cells slots Q (F0 m pc ls (.int x :: rest)) :=
  lv_if_eq hC.1.1 hC.1.2.1 hdg ht (fun h => kt (by rwa [if_pos h] at hf)) (fun h => kf (by rwa [if_neg h] at hf))
theorem z_ne0 (hC : zC p s m args c own cc nL D cy) {x : Int32} {off : Int} {tgt : Nat} {X Y : Option α} (hf : (if x = 0 then X else Y) = some res) (hdg : decode cc pc = .ok (.ifCond .ne off, 3)) (ht : (pc : Int) + off = (tgt : Int)) (kt : X = some res → W p l e R s m args below meth c H locs cells slots Q (F0 m (pc + 3) ls rest)) (kf : Y = some res → W p l e R s m args below meth c H locs cells slots Q (F0 m tgt ls rest)) : W p l e R s m args below meth c H locs cells slots Q (F0 m pc ls (.int x :: rest)) :=
  lv_if_ne hC.1.1 hC.1.2.1 hdg ht (fun h => kf (by rwa [if_neg h] at hf)) (fun h => kt (by rwa [if_pos h] at hf))
theorem z_lt0 (hC : zC p s m args c own cc nL D cy) {x : Int32} {off : Int} {tgt : Nat} {X Y : Option α} (hf : (if x < 0 then X else Y) = some res) (hdg : decode cc pc = .ok (.ifCond .lt off, 3)) (ht : (pc : Int) + off = (tgt : Int)) (kt : X = some res → W p l e R s m args below meth c H locs cells slots Q (F0 m tgt ls rest)) (kf : Y = some res → W p l e R s m args below meth c H locs cells slots Q (F0 m (pc + 3) ls rest)) : W p l e R s m args below meth c H locs cells slots Q (F0 m pc ls (.int x :: rest)) :=
  lv_if_lt hC.1.1 hC.1.2.1 hdg ht (fun h => kt (by rwa [if_pos h] at hf)) (fun h => kf (by rwa [if_neg h] at hf))
theorem z_ge0 (hC : zC p s m args c own cc nL D cy) {x : Int32} {off : Int} {tgt : Nat} {X Y : Option α} (hf : (if 0 ≤ x then X else Y) = some res) (hdg : decode cc pc = .ok (.ifCond .ge off, 3)) (ht : (pc : Int) + off = (tgt : Int)) (kt : X = some res → W p l e R s m args below meth c H locs cells slots Q (F0 m tgt ls rest)) (kf : Y = some res → W p l e R s m args below meth c H locs cells slots Q (F0 m (pc + 3) ls rest)) : W p l e R s m args below meth c H locs cells slots Q (F0 m pc ls (.int x :: rest)) :=
  lv_if_ge hC.1.1 hC.1.2.1 hdg ht (fun h => kt (by rwa [if_pos h] at hf)) (fun h => kf (by rwa [if_neg h] at hf))
theorem z_gt0 (hC : zC p s m args c own cc nL D cy) {x : Int32} {off : Int} {tgt : Nat} {X Y : Option α} (hf : (if 0 < x then X else Y) = some res) (hdg : decode cc pc = .ok (.ifCond .gt off, 3)) (ht : (pc : Int) + off = (tgt : Int)) (kt : X = some res → W p l e R s m args below meth c H locs cells slots Q (F0 m tgt ls rest)) (kf : Y = some res → W p l e R s m args below meth c H locs cells slots Q (F0 m (pc + 3) ls rest)) : W p l e R s m args below meth c H locs cells slots Q (F0 m pc ls (.int x :: rest)) :=
  lv_if_gt hC.1.1 hC.1.2.1 hdg ht (fun h => kt (by rwa [if_pos h] at hf)) (fun h => kf (by rwa [if_neg h] at hf))
theorem z_le0 (hC : zC p s m args c own cc nL D cy) {x : Int32} {off : Int} {tgt : Nat} {X Y : Option α} (hf : (if x ≤ 0 then X else Y) = some res) (hdg : decode cc pc = .ok (.ifCond .le off, 3)) (ht : (pc : Int) + off = (tgt : Int)) (kt : X = some res → W p l e R s m args below meth c H locs cells slots Q (F0 m tgt ls rest)) (kf : Y = some res → W p l e R s m args below meth c H locs cells slots Q (F0 m (pc + 3) ls rest)) : W p l e R s m args below meth c H locs cells slots Q (F0 m pc ls (.int x :: rest)) :=
  lv_if_le hC.1.1 hC.1.2.1 hdg ht (fun h => kt (by rwa [if_pos h] at hf)) (fun h => kf (by rwa [if_neg h] at hf))
theorem z_ifnull (hC : zC p s m args c own cc nL D cy) {x : Option Nat} {g : Nat → Nat} {off : Int} {tgt : Nat} {X Y : Option α} (hf : zon x X Y = some res) (hdg : decode cc pc = .ok (.ifnull off, 3)) (ht : (pc : Int) + off = (tgt : Int)) (kt : X = some res → W p l e R s m args below meth c H locs cells slots Q (F0 m tgt ls rest)) (kf : Y = some res → W p l e R s m args below meth c H locs cells slots Q (F0 m (pc + 3) ls rest)) : W p l e R s m args below meth c H locs cells slots Q (F0 m pc ls (va_rf (x.map g) :: rest)) := by
  cases x with
  | none => exact lv_ifnullN hC.1.1 hC.1.2.1 hdg ht (kt hf)
  | some t => exact lv_ifnull hC.1.1 hC.1.2.1 hdg (kf hf)
theorem z_ifnonnull (hC : zC p s m args c own cc nL D cy) {x : Option Nat} {g : Nat → Nat} {off : Int} {tgt : Nat} {X Y : Option α} (hf : zon x X Y = some res) (hdg : decode cc pc = .ok (.ifnonnull off, 3)) (ht : (pc : Int) + off = (tgt : Int)) (kt : X = some res → W p l e R s m args below meth c H locs cells slots Q (F0 m (pc + 3) ls rest)) (kf : Y = some res → W p l e R s m args below meth c H locs cells slots Q (F0 m tgt ls rest)) : W p l e R s m args below meth c H locs cells slots Q (F0 m pc ls (va_rf (x.map g) :: rest)) := by
  cases x with
  | none => exact lv_ifnonnullN hC.1.1 hC.1.2.1 hdg (kt hf)
  | some t => exact lv_ifnonnull hC.1.1 hC.1.2.1 hdg ht (kf hf)
end ZA
