/-- every telling that is held somewhere is there (18: the row of pairs) -/
def zvalT (σ : zS) : Prop := ∀ q c i t, ¬ (q = 0 ∧ c = 18) → σ.2.2.1 q c i = some t → t < σ.2.2.2.1
def zvalP (σ : zS) : Prop := ∀ i t, σ.2.2.1 0 18 i = some t → t < σ.2.2.2.2
def zaddT (σ : zS) : zS := (fun q c => if q = 1 ∧ c = σ.2.2.2.1 then fun _ => 0 else σ.1 q c, σ.2.1, fun q c => if q = 1 ∧ c = σ.2.2.2.1 then fun _ => none else σ.2.2.1 q c, (σ.2.2.2.1 + 1, σ.2.2.2.2))
def zaddP (σ : zS) : zS := (fun q c => if q = 2 ∧ c = σ.2.2.2.2 then fun _ => 0 else σ.1 q c, σ.2.1, fun q c => if q = 2 ∧ c = σ.2.2.2.2 then fun _ => none else σ.2.2.1 q c, (σ.2.2.2.1, σ.2.2.2.2 + 1))
noncomputable def znT {α : Type} (σ : zS) (k : Nat → zS → Option α) : Option α := @ite _ (zvalT σ) (Classical.propDecidable _) (k σ.2.2.2.1 (zaddT σ)) none
noncomputable def znP {α : Type} (σ : zS) (k : Nat → zS → Option α) : Option α := @ite _ (zvalP σ) (Classical.propDecidable _) (k σ.2.2.2.2 (zaddP σ)) none
theorem znT_some {α : Type} {σ : zS} {k : Nat → zS → Option α} {r : α} (h : znT σ k = some r) : zvalT σ ∧ k σ.2.2.2.1 (zaddT σ) = some r := by
  unfold znT at h
  by_cases hv : zvalT σ
  · rw [if_pos hv] at h; exact ⟨hv, h⟩
  · rw [if_neg hv] at h; cases h
theorem znP_some {α : Type} {σ : zS} {k : Nat → zS → Option α} {r : α} (h : znP σ k = some r) : zvalP σ ∧ k σ.2.2.2.2 (zaddP σ) = some r := by
  unfold znP at h
  by_cases hv : zvalP σ
  · rw [if_pos hv] at h; exact ⟨hv, h⟩
  · rw [if_neg hv] at h; cases h
/-- a world in another order -/
theorem zpermP {D : va_G} {L L' : va_W} {H : Heap} (f : Nat → Nat) (h : ∀ k q, L'[k]? = some q → L[f k]? = some q) (hP : va_P D vwCl L H) : va_P D vwCl L' H := fun k q hk => hP (f k) q (h k q hk)
theorem zpermD {A : Nat → Prop} {L L' : va_W} (f : Nat → Nat) (h : ∀ k q, L'[k]? = some q → L[f k]? = some q) (hi : ∀ i j, i < L'.length → j < L'.length → f i = f j → i = j) (hD : va_D A L) : va_D A L' := by
  refine ⟨fun i j p q h1 h2 e => ?_, fun k q hk => hD.2 (f k) q (h k q hk)⟩
  exact hi i j (List.getElem?_eq_some_iff.mp h1).1 (List.getElem?_eq_some_iff.mp h2).1 (hD.1 (f i) (f j) p q (h i p h1) (h j q h2) e)
section ZN
variable {cy : Nat → ClassId} {a0 aT aP aT' aP' : Nat → Nat} {σ : zS}
theorem zmap_congr {f g : Nat → Nat} {x : Option Nat} (h : ∀ t, x = some t → f t = g t) : x.map f = x.map g := by
  cases x with
  | none => rfl
  | some t => simp only [Option.map_some, h t rfl]
theorem zfl_aT {q c : Nat} {fds : List Nat} (h : ∀ j t, σ.2.2.1 q c j = some t → aT' t = aT t) : zfl a0 aT' aP σ q c fds = zfl a0 aT aP σ q c fds := by
  unfold zfl
  have e : (fun j fd => zfv a0 aT' aP σ q c j fd) = (fun j fd => zfv a0 aT aP σ q c j fd) := by
    funext j fd
    match fd with
    | 0 => rfl
    | 1 => rfl
    | 2 => simp only [zfv, zmap_congr (h j)]
    | 3 => rfl
    | k + 4 => rfl
  rw [e]
theorem zfl_aP {q c : Nat} {fds : List Nat} (h : 3 ∉ fds) : zfl a0 aT aP' σ q c fds = zfl a0 aT aP σ q c fds := by
  unfold zfl
  apply List.ext_getElem?
  intro j
  simp only [List.getElem?_mapIdx]
  cases e : fds[j]? with
  | none => rfl
  | some fd =>
    have hm : fd ∈ fds := List.mem_of_getElem? e
    match fd, hm with
    | 0, _ => rfl
    | 1, _ => rfl
    | 2, _ => rfl
    | 3, hm => exact absurd hm h
    | k + 4, _ => rfl
theorem zEk_aT {c : Nat} (hv : zvalT σ) (ha : ∀ t, t < σ.2.2.2.1 → aT' t = aT t) (k : zK) (hk : c = 18 → ∃ n, k = .inr (4, n)) : zEk cy a0 aT' aP σ c k = zEk cy a0 aT aP σ c k := by
  by_cases hc : c = 18
  · obtain ⟨n, rfl⟩ := hk hc
    rfl
  · have hr : ∀ j t, σ.2.2.1 0 c j = some t → aT' t = aT t := fun j t h => ha t (hv 0 c j t (fun e => hc e.2) h)
    cases k with
    | inl k => simp only [zEk, zfl_aT hr]
    | inr k =>
      simp only [zEk]
      have e : zar aT' aP σ c k.1 = zar aT aP σ c k.1 := by
        unfold zar
        have e2 : (fun i => (σ.2.2.1 0 c i).map aT') = (fun i => (σ.2.2.1 0 c i).map aT) := by
          funext i
          exact zmap_congr (hr i)
        rw [e2]
      rw [e]
theorem zEk_aP {c : Nat} (hv : zvalP σ) (ha : ∀ t, t < σ.2.2.2.2 → aP' t = aP t) (k : zK) (hk : ∀ n, k = .inr (4, n) → c = 18) (h3 : ∀ ci fds, k = .inl (ci, fds) → 3 ∉ fds) (h5 : ∀ el n, k = .inr (el, n) → el ≤ 4) : zEk cy a0 aT aP' σ c k = zEk cy a0 aT aP σ c k := by
  cases k with
  | inl k => exact congrArg (fun x => (Sum.inr (k.1, x) : va_E)) (zfl_aP (h3 k.1 k.2 rfl))
  | inr k =>
    obtain ⟨el, n⟩ := k
    simp only [zEk]
    match el, h5 el n rfl, hk n with
    | 0, _, _ => rfl
    | 1, _, _ => rfl
    | 2, _, _ => rfl
    | 3, _, _ => rfl
    | 4, _, hk =>
      have hc := hk rfl
      subst hc
      have e2 : (fun i => (σ.2.2.1 0 18 i).map aP') = (fun i => (σ.2.2.1 0 18 i).map aP) := by
        funext i
        exact zmap_congr (fun t h => ha t (hv i t h))
      simp only [zar, e2]
    | k + 5, h, _ => exact absurd h (by omega)
end ZN
theorem zshX18 : ∀ c, c = 18 → ∃ n, shX c = .inr (4, n) := fun c h => by subst h; exact ⟨_, rfl⟩
theorem zshX_all {P : Nat → zK → Prop} (h : ∀ c, c < 38 → P c (shX c)) (c : Nat) (hc : c < 38) : P c (shX c) := h c hc
theorem zshX4 : ∀ c, c < 38 → (∀ n, shX c = .inr (4, n) → c = 18) ∧ (∀ ci fds, shX c = .inl (ci, fds) → 3 ∉ fds) ∧ (∀ el n, shX c = .inr (el, n) → el ≤ 4) := by
  have key : ∀ c, c < 38 → (match shX c with | .inl k => (!k.2.contains 3) | .inr k => decide (k.1 ≤ 4) && (k.1 != 4 || c == 18)) = true := by decide +kernel
  intro c hc
  have h := key c hc
  refine ⟨fun n e => ?_, fun ci fds e => ?_, fun el n e => ?_⟩
  · rw [e] at h; simpa using h
  · rw [e] at h; simpa using h
  · rw [e] at h; simp at h; exact h.1
theorem zfinj {n P i j : Nat} (hi : i < n + 1 + P) (hj : j < n + 1 + P) (h : (if i < n then i else if i = n then n + P else i - 1) = (if j < n then j else if j = n then n + P else j - 1)) : i = j := by
  repeat' split at h
  all_goals omega
section ZNR
variable {p : Program} {l : Launch} {e : Env} {R : Room} {s : State} {m : MethodId} {args : Array Value} {below : List Frame} {meth : Method} {c : Code} {H : Heap} {locs : List Loc} {cells slots : Nat} {Q : State → Prop}
variable {pc : Nat} {ls : Array Slot} {rest : List Value} {A : Nat → Prop} {H0 : Heap} {D : va_G} {cy : Nat → ClassId} {a0 aT aP : Nat → Nat} {σ : zS} {own : String} {cc : ByteArray} {nL : Nat} {α : Type} {res : α} {index : Nat}
theorem z_newT (hC : zC p s m args c own cc nL D cy) (hA : ∀ q, H0.size ≤ q → A q) (hZ : zW D cy shX 38 a0 aT aP A H0 σ H locs) (K : Cond.classLink own index RX6 ∈ zT) (K2 : Cond.instantiable RX6 10 ∈ zT) (K3 : Cond.initialized RX6 ∈ zT) {k : Nat → zS → Option α} (hf : znT σ k = some res) (hcells : cells + 1 ≤ R.cells) (hslots : slots + 10 ≤ R.slots) (hdg : decode cc pc = .ok (.new index, 3))
    (kk : ∀ (t : Nat) (τ : zS) (aT' : Nat → Nat) (H1 : Heap), k t τ = some res → τ = zaddT σ → t = σ.2.2.2.1 → zW D cy shX 38 a0 aT' aP A H0 τ H1 locs → W p l e R s m args below meth c H1 locs (cells + 1) (slots + 10) Q (F0 m (pc + 3) ls (va_rf ((some t).map aT') :: rest))) : W p l e R s m args below meth c H locs cells slots Q (F0 m pc ls rest) := by
  obtain ⟨hv, hf⟩ := znT_some hf
  have hts := hC.1.2.2.2.2
  refine va_new (ci := 6) (fs := [.int 0, .int 0, .int 0, .int 0, .int 0, .int 0, .int 0, .int 0, .int 0, .null]) (C := RX6) (T := TX6) (N := 10) hC.1.1 hC.1.2.1 hts izX6 tyX6 tyX6_ok hC.1.2.2.2.1 (hts _ K) (hts _ K2) (hts _ K3) hC.2 hZ.1 hZ.2.1 hZ.2.2 hA rfl (fun j hj => by rcases (show j = 0 ∨ j = 1 ∨ j = 2 ∨ j = 3 ∨ j = 4 ∨ j = 5 ∨ j = 6 ∨ j = 7 ∨ j = 8 ∨ j = 9 by omega) with rfl | rfl | rfl | rfl | rfl | rfl | rfl | rfl | rfl | rfl <;> rfl) hcells hslots hdg (fun q H1 hP hD hS => ?_)
  have ha : ∀ t, t < σ.2.2.2.1 → va_up aT σ.2.2.2.1 q t = aT t := fun t h => by simp [va_up, Nat.ne_of_lt h]
  have hnew : va_up aT σ.2.2.2.1 q σ.2.2.2.1 = q := by simp [va_up]
  -- the old world's places in the new one
  have zeq0 : ∀ q' c', ¬ (q' = 1 ∧ c' = σ.2.2.2.1) → zeq (zaddT σ) σ q' c' := fun q' c' h => ⟨by simp [zaddT, h], rfl, by simp [zaddT, h]⟩
  have hlen : (zw cy shX 38 a0 aT aP σ).length = 38 + (σ.2.2.2.1 + σ.2.2.2.2) := zw_len
  have hlen2 : (zw cy shX 38 a0 (va_up aT σ.2.2.2.1 q) aP (zaddT σ)).length = 38 + ((σ.2.2.2.1 + 1) + σ.2.2.2.2) := zw_len
  have key : ∀ k x, (zw cy shX 38 a0 (va_up aT σ.2.2.2.1 q) aP (zaddT σ))[k]? = some x → ((zw cy shX 38 a0 aT aP σ) ++ [(q, (Sum.inr (6, [.int 0, .int 0, .int 0, .int 0, .int 0, .int 0, .int 0, .int 0, .int 0, .null]) : va_E))])[if k < 38 + σ.2.2.2.1 then k else if k = 38 + σ.2.2.2.1 then 38 + (σ.2.2.2.1 + σ.2.2.2.2) else k - 1]? = some x := by
    intro k x hk
    have hkl : k < 38 + ((σ.2.2.2.1 + 1) + σ.2.2.2.2) := by rw [← hlen2]; exact (List.getElem?_eq_some_iff.mp hk).1
    rcases Nat.lt_or_ge k 38 with h1 | h1
    · rw [if_pos (by omega), List.getElem?_append_left (by rw [hlen]; omega), zw0 h1, ← hk, zw0 h1, zEk_congr (zeq0 0 k (by omega)), zEk_aT hv ha _ (zshX18 k)]
    · rcases Nat.lt_or_ge k (38 + σ.2.2.2.1) with h2 | h2
      · obtain ⟨t, rfl⟩ : ∃ t, k = 38 + t := ⟨k - 38, by omega⟩
        have ht : t < σ.2.2.2.1 := by omega
        rw [if_pos (by omega), List.getElem?_append_left (by rw [hlen]; omega), zw1 ht, ← hk, zw1 (show t < (zaddT σ).2.2.2.1 from Nat.lt_succ_of_lt ht), ha t ht, zfl_congr (zeq0 1 t (by omega)), zfl_aT (fun j t' h => ha t' (hv 1 t j t' (by omega) h))]
      · rcases Nat.lt_or_ge (38 + σ.2.2.2.1) k with h3 | h3
        · obtain ⟨t, rfl⟩ : ∃ t, k = 38 + (σ.2.2.2.1 + 1) + t := ⟨k - (38 + (σ.2.2.2.1 + 1)), by omega⟩
          have ht : t < σ.2.2.2.2 := by omega
          have e2 := zw2 (cy := cy) (sh := shX) (nf := 38) (a0 := a0) (aT := va_up aT σ.2.2.2.1 q) (aP := aP) (σ := zaddT σ) (t := t) ht
          rw [if_neg (by omega), if_neg (by omega), show 38 + (σ.2.2.2.1 + 1) + t - 1 = 38 + σ.2.2.2.1 + t by omega, List.getElem?_append_left (by rw [hlen]; omega), zw2 ht, ← hk, show (zw cy shX 38 a0 (va_up aT σ.2.2.2.1 q) aP (zaddT σ))[38 + (σ.2.2.2.1 + 1) + t]? = _ from e2, zfl_congr (zeq0 2 t (by omega)), zfl_aT (fun j t' h => ha t' (hv 2 t j t' (by omega) h))]
        · have hk2 : k = 38 + σ.2.2.2.1 := by omega
          subst hk2
          rw [if_neg (by omega), if_pos rfl, ← hlen, List.getElem?_append_right (Nat.le_refl _), Nat.sub_self, ← hk, zw1 (show σ.2.2.2.1 < (zaddT σ).2.2.2.1 from Nat.lt_succ_self _), hnew]
          have e1 : (zaddT σ).1 1 σ.2.2.2.1 = fun _ => 0 := by simp [zaddT]
          have e2 : (zaddT σ).2.2.1 1 σ.2.2.2.1 = fun _ => none := by simp [zaddT]
          simp [zfl, zfv, e1, e2, va_rf, List.mapIdx_cons]
  have hinj : ∀ i j, i < (zw cy shX 38 a0 (va_up aT σ.2.2.2.1 q) aP (zaddT σ)).length → j < (zw cy shX 38 a0 (va_up aT σ.2.2.2.1 q) aP (zaddT σ)).length → (if i < 38 + σ.2.2.2.1 then i else if i = 38 + σ.2.2.2.1 then 38 + (σ.2.2.2.1 + σ.2.2.2.2) else i - 1) = (if j < 38 + σ.2.2.2.1 then j else if j = 38 + σ.2.2.2.1 then 38 + (σ.2.2.2.1 + σ.2.2.2.2) else j - 1) → i = j := by
    intro i j hi hj h
    rw [hlen2] at hi hj
    refine zfinj (n := 38 + σ.2.2.2.1) (P := σ.2.2.2.2) (by omega) (by omega) ?_
    rw [Nat.add_assoc]
    exact h
  refine W.eq ?_ (kk σ.2.2.2.1 (zaddT σ) (va_up aT σ.2.2.2.1 q) H1 hf rfl rfl ⟨zpermP (fun k => if k < 38 + σ.2.2.2.1 then k else if k = 38 + σ.2.2.2.1 then 38 + (σ.2.2.2.1 + σ.2.2.2.2) else k - 1) key hP, zpermD (fun k => if k < 38 + σ.2.2.2.1 then k else if k = 38 + σ.2.2.2.1 then 38 + (σ.2.2.2.1 + σ.2.2.2.2) else k - 1) key hinj hD, hS⟩)
  simp [va_rf, hnew]
end ZNR
