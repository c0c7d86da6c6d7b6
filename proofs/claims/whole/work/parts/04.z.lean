/-! Z: one pure state for all cells of an object's world: pool 0 the cells made by constructors, pool 1 the tellings, pool 2 the pairs. zS = (ints, longs, references, (tellings, pairs)) by pool, cell, slot. -/
abbrev zS : Type := (Nat → Nat → Nat → Int32) × (Nat → Nat → Nat → Int64) × (Nat → Nat → Nat → Option Nat) × (Nat × Nat)
abbrev zK : Type := (Nat × List Nat) ⊕ (Nat × Nat)
def zsI (σ : zS) (q c j : Nat) (v : Int32) : zS := (fun q' c' => if q' = q ∧ c' = c then upd (σ.1 q c) j v else σ.1 q' c', σ.2)
def zsJ (σ : zS) (q c j : Nat) (v : Int64) : zS := (σ.1, fun q' c' => if q' = q ∧ c' = c then vp_updL (σ.2.1 q c) j v else σ.2.1 q' c', σ.2.2)
def zsR (σ : zS) (q c j : Nat) (v : Option Nat) : zS := (σ.1, σ.2.1, fun q' c' => if q' = q ∧ c' = c then va_up (σ.2.2.1 q c) j v else σ.2.2.1 q' c', σ.2.2.2)
/-- a field's value by its code: 0 int, 1 long, 2 a telling, 3 a pair, k+4 the fixed cell k -/
def zfv (a0 aT aP : Nat → Nat) (σ : zS) (q c j fd : Nat) : Value := match fd with
  | 0 => .int (σ.1 q c j)
  | 1 => .long (σ.2.1 q c j)
  | 2 => va_rf ((σ.2.2.1 q c j).map aT)
  | 3 => va_rf ((σ.2.2.1 q c j).map aP)
  | k + 4 => .ref (a0 k)
def zfl (a0 aT aP : Nat → Nat) (σ : zS) (q c : Nat) (fds : List Nat) : List Value := fds.mapIdx (fun j fd => zfv a0 aT aP σ q c j fd)
/-- an array's row by its code: 0 int, 1 long, 2 boolean, 3 tellings, 4 pairs -/
def zar (aT aP : Nat → Nat) (σ : zS) (c el : Nat) : (Nat → Int32) ⊕ (Nat → Int64) ⊕ (Nat → UInt32) ⊕ (Nat → UInt64) ⊕ (Nat → Option Nat) := match el with
  | 0 => .inl (σ.1 0 c)
  | 1 => .inr (.inl (σ.2.1 0 c))
  | 2 => .inl (σ.1 0 c)
  | 3 => .inr (.inr (.inr (.inr (fun i => (σ.2.2.1 0 c i).map aT))))
  | _ => .inr (.inr (.inr (.inr (fun i => (σ.2.2.1 0 c i).map aP))))
def zEk (cy : Nat → ClassId) (a0 aT aP : Nat → Nat) (σ : zS) (c : Nat) (k : zK) : va_E := match k with
  | .inl k => .inr (k.1, zfl a0 aT aP σ 0 c k.2)
  | .inr k => .inl (cy k.1, k.2, zar aT aP σ c k.1)
abbrev zFT : List Nat := [0, 0, 0, 0, 0, 0, 0, 0, 0, 2]
abbrev zFP : List Nat := [2, 2, 0, 0]
def zw (cy : Nat → ClassId) (sh : Nat → zK) (nf : Nat) (a0 aT aP : Nat → Nat) (σ : zS) : va_W := (List.range nf).map (fun c => (a0 c, zEk cy a0 aT aP σ c (sh c))) ++ ((List.range σ.2.2.2.1).map (fun t => (aT t, (Sum.inr (6, zfl a0 aT aP σ 1 t zFT) : va_E))) ++ (List.range σ.2.2.2.2).map (fun t => (aP t, (Sum.inr (5, zfl a0 aT aP σ 2 t zFP) : va_E))))
section ZL
variable {cy : Nat → ClassId} {sh : Nat → zK} {nf : Nat} {a0 aT aP : Nat → Nat} {σ τ : zS}
theorem zw_len : (zw cy sh nf a0 aT aP σ).length = nf + (σ.2.2.2.1 + σ.2.2.2.2) := by simp [zw]
theorem zw0 {c : Nat} (hc : c < nf) : (zw cy sh nf a0 aT aP σ)[c]? = some (a0 c, zEk cy a0 aT aP σ c (sh c)) := by
  unfold zw
  rw [List.getElem?_append_left (by simpa using hc)]
  simp [hc]
theorem zw1 {t : Nat} (ht : t < σ.2.2.2.1) : (zw cy sh nf a0 aT aP σ)[nf + t]? = some (aT t, .inr (6, zfl a0 aT aP σ 1 t zFT)) := by
  unfold zw
  rw [List.getElem?_append_right (by simp), List.getElem?_append_left (by simpa using ht)]
  simp [ht]
theorem zw2 {t : Nat} (ht : t < σ.2.2.2.2) : (zw cy sh nf a0 aT aP σ)[nf + σ.2.2.2.1 + t]? = some (aP t, .inr (5, zfl a0 aT aP σ 2 t zFP)) := by
  unfold zw
  rw [List.getElem?_append_right (by simp; omega), List.getElem?_append_right (by simp; omega)]
  have h1 : nf + σ.2.2.2.1 + t - nf - σ.2.2.2.1 = t := by omega
  simp [h1, ht]
def zeq (τ σ : zS) (q c : Nat) : Prop := τ.1 q c = σ.1 q c ∧ τ.2.1 q c = σ.2.1 q c ∧ τ.2.2.1 q c = σ.2.2.1 q c
theorem zfl_congr {q c : Nat} (h : zeq τ σ q c) (fds : List Nat) : zfl a0 aT aP τ q c fds = zfl a0 aT aP σ q c fds := by
  unfold zfl
  have e : (fun j fd => zfv a0 aT aP τ q c j fd) = (fun j fd => zfv a0 aT aP σ q c j fd) := by
    funext j fd
    unfold zfv
    rw [h.1, h.2.1, h.2.2]
  rw [e]
theorem zEk_congr {c : Nat} (h : zeq τ σ 0 c) (k : zK) : zEk cy a0 aT aP τ c k = zEk cy a0 aT aP σ c k := by
  cases k with
  | inl k => simp only [zEk, zfl_congr h]
  | inr k =>
    simp only [zEk]
    have e : zar aT aP τ c k.1 = zar aT aP σ c k.1 := by
      unfold zar
      rw [h.1, h.2.1, h.2.2]
    rw [e]
theorem zw_other {k : Nat} (hn : τ.2.2.2 = σ.2.2.2) (h0 : ∀ c, c < nf → c ≠ k → zeq τ σ 0 c) (h1 : ∀ t, t < σ.2.2.2.1 → nf + t ≠ k → zeq τ σ 1 t) (h2 : ∀ t, t < σ.2.2.2.2 → nf + σ.2.2.2.1 + t ≠ k → zeq τ σ 2 t) (i : Nat) (hi : i ≠ k) : (zw cy sh nf a0 aT aP τ)[i]? = (zw cy sh nf a0 aT aP σ)[i]? := by
  rcases Nat.lt_or_ge i nf with q | q
  · rw [zw0 q, zw0 q, zEk_congr (h0 i q hi)]
  · rcases Nat.lt_or_ge i (nf + σ.2.2.2.1) with q1 | q1
    · obtain ⟨t, rfl⟩ : ∃ t, i = nf + t := ⟨i - nf, by omega⟩
      have ht : t < σ.2.2.2.1 := by omega
      rw [zw1 (by rw [hn]; exact ht), zw1 ht, zfl_congr (h1 t ht hi)]
    · rcases Nat.lt_or_ge i (nf + σ.2.2.2.1 + σ.2.2.2.2) with q2 | q2
      · obtain ⟨t, rfl⟩ : ∃ t, i = nf + σ.2.2.2.1 + t := ⟨i - (nf + σ.2.2.2.1), by omega⟩
        have ht : t < σ.2.2.2.2 := by omega
        have e := zw2 (cy := cy) (sh := sh) (nf := nf) (a0 := a0) (aT := aT) (aP := aP) (σ := τ) (t := t) (by rw [hn]; exact ht)
        rw [hn] at e
        rw [e, zw2 ht, zfl_congr (h2 t ht hi)]
      · rw [List.getElem?_eq_none (by rw [zw_len, hn]; omega), List.getElem?_eq_none (by rw [zw_len]; omega)]
theorem zset {ws ws' : va_W} {k : Nat} {x : Nat × va_E} (hl : ws'.length = ws.length) (h1 : ws'[k]? = some x) (h2 : ∀ i, i ≠ k → ws'[i]? = ws[i]?) : ws.set k x = ws' := by
  apply List.ext_getElem?
  intro i
  rw [List.getElem?_set]
  by_cases h : k = i
  · subst h
    have hk : k < ws.length := by rw [← hl]; exact (List.getElem?_eq_some_iff.mp h1).1
    simp [hk, h1]
  · rw [if_neg h, h2 i (fun e => h e.symm)]
theorem zw_up0 {c : Nat} {x : va_E} (hc : c < nf) (hn : τ.2.2.2 = σ.2.2.2) (h : ∀ q' c', ¬ (q' = 0 ∧ c' = c) → zeq τ σ q' c') (hx : zEk cy a0 aT aP τ c (sh c) = x) : (zw cy sh nf a0 aT aP σ).set c (a0 c, x) = zw cy sh nf a0 aT aP τ := by
  refine zset (by rw [zw_len, zw_len, hn]) (by rw [zw0 hc, hx]) (zw_other hn (fun c' h1 h2 => h 0 c' (fun e => h2 e.2)) (fun t _ _ => h 1 t (fun e => by omega)) (fun t _ _ => h 2 t (fun e => by omega)))
theorem zw_up1 {t : Nat} {x : List Value} (ht : t < σ.2.2.2.1) (hn : τ.2.2.2 = σ.2.2.2) (h : ∀ q' c', ¬ (q' = 1 ∧ c' = t) → zeq τ σ q' c') (hx : zfl a0 aT aP τ 1 t zFT = x) : (zw cy sh nf a0 aT aP σ).set (nf + t) (aT t, .inr (6, x)) = zw cy sh nf a0 aT aP τ := by
  refine zset (by rw [zw_len, zw_len, hn]) (by rw [zw1 (by rw [hn]; exact ht), hx]) (zw_other hn (fun c' h1 h2 => h 0 c' (fun e => by omega)) (fun t' _ h2 => h 1 t' (fun e => h2 (by rw [e.2]))) (fun t' _ _ => h 2 t' (fun e => by omega)))
theorem zw_up2 {t : Nat} {x : List Value} (ht : t < σ.2.2.2.2) (hn : τ.2.2.2 = σ.2.2.2) (h : ∀ q' c', ¬ (q' = 2 ∧ c' = t) → zeq τ σ q' c') (hx : zfl a0 aT aP τ 2 t zFP = x) : (zw cy sh nf a0 aT aP σ).set (nf + σ.2.2.2.1 + t) (aP t, .inr (5, x)) = zw cy sh nf a0 aT aP τ := by
  have e := zw2 (cy := cy) (sh := sh) (nf := nf) (a0 := a0) (aT := aT) (aP := aP) (σ := τ) (t := t) (by rw [hn]; exact ht)
  rw [hn] at e
  refine zset (by rw [zw_len, zw_len, hn]) (by rw [e, hx]) (zw_other hn (fun c' h1 h2 => h 0 c' (fun e => by omega)) (fun t' _ h2 => h 1 t' (fun e => by omega)) (fun t' _ h2 => h 2 t' (fun e => h2 (by rw [e.2]))))
theorem zsI_eq {q c j : Nat} {v : Int32} (q' c' : Nat) (h : ¬ (q' = q ∧ c' = c)) : zeq (zsI σ q c j v) σ q' c' := ⟨by simp [zsI, h], rfl, rfl⟩
theorem zsJ_eq {q c j : Nat} {v : Int64} (q' c' : Nat) (h : ¬ (q' = q ∧ c' = c)) : zeq (zsJ σ q c j v) σ q' c' := ⟨rfl, by simp [zsJ, h], rfl⟩
theorem zsR_eq {q c j : Nat} {v : Option Nat} (q' c' : Nat) (h : ¬ (q' = q ∧ c' = c)) : zeq (zsR σ q c j v) σ q' c' := ⟨rfl, rfl, by simp [zsR, h]⟩
theorem zsI_at {q c j : Nat} {v : Int32} : (zsI σ q c j v).1 q c = upd (σ.1 q c) j v := by simp [zsI]
theorem zsJ_at {q c j : Nat} {v : Int64} : (zsJ σ q c j v).2.1 q c = vp_updL (σ.2.1 q c) j v := by simp [zsJ]
theorem zsR_at {q c j : Nat} {v : Option Nat} : (zsR σ q c j v).2.2.1 q c = va_up (σ.2.2.1 q c) j v := by simp [zsR]
theorem zfl_get {q c j fd : Nat} {fds : List Nat} (h : fds[j]? = some fd) : (zfl a0 aT aP σ q c fds)[j]? = some (zfv a0 aT aP σ q c j fd) := by
  simp [zfl, List.getElem?_mapIdx, h]
theorem zfl_len {q c : Nat} {fds : List Nat} : (zfl a0 aT aP σ q c fds).length = fds.length := by simp [zfl]
theorem zfl_put {q c j : Nat} {v : Value} {fds : List Nat} {fd : Nat} (h : fds[j]? = some fd) (h1 : zfv a0 aT aP τ q c j fd = v) (h2 : ∀ i f, i ≠ j → zfv a0 aT aP τ q c i f = zfv a0 aT aP σ q c i f) : zfl a0 aT aP τ q c fds = (zfl a0 aT aP σ q c fds).set j v := by
  apply List.ext_getElem?
  intro i
  rw [List.getElem?_set]
  by_cases e : j = i
  · subst e
    have hl : j < fds.length := (List.getElem?_eq_some_iff.mp h).1
    rw [zfl_get h, h1]
    simp [zfl_len, hl]
  · rw [if_neg e]
    simp only [zfl, List.getElem?_mapIdx]
    cases fds[i]? with
    | none => rfl
    | some f => simp only [Option.map_some, h2 i f (fun q => e q.symm)]
theorem zfv_I {q c j i f : Nat} {v : Int32} (h : i ≠ j) : zfv a0 aT aP (zsI σ q c j v) q c i f = zfv a0 aT aP σ q c i f := by
  have e : (zsI σ q c j v).1 q c i = σ.1 q c i := by rw [zsI_at]; simp [upd, h]
  unfold zfv
  rw [e]
  rfl
theorem zfv_J {q c j i f : Nat} {v : Int64} (h : i ≠ j) : zfv a0 aT aP (zsJ σ q c j v) q c i f = zfv a0 aT aP σ q c i f := by
  have e : (zsJ σ q c j v).2.1 q c i = σ.2.1 q c i := by rw [zsJ_at]; simp [vp_updL, h]
  unfold zfv
  rw [e]
  rfl
theorem zfv_R {q c j i f : Nat} {v : Option Nat} (h : i ≠ j) : zfv a0 aT aP (zsR σ q c j v) q c i f = zfv a0 aT aP σ q c i f := by
  have e : (zsR σ q c j v).2.2.1 q c i = σ.2.2.1 q c i := by rw [zsR_at]; simp [va_up, h]
  unfold zfv
  rw [e]
  rfl
end ZL
