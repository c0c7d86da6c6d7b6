def zT : List Cond := lw_tbl.filter goodWord
theorem zT_in {w : Cond} (h : w ∈ zT) : w ∈ lw_tbl := (List.mem_filter.mp h).1
theorem zT_good {w : Cond} (h : w ∈ zT) : (w.onTables && w.keeps) = true ∨ ∃ ty, w = .arrayClass ty := good_of_word (List.mem_filter.mp h).2
abbrev zty (cy : Nat → ClassId) : List (ClassId × FieldType) := [(cy 0, .int), (cy 1, .long), (cy 2, .boolean), (cy 3, .object "CarrierPool$Telling"), (cy 4, .object "CarrierPool$Pair")]
abbrev zC (p : Program) (s : State) (m : MethodId) (args : Array Value) (c : Code) (own : String) (cc : ByteArray) (nL : Nat) (D : va_G) (cy : Nat → ClassId) : Prop := CallFix p m c cc nL s args zT own ∧ va_K D vwCl (zty cy) s
abbrev zW (D : va_G) (cy : Nat → ClassId) (sh : Nat → zK) (nf : Nat) (a0 aT aP : Nat → Nat) (A : Nat → Prop) (H0 : Heap) (σ : zS) (H : Heap) (locs : List Loc) : Prop := va_P D vwCl (zw cy sh nf a0 aT aP σ) H ∧ va_D A (zw cy sh nf a0 aT aP σ) ∧ va_S A H0 H locs
/-- a field as an instruction of a class names it -/
def zFk (own : String) (index ci j : Nat) (ty : FieldType) (fin : Bool) : Prop := ∃ (C : String) (T : u_T) (N : Nat) (ty0 : Nat → FieldType), vwCl[ci]? = some (C, T, N) ∧ (∀ w ∈ u_ws C T N, w ∈ zT) ∧ j < N ∧ (Cond.fieldLink own index C (T j).2.1 (T j).2.2.1 ∈ zT ∨ ∃ host, Cond.fieldLinkNest own index C (T j).2.1 (T j).2.2.1 host ∈ zT) ∧ (T j).1 = C ∧ (∀ k, k < N → parseFieldDescriptor (T k).2.2.1 = some (ty0 k)) ∧ (∀ a, a < N → ∀ b, b < N → a ≠ b → (T a).2.1 ≠ (T b).2.1) ∧ parseFieldDescriptor (T j).2.2.1 = some ty ∧ (T j).2.2.2 = fin
-- the pure words of a walk: what can fail answers none
def zld {α : Type} (σ : zS) (c n : Nat) (i : Int32) (k : Int32 → Option α) : Option α := if i < 0 ∨ n ≤ i.toNatClampNeg then none else k (σ.1 0 c i.toNatClampNeg)
def zldJ {α : Type} (σ : zS) (c n : Nat) (i : Int32) (k : Int64 → Option α) : Option α := if i < 0 ∨ n ≤ i.toNatClampNeg then none else k (σ.2.1 0 c i.toNatClampNeg)
def zldR {α : Type} (σ : zS) (c n : Nat) (i : Int32) (k : Option Nat → Option α) : Option α := if i < 0 ∨ n ≤ i.toNatClampNeg then none else k (σ.2.2.1 0 c i.toNatClampNeg)
def zst {α : Type} (σ : zS) (c n : Nat) (i v : Int32) (k : zS → Option α) : Option α := if i < 0 ∨ n ≤ i.toNatClampNeg then none else k (zsI σ 0 c i.toNatClampNeg v)
def zstZ {α : Type} (σ : zS) (c n : Nat) (i v : Int32) (k : zS → Option α) : Option α := if i < 0 ∨ n ≤ i.toNatClampNeg then none else if v = 0 ∨ v = 1 then k (zsI σ 0 c i.toNatClampNeg v) else none
def zstJ {α : Type} (σ : zS) (c n : Nat) (i : Int32) (v : Int64) (k : zS → Option α) : Option α := if i < 0 ∨ n ≤ i.toNatClampNeg then none else k (zsJ σ 0 c i.toNatClampNeg v)
/-- a telling or none goes into an array of tellings -/
def zstT {α : Type} (σ : zS) (c n : Nat) (i : Int32) (v : Option Nat) (k : zS → Option α) : Option α := if i < 0 ∨ n ≤ i.toNatClampNeg then none else match v with
  | none => k (zsR σ 0 c i.toNatClampNeg none)
  | some t => if t < σ.2.2.2.1 then k (zsR σ 0 c i.toNatClampNeg (some t)) else none
def zstP {α : Type} (σ : zS) (c n : Nat) (i : Int32) (v : Option Nat) (k : zS → Option α) : Option α := if i < 0 ∨ n ≤ i.toNatClampNeg then none else match v with
  | none => k (zsR σ 0 c i.toNatClampNeg none)
  | some t => if t < σ.2.2.2.2 then k (zsR σ 0 c i.toNatClampNeg (some t)) else none
def zlet {α : Type} (τ : zS) (k : zS → Option α) : Option α := k τ
def zgT {α : Type} (σ : zS) (x : Option Nat) (j : Nat) (k : Int32 → Option α) : Option α := match x with
  | none => none
  | some t => if t < σ.2.2.2.1 then k (σ.1 1 t j) else none
def zgTR {α : Type} (σ : zS) (x : Option Nat) (j : Nat) (k : Option Nat → Option α) : Option α := match x with
  | none => none
  | some t => if t < σ.2.2.2.1 then k (σ.2.2.1 1 t j) else none
def zgP {α : Type} (σ : zS) (x : Option Nat) (j : Nat) (k : Int32 → Option α) : Option α := match x with
  | none => none
  | some t => if t < σ.2.2.2.2 then k (σ.1 2 t j) else none
def zgPR {α : Type} (σ : zS) (x : Option Nat) (j : Nat) (k : Option Nat → Option α) : Option α := match x with
  | none => none
  | some t => if t < σ.2.2.2.2 then k (σ.2.2.1 2 t j) else none
def zpT {α : Type} (σ : zS) (x : Option Nat) (j : Nat) (v : Int32) (k : zS → Option α) : Option α := match x with
  | none => none
  | some t => if t < σ.2.2.2.1 then k (zsI σ 1 t j v) else none
def zpTZ {α : Type} (σ : zS) (x : Option Nat) (j : Nat) (v : Int32) (k : zS → Option α) : Option α := match x with
  | none => none
  | some t => if t < σ.2.2.2.1 then (if v = 0 ∨ v = 1 then k (zsI σ 1 t j v) else none) else none
def zpTR {α : Type} (σ : zS) (x : Option Nat) (j : Nat) (v : Option Nat) (k : zS → Option α) : Option α := match x with
  | none => none
  | some t => if t < σ.2.2.2.1 then k (zsR σ 1 t j v) else none
def zpP {α : Type} (σ : zS) (x : Option Nat) (j : Nat) (v : Int32) (k : zS → Option α) : Option α := match x with
  | none => none
  | some t => if t < σ.2.2.2.2 then k (zsI σ 2 t j v) else none
def zpPZ {α : Type} (σ : zS) (x : Option Nat) (j : Nat) (v : Int32) (k : zS → Option α) : Option α := match x with
  | none => none
  | some t => if t < σ.2.2.2.2 then (if v = 0 ∨ v = 1 then k (zsI σ 2 t j v) else none) else none
def zpPR {α : Type} (σ : zS) (x : Option Nat) (j : Nat) (v : Option Nat) (k : zS → Option α) : Option α := match x with
  | none => none
  | some t => if t < σ.2.2.2.2 then k (zsR σ 2 t j v) else none
def zon {α : Type} (x : Option Nat) (X Y : Option α) : Option α := match x with
  | none => X
  | some _ => Y
def znz {α : Type} (y : Int32) (k : Option α) : Option α := if y = 0 then none else k
def znzJ {α : Type} (y : Int64) (k : Option α) : Option α := if y = 0 then none else k
def zbi {α β : Type} (x : Option (β × zS)) (k : β → zS → Option α) : Option α := match x with
  | none => none
  | some q => k q.1 q.2
def zbv {α : Type} (x : Option zS) (k : zS → Option α) : Option α := match x with
  | none => none
  | some q => k q
def zrT {α : Type} (σ : zS) (x : Option Nat) (k : Option α) : Option α := match x with
  | none => none
  | some t => if t < σ.2.2.2.1 then k else none
def zrP {α : Type} (σ : zS) (x : Option Nat) (k : Option α) : Option α := match x with
  | none => none
  | some t => if t < σ.2.2.2.2 then k else none
def zlp {S α : Type} (b : (S → Option α) → S → Option α) : Nat → S → Option α
  | 0 => fun _ => none
  | n + 1 => fun s => b (zlp b n) s
theorem zloop {S α : Type} {b : (S → Option α) → S → Option α} {Wd : S → Prop} {r : α} (h : ∀ (rc : S → Option α) (s : S), (∀ s', rc s' = some r → Wd s') → b rc s = some r → Wd s) : ∀ (n : Nat) (s : S), zlp b n s = some r → Wd s := by
  intro n
  induction n with
  | zero => intro s h; cases h
  | succ n ih => intro s hs; exact h (zlp b n) s ih hs
theorem znarrow_b {v : Int32} (h : v = 0 ∨ v = 1) : narrow .boolean (.int v) = .int v ∧ fits .boolean (.int v) = true ∧ vp_nar .boolean v = v := by
  rcases h with rfl | rfl <;> exact ⟨rfl, rfl, rfl⟩
section ZR
variable {p : Program} {l : Launch} {e : Env} {R : Room} {s : State} {m : MethodId} {args : Array Value} {below : List Frame} {meth : Method} {c : Code} {H : Heap} {locs : List Loc} {cells slots : Nat} {Q : State → Prop}
variable {pc : Nat} {ls : Array Slot} {rest : List Value} {A : Nat → Prop} {H0 : Heap} {D : va_G} {cy : Nat → ClassId} {sh : Nat → zK} {nf : Nat} {a0 aT aP : Nat → Nat} {σ : zS} {own : String} {cc : ByteArray} {nL : Nat} {α : Type} {res : α}
theorem z_get (hC : zC p s m args c own cc nL D cy) {ws : va_W} (hP : va_P D vwCl ws H) {ci index j : Nat} {ty : FieldType} {fin : Bool} (F : zFk own index ci j ty fin) (q0 : Nat) {a : Nat} {fs : List Value} (he : ws[q0]? = some (a, .inr (ci, fs))) {v : Value} (hv : fs[j]? = some v) (hdg : decode cc pc = .ok (.getfield index, 3))
    (kk : W p l e R s m args below meth c H locs cells slots Q (F0 m (pc + 3) ls (v :: rest))) : W p l e R s m args below meth c H locs cells slots Q (F0 m pc ls (.ref a :: rest)) := by
  obtain ⟨C, T, N, ty0, h1, h2, h3, h4, h5, -, -, -, -⟩ := F
  obtain ⟨⟨hx, hb, -, hown, hts⟩, hK⟩ := hC
  rcases h4 with h4 | ⟨host, h4⟩
  · exact va_get (D := D) (ci := ci) (C := C) (T := T) (N := N) (ref := C) hx hb hts h2 hown hK hP q0 he h1 j h3 (hts _ h4) (by rw [h5]; exact fun _ h => h) hv hdg kk
  · exact va_getN (D := D) (ci := ci) (C := C) (T := T) (N := N) (ref := C) (host := host) hx hb hts h2 hown hK hP q0 he h1 j h3 (hts _ h4) (by rw [h5]; exact fun _ h => h) hv hdg kk
theorem z_put (hC : zC p s m args c own cc nL D cy) {ws : va_W} (hP : va_P D vwCl ws H) (hD : va_D A ws) (hS : va_S A H0 H locs) {ci index j : Nat} {ty : FieldType} (F : zFk own index ci j ty false) (q0 : Nat) {a : Nat} {fs : List Value} (he : ws[q0]? = some (a, .inr (ci, fs))) {v : Value} (hn : narrow ty v = v) (hfit : fits ty v = true) (hl : j < fs.length) (hdg : decode cc pc = .ok (.putfield index, 3))
    (kk : ∀ (H1 : Heap) (locs1 : List Loc), va_P D vwCl (ws.set q0 (a, .inr (ci, fs.set j v))) H1 → va_D A (ws.set q0 (a, .inr (ci, fs.set j v))) → va_S A H0 H1 locs1 → W p l e R s m args below meth c H1 locs1 cells slots Q (F0 m (pc + 3) ls rest)) : W p l e R s m args below meth c H locs cells slots Q (F0 m pc ls (v :: .ref a :: rest)) := by
  obtain ⟨C, T, N, ty0, h1, h2, h3, h4, h5, h6, h7, h8, h9⟩ := F
  obtain ⟨⟨hx, hb, -, hown, hts⟩, hK⟩ := hC
  rcases h4 with h4 | ⟨host, h4⟩
  · exact va_put (D := D) (ci := ci) (C := C) (T := T) (N := N) (ref := C) hx hb hts h2 ty0 h6 h7 hown hK hP hD hS q0 he h1 j h3 (hts _ h4) (by rw [h5]; exact fun _ h => h) h9 h8 hn hfit hl hdg kk
  · exact va_putN (D := D) (ci := ci) (C := C) (T := T) (N := N) (ref := C) (host := host) hx hb hts h2 ty0 h6 h7 hown hK hP hD hS q0 he h1 j h3 (hts _ h4) (by rw [h5]; exact fun _ h => h) h9 h8 hn hfit hl hdg kk
/-- a final field in its own constructor -/
theorem z_putF (hC : zC p s m args c own cc nL D cy) {ws : va_W} (hP : va_P D vwCl ws H) (hD : va_D A ws) (hS : va_S A H0 H locs) {ci index j : Nat} {ty : FieldType} {C : String} {T : u_T} {N : Nat} {ty0 : Nat → FieldType} (F : vwCl[ci]? = some (C, T, N) ∧ (∀ w ∈ u_ws C T N, w ∈ zT) ∧ j < N ∧ Cond.fieldLink own index C (T j).2.1 (T j).2.2.1 ∈ zT ∧ (T j).1 = C ∧ (∀ k, k < N → parseFieldDescriptor (T k).2.2.1 = some (ty0 k)) ∧ (∀ a, a < N → ∀ b, b < N → a ≠ b → (T a).2.1 ≠ (T b).2.1) ∧ parseFieldDescriptor (T j).2.2.1 = some ty ∧ (T j).2.2.2 = true) (hin : meth.name = "<init>") (ho : C = own) (q0 : Nat) {a : Nat} {fs : List Value} (he : ws[q0]? = some (a, .inr (ci, fs))) {v : Value} (hn : narrow ty v = v) (hfit : fits ty v = true) (hl : j < fs.length) (hdg : decode cc pc = .ok (.putfield index, 3))
    (kk : ∀ (H1 : Heap) (locs1 : List Loc), va_P D vwCl (ws.set q0 (a, .inr (ci, fs.set j v))) H1 → va_D A (ws.set q0 (a, .inr (ci, fs.set j v))) → va_S A H0 H1 locs1 → W p l e R s m args below meth c H1 locs1 cells slots Q (F0 m (pc + 3) ls rest)) : W p l e R s m args below meth c H locs cells slots Q (F0 m pc ls (v :: .ref a :: rest)) := by
  obtain ⟨h1, h2, h3, h4, h5, h6, h7, h8, h9⟩ := F
  obtain ⟨⟨hx, hb, -, hown, hts⟩, hK⟩ := hC
  exact va_putF (D := D) (ci := ci) (C := C) (T := T) (N := N) (ref := C) hx hb hts h2 ty0 h6 h7 hown hK hP hD hS q0 he h1 j h3 (hts _ h4) (by rw [h5]; exact fun _ h => h) h9 hin (by rw [h5, ho]) h8 hn hfit hl hdg kk
-- fixed objects
theorem z_get0 (hC : zC p s m args c own cc nL D cy) (hZ : zW D cy sh nf a0 aT aP A H0 σ H locs) {ci index j o fd : Nat} {fds : List Nat} {ty : FieldType} {fin : Bool} (F : zFk own index ci j ty fin) (ho : o < nf) (hs : sh o = .inl (ci, fds)) (hj : fds[j]? = some fd) (hdg : decode cc pc = .ok (.getfield index, 3))
    (kk : W p l e R s m args below meth c H locs cells slots Q (F0 m (pc + 3) ls (zfv a0 aT aP σ 0 o j fd :: rest))) : W p l e R s m args below meth c H locs cells slots Q (F0 m pc ls (.ref (a0 o) :: rest)) :=
  z_get hC hZ.1 F o (fs := zfl a0 aT aP σ 0 o fds) ((zw0 ho).trans (by rw [hs]; rfl)) (zfl_get hj) hdg kk
theorem z_put0 (hC : zC p s m args c own cc nL D cy) (hZ : zW D cy sh nf a0 aT aP A H0 σ H locs) {ci index j o : Nat} {fds : List Nat} (F : zFk own index ci j .int false) (ho : o < nf) (hs : sh o = .inl (ci, fds)) (hj : fds[j]? = some 0) {v : Int32} {k : zS → Option α} (hf : zlet (zsI σ 0 o j v) k = some res) (hdg : decode cc pc = .ok (.putfield index, 3))
    (kk : ∀ (τ : zS) (H1 : Heap) (locs1 : List Loc), k τ = some res → zW D cy sh nf a0 aT aP A H0 τ H1 locs1 → W p l e R s m args below meth c H1 locs1 cells slots Q (F0 m (pc + 3) ls rest)) : W p l e R s m args below meth c H locs cells slots Q (F0 m pc ls (.int v :: .ref (a0 o) :: rest)) := by
  have hl : j < (zfl a0 aT aP σ 0 o fds).length := by rw [zfl_len]; exact (List.getElem?_eq_some_iff.mp hj).1
  refine z_put hC hZ.1 hZ.2.1 hZ.2.2 F o (fs := zfl a0 aT aP σ 0 o fds) ((zw0 ho).trans (by rw [hs]; rfl)) rfl rfl hl hdg fun H1 locs1 h1 h2 h3 => ?_
  have e : (zw cy sh nf a0 aT aP σ).set o (a0 o, .inr (ci, (zfl a0 aT aP σ 0 o fds).set j (.int v))) = zw cy sh nf a0 aT aP (zsI σ 0 o j v) := zw_up0 ho rfl (fun q' c' h => zsI_eq q' c' h) (by
    rw [hs]
    simp only [zEk]
    rw [zfl_put (τ := zsI σ 0 o j v) (σ := σ) (v := .int v) hj (by simp [zfv, zsI_at, upd]) (fun i f h => zfv_I h)])
  rw [e] at h1 h2
  exact kk _ H1 locs1 hf ⟨h1, h2, h3⟩
theorem z_put0J (hC : zC p s m args c own cc nL D cy) (hZ : zW D cy sh nf a0 aT aP A H0 σ H locs) {ci index j o : Nat} {fds : List Nat} (F : zFk own index ci j .long false) (ho : o < nf) (hs : sh o = .inl (ci, fds)) (hj : fds[j]? = some 1) {v : Int64} {k : zS → Option α} (hf : zlet (zsJ σ 0 o j v) k = some res) (hdg : decode cc pc = .ok (.putfield index, 3))
    (kk : ∀ (τ : zS) (H1 : Heap) (locs1 : List Loc), k τ = some res → zW D cy sh nf a0 aT aP A H0 τ H1 locs1 → W p l e R s m args below meth c H1 locs1 cells slots Q (F0 m (pc + 3) ls rest)) : W p l e R s m args below meth c H locs cells slots Q (F0 m pc ls (.long v :: .ref (a0 o) :: rest)) := by
  have hl : j < (zfl a0 aT aP σ 0 o fds).length := by rw [zfl_len]; exact (List.getElem?_eq_some_iff.mp hj).1
  refine z_put hC hZ.1 hZ.2.1 hZ.2.2 F o (fs := zfl a0 aT aP σ 0 o fds) ((zw0 ho).trans (by rw [hs]; rfl)) rfl rfl hl hdg fun H1 locs1 h1 h2 h3 => ?_
  have e : (zw cy sh nf a0 aT aP σ).set o (a0 o, .inr (ci, (zfl a0 aT aP σ 0 o fds).set j (.long v))) = zw cy sh nf a0 aT aP (zsJ σ 0 o j v) := zw_up0 ho rfl (fun q' c' h => zsJ_eq q' c' h) (by
    rw [hs]
    simp only [zEk]
    rw [zfl_put (τ := zsJ σ 0 o j v) (σ := σ) (v := .long v) hj (by simp [zfv, zsJ_at, vp_updL]) (fun i f h => zfv_J h)])
  rw [e] at h1 h2
  exact kk _ H1 locs1 hf ⟨h1, h2, h3⟩
-- tellings
theorem z_gT (hC : zC p s m args c own cc nL D cy) (hZ : zW D cy sh nf a0 aT aP A H0 σ H locs) {index j : Nat} {ty : FieldType} {fin : Bool} (F : zFk own index 6 j ty fin) (hj : zFT[j]? = some 0) {x : Option Nat} {k : Int32 → Option α} (hf : zgT σ x j k = some res) (hdg : decode cc pc = .ok (.getfield index, 3))
    (kk : ∀ v : Int32, k v = some res → W p l e R s m args below meth c H locs cells slots Q (F0 m (pc + 3) ls (.int v :: rest))) : W p l e R s m args below meth c H locs cells slots Q (F0 m pc ls (va_rf (x.map aT) :: rest)) := by
  cases x with
  | none => cases hf
  | some t =>
    simp only [zgT] at hf
    by_cases ht : t < σ.2.2.2.1
    · rw [if_pos ht] at hf
      exact z_get hC hZ.1 F (nf + t) (zw1 ht) (zfl_get hj) hdg (kk _ hf)
    · rw [if_neg ht] at hf; cases hf
theorem z_gTR (hC : zC p s m args c own cc nL D cy) (hZ : zW D cy sh nf a0 aT aP A H0 σ H locs) {index j : Nat} {ty : FieldType} {fin : Bool} (F : zFk own index 6 j ty fin) (hj : zFT[j]? = some 2) {x : Option Nat} {k : Option Nat → Option α} (hf : zgTR σ x j k = some res) (hdg : decode cc pc = .ok (.getfield index, 3))
    (kk : ∀ v : Option Nat, k v = some res → W p l e R s m args below meth c H locs cells slots Q (F0 m (pc + 3) ls (va_rf (v.map aT) :: rest))) : W p l e R s m args below meth c H locs cells slots Q (F0 m pc ls (va_rf (x.map aT) :: rest)) := by
  cases x with
  | none => cases hf
  | some t =>
    simp only [zgTR] at hf
    by_cases ht : t < σ.2.2.2.1
    · rw [if_pos ht] at hf
      exact z_get hC hZ.1 F (nf + t) (zw1 ht) (zfl_get hj) hdg (kk _ hf)
    · rw [if_neg ht] at hf; cases hf
theorem z_gP (hC : zC p s m args c own cc nL D cy) (hZ : zW D cy sh nf a0 aT aP A H0 σ H locs) {index j : Nat} {ty : FieldType} {fin : Bool} (F : zFk own index 5 j ty fin) (hj : zFP[j]? = some 0) {x : Option Nat} {k : Int32 → Option α} (hf : zgP σ x j k = some res) (hdg : decode cc pc = .ok (.getfield index, 3))
    (kk : ∀ v : Int32, k v = some res → W p l e R s m args below meth c H locs cells slots Q (F0 m (pc + 3) ls (.int v :: rest))) : W p l e R s m args below meth c H locs cells slots Q (F0 m pc ls (va_rf (x.map aP) :: rest)) := by
  cases x with
  | none => cases hf
  | some t =>
    simp only [zgP] at hf
    by_cases ht : t < σ.2.2.2.2
    · rw [if_pos ht] at hf
      exact z_get hC hZ.1 F (nf + σ.2.2.2.1 + t) (zw2 ht) (zfl_get hj) hdg (kk _ hf)
    · rw [if_neg ht] at hf; cases hf
theorem z_gPR (hC : zC p s m args c own cc nL D cy) (hZ : zW D cy sh nf a0 aT aP A H0 σ H locs) {index j : Nat} {ty : FieldType} {fin : Bool} (F : zFk own index 5 j ty fin) (hj : zFP[j]? = some 2) {x : Option Nat} {k : Option Nat → Option α} (hf : zgPR σ x j k = some res) (hdg : decode cc pc = .ok (.getfield index, 3))
    (kk : ∀ v : Option Nat, k v = some res → W p l e R s m args below meth c H locs cells slots Q (F0 m (pc + 3) ls (va_rf (v.map aT) :: rest))) : W p l e R s m args below meth c H locs cells slots Q (F0 m pc ls (va_rf (x.map aP) :: rest)) := by
  cases x with
  | none => cases hf
  | some t =>
    simp only [zgPR] at hf
    by_cases ht : t < σ.2.2.2.2
    · rw [if_pos ht] at hf
      exact z_get hC hZ.1 F (nf + σ.2.2.2.1 + t) (zw2 ht) (zfl_get hj) hdg (kk _ hf)
    · rw [if_neg ht] at hf; cases hf
theorem z_put1 (hC : zC p s m args c own cc nL D cy) (hZ : zW D cy sh nf a0 aT aP A H0 σ H locs) {index j t : Nat} {ty : FieldType} (F : zFk own index 6 j ty false) (ht : t < σ.2.2.2.1) {v : Value} {τ : zS} (hn : narrow ty v = v) (hfit : fits ty v = true) (hj : j < 10) (h1 : τ.2.2.2 = σ.2.2.2) (h2 : ∀ q' c', ¬ (q' = 1 ∧ c' = t) → zeq τ σ q' c') (h3 : zfl a0 aT aP τ 1 t zFT = (zfl a0 aT aP σ 1 t zFT).set j v) (hdg : decode cc pc = .ok (.putfield index, 3))
    (kk : ∀ (H1 : Heap) (locs1 : List Loc), zW D cy sh nf a0 aT aP A H0 τ H1 locs1 → W p l e R s m args below meth c H1 locs1 cells slots Q (F0 m (pc + 3) ls rest)) : W p l e R s m args below meth c H locs cells slots Q (F0 m pc ls (v :: .ref (aT t) :: rest)) := by
  refine z_put hC hZ.1 hZ.2.1 hZ.2.2 F (nf + t) (fs := zfl a0 aT aP σ 1 t zFT) (zw1 ht) hn hfit (by rw [zfl_len]; exact hj) hdg fun H1 locs1 g1 g2 g3 => ?_
  rw [zw_up1 ht h1 h2 h3] at g1 g2
  exact kk H1 locs1 ⟨g1, g2, g3⟩
theorem z_put2 (hC : zC p s m args c own cc nL D cy) (hZ : zW D cy sh nf a0 aT aP A H0 σ H locs) {index j t : Nat} {ty : FieldType} (F : zFk own index 5 j ty false) (ht : t < σ.2.2.2.2) {v : Value} {τ : zS} (hn : narrow ty v = v) (hfit : fits ty v = true) (hj : j < 4) (h1 : τ.2.2.2 = σ.2.2.2) (h2 : ∀ q' c', ¬ (q' = 2 ∧ c' = t) → zeq τ σ q' c') (h3 : zfl a0 aT aP τ 2 t zFP = (zfl a0 aT aP σ 2 t zFP).set j v) (hdg : decode cc pc = .ok (.putfield index, 3))
    (kk : ∀ (H1 : Heap) (locs1 : List Loc), zW D cy sh nf a0 aT aP A H0 τ H1 locs1 → W p l e R s m args below meth c H1 locs1 cells slots Q (F0 m (pc + 3) ls rest)) : W p l e R s m args below meth c H locs cells slots Q (F0 m pc ls (v :: .ref (aP t) :: rest)) := by
  refine z_put hC hZ.1 hZ.2.1 hZ.2.2 F (nf + σ.2.2.2.1 + t) (fs := zfl a0 aT aP σ 2 t zFP) (zw2 ht) hn hfit (by rw [zfl_len]; exact hj) hdg fun H1 locs1 g1 g2 g3 => ?_
  rw [zw_up2 ht h1 h2 h3] at g1 g2
  exact kk H1 locs1 ⟨g1, g2, g3⟩
theorem z_pT (hC : zC p s m args c own cc nL D cy) (hZ : zW D cy sh nf a0 aT aP A H0 σ H locs) {index j : Nat} (F : zFk own index 6 j .int false) (hj : zFT[j]? = some 0) {x : Option Nat} {v : Int32} {k : zS → Option α} (hf : zpT σ x j v k = some res) (hdg : decode cc pc = .ok (.putfield index, 3))
    (kk : ∀ (τ : zS) (H1 : Heap) (locs1 : List Loc), k τ = some res → zW D cy sh nf a0 aT aP A H0 τ H1 locs1 → W p l e R s m args below meth c H1 locs1 cells slots Q (F0 m (pc + 3) ls rest)) : W p l e R s m args below meth c H locs cells slots Q (F0 m pc ls (.int v :: va_rf (x.map aT) :: rest)) := by
  cases x with
  | none => cases hf
  | some t =>
    simp only [zpT] at hf
    by_cases ht : t < σ.2.2.2.1
    · rw [if_pos ht] at hf
      exact z_put1 (τ := zsI σ 1 t j v) hC hZ F ht rfl rfl (List.getElem?_eq_some_iff.mp hj).1 rfl (fun q' c' h => zsI_eq q' c' h) (zfl_put hj (by simp [zfv, zsI_at, upd]) (fun i f h => zfv_I h)) hdg (fun H1 locs1 h => kk _ H1 locs1 hf h)
    · rw [if_neg ht] at hf; cases hf
theorem z_pTR (hC : zC p s m args c own cc nL D cy) (hZ : zW D cy sh nf a0 aT aP A H0 σ H locs) {index j : Nat} {C : String} (F : zFk own index 6 j (.object C) false) (hj : zFT[j]? = some 2) {x v : Option Nat} {k : zS → Option α} (hf : zpTR σ x j v k = some res) (hdg : decode cc pc = .ok (.putfield index, 3))
    (kk : ∀ (τ : zS) (H1 : Heap) (locs1 : List Loc), k τ = some res → zW D cy sh nf a0 aT aP A H0 τ H1 locs1 → W p l e R s m args below meth c H1 locs1 cells slots Q (F0 m (pc + 3) ls rest)) : W p l e R s m args below meth c H locs cells slots Q (F0 m pc ls (va_rf (v.map aT) :: va_rf (x.map aT) :: rest)) := by
  cases x with
  | none => cases hf
  | some t =>
    simp only [zpTR] at hf
    by_cases ht : t < σ.2.2.2.1
    · rw [if_pos ht] at hf
      exact z_put1 (τ := zsR σ 1 t j v) hC hZ F ht (by cases v <;> rfl) (by cases v <;> rfl) (List.getElem?_eq_some_iff.mp hj).1 rfl (fun q' c' h => zsR_eq q' c' h) (zfl_put hj (by simp [zfv, zsR_at, va_up]) (fun i f h => zfv_R h)) hdg (fun H1 locs1 h => kk _ H1 locs1 hf h)
    · rw [if_neg ht] at hf; cases hf
theorem z_pP (hC : zC p s m args c own cc nL D cy) (hZ : zW D cy sh nf a0 aT aP A H0 σ H locs) {index j : Nat} (F : zFk own index 5 j .int false) (hj : zFP[j]? = some 0) {x : Option Nat} {v : Int32} {k : zS → Option α} (hf : zpP σ x j v k = some res) (hdg : decode cc pc = .ok (.putfield index, 3))
    (kk : ∀ (τ : zS) (H1 : Heap) (locs1 : List Loc), k τ = some res → zW D cy sh nf a0 aT aP A H0 τ H1 locs1 → W p l e R s m args below meth c H1 locs1 cells slots Q (F0 m (pc + 3) ls rest)) : W p l e R s m args below meth c H locs cells slots Q (F0 m pc ls (.int v :: va_rf (x.map aP) :: rest)) := by
  cases x with
  | none => cases hf
  | some t =>
    simp only [zpP] at hf
    by_cases ht : t < σ.2.2.2.2
    · rw [if_pos ht] at hf
      exact z_put2 (τ := zsI σ 2 t j v) hC hZ F ht rfl rfl (List.getElem?_eq_some_iff.mp hj).1 rfl (fun q' c' h => zsI_eq q' c' h) (zfl_put hj (by simp [zfv, zsI_at, upd]) (fun i f h => zfv_I h)) hdg (fun H1 locs1 h => kk _ H1 locs1 hf h)
    · rw [if_neg ht] at hf; cases hf
theorem z_pPZ (hC : zC p s m args c own cc nL D cy) (hZ : zW D cy sh nf a0 aT aP A H0 σ H locs) {index j : Nat} (F : zFk own index 5 j .boolean false) (hj : zFP[j]? = some 0) {x : Option Nat} {v : Int32} {k : zS → Option α} (hf : zpPZ σ x j v k = some res) (hdg : decode cc pc = .ok (.putfield index, 3))
    (kk : ∀ (τ : zS) (H1 : Heap) (locs1 : List Loc), k τ = some res → zW D cy sh nf a0 aT aP A H0 τ H1 locs1 → W p l e R s m args below meth c H1 locs1 cells slots Q (F0 m (pc + 3) ls rest)) : W p l e R s m args below meth c H locs cells slots Q (F0 m pc ls (.int v :: va_rf (x.map aP) :: rest)) := by
  cases x with
  | none => cases hf
  | some t =>
    simp only [zpPZ] at hf
    by_cases ht : t < σ.2.2.2.2
    · rw [if_pos ht] at hf
      by_cases hv : v = 0 ∨ v = 1
      · rw [if_pos hv] at hf
        exact z_put2 (τ := zsI σ 2 t j v) hC hZ F ht (znarrow_b hv).1 (znarrow_b hv).2.1 (List.getElem?_eq_some_iff.mp hj).1 rfl (fun q' c' h => zsI_eq q' c' h) (zfl_put hj (by simp [zfv, zsI_at, upd]) (fun i f h => zfv_I h)) hdg (fun H1 locs1 h => kk _ H1 locs1 hf h)
      · rw [if_neg hv] at hf; cases hf
    · rw [if_neg ht] at hf; cases hf
end ZR
