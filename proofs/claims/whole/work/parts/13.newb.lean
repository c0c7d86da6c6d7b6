section ZNP
variable {p : Program} {l : Launch} {e : Env} {R : Room} {s : State} {m : MethodId} {args : Array Value} {below : List Frame} {meth : Method} {c : Code} {H : Heap} {locs : List Loc} {cells slots : Nat} {Q : State → Prop}
variable {pc : Nat} {ls : Array Slot} {rest : List Value} {A : Nat → Prop} {H0 : Heap} {D : va_G} {cy : Nat → ClassId} {sh : Nat → zK} {nf : Nat} {a0 aT aP : Nat → Nat} {σ τ : zS} {own : String} {cc : ByteArray} {nL : Nat} {α : Type} {res : α} {index : Nat}
theorem z_newP (hC : zC p s m args c own cc nL D cy) (hA : ∀ q, H0.size ≤ q → A q) (hZ : zW D cy shX 38 a0 aT aP A H0 σ H locs) (K : Cond.classLink own index RX5 ∈ zT) (K2 : Cond.instantiable RX5 4 ∈ zT) (K3 : Cond.initialized RX5 ∈ zT) {k : Nat → zS → Option α} (hf : znP σ k = some res) (hcells : cells + 1 ≤ R.cells) (hslots : slots + 4 ≤ R.slots) (hdg : decode cc pc = .ok (.new index, 3))
    (kk : ∀ (t : Nat) (τ : zS) (aP' : Nat → Nat) (H1 : Heap), k t τ = some res → τ = zaddP σ → t = σ.2.2.2.2 → zW D cy shX 38 a0 aT aP' A H0 τ H1 locs → W p l e R s m args below meth c H1 locs (cells + 1) (slots + 4) Q (F0 m (pc + 3) ls (va_rf ((some t).map aP') :: rest))) : W p l e R s m args below meth c H locs cells slots Q (F0 m pc ls rest) := by
  obtain ⟨hv, hf⟩ := znP_some hf
  have hts := hC.1.2.2.2.2
  refine va_new (ci := 5) (fs := [.null, .null, .int 0, .int 0]) (C := RX5) (T := TX5) (N := 4) hC.1.1 hC.1.2.1 hts izX5 tyX5 tyX5_ok hC.1.2.2.2.1 (hts _ K) (hts _ K2) (hts _ K3) hC.2 hZ.1 hZ.2.1 hZ.2.2 hA rfl (fun j hj => by rcases (show j = 0 ∨ j = 1 ∨ j = 2 ∨ j = 3 by omega) with rfl | rfl | rfl | rfl <;> rfl) hcells hslots hdg (fun q H1 hP hD hS => ?_)
  have ha : ∀ t, t < σ.2.2.2.2 → va_up aP σ.2.2.2.2 q t = aP t := fun t h => by simp [va_up, Nat.ne_of_lt h]
  have hnew : va_up aP σ.2.2.2.2 q σ.2.2.2.2 = q := by simp [va_up]
  have zeq0 : ∀ q' c', ¬ (q' = 2 ∧ c' = σ.2.2.2.2) → zeq (zaddP σ) σ q' c' := fun q' c' h => ⟨by simp [zaddP, h], rfl, by simp [zaddP, h]⟩
  have hlen : (zw cy shX 38 a0 aT aP σ).length = 38 + (σ.2.2.2.1 + σ.2.2.2.2) := zw_len
  have hlen2 : (zw cy shX 38 a0 aT (va_up aP σ.2.2.2.2 q) (zaddP σ)).length = 38 + (σ.2.2.2.1 + (σ.2.2.2.2 + 1)) := zw_len
  have key : ∀ (k : Nat) (x : Nat × va_E), (zw cy shX 38 a0 aT (va_up aP σ.2.2.2.2 q) (zaddP σ))[k]? = some x → ((zw cy shX 38 a0 aT aP σ) ++ [(q, (Sum.inr (5, [.null, .null, .int 0, .int 0]) : va_E))])[k]? = some x := by
    intro k x hk
    have hkl : k < 38 + (σ.2.2.2.1 + (σ.2.2.2.2 + 1)) := by rw [← hlen2]; exact (List.getElem?_eq_some_iff.mp hk).1
    rcases Nat.lt_or_ge k 38 with h1 | h1
    · obtain ⟨g1, g2, g3⟩ := zshX4 k h1
      rw [List.getElem?_append_left (by rw [hlen]; omega), zw0 h1, ← hk, zw0 h1, zEk_congr (zeq0 0 k (by omega)), zEk_aP hv ha _ g1 g2 g3]
    · rcases Nat.lt_or_ge k (38 + σ.2.2.2.1) with h2 | h2
      · obtain ⟨t, rfl⟩ : ∃ t, k = 38 + t := ⟨k - 38, by omega⟩
        have ht : t < σ.2.2.2.1 := by omega
        rw [List.getElem?_append_left (by rw [hlen]; omega), zw1 ht, ← hk, zw1 (show t < (zaddP σ).2.2.2.1 from ht), zfl_congr (zeq0 1 t (by omega)), zfl_aP (by decide)]
      · obtain ⟨t, rfl⟩ : ∃ t, k = 38 + σ.2.2.2.1 + t := ⟨k - (38 + σ.2.2.2.1), by omega⟩
        have e2 := zw2 (cy := cy) (sh := shX) (nf := 38) (a0 := a0) (aT := aT) (aP := va_up aP σ.2.2.2.2 q) (σ := zaddP σ) (t := t) (show t < σ.2.2.2.2 + 1 by omega)
        rcases Nat.lt_or_ge t σ.2.2.2.2 with ht | ht
        · rw [List.getElem?_append_left (by rw [hlen]; omega), zw2 ht, ← hk, show (zw cy shX 38 a0 aT (va_up aP σ.2.2.2.2 q) (zaddP σ))[38 + σ.2.2.2.1 + t]? = _ from e2, ha t ht, zfl_congr (zeq0 2 t (by omega)), zfl_aP (by decide)]
        · have ht2 : t = σ.2.2.2.2 := by omega
          subst ht2
          rw [show 38 + σ.2.2.2.1 + σ.2.2.2.2 = (zw cy shX 38 a0 aT aP σ).length by rw [hlen]; omega, List.getElem?_append_right (Nat.le_refl _), Nat.sub_self, ← hk, show 38 + σ.2.2.2.1 + σ.2.2.2.2 = 38 + (zaddP σ).2.2.2.1 + σ.2.2.2.2 from rfl, e2, hnew]
          have e1 : (zaddP σ).1 2 σ.2.2.2.2 = fun _ => 0 := by simp [zaddP]
          have e3 : (zaddP σ).2.2.1 2 σ.2.2.2.2 = fun _ => none := by simp [zaddP]
          simp [zfl, zfv, e1, e3, va_rf, List.mapIdx_cons]
  refine W.eq ?_ (kk σ.2.2.2.2 (zaddP σ) (va_up aP σ.2.2.2.2 q) H1 hf rfl rfl ⟨zpermP (fun k => k) key hP, zpermD (fun k => k) key (fun i j _ _ h => h) hD, hS⟩)
  simp [va_rf, hnew]
/-- a final field of a class, in its constructor -/
def zFq (own : String) (index ci j : Nat) (ty : FieldType) : Prop := ∃ (T : u_T) (N : Nat) (ty0 : Nat → FieldType), vwCl[ci]? = some (own, T, N) ∧ (∀ w ∈ u_ws own T N, w ∈ zT) ∧ j < N ∧ Cond.fieldLink own index own (T j).2.1 (T j).2.2.1 ∈ zT ∧ (T j).1 = own ∧ (∀ k, k < N → parseFieldDescriptor (T k).2.2.1 = some (ty0 k)) ∧ (∀ a, a < N → ∀ b, b < N → a ≠ b → (T a).2.1 ≠ (T b).2.1) ∧ parseFieldDescriptor (T j).2.2.1 = some ty ∧ (T j).2.2.2 = true
theorem z_pTF (hC : zC p s m args c own cc nL D cy) (hin : meth.name = "<init>") (hZ : zW D cy sh nf a0 aT aP A H0 σ H locs) {j : Nat} (F : zFq own index 6 j .int) (hj : zFT[j]? = some 0) {x : Option Nat} {v : Int32} {k : zS → Option α} (hf : zpT σ x j v k = some res) (hdg : decode cc pc = .ok (.putfield index, 3))
    (kk : ∀ (τ : zS) (H1 : Heap) (locs1 : List Loc), k τ = some res → zW D cy sh nf a0 aT aP A H0 τ H1 locs1 → W p l e R s m args below meth c H1 locs1 cells slots Q (F0 m (pc + 3) ls rest)) : W p l e R s m args below meth c H locs cells slots Q (F0 m pc ls (.int v :: va_rf (x.map aT) :: rest)) := by
  obtain ⟨T, N, ty0, hF⟩ := F
  cases x with
  | none => cases hf
  | some t =>
    simp only [zpT] at hf
    by_cases ht : t < σ.2.2.2.1
    · rw [if_pos ht] at hf
      have hl : j < (zfl a0 aT aP σ 1 t zFT).length := by rw [zfl_len]; exact (List.getElem?_eq_some_iff.mp hj).1
      refine z_putF hC hZ.1 hZ.2.1 hZ.2.2 hF hin rfl (nf + t) (fs := zfl a0 aT aP σ 1 t zFT) (zw1 ht) rfl rfl hl hdg fun H1 locs1 g1 g2 g3 => ?_
      rw [zw_up1 (τ := zsI σ 1 t j v) ht rfl (fun q' c' h => zsI_eq q' c' h) (zfl_put hj (by simp [zfv, zsI_at, upd]) (fun i f h => zfv_I h))] at g1 g2
      exact kk _ H1 locs1 hf ⟨g1, g2, g3⟩
    · rw [if_neg ht] at hf; cases hf
theorem z_pTZF (hC : zC p s m args c own cc nL D cy) (hin : meth.name = "<init>") (hZ : zW D cy sh nf a0 aT aP A H0 σ H locs) {j : Nat} (F : zFq own index 6 j .boolean) (hj : zFT[j]? = some 0) {x : Option Nat} {v : Int32} {k : zS → Option α} (hf : zpTZ σ x j v k = some res) (hdg : decode cc pc = .ok (.putfield index, 3))
    (kk : ∀ (τ : zS) (H1 : Heap) (locs1 : List Loc), k τ = some res → zW D cy sh nf a0 aT aP A H0 τ H1 locs1 → W p l e R s m args below meth c H1 locs1 cells slots Q (F0 m (pc + 3) ls rest)) : W p l e R s m args below meth c H locs cells slots Q (F0 m pc ls (.int v :: va_rf (x.map aT) :: rest)) := by
  obtain ⟨T, N, ty0, hF⟩ := F
  cases x with
  | none => cases hf
  | some t =>
    simp only [zpTZ] at hf
    by_cases ht : t < σ.2.2.2.1
    · rw [if_pos ht] at hf
      by_cases hv : v = 0 ∨ v = 1
      · rw [if_pos hv] at hf
        have hl : j < (zfl a0 aT aP σ 1 t zFT).length := by rw [zfl_len]; exact (List.getElem?_eq_some_iff.mp hj).1
        refine z_putF hC hZ.1 hZ.2.1 hZ.2.2 hF hin rfl (nf + t) (fs := zfl a0 aT aP σ 1 t zFT) (zw1 ht) (znarrow_b hv).1 (znarrow_b hv).2.1 hl hdg fun H1 locs1 g1 g2 g3 => ?_
        rw [zw_up1 (τ := zsI σ 1 t j v) ht rfl (fun q' c' h => zsI_eq q' c' h) (zfl_put hj (by simp [zfv, zsI_at, upd]) (fun i f h => zfv_I h))] at g1 g2
        exact kk _ H1 locs1 hf ⟨g1, g2, g3⟩
      · rw [if_neg hv] at hf; cases hf
    · rw [if_neg ht] at hf; cases hf
theorem z_pPRF (hC : zC p s m args c own cc nL D cy) (hin : meth.name = "<init>") (hZ : zW D cy sh nf a0 aT aP A H0 σ H locs) {j : Nat} {C : String} (F : zFq own index 5 j (.object C)) (hj : zFP[j]? = some 2) {x v : Option Nat} {k : zS → Option α} (hf : zpPR σ x j v k = some res) (hdg : decode cc pc = .ok (.putfield index, 3))
    (kk : ∀ (τ : zS) (H1 : Heap) (locs1 : List Loc), k τ = some res → zW D cy sh nf a0 aT aP A H0 τ H1 locs1 → W p l e R s m args below meth c H1 locs1 cells slots Q (F0 m (pc + 3) ls rest)) : W p l e R s m args below meth c H locs cells slots Q (F0 m pc ls (va_rf (v.map aT) :: va_rf (x.map aP) :: rest)) := by
  obtain ⟨T, N, ty0, hF⟩ := F
  cases x with
  | none => cases hf
  | some t =>
    simp only [zpPR] at hf
    by_cases ht : t < σ.2.2.2.2
    · rw [if_pos ht] at hf
      have hl : j < (zfl a0 aT aP σ 2 t zFP).length := by rw [zfl_len]; exact (List.getElem?_eq_some_iff.mp hj).1
      refine z_putF hC hZ.1 hZ.2.1 hZ.2.2 hF hin rfl (nf + σ.2.2.2.1 + t) (fs := zfl a0 aT aP σ 2 t zFP) (zw2 ht) (by cases v <;> rfl) (by cases v <;> rfl) hl hdg fun H1 locs1 g1 g2 g3 => ?_
      rw [zw_up2 (τ := zsR σ 2 t j v) ht rfl (fun q' c' h => zsR_eq q' c' h) (zfl_put hj (by simp [zfv, zsR_at, va_up]) (fun i f h => zfv_R h))] at g1 g2
      exact kk _ H1 locs1 hf ⟨g1, g2, g3⟩
    · rw [if_neg ht] at hf; cases hf
theorem z_objT (hC : zC p s m args c own cc nL D cy) (hZ : zW D cy sh nf a0 aT aP A H0 σ H locs) (K : Cond.methodLink own index objectInit ∈ zT ∧ Cond.instanceMethod objectInit ∈ zT ∧ Cond.code objectInit ⟨#[0xb1]⟩ 1 none ∈ zT) {x : Option Nat} {k : Option α} (hf : zrT σ x k = some res) (hsz : ls.size = nL) (hfr : 1 ≤ R.frames) (hlo : (rest.map fun v => v.category).sum + 12 ≤ R.locals) (hdg : decode cc pc = .ok (.invokespecial index, 3)) (kk : k = some res → W p l e R s m args below meth c H locs cells slots Q (F0 m (pc + 3) ls rest)) : W p l e R s m args below meth c H locs cells slots Q (F0 m pc ls (va_rf (x.map aT) :: rest)) := by
  cases x with
  | none => cases hf
  | some t =>
    simp only [zrT] at hf
    by_cases ht : t < σ.2.2.2.1
    · rw [if_pos ht] at hf
      exact W.objInit hC.1.1 hC.1.2.1 hC.1.2.2.2.1 (hC.1.2.2.2.2 _ K.1) (hC.1.2.2.2.2 _ K.2.1) (hC.1.2.2.2.2 _ K.2.2) rfl (by rw [hC.1.2.2.1]; exact hsz) rfl hdg hfr (by show 2 * 0 + _ + 12 ≤ _; omega) (kk hf)
    · rw [if_neg ht] at hf; cases hf
theorem z_objP (hC : zC p s m args c own cc nL D cy) (hZ : zW D cy sh nf a0 aT aP A H0 σ H locs) (K : Cond.methodLink own index objectInit ∈ zT ∧ Cond.instanceMethod objectInit ∈ zT ∧ Cond.code objectInit ⟨#[0xb1]⟩ 1 none ∈ zT) {x : Option Nat} {k : Option α} (hf : zrP σ x k = some res) (hsz : ls.size = nL) (hfr : 1 ≤ R.frames) (hlo : (rest.map fun v => v.category).sum + 12 ≤ R.locals) (hdg : decode cc pc = .ok (.invokespecial index, 3)) (kk : k = some res → W p l e R s m args below meth c H locs cells slots Q (F0 m (pc + 3) ls rest)) : W p l e R s m args below meth c H locs cells slots Q (F0 m pc ls (va_rf (x.map aP) :: rest)) := by
  cases x with
  | none => cases hf
  | some t =>
    simp only [zrP] at hf
    by_cases ht : t < σ.2.2.2.2
    · rw [if_pos ht] at hf
      exact W.objInit hC.1.1 hC.1.2.1 hC.1.2.2.2.1 (hC.1.2.2.2.2 _ K.1) (hC.1.2.2.2.2 _ K.2.1) (hC.1.2.2.2.2 _ K.2.2) rfl (by rw [hC.1.2.2.1]; exact hsz) rfl hdg hfr (by show 2 * 0 + _ + 12 ≤ _; omega) (kk hf)
    · rw [if_neg ht] at hf; cases hf
variable {y : MethodName} {bytes : ByteArray} {mL : Nat} {ret : Option FieldType} {n : Nat} {rm : Room} {As st0 : List Value} {U : (Nat → Nat) × (Nat → Nat) → Prop} {b : Nat}
/-- a constructor's contract, and its call -/
theorem zmet_c (hy : plainName y.cls = true) (hin : y.name = "<init>") (hr : ret = none) {avs : List Value} (hl : (lg_sl avs).length ≤ mL)
    (body : ∀ (p : Program) (e : Env) (s : State) (m : MethodId) (below : List Frame) (meth : Method) (c : Code) (A : Nat → Prop) (Q : State → Prop) (ls : Array Slot), meth.name = "<init>" → zC p s m avs.toArray c y.cls cc mL D cy → (∀ q, s.heap.size ≤ q → A q) → zW D cy sh nf a0 aT aP A s.heap σ s.heap [] → lv_has ls mL (lv_args 0 avs) → zEnd p l e rm s m avs.toArray below meth c Q D cy sh nf a0 A s.heap τ U cc .return_ [] → W p l e rm s m avs.toArray below meth c s.heap [] 0 0 Q (F0 m 0 ls [])) : zMv l y cc mL ret rm D cy sh nf a0 aT aP σ avs τ U := by
  intro sz
  refine Met.ofW (cc := cc) (maxL := mL) (ret := ret) hy rfl ?_
  intro p e s m args below meth c s₁ B hml hv
  obtain ⟨rfl, hsz, hP, hK, hD0⟩ := hv
  subst hsz
  have hts : ∀ w ∈ zT, w.before avs.toArray s = true := fun w h => atoms_spec (ws := Cond.code y cc mL ret :: zT) B.pre w (List.mem_cons_of_mem _ h)
  have hown : s.vm.findClass y.cls = some m.cls := findClass_of_methodNamed B.named
  have hlocks := B.notSynchronized
  have hl2 := lv_entry avs (n := mL) hl
  rw [lg_entry_eq]
  refine body p e s m below meth c (va_A (zw cy sh nf a0 aT aP σ) s.heap.size) _ _ ((name_of_methodNamed B.named B.method).1.trans hin) ⟨⟨B.exec, B.bytes, hml, hown, hts⟩, hK⟩ (fun q h => Or.inr h) ⟨hP, hD0.self, va_S.rf⟩ hl2 ?_
  intro aT' aP' H locs pc ls hU hZ hd
  exact W.vret B.exec B.bytes (B.returns.trans hr) (fun t ht hW => ⟨⟨(aT', aP'), rfl, hU, by rw [ht]; exact hZ.1, va_K.moved hW.alike hK, hZ.2.1⟩, hZ.2.2.F ht⟩) hZ.2.2.2.2 hd hlocks
theorem zrunI (hC : zC p s m args c own cc nL D cy) (hZ : zW D cy sh nf a0 aT aP A H0 σ H locs) (h1 : Cond.methodLink own index y ∈ zT) (h2 : Cond.initialized y.cls ∈ zT) (h3 : Cond.code y bytes mL none ∈ zT) (h4 : Cond.instanceMethod y ∈ zT) (hin : y.name = "<init>") (hd : y.cls ≠ "java/lang/invoke/MethodHandle" ∧ y.cls ≠ "java/lang/invoke/VarHandle" ∧ (parseMethodDescriptor y.desc).map (fun d => d.parameters.length) = some n) {Qc : Array Value → State → Outcome → State → Prop} {free : Addr → Prop} (hM : Met l y (Cond.code y bytes mL none :: zT) rm (zPc D cy sh nf a0 aT aP σ (.ref b :: As) H.size) Qc rm.cells rm.slots free) (hR : rm.frames + 1 ≤ R.frames ∧ 8 + (mL + 11) + rm.locals ≤ R.locals) (hn : As.length = n) (hsz : ls.size = nL) (hst : st0 = As.reverse ++ .ref b :: rest) (hW : (rest.map fun v => v.category).sum ≤ 8) (hcs : cells + rm.cells ≤ R.cells ∧ slots + rm.slots ≤ R.slots) (hdg : decode cc pc = .ok (.invokespecial index, 3)) :
    va_Run p l e R s m args below meth c H locs cells slots rm.cells rm.slots (F0 m pc ls st0) rest (Qc (Value.ref b :: As).toArray) free :=
  va_runI (As := As) (rest := rest) hC.1 hM (cw := ⟨zcallB hC h1 h2 h3 hd hR, hin, hC.1.2.2.2.2 _ h4⟩) ⟨zblind, fun V hU hW => zpre hC hZ V hU hW⟩ rfl hn hsz hst (lv_room hW) hdg hcs
end ZNP
