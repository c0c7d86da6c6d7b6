theorem zcat (r : Option Nat) : (va_rf r).category = 1 := by cases r <;> rfl
def zadj (lv : List (Nat × Value)) (i : Nat) : Prop := ∀ q ∈ lv, ¬ q.1 + 1 = i ∨ q.2.category = 1
theorem zadj_nil {i : Nat} : zadj [] i := fun _ h => absurd h List.not_mem_nil
theorem zadj_cons {q : Nat × Value} {lv : List (Nat × Value)} {i : Nat} (h : ¬ q.1 + 1 = i ∨ q.2.category = 1) (t : zadj lv i) : zadj (q :: lv) i := fun x hx => by
  rcases List.mem_cons.mp hx with rfl | hx
  · exact h
  · exact t x hx
theorem zfilt {lv : List (Nat × Value)} {i : Nat} (h : zadj lv i) : lv.filter (fun q => !(q.1 == i) && !(q.1 + 1 == i && q.2.category == 2)) = lv.filter (fun q => !(q.1 == i)) := by
  apply List.filter_congr
  intro q hq
  rcases h q hq with h | h
  · simp [h]
  · simp [h]
abbrev zPc (D : va_G) (cy : Nat → ClassId) (sh : Nat → zK) (nf : Nat) (a0 aT aP : Nat → Nat) (σ : zS) (avs : List Value) (sz : Nat) : Array Value → State → Prop := va_Pc avs (fun U => U.heap.size = sz ∧ va_P D vwCl (zw cy sh nf a0 aT aP σ) U.heap ∧ va_K D vwCl (zty cy) U ∧ va_D (fun _ => True) (zw cy sh nf a0 aT aP σ))
abbrev zB (D : va_G) (cy : Nat → ClassId) (sh : Nat → zK) (nf : Nat) (a0 : Nat → Nat) (A : Nat → Prop) (σ : zS) (u : (Nat → Nat) × (Nat → Nat)) (t : State) : Prop := va_P D vwCl (zw cy sh nf a0 u.1 u.2 σ) t.heap ∧ va_K D vwCl (zty cy) t ∧ va_D A (zw cy sh nf a0 u.1 u.2 σ)
/-- the contracts: an int, a long, nothing, a telling or a pair comes back -/
def zMi (l : Launch) (y : MethodName) (cc : ByteArray) (mL : Nat) (ret : Option FieldType) (rm : Room) (D : va_G) (cy : Nat → ClassId) (sh : Nat → zK) (nf : Nat) (a0 aT aP : Nat → Nat) (σ : zS) (avs : List Value) (rv : Int32) (τ : zS) (U : (Nat → Nat) × (Nat → Nat) → Prop) : Prop := ∀ sz : Nat, Met l y (Cond.code y cc mL ret :: zT) rm (zPc D cy sh nf a0 aT aP σ avs sz) (va_Qi (fun r u => r = rv ∧ U u) (zB D cy sh nf a0 (va_A (zw cy sh nf a0 aT aP σ) sz) τ) (va_A (zw cy sh nf a0 aT aP σ) sz)) rm.cells rm.slots (va_A (zw cy sh nf a0 aT aP σ) sz)
def zMl (l : Launch) (y : MethodName) (cc : ByteArray) (mL : Nat) (ret : Option FieldType) (rm : Room) (D : va_G) (cy : Nat → ClassId) (sh : Nat → zK) (nf : Nat) (a0 aT aP : Nat → Nat) (σ : zS) (avs : List Value) (rv : Int64) (τ : zS) (U : (Nat → Nat) × (Nat → Nat) → Prop) : Prop := ∀ sz : Nat, Met l y (Cond.code y cc mL ret :: zT) rm (zPc D cy sh nf a0 aT aP σ avs sz) (va_Ql (fun r u => r = rv ∧ U u) (zB D cy sh nf a0 (va_A (zw cy sh nf a0 aT aP σ) sz) τ) (va_A (zw cy sh nf a0 aT aP σ) sz)) rm.cells rm.slots (va_A (zw cy sh nf a0 aT aP σ) sz)
def zMv (l : Launch) (y : MethodName) (cc : ByteArray) (mL : Nat) (ret : Option FieldType) (rm : Room) (D : va_G) (cy : Nat → ClassId) (sh : Nat → zK) (nf : Nat) (a0 aT aP : Nat → Nat) (σ : zS) (avs : List Value) (τ : zS) (U : (Nat → Nat) × (Nat → Nat) → Prop) : Prop := ∀ sz : Nat, Met l y (Cond.code y cc mL ret :: zT) rm (zPc D cy sh nf a0 aT aP σ avs sz) (va_Qv (fun u => U u) (zB D cy sh nf a0 (va_A (zw cy sh nf a0 aT aP σ) sz) τ) (va_A (zw cy sh nf a0 aT aP σ) sz)) rm.cells rm.slots (va_A (zw cy sh nf a0 aT aP σ) sz)
def zMq (l : Launch) (y : MethodName) (cc : ByteArray) (mL : Nat) (ret : Option FieldType) (rm : Room) (D : va_G) (cy : Nat → ClassId) (sh : Nat → zK) (nf : Nat) (a0 aT aP : Nat → Nat) (σ : zS) (avs : List Value) (rv : Option Nat) (τ : zS) (U : (Nat → Nat) × (Nat → Nat) → Prop) : Prop := ∀ sz : Nat, Met l y (Cond.code y cc mL ret :: zT) rm (zPc D cy sh nf a0 aT aP σ avs sz) (va_Qq (fun r u => r = rv ∧ U u) (zB D cy sh nf a0 (va_A (zw cy sh nf a0 aT aP σ) sz) τ) (va_A (zw cy sh nf a0 aT aP σ) sz)) rm.cells rm.slots (va_A (zw cy sh nf a0 aT aP σ) sz)
/-- a call of an instance method, a static one, as an instruction of a class names it -/
def zVk (own : String) (index : Nat) (y : MethodName) (bytes : ByteArray) (mL : Nat) (ret : Option FieldType) (n : Nat) : Prop := Cond.methodLink own index y ∈ zT ∧ Cond.instanceMethod y ∈ zT ∧ Cond.selects y.cls y y ∈ zT ∧ Cond.initialized y.cls ∈ zT ∧ Cond.code y bytes mL ret ∈ zT ∧ (y.cls ≠ "java/lang/invoke/MethodHandle" ∧ y.cls ≠ "java/lang/invoke/VarHandle" ∧ (parseMethodDescriptor y.desc).map (fun d => d.parameters.length) = some n)
def zSk (own : String) (index : Nat) (y : MethodName) (bytes : ByteArray) (mL : Nat) (ret : Option FieldType) (n : Nat) : Prop := Cond.methodLink own index y ∈ zT ∧ Cond.static y ∈ zT ∧ Cond.initialized y.cls ∈ zT ∧ Cond.code y bytes mL ret ∈ zT ∧ (y.cls ≠ "java/lang/invoke/MethodHandle" ∧ y.cls ≠ "java/lang/invoke/VarHandle" ∧ (parseMethodDescriptor y.desc).map (fun d => d.parameters.length) = some n)
theorem zGood {y : MethodName} {bytes : ByteArray} {mL : Nat} {ret : Option FieldType} (h : Cond.code y bytes mL ret ∈ zT) : GoodIn zT (Cond.code y bytes mL ret :: zT) := fun w hw => by
  have hw : w ∈ zT := by
    rcases List.mem_cons.mp hw with rfl | hw
    · exact h
    · exact hw
  exact ⟨hw, zT_good hw⟩
section ZQ
variable {p : Program} {l : Launch} {e : Env} {R : Room} {s : State} {m : MethodId} {args : Array Value} {below : List Frame} {meth : Method} {c : Code} {H : Heap} {locs : List Loc} {cells slots : Nat} {Q : State → Prop}
variable {pc : Nat} {ls : Array Slot} {rest : List Value} {A : Nat → Prop} {H0 : Heap} {D : va_G} {cy : Nat → ClassId} {sh : Nat → zK} {nf : Nat} {a0 aT aP : Nat → Nat} {σ τ : zS} {own : String} {cc : ByteArray} {nL : Nat} {α : Type} {res : α}
variable {y : MethodName} {bytes : ByteArray} {mL : Nat} {ret : Option FieldType} {n index : Nat} {rm : Room} {As st0 : List Value} {U : (Nat → Nat) × (Nat → Nat) → Prop} {b ci q0 : Nat} {fs : List Value}
theorem zfree (hA : ∀ q, H0.size ≤ q → A q) (hZ : zW D cy sh nf a0 aT aP A H0 σ H locs) : ∀ q, va_A (zw cy sh nf a0 aT aP σ) H.size q → A q := by
  intro q h
  rcases h with ⟨k, e, h⟩ | h
  · exact hZ.2.1.2 k _ h
  · exact hA q (Nat.le_trans hZ.2.2.1 h)
theorem zblind {avs : List Value} {sz : Nat} : FrameBlind (zPc D cy sh nf a0 aT aP σ avs sz) := fun a U g mk q => by
  obtain ⟨q0, q1, qP, qK, qD⟩ := q
  exact ⟨q0, q1, qP, va_K.moved (u := U) (U := U.calling g mk a) (Vm.Alike.refl U.vm) qK, qD⟩
theorem zpre (hC : zC p s m args c own cc nL D cy) (hZ : zW D cy sh nf a0 aT aP A H0 σ H locs) {avs : List Value} (V : State) (hU : V.heap = H) (hW : s.WarmedH V.vm) : zPc D cy sh nf a0 aT aP σ avs H.size avs.toArray V := ⟨rfl, by rw [hU], by rw [hU]; exact hZ.1, va_K.moved hW.alike hC.2, hZ.2.1.weaken (fun _ _ _ _ => trivial)⟩
theorem zcallB (hC : zC p s m args c own cc nL D cy) (h1 : Cond.methodLink own index y ∈ zT) (h2 : Cond.initialized y.cls ∈ zT) (h3 : Cond.code y bytes mL ret ∈ zT) (hd : y.cls ≠ "java/lang/invoke/MethodHandle" ∧ y.cls ≠ "java/lang/invoke/VarHandle" ∧ (parseMethodDescriptor y.desc).map (fun d => d.parameters.length) = some n) (hR : rm.frames + 1 ≤ R.frames ∧ 8 + (mL + 11) + rm.locals ≤ R.locals) : CallB R s args own index y bytes mL ret (Cond.code y bytes mL ret :: zT) rm rm.cells rm.slots n :=
  callB_of n hC.1.2.2.2.2 (zGood h3) rfl rfl rfl (hC.1.2.2.2.2 _ h2) (hC.1.2.2.2.2 _ h1) hd hR
theorem zrun (hC : zC p s m args c own cc nL D cy) (hZ : zW D cy sh nf a0 aT aP A H0 σ H locs) (V : zVk own index y bytes mL ret n) {T : u_T} {N : Nat} (hci : vwCl[ci]? = some (y.cls, T, N)) (he : (zw cy sh nf a0 aT aP σ)[q0]? = some (b, .inr (ci, fs))) {Qc : Array Value → State → Outcome → State → Prop} {free : Addr → Prop} (hM : Met l y (Cond.code y bytes mL ret :: zT) rm (zPc D cy sh nf a0 aT aP σ (.ref b :: As) H.size) Qc rm.cells rm.slots free) (hR : rm.frames + 1 ≤ R.frames ∧ 8 + (mL + 11) + rm.locals ≤ R.locals) (hn : As.length = n) (hsz : ls.size = nL) (hst : st0 = As.reverse ++ .ref b :: rest) (hW : (rest.map fun v => v.category).sum ≤ 8) (hcs : cells + rm.cells ≤ R.cells ∧ slots + rm.slots ≤ R.slots) (hdg : decode cc pc = .ok (.invokevirtual index, 3)) :
    va_Run p l e R s m args below meth c H locs cells slots rm.cells rm.slots (F0 m pc ls st0) rest (Qc (Value.ref b :: As).toArray) free := by
  obtain ⟨v1, v2, v3, v4, v5, v6⟩ := V
  exact va_runV (As := As) (rest := rest) hC.1 hM (cw := ⟨zcallB hC v1 v4 v5 v6 hR, hC.1.2.2.2.2 _ v2, hC.1.2.2.2.2 _ v3⟩) ⟨zblind, va_recv hC.2 hZ.1 hci he, fun V hU hW => zpre hC hZ V hU hW⟩ rfl hn hsz hst (lv_room hW) hdg hcs
theorem zrunS (hC : zC p s m args c own cc nL D cy) (hZ : zW D cy sh nf a0 aT aP A H0 σ H locs) (V : zSk own index y bytes mL ret n) {Qc : Array Value → State → Outcome → State → Prop} {free : Addr → Prop} (hM : Met l y (Cond.code y bytes mL ret :: zT) rm (zPc D cy sh nf a0 aT aP σ As H.size) Qc rm.cells rm.slots free) (hR : rm.frames + 1 ≤ R.frames ∧ 8 + (mL + 11) + rm.locals ≤ R.locals) (hn : As.length = n) (hsz : ls.size = nL) (hst : st0 = As.reverse ++ rest) (hW : (rest.map fun v => v.category).sum ≤ 8) (hcs : cells + rm.cells ≤ R.cells ∧ slots + rm.slots ≤ R.slots) (hdg : decode cc pc = .ok (.invokestatic index, 3)) :
    va_Run p l e R s m args below meth c H locs cells slots rm.cells rm.slots (F0 m pc ls st0) rest (Qc As.toArray) free := by
  obtain ⟨v1, v3, v4, v5, v6⟩ := V
  exact va_runS (As := As) (rest := rest) hC.1 hM (cw := ⟨zcallB hC v1 v4 v5 v6 hR, hC.1.2.2.2.2 _ v3⟩) ⟨zblind, fun V hU hW => zpre hC hZ V hU hW⟩ rfl hn hsz hst (lv_room hW) hdg hcs
theorem zback {A1 : Nat → Prop} {u : (Nat → Nat) × (Nat → Nat)} {t : State} {H1 : Heap} {locs1 : List Loc} (hf : ∀ q, A1 q → A q) (ht : t.heap = H1) (hB : zB D cy sh nf a0 A1 τ u t) (hS : va_S A H0 H1 locs1) : zW D cy sh nf a0 u.1 u.2 A H0 τ H1 locs1 := by
  obtain ⟨b1, b2, b3⟩ := hB
  exact ⟨by rw [← ht]; exact b1, b3.weaken (fun _ q _ h => hf q.1 h), hS⟩
theorem zcalli (hA : ∀ q, H0.size ≤ q → A q) (hZ : zW D cy sh nf a0 aT aP A H0 σ H locs) {rv : Int32} {a : Array Value} (hr : va_Run p l e R s m args below meth c H locs cells slots rm.cells rm.slots (F0 m pc ls st0) rest (va_Qi (fun r u => r = rv ∧ U u) (zB D cy sh nf a0 (va_A (zw cy sh nf a0 aT aP σ) H.size) τ) (va_A (zw cy sh nf a0 aT aP σ) H.size) a) (va_A (zw cy sh nf a0 aT aP σ) H.size))
    (kk : ∀ (u : (Nat → Nat) × (Nat → Nat)) (H1 : Heap) (locs1 : List Loc), U u → zW D cy sh nf a0 u.1 u.2 A H0 τ H1 locs1 → W p l e R s m args below meth c H1 locs1 (cells + rm.cells) (slots + rm.slots) Q (F0 m (pc + 3) ls (.int rv :: rest))) : W p l e R s m args below meth c H locs cells slots Q (F0 m pc ls st0) := by
  refine va_calli hr hZ.2.2 (fun q _ h => zfree hA hZ q h) (zfree hA hZ) (fun r u t H1 locs1 ht _ hp hB _ _ hS => ?_)
  rw [hp.1]
  exact kk u H1 locs1 hp.2 (zback (zfree hA hZ) ht hB hS)
theorem zcalll (hA : ∀ q, H0.size ≤ q → A q) (hZ : zW D cy sh nf a0 aT aP A H0 σ H locs) {rv : Int64} {a : Array Value} (hr : va_Run p l e R s m args below meth c H locs cells slots rm.cells rm.slots (F0 m pc ls st0) rest (va_Ql (fun r u => r = rv ∧ U u) (zB D cy sh nf a0 (va_A (zw cy sh nf a0 aT aP σ) H.size) τ) (va_A (zw cy sh nf a0 aT aP σ) H.size) a) (va_A (zw cy sh nf a0 aT aP σ) H.size))
    (kk : ∀ (u : (Nat → Nat) × (Nat → Nat)) (H1 : Heap) (locs1 : List Loc), U u → zW D cy sh nf a0 u.1 u.2 A H0 τ H1 locs1 → W p l e R s m args below meth c H1 locs1 (cells + rm.cells) (slots + rm.slots) Q (F0 m (pc + 3) ls (.long rv :: rest))) : W p l e R s m args below meth c H locs cells slots Q (F0 m pc ls st0) := by
  refine va_calll hr hZ.2.2 (fun q _ h => zfree hA hZ q h) (zfree hA hZ) (fun r u t H1 locs1 ht _ hp hB _ _ hS => ?_)
  rw [hp.1]
  exact kk u H1 locs1 hp.2 (zback (zfree hA hZ) ht hB hS)
theorem zcallq (hA : ∀ q, H0.size ≤ q → A q) (hZ : zW D cy sh nf a0 aT aP A H0 σ H locs) {rv : Option Nat} {a : Array Value} (hr : va_Run p l e R s m args below meth c H locs cells slots rm.cells rm.slots (F0 m pc ls st0) rest (va_Qq (fun r u => r = rv ∧ U u) (zB D cy sh nf a0 (va_A (zw cy sh nf a0 aT aP σ) H.size) τ) (va_A (zw cy sh nf a0 aT aP σ) H.size) a) (va_A (zw cy sh nf a0 aT aP σ) H.size))
    (kk : ∀ (u : (Nat → Nat) × (Nat → Nat)) (H1 : Heap) (locs1 : List Loc), U u → zW D cy sh nf a0 u.1 u.2 A H0 τ H1 locs1 → W p l e R s m args below meth c H1 locs1 (cells + rm.cells) (slots + rm.slots) Q (F0 m (pc + 3) ls (va_rf rv :: rest))) : W p l e R s m args below meth c H locs cells slots Q (F0 m pc ls st0) := by
  refine va_callq hr hZ.2.2 (fun q _ h => zfree hA hZ q h) (zfree hA hZ) (fun r u t H1 locs1 ht _ hp hB _ _ hS => ?_)
  rw [hp.1]
  exact kk u H1 locs1 hp.2 (zback (zfree hA hZ) ht hB hS)
theorem zcallv (hA : ∀ q, H0.size ≤ q → A q) (hZ : zW D cy sh nf a0 aT aP A H0 σ H locs) {a : Array Value} (hr : va_Run p l e R s m args below meth c H locs cells slots rm.cells rm.slots (F0 m pc ls st0) rest (va_Qv (fun u => U u) (zB D cy sh nf a0 (va_A (zw cy sh nf a0 aT aP σ) H.size) τ) (va_A (zw cy sh nf a0 aT aP σ) H.size) a) (va_A (zw cy sh nf a0 aT aP σ) H.size))
    (kk : ∀ (u : (Nat → Nat) × (Nat → Nat)) (H1 : Heap) (locs1 : List Loc), U u → zW D cy sh nf a0 u.1 u.2 A H0 τ H1 locs1 → W p l e R s m args below meth c H1 locs1 (cells + rm.cells) (slots + rm.slots) Q (F0 m (pc + 3) ls rest)) : W p l e R s m args below meth c H locs cells slots Q (F0 m pc ls st0) := by
  refine va_callv hr hZ.2.2 (fun q _ h => zfree hA hZ q h) (zfree hA hZ) (fun u t H1 locs1 ht _ hp hB _ _ hS => ?_)
  exact kk u H1 locs1 hp (zback (zfree hA hZ) ht hB hS)
/-- what a walk may end with: its answer and its state are those that are due -/
abbrev zEnd (p : Program) (l : Launch) (e : Env) (R : Room) (s : State) (m : MethodId) (args : Array Value) (below : List Frame) (meth : Method) (c : Code) (Q : State → Prop) (D : va_G) (cy : Nat → ClassId) (sh : Nat → zK) (nf : Nat) (a0 : Nat → Nat) (A : Nat → Prop) (H0 : Heap) (τ : zS) (U : (Nat → Nat) × (Nat → Nat) → Prop) (cc : ByteArray) (i : Instr) (vs : List Value) : Prop := ∀ (aT aP : Nat → Nat) (H : Heap) (locs : List Loc) (pc : Nat) (ls : Array Slot), U (aT, aP) → zW D cy sh nf a0 aT aP A H0 τ H locs → decode cc pc = .ok (i, 1) → W p l e R s m args below meth c H locs R.cells R.slots Q (F0 m pc ls vs)
theorem zmet_i {rv : Int32} (hy : plainName y.cls = true) (hr : ret = some .int ∨ (ret = some .boolean ∧ (rv = 0 ∨ rv = 1))) {avs : List Value} (hl : (lg_sl avs).length ≤ mL)
    (body : ∀ (p : Program) (e : Env) (s : State) (m : MethodId) (below : List Frame) (meth : Method) (c : Code) (A : Nat → Prop) (Q : State → Prop) (ls : Array Slot), zC p s m avs.toArray c y.cls cc mL D cy → (∀ q, s.heap.size ≤ q → A q) → zW D cy sh nf a0 aT aP A s.heap σ s.heap [] → lv_has ls mL (lv_args 0 avs) → zEnd p l e rm s m avs.toArray below meth c Q D cy sh nf a0 A s.heap τ U cc .ireturn [.int rv] → W p l e rm s m avs.toArray below meth c s.heap [] 0 0 Q (F0 m 0 ls [])) : zMi l y cc mL ret rm D cy sh nf a0 aT aP σ avs rv τ U := by
  intro sz
  refine Met.ofW (cc := cc) (maxL := mL) (ret := ret) hy rfl ?_
  intro p e s m args below meth c s₁ B hml hv
  obtain ⟨rfl, hsz, hP, hK, hD0⟩ := hv
  subst hsz
  have hts : ∀ w ∈ zT, w.before avs.toArray s = true := fun w h => atoms_spec (ws := Cond.code y cc mL ret :: zT) B.pre w (List.mem_cons_of_mem _ h)
  have hown : s.vm.findClass y.cls = some m.cls := findClass_of_methodNamed B.named
  have hlocks := B.notSynchronized
  have hl2 := lv_entry avs (n := mL) hl
  rw [lg_entry_eq]
  refine body p e s m below meth c (va_A (zw cy sh nf a0 aT aP σ) s.heap.size) _ _ ⟨⟨B.exec, B.bytes, hml, hown, hts⟩, hK⟩ (fun q h => Or.inr h) ⟨hP, hD0.self, va_S.rf⟩ hl2 ?_
  intro aT' aP' H locs pc ls hU hZ hd
  have hq : ∀ t : State, t.heap = H → s.WarmedH t.vm → va_Qi (fun r u => r = rv ∧ U u) (zB D cy sh nf a0 (va_A (zw cy sh nf a0 aT aP σ) s.heap.size) τ) (va_A (zw cy sh nf a0 aT aP σ) s.heap.size) avs.toArray s (.returned (some (.int rv))) t := fun t ht hW => ⟨⟨rv, (aT', aP'), rfl, ⟨rfl, hU⟩, by rw [ht]; exact hZ.1, va_K.moved hW.alike hK, hZ.2.1⟩, hZ.2.2.F ht⟩
  rcases hr with hr | ⟨hr, hb⟩
  · exact W.iret (v := rv) B.exec B.bytes (B.returns.trans hr) hq hZ.2.2.2.2 hd hlocks
  · exact W.zret (v := rv) B.exec B.bytes (B.returns.trans hr) (znarrow_b hb).1 hq hZ.2.2.2.2 hd hlocks
theorem zmet_l (hy : plainName y.cls = true) (hr : ret = some .long) {rv : Int64} {avs : List Value} (hl : (lg_sl avs).length ≤ mL)
    (body : ∀ (p : Program) (e : Env) (s : State) (m : MethodId) (below : List Frame) (meth : Method) (c : Code) (A : Nat → Prop) (Q : State → Prop) (ls : Array Slot), zC p s m avs.toArray c y.cls cc mL D cy → (∀ q, s.heap.size ≤ q → A q) → zW D cy sh nf a0 aT aP A s.heap σ s.heap [] → lv_has ls mL (lv_args 0 avs) → zEnd p l e rm s m avs.toArray below meth c Q D cy sh nf a0 A s.heap τ U cc .lreturn [.long rv] → W p l e rm s m avs.toArray below meth c s.heap [] 0 0 Q (F0 m 0 ls [])) : zMl l y cc mL ret rm D cy sh nf a0 aT aP σ avs rv τ U := by
  intro sz
  refine Met.ofW (cc := cc) (maxL := mL) (ret := ret) hy rfl ?_
  intro p e s m args below meth c s₁ B hml hv
  obtain ⟨rfl, hsz, hP, hK, hD0⟩ := hv
  subst hsz
  have hts : ∀ w ∈ zT, w.before avs.toArray s = true := fun w h => atoms_spec (ws := Cond.code y cc mL ret :: zT) B.pre w (List.mem_cons_of_mem _ h)
  have hown : s.vm.findClass y.cls = some m.cls := findClass_of_methodNamed B.named
  have hlocks := B.notSynchronized
  have hl2 := lv_entry avs (n := mL) hl
  rw [lg_entry_eq]
  refine body p e s m below meth c (va_A (zw cy sh nf a0 aT aP σ) s.heap.size) _ _ ⟨⟨B.exec, B.bytes, hml, hown, hts⟩, hK⟩ (fun q h => Or.inr h) ⟨hP, hD0.self, va_S.rf⟩ hl2 ?_
  intro aT' aP' H locs pc ls hU hZ hd
  exact W.lret (v := rv) B.exec B.bytes (B.returns.trans hr) (fun t ht hW => ⟨⟨rv, (aT', aP'), rfl, ⟨rfl, hU⟩, by rw [ht]; exact hZ.1, va_K.moved hW.alike hK, hZ.2.1⟩, hZ.2.2.F ht⟩) hZ.2.2.2.2 hd hlocks
theorem zmet_v (hy : plainName y.cls = true) (hr : ret = none) {avs : List Value} (hl : (lg_sl avs).length ≤ mL)
    (body : ∀ (p : Program) (e : Env) (s : State) (m : MethodId) (below : List Frame) (meth : Method) (c : Code) (A : Nat → Prop) (Q : State → Prop) (ls : Array Slot), zC p s m avs.toArray c y.cls cc mL D cy → (∀ q, s.heap.size ≤ q → A q) → zW D cy sh nf a0 aT aP A s.heap σ s.heap [] → lv_has ls mL (lv_args 0 avs) → zEnd p l e rm s m avs.toArray below meth c Q D cy sh nf a0 A s.heap τ U cc .return_ [] → W p l e rm s m avs.toArray below meth c s.heap [] 0 0 Q (F0 m 0 ls [])) : zMv l y cc mL ret rm D cy sh nf a0 aT aP σ avs τ U := by
  intro sz
  refine Met.ofW (cc := cc) (maxL := mL) (ret := ret) hy rfl ?_
  intro p e s m args below meth c s₁ B hml hv
  obtain ⟨rfl, hsz, hP, hK, hD0⟩ := hv
  subst hsz
  have hts : ∀ w ∈ zT, w.before avs.toArray s = true := fun w h => atoms_spec (ws := Cond.code y cc mL ret :: zT) B.pre w (List.mem_cons_of_mem _ h)
  have hown : s.vm.findClass y.cls = some m.cls := findClass_of_methodNamed B.named
  have hlocks := B.notSynchronized
  have hl2 := lv_entry avs (n := mL) hl
  rw [lg_entry_eq]
  refine body p e s m below meth c (va_A (zw cy sh nf a0 aT aP σ) s.heap.size) _ _ ⟨⟨B.exec, B.bytes, hml, hown, hts⟩, hK⟩ (fun q h => Or.inr h) ⟨hP, hD0.self, va_S.rf⟩ hl2 ?_
  intro aT' aP' H locs pc ls hU hZ hd
  exact W.vret B.exec B.bytes (B.returns.trans hr) (fun t ht hW => ⟨⟨(aT', aP'), rfl, hU, by rw [ht]; exact hZ.1, va_K.moved hW.alike hK, hZ.2.1⟩, hZ.2.2.F ht⟩) hZ.2.2.2.2 hd hlocks
theorem zmet_q (hy : plainName y.cls = true) {C : String} (hr : ret = some (.object C)) {rv : Option Nat} {avs : List Value} (hl : (lg_sl avs).length ≤ mL)
    (body : ∀ (p : Program) (e : Env) (s : State) (m : MethodId) (below : List Frame) (meth : Method) (c : Code) (A : Nat → Prop) (Q : State → Prop) (ls : Array Slot), zC p s m avs.toArray c y.cls cc mL D cy → (∀ q, s.heap.size ≤ q → A q) → zW D cy sh nf a0 aT aP A s.heap σ s.heap [] → lv_has ls mL (lv_args 0 avs) → zEnd p l e rm s m avs.toArray below meth c Q D cy sh nf a0 A s.heap τ U cc .areturn [va_rf rv] → W p l e rm s m avs.toArray below meth c s.heap [] 0 0 Q (F0 m 0 ls [])) : zMq l y cc mL ret rm D cy sh nf a0 aT aP σ avs rv τ U := by
  intro sz
  refine Met.ofW (cc := cc) (maxL := mL) (ret := ret) hy rfl ?_
  intro p e s m args below meth c s₁ B hml hv
  obtain ⟨rfl, hsz, hP, hK, hD0⟩ := hv
  subst hsz
  have hts : ∀ w ∈ zT, w.before avs.toArray s = true := fun w h => atoms_spec (ws := Cond.code y cc mL ret :: zT) B.pre w (List.mem_cons_of_mem _ h)
  have hown : s.vm.findClass y.cls = some m.cls := findClass_of_methodNamed B.named
  have hlocks := B.notSynchronized
  have hl2 := lv_entry avs (n := mL) hl
  rw [lg_entry_eq]
  refine body p e s m below meth c (va_A (zw cy sh nf a0 aT aP σ) s.heap.size) _ _ ⟨⟨B.exec, B.bytes, hml, hown, hts⟩, hK⟩ (fun q h => Or.inr h) ⟨hP, hD0.self, va_S.rf⟩ hl2 ?_
  intro aT' aP' H locs pc ls hU hZ hd
  exact W.aret (v := va_rf rv) B.exec B.bytes (B.returns.trans hr) (Or.inl ⟨C, rfl⟩) (va_rf_or rv) (fun t ht hW => ⟨⟨rv, (aT', aP'), rfl, ⟨rfl, hU⟩, by rw [ht]; exact hZ.1, va_K.moved hW.alike hK, hZ.2.1⟩, hZ.2.2.F ht⟩) hZ.2.2.2.2 hd hlocks
-- references in locals
theorem z_aload_n (hC : zC p s m args c own cc nL D cy) {k : Fin 4} {i : Nat} {x : Option Nat} {g : Nat → Nat} (hdg : decode cc pc = .ok (.aload_n k, 1)) (hi : (k : Nat) = i) (hl : ls[i]? = some (.val (va_rf (x.map g)))) (kk : W p l e R s m args below meth c H locs cells slots Q (F0 m (pc + 1) ls (va_rf (x.map g) :: rest))) : W p l e R s m args below meth c H locs cells slots Q (F0 m pc ls rest) := by
  cases x with
  | none => exact lv_aload_nN hC.1.1 hC.1.2.1 hdg hi hl kk
  | some t => exact lv_aload_n hC.1.1 hC.1.2.1 hdg hi hl kk
theorem z_aload (hC : zC p s m args c own cc nL D cy) {i : Nat} {x : Option Nat} {g : Nat → Nat} (hdg : decode cc pc = .ok (.aload i, 2)) (hl : ls[i]? = some (.val (va_rf (x.map g)))) (kk : W p l e R s m args below meth c H locs cells slots Q (F0 m (pc + 2) ls (va_rf (x.map g) :: rest))) : W p l e R s m args below meth c H locs cells slots Q (F0 m pc ls rest) := by
  cases x with
  | none => exact lv_aloadN hC.1.1 hC.1.2.1 hdg hl kk
  | some t => exact lv_aload hC.1.1 hC.1.2.1 hdg hl kk
theorem z_astore_n (hC : zC p s m args c own cc nL D cy) {k : Fin 4} {i : Nat} {x : Option Nat} {g : Nat → Nat} {lv lv' : List (Nat × Value)} (hdg : decode cc pc = .ok (.astore_n k, 1)) (hi : (k : Nat) = i) (h : lv_has ls nL lv) (hn : i < nL) (ha : zadj lv i) (hl : (i, va_rf (x.map g)) :: lv.filter (fun q => !(q.1 == i)) = lv')
    (kk : ∀ ls' : Array Slot, lv_has ls' nL lv' → W p l e R s m args below meth c H locs cells slots Q (F0 m (pc + 1) ls' rest)) : W p l e R s m args below meth c H locs cells slots Q (F0 m pc ls (va_rf (x.map g) :: rest)) := by
  rw [← zfilt ha] at hl
  cases x with
  | none => exact lv_astore_nN hC.1.1 hC.1.2.1 hdg hi h hn hl kk
  | some t => exact lv_astore_n hC.1.1 hC.1.2.1 hdg hi h hn hl kk
theorem z_astore (hC : zC p s m args c own cc nL D cy) {i : Nat} {x : Option Nat} {g : Nat → Nat} {lv lv' : List (Nat × Value)} (hdg : decode cc pc = .ok (.astore i, 2)) (h : lv_has ls nL lv) (hn : i < nL) (ha : zadj lv i) (hl : (i, va_rf (x.map g)) :: lv.filter (fun q => !(q.1 == i)) = lv')
    (kk : ∀ ls' : Array Slot, lv_has ls' nL lv' → W p l e R s m args below meth c H locs cells slots Q (F0 m (pc + 2) ls' rest)) : W p l e R s m args below meth c H locs cells slots Q (F0 m pc ls (va_rf (x.map g) :: rest)) := by
  rw [← zfilt ha] at hl
  cases x with
  | none => exact lv_astoreN hC.1.1 hC.1.2.1 hdg h hn hl kk
  | some t => exact lv_astore hC.1.1 hC.1.2.1 hdg h hn hl kk
theorem z_istore_n (hC : zC p s m args c own cc nL D cy) {k : Fin 4} {i : Nat} {x : Int32} {lv lv' : List (Nat × Value)} (hdg : decode cc pc = .ok (.istore_n k, 1)) (hi : (k : Nat) = i) (h : lv_has ls nL lv) (hn : i < nL) (ha : zadj lv i) (hl : (i, Value.int x) :: lv.filter (fun q => !(q.1 == i)) = lv')
    (kk : ∀ ls' : Array Slot, lv_has ls' nL lv' → W p l e R s m args below meth c H locs cells slots Q (F0 m (pc + 1) ls' rest)) : W p l e R s m args below meth c H locs cells slots Q (F0 m pc ls (.int x :: rest)) := by
  rw [← zfilt ha] at hl
  exact lv_istore_n hC.1.1 hC.1.2.1 hdg hi h hn hl kk
theorem z_istore (hC : zC p s m args c own cc nL D cy) {i : Nat} {x : Int32} {lv lv' : List (Nat × Value)} (hdg : decode cc pc = .ok (.istore i, 2)) (h : lv_has ls nL lv) (hn : i < nL) (ha : zadj lv i) (hl : (i, Value.int x) :: lv.filter (fun q => !(q.1 == i)) = lv')
    (kk : ∀ ls' : Array Slot, lv_has ls' nL lv' → W p l e R s m args below meth c H locs cells slots Q (F0 m (pc + 2) ls' rest)) : W p l e R s m args below meth c H locs cells slots Q (F0 m pc ls (.int x :: rest)) := by
  rw [← zfilt ha] at hl
  exact lv_istore hC.1.1 hC.1.2.1 hdg h hn hl kk
theorem z_iinc (hC : zC p s m args c own cc nL D cy) {i k : Nat} {n : Int} {x v : Int32} {lv lv' : List (Nat × Value)} (hdg : decode cc pc = .ok (.iinc i n, 3)) (h : lv_has ls nL lv) (hk : lv[k]? = some (i, .int x)) (hv : x + Int32.ofInt n = v) (hn : i < nL) (ha : zadj lv i) (hl : (i, Value.int v) :: lv.filter (fun q => !(q.1 == i)) = lv')
    (kk : ∀ ls' : Array Slot, lv_has ls' nL lv' → W p l e R s m args below meth c H locs cells slots Q (F0 m (pc + 3) ls' rest)) : W p l e R s m args below meth c H locs cells slots Q (F0 m pc ls rest) := by
  rw [← zfilt ha] at hl
  exact lv_iinc hC.1.1 hC.1.2.1 hdg h hk hv hn hl kk
theorem z_irem (hC : zC p s m args c own cc nL D cy) {x y : Int32} {k : Option α} (hf : znz y k = some res) (hdg : decode cc pc = .ok (.irem, 1)) (kk : k = some res → W p l e R s m args below meth c H locs cells slots Q (F0 m (pc + 1) ls (.int (x - x / y * y) :: rest))) : W p l e R s m args below meth c H locs cells slots Q (F0 m pc ls (.int y :: .int x :: rest)) := by
  unfold znz at hf
  by_cases h : y = 0
  · rw [if_pos h] at hf; cases hf
  · rw [if_neg h] at hf; exact lv_irem hC.1.1 hC.1.2.1 hdg h (kk hf)
theorem z_lrem (hC : zC p s m args c own cc nL D cy) {x y : Int64} {k : Option α} (hf : znzJ y k = some res) (hdg : decode cc pc = .ok (.lrem, 1)) (kk : k = some res → W p l e R s m args below meth c H locs cells slots Q (F0 m (pc + 1) ls (.long (x - x / y * y) :: rest))) : W p l e R s m args below meth c H locs cells slots Q (F0 m pc ls (.long y :: .long x :: rest)) := by
  unfold znzJ at hf
  by_cases h : y = 0
  · rw [if_pos h] at hf; cases hf
  · rw [if_neg h] at hf; exact lv_lrem hC.1.1 hC.1.2.1 hdg h (kk hf)
theorem z_ldiv (hC : zC p s m args c own cc nL D cy) {x y : Int64} {k : Option α} (hf : znzJ y k = some res) (hdg : decode cc pc = .ok (.ldiv, 1)) (kk : k = some res → W p l e R s m args below meth c H locs cells slots Q (F0 m (pc + 1) ls (.long (x / y) :: rest))) : W p l e R s m args below meth c H locs cells slots Q (F0 m pc ls (.long y :: .long x :: rest)) := by
  unfold znzJ at hf
  by_cases h : y = 0
  · rw [if_pos h] at hf; cases hf
  · rw [if_neg h] at hf; exact lv_ldiv hC.1.1 hC.1.2.1 hdg h (kk hf)
end ZQ
