theorem zRA_inj {s : State} {c1 c2 : ClassId} {ty : FieldType} (h1 : va_RA s c1 ty) (h2 : va_RA s c2 ty) : c1 = c2 := by
  cases ty with
  | object C =>
    obtain ⟨_, _, _, _, _, h⟩ := h1
    obtain ⟨_, _, _, _, _, g⟩ := h2
    exact Option.some.inj (h.symm.trans g)
  | _ => exact Option.some.inj (h1.symm.trans h2)
/-- what constructors need beside the tables' words -/
def zN (U : State) : Prop := va_Nw (.methodLinkNest RX7 34 yX3_init "CarrierPool") U ∧ va_Nw (.methodLinkNest RX7 41 yX2_init "CarrierPool") U ∧ va_Nw (.methodLinkNest RX7 48 yX1_init "CarrierPool") U ∧ va_Nw (.methodLinkNest RX7 55 yX0_init "CarrierPool") U ∧ va_Nw (.methodLinkNest RX2 28 yX4_init "CarrierPool") U ∧ va_AO RX6 U ∧ va_AO RX5 U
theorem zN.warm {s U : State} (hW : s.WarmedH U.vm) (h : zN s) : zN U := ⟨va_Nw.warmM hW h.1, va_Nw.warmM hW h.2.1, va_Nw.warmM hW h.2.2.1, va_Nw.warmM hW h.2.2.2.1, va_Nw.warmM hW h.2.2.2.2.1, va_AO.moved hW.alike h.2.2.2.2.2.1, va_AO.moved hW.alike h.2.2.2.2.2.2⟩
theorem zN.calling {U : State} {g : JFrame} {mk : MethodId} {a : Array Value} (h : zN U) : zN (U.calling g mk a) := ⟨va_Nw.same rfl rfl h.1, va_Nw.same rfl rfl h.2.1, va_Nw.same rfl rfl h.2.2.1, va_Nw.same rfl rfl h.2.2.2.1, va_Nw.same rfl rfl h.2.2.2.2.1, va_AO.moved (Vm.Alike.refl U.vm) h.2.2.2.2.2.1, va_AO.moved (Vm.Alike.refl U.vm) h.2.2.2.2.2.2⟩
abbrev zcP (D : va_G) (cy : Nat → ClassId) (ws : va_W) (avs : List Value) (sz : Nat) : Array Value → State → Prop := va_Pc avs (fun U => U.heap.size = sz ∧ va_P D vwCl ws U.heap ∧ va_K D vwCl (zty cy) U ∧ va_D (fun _ => True) ws ∧ zN U)
abbrev zcQ (D : va_G) (cy : Nat → ClassId) (ws : va_W) (ws' : (Nat → Nat) → va_W) (sz : Nat) : Array Value → State → Outcome → State → Prop := va_Qv (fun (_ : Nat → Nat) => True) (fun u t => va_P D vwCl (ws' u) t.heap ∧ va_K D vwCl (zty cy) t ∧ va_D (va_A ws sz) (ws' u)) (va_A ws sz)
def zMk (l : Launch) (y : MethodName) (cc : ByteArray) (rm : Room) (D : va_G) (cy : Nat → ClassId) (avs : List Value) (ws : va_W) (ws' : (Nat → Nat) → va_W) : Prop := ∀ sz : Nat, Met l y (Cond.code y cc 1 none :: zT) rm (zcP D cy ws avs sz) (zcQ D cy ws ws' sz) rm.cells rm.slots (va_A ws sz)
section ZKC
variable {p : Program} {l : Launch} {e : Env} {R : Room} {s : State} {m : MethodId} {args : Array Value} {below : List Frame} {meth : Method} {c : Code} {H : Heap} {locs : List Loc} {cells slots : Nat} {Q : State → Prop}
variable {pc : Nat} {ls : Array Slot} {rest : List Value} {A : Nat → Prop} {H0 : Heap} {D : va_G} {cy : Nat → ClassId} {own : String} {cc : ByteArray} {nL index : Nat} {ws : va_W}
theorem zk_newa (hC : zC p s m args c own cc nL D cy) (hA : ∀ q, H0.size ≤ q → A q) (hP : va_P D vwCl ws H) (hD : va_D A ws) (hS : va_S A H0 H locs) {atype : ArrayType} {ty : FieldType} (el : Nat) (hty : newarray.typeOf atype = ty) (hel : (zty cy)[el]? = some (cy el, ty)) (hcond : Cond.arrayClass (newarray.typeOf atype) ∈ zT) {n : Int32} {N' : Nat} {a0 : vp_A} (ha : ∀ cA : ClassId, vp_cell cA a0 = arrV cA N' (fun _ => defaultValue ty)) (hn : ¬ n < 0) (hN : n.toNatClampNeg = N') (hbytes : N' * componentBytes ty ≤ 536870912) (hcells : cells + 1 ≤ R.cells) (hslots : slots + N' ≤ R.slots) (hdg : decode cc pc = .ok (.newarray atype, 2))
    (kk : ∀ (q : Nat) (H1 : Heap), va_P D vwCl (ws ++ [(q, .inl (cy el, a0))]) H1 → va_D A (ws ++ [(q, .inl (cy el, a0))]) → va_S A H0 H1 locs → W p l e R s m args below meth c H1 locs (cells + 1) (slots + N') Q (F0 m (pc + 2) ls (.ref q :: rest))) : W p l e R s m args below meth c H locs cells slots Q (F0 m pc ls (.int n :: rest)) := by
  refine va_newa hC.1.1 hC.1.2.1 (hC.1.2.2.2.2 _ hcond) hty hC.2 hP hD hS hA ha hn hN hbytes hcells hslots hdg fun q cA H1 hK hP hD hS => ?_
  have e1 := (hK.2 5 (cA, ty) rfl).2
  have e2 := (hC.2.2 el _ hel).2
  have e3 := zRA_inj e1 e2
  subst e3
  exact kk q H1 hP hD hS
theorem zk_newq (hC : zC p s m args c own cc nL D cy) (hA : ∀ q, H0.size ≤ q → A q) (hP : va_P D vwCl ws H) (hD : va_D A ws) (hS : va_S A H0 H locs) {C : String} (el : Nat) (hel : (zty cy)[el]? = some (cy el, .object C)) (hcl : Cond.classLink own index C ∈ zT) (ho : va_AO C s) {n : Int32} {N' : Nat} (hn : ¬ n < 0) (hN : n.toNatClampNeg = N') (hbytes : N' * 4 ≤ 536870912) (hcells : cells + 1 ≤ R.cells) (hslots : slots + N' ≤ R.slots) (hdg : decode cc pc = .ok (.anewarray index, 3))
    (kk : ∀ (q : Nat) (H1 : Heap), va_P D vwCl (ws ++ [(q, .inl (cy el, N', .inr (.inr (.inr (.inr (fun _ => none))))))]) H1 → va_D A (ws ++ [(q, .inl (cy el, N', .inr (.inr (.inr (.inr (fun _ => none))))))]) → va_S A H0 H1 locs → W p l e R s m args below meth c H1 locs (cells + 1) (slots + N') Q (F0 m (pc + 3) ls (.ref q :: rest))) : W p l e R s m args below meth c H locs cells slots Q (F0 m pc ls (.int n :: rest)) := by
  refine va_newq hC.1.1 hC.1.2.1 hC.1.2.2.2.1 (hC.1.2.2.2.2 _ hcl) ho hC.2 hP hD hS hA hn hN hbytes hcells hslots hdg fun q cA H1 hK hP hD hS => ?_
  have e1 := (hK.2 5 (cA, .object C) rfl).2
  have e2 := (hC.2.2 el _ hel).2
  have e3 := zRA_inj e1 e2
  subst e3
  exact kk q H1 hP hD hS
theorem zk_obj (hC : zC p s m args c own cc nL D cy) (K : Cond.methodLink own index objectInit ∈ zT ∧ Cond.instanceMethod objectInit ∈ zT ∧ Cond.code objectInit ⟨#[0xb1]⟩ 1 none ∈ zT) (hsz : ls.size = nL) (hfr : 1 ≤ R.frames) (hlo : (rest.map fun v => v.category).sum + 12 ≤ R.locals) {a : Nat} (hdg : decode cc pc = .ok (.invokespecial index, 3)) (kk : W p l e R s m args below meth c H locs cells slots Q (F0 m (pc + 3) ls rest)) : W p l e R s m args below meth c H locs cells slots Q (F0 m pc ls (.ref a :: rest)) :=
  W.objInit hC.1.1 hC.1.2.1 hC.1.2.2.2.1 (hC.1.2.2.2.2 _ K.1) (hC.1.2.2.2.2 _ K.2.1) (hC.1.2.2.2.2 _ K.2.2) rfl (by rw [hC.1.2.2.1]; exact hsz) rfl hdg hfr (by show 2 * 0 + _ + 12 ≤ _; omega) kk
/-- a final reference field in its constructor -/
theorem zk_putF (hC : zC p s m args c own cc nL D cy) (hin : meth.name = "<init>") (hP : va_P D vwCl ws H) (hD : va_D A ws) (hS : va_S A H0 H locs) {ci j : Nat} {ty : FieldType} (F : zFq own index ci j ty) (q0 : Nat) {a : Nat} {fs : List Value} (he : ws[q0]? = some (a, .inr (ci, fs))) {b : Nat} (hn : narrow ty (.ref b) = .ref b) (hfit : fits ty (.ref b) = true) (hl : j < fs.length) (hdg : decode cc pc = .ok (.putfield index, 3))
    (kk : ∀ (H1 : Heap) (locs1 : List Loc), va_P D vwCl (ws.set q0 (a, .inr (ci, fs.set j (.ref b)))) H1 → va_D A (ws.set q0 (a, .inr (ci, fs.set j (.ref b)))) → va_S A H0 H1 locs1 → W p l e R s m args below meth c H1 locs1 cells slots Q (F0 m (pc + 3) ls rest)) : W p l e R s m args below meth c H locs cells slots Q (F0 m pc ls (.ref b :: .ref a :: rest)) := by
  obtain ⟨T, N, ty0, hF⟩ := F
  exact z_putF hC hP hD hS hF hin rfl q0 he hn hfit hl hdg kk
theorem zk_puti (hC : zC p s m args c own cc nL D cy) (hP : va_P D vwCl ws H) (hD : va_D A ws) (hS : va_S A H0 H locs) {ci j : Nat} (F : zFk own index ci j .int false) (q0 : Nat) {a : Nat} {fs : List Value} (he : ws[q0]? = some (a, .inr (ci, fs))) {v : Int32} (hl : j < fs.length) (hdg : decode cc pc = .ok (.putfield index, 3))
    (kk : ∀ (H1 : Heap) (locs1 : List Loc), va_P D vwCl (ws.set q0 (a, .inr (ci, fs.set j (.int v)))) H1 → va_D A (ws.set q0 (a, .inr (ci, fs.set j (.int v)))) → va_S A H0 H1 locs1 → W p l e R s m args below meth c H1 locs1 cells slots Q (F0 m (pc + 3) ls rest)) : W p l e R s m args below meth c H locs cells slots Q (F0 m pc ls (.int v :: .ref a :: rest)) :=
  z_put hC hP hD hS F q0 he rfl rfl hl hdg kk
variable {y : MethodName} {rm : Room} {ws' : (Nat → Nat) → va_W}
theorem zmet_k {h0 : Nat} (hy : plainName y.cls = true) (hin : y.name = "<init>")
    (body : ∀ (p : Program) (e : Env) (s : State) (m : MethodId) (below : List Frame) (meth : Method) (c : Code) (A : Nat → Prop) (Q : State → Prop) (ls : Array Slot), meth.name = "<init>" → zN s → zC p s m #[.ref h0] c y.cls cc 1 D cy → (∀ q, s.heap.size ≤ q → A q) → va_P D vwCl ws s.heap → va_D A ws → va_S A s.heap s.heap [] → lv_has ls 1 [(0, .ref h0)] → (∀ (u : Nat → Nat) (H : Heap) (locs : List Loc) (pc : Nat) (ls : Array Slot), va_P D vwCl (ws' u) H → va_D A (ws' u) → va_S A s.heap H locs → decode cc pc = .ok (.return_, 1) → W p l e rm s m #[.ref h0] below meth c H locs rm.cells rm.slots Q (F0 m pc ls [])) → W p l e rm s m #[.ref h0] below meth c s.heap [] 0 0 Q (F0 m 0 ls [])) : zMk l y cc rm D cy [.ref h0] ws ws' := by
  intro sz
  refine Met.ofW (cc := cc) (maxL := 1) (ret := none) hy rfl ?_
  intro p e s m args below meth c s₁ B hml hv
  obtain ⟨rfl, hsz, hP, hK, hD0, hNN⟩ := hv
  subst hsz
  have hts : ∀ w ∈ zT, w.before #[.ref h0] s = true := fun w h => atoms_spec (ws := Cond.code y cc 1 none :: zT) B.pre w (List.mem_cons_of_mem _ h)
  have hown : s.vm.findClass y.cls = some m.cls := findClass_of_methodNamed B.named
  have hlocks := B.notSynchronized
  have hl2 := lv_entry [.ref h0] (n := 1) (Nat.le_of_ble_eq_true rfl)
  rw [lg_entry_eq]
  refine body p e s m below meth c (va_A ws s.heap.size) _ _ ((name_of_methodNamed B.named B.method).1.trans hin) hNN ⟨⟨B.exec, B.bytes, hml, hown, hts⟩, hK⟩ (fun q h => Or.inr h) hP hD0.self va_S.rf hl2 ?_
  intro u H locs pc ls hP1 hD1 hS1 hd
  exact W.vret B.exec B.bytes B.returns (fun t ht hW => ⟨⟨u, rfl, trivial, by rw [ht]; exact hP1, va_K.moved hW.alike hK, hD1⟩, hS1.F ht⟩) hS1.2.2 hd hlocks
/-- a nested constructor's call: the object is the world's last cell -/
theorem zk_call (hC : zC p s m args c own cc nL D cy) (hNN : zN s) (hA : ∀ q, H0.size ≤ q → A q) (hP : va_P D vwCl ws H) (hD : va_D A ws) (hS : va_S A H0 H locs) {bytes : ByteArray} {host : String} (hlink : va_Nw (.methodLinkNest own index y host) s) (h2 : Cond.initialized y.cls ∈ zT) (h3 : Cond.code y bytes 1 none ∈ zT) (h4 : Cond.instanceMethod y ∈ zT) (hin : y.name = "<init>") (hd : y.cls ≠ "java/lang/invoke/MethodHandle" ∧ y.cls ≠ "java/lang/invoke/VarHandle" ∧ (parseMethodDescriptor y.desc).map (fun d => d.parameters.length) = some 0) {b k : Nat} {x : va_E} (hk : ws[k]? = some (b, x)) (isR : List Nat) {wr : va_W} (hR' : isR.map (fun i => ws[i]?) = wr.map some) (hnd : va_nd isR = true) (hdis : k ∉ isR) (hM : zMk l y bytes rm D cy [.ref b] [(b, x)] ws') (hR : rm.frames + 1 ≤ R.frames ∧ 8 + (1 + 11) + rm.locals ≤ R.locals) (hsz : ls.size = nL) (hW : (rest.map fun v => v.category).sum ≤ 8) (hcs : cells + rm.cells ≤ R.cells ∧ slots + rm.slots ≤ R.slots) (hdg : decode cc pc = .ok (.invokespecial index, 3))
    (kk : ∀ (u : Nat → Nat) (H1 : Heap) (locs1 : List Loc), va_P D vwCl (wr ++ ws' u) H1 → va_D A (wr ++ ws' u) → va_S A H0 H1 locs1 → W p l e R s m args below meth c H1 locs1 (cells + rm.cells) (slots + rm.slots) Q (F0 m (pc + 3) ls rest)) : W p l e R s m args below meth c H locs cells slots Q (F0 m pc ls (.ref b :: rest)) := by
  have hC1 : [k].map (fun i => ws[i]?) = [(b, x)].map some := by simp [hk]
  have hPc : va_P D vwCl [(b, x)] H := fun i q hq => by
    cases i with
    | zero => cases hq; exact hP k _ hk
    | succ i => simp at hq
  have hDc : va_D (fun _ => True) [(b, x)] := ⟨fun i j p q h1 h2 _ => by
    have := (List.getElem?_eq_some_iff.mp h1).1
    have := (List.getElem?_eq_some_iff.mp h2).1
    simp at *
    omega, fun _ _ _ => trivial⟩
  have hFc := va_free (wc := [(b, x)]) hD hS hA [k] hC1
  refine va_callv (va_runIN (As := []) (rest := rest) hC.1 (hM H.size) ⟨va_cnB 0 hC.1.2.2.2.2 (zGood h3) rfl rfl rfl hlink (hC.1.2.2.2.2 _ h2) hd hR, hin, hC.1.2.2.2.2 _ h4⟩ ⟨fun a U g mk q => ?_, fun U hU hW => ?_⟩ rfl rfl hsz rfl (lv_room hW) hdg hcs) hS (fun q _ h => hFc q h) hFc (fun u t H1 locs1 ht hvm _ hB hz1 hk1 hS1 => ?_)
  · obtain ⟨q0, q1, qP, qK, qD, qN⟩ := q
    exact ⟨q0, q1, qP, va_K.moved (u := U) (U := U.calling g mk a) (Vm.Alike.refl U.vm) qK, qD, qN.calling⟩
  · exact ⟨rfl, by rw [hU], by rw [hU]; exact hPc, va_K.moved hW.alike hC.2, hDc, hNN.warm hW⟩
  · obtain ⟨hP1, hK1, hD1⟩ := hB
    rw [ht] at hP1
    obtain ⟨hP2, hD2⟩ := va_join (wr := wr) (w1 := ws' u) hP hD [k] isR hC1 hR' hnd (fun i hi hc => by simp at hc; subst hc; exact hdis hi) hk1 hFc hP1 hD1
    exact kk u H1 locs1 hP2 hD2 hS1
end ZKC
