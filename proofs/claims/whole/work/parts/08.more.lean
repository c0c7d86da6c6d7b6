theorem zinj {α β : Type} {a b : α} {x y : β} (h : some (a, x) = some (b, y)) : a = b ∧ x = y := by
  have e := Option.some.inj h
  exact ⟨congrArg Prod.fst e, congrArg Prod.snd e⟩
theorem zsw_out {x : Int32} {lo hi : Int} (h : ∀ k : Int, lo ≤ k → k ≤ hi → x = Int32.ofInt k → False) : x.toInt < lo ∨ hi < x.toInt := by
  by_cases h1 : x.toInt < lo
  · exact Or.inl h1
  · by_cases h2 : hi < x.toInt
    · exact Or.inr h2
    · exact (h x.toInt (by omega) (by omega) (by rw [Int32.ofInt_toInt])).elim
def zcpy (σ : zS) (src dst : Nat) (sp dp n : Int32) : zS := (fun q' c' => if q' = 0 ∧ c' = dst then va_cpy (σ.1 0 src) (σ.1 0 dst) sp.toNatClampNeg dp.toNatClampNeg n.toNatClampNeg else σ.1 q' c', σ.2)
def zCk (own : String) (index : Nat) : Prop := Cond.methodLink own index arraycopyName ∈ zT ∧ Cond.native arraycopyName ∈ zT ∧ Cond.static arraycopyName ∈ zT ∧ Cond.initialized "java/lang/System" ∈ zT
theorem zfiltL {lv : List (Nat × Value)} {i : Nat} (h : zadj lv i) : lv.filter (fun q => !(q.1 == i) && (!(q.1 == i + 1) && !(q.1 + 1 == i && q.2.category == 2))) = lv.filter (fun q => !(q.1 == i) && !(q.1 == i + 1)) := by
  apply List.filter_congr
  intro q hq
  rcases h q hq with h | h
  · have e : (q.1 + 1 == i) = false := beq_false_of_ne h
    simp [e]
  · simp [h]
section ZM
variable {p : Program} {l : Launch} {e : Env} {R : Room} {s : State} {m : MethodId} {args : Array Value} {below : List Frame} {meth : Method} {c : Code} {H : Heap} {locs : List Loc} {cells slots : Nat} {Q : State → Prop}
variable {pc : Nat} {ls : Array Slot} {rest : List Value} {A : Nat → Prop} {H0 : Heap} {D : va_G} {cy : Nat → ClassId} {sh : Nat → zK} {nf : Nat} {a0 aT aP : Nat → Nat} {σ τ : zS} {own : String} {cc : ByteArray} {nL : Nat} {α : Type} {res : α}
variable {y : MethodName} {mL : Nat} {ret : Option FieldType} {index : Nat} {rm : Room} {U : (Nat → Nat) × (Nat → Nat) → Prop}
theorem zmet_z {rv : Int32} (hy : plainName y.cls = true) (hr : ret = some .boolean) {avs : List Value} (hl : (lg_sl avs).length ≤ mL)
    (body : ∀ (p : Program) (e : Env) (s : State) (m : MethodId) (below : List Frame) (meth : Method) (c : Code) (A : Nat → Prop) (Q : State → Prop) (ls : Array Slot), zC p s m avs.toArray c y.cls cc mL D cy → (∀ q, s.heap.size ≤ q → A q) → zW D cy sh nf a0 aT aP A s.heap σ s.heap [] → lv_has ls mL (lv_args 0 avs) → ((rv = 0 ∨ rv = 1) → zEnd p l e rm s m avs.toArray below meth c Q D cy sh nf a0 A s.heap τ U cc .ireturn [.int rv]) → W p l e rm s m avs.toArray below meth c s.heap [] 0 0 Q (F0 m 0 ls [])) : zMi l y cc mL ret rm D cy sh nf a0 aT aP σ avs rv τ U := by
  intro sz
  refine Met.ofW (cc := cc) (maxL := mL) (ret := ret) hy rfl ?_
  intro p e s m args below meth c s₁ B hml hv
  obtain ⟨rfl, hsz, hP, hK, hD0⟩ := hv
  subst hsz
  have hts : ∀ w ∈ zT, w.before avs.toArray s = true := fun w h => atoms_spec (ws := Cond.code y cc mL ret :: zT) B.pre w (List.mem_cons_of_mem _ h)
  have hown : s.vm.findClass y.cls = some m.cls := findClass_of_methodNamed B.named
  have hlocks := B.notSynchronized
  have hl2 := lv_entry avs (n := mL) hl
  rw [lg_entry_eq]
  refine body p e s m below meth c (va_A (zw cy sh nf a0 aT aP σ) s.heap.size) _ _ ⟨⟨B.exec, B.bytes, hml, hown, hts⟩, hK⟩ (fun q h => Or.inr h) ⟨hP, hD0.self, va_S.rf⟩ hl2 ?_
  intro hb aT' aP' H locs pc ls hU hZ hd
  exact W.zret (v := rv) B.exec B.bytes (B.returns.trans hr) (znarrow_b hb).1 (fun t ht hW => ⟨⟨rv, (aT', aP'), rfl, ⟨rfl, hU⟩, by rw [ht]; exact hZ.1, va_K.moved hW.alike hK, hZ.2.1⟩, hZ.2.2.F ht⟩) hZ.2.2.2.2 hd hlocks
theorem z_max (hC : zC p s m args c own cc nL D cy) (K : zSk own index Lib.Math.max.name Lib.Math.max.code 2 (some .int) 2) (hsz : ls.size = nL) (hfr : 1 ≤ R.frames) (hlo : (rest.map fun v => v.category).sum + 13 ≤ R.locals) (hcs : cells ≤ R.cells ∧ slots ≤ R.slots) {x y : Int32} (hdg : decode cc pc = .ok (.invokestatic index, 3)) (kk : W p l e R s m args below meth c H locs cells slots Q (F0 m (pc + 3) ls (.int (if x < y then y else x) :: rest))) : W p l e R s m args below meth c H locs cells slots Q (F0 m pc ls (.int y :: .int x :: rest)) := by
  obtain ⟨⟨hx, hb, hml, hown, hts⟩, -⟩ := hC
  exact va_mmax hx hb (hml.trans hsz.symm) hown (hts _ K.1) (hts _ K.2.1) (hts _ K.2.2.1) (hts _ K.2.2.2.1) hfr hlo hcs.1 hcs.2 hdg kk
theorem z_min (hC : zC p s m args c own cc nL D cy) (K : zSk own index Lib.Math.min.name Lib.Math.min.code 2 (some .int) 2) (hsz : ls.size = nL) (hfr : 1 ≤ R.frames) (hlo : (rest.map fun v => v.category).sum + 13 ≤ R.locals) (hcs : cells ≤ R.cells ∧ slots ≤ R.slots) {x y : Int32} (hdg : decode cc pc = .ok (.invokestatic index, 3)) (kk : W p l e R s m args below meth c H locs cells slots Q (F0 m (pc + 3) ls (.int (if y < x then y else x) :: rest))) : W p l e R s m args below meth c H locs cells slots Q (F0 m pc ls (.int y :: .int x :: rest)) := by
  obtain ⟨⟨hx, hb, hml, hown, hts⟩, -⟩ := hC
  exact va_mmin hx hb (hml.trans hsz.symm) hown (hts _ K.1) (hts _ K.2.1) (hts _ K.2.2.1) (hts _ K.2.2.2.1) hfr hlo hcs.1 hcs.2 hdg kk
theorem z_abs (hC : zC p s m args c own cc nL D cy) (K : zSk own index Lib.Math.abs.name Lib.Math.abs.code 1 (some .int) 1) (hsz : ls.size = nL) (hfr : 1 ≤ R.frames) (hlo : (rest.map fun v => v.category).sum + 13 ≤ R.locals) (hcs : cells ≤ R.cells ∧ slots ≤ R.slots) {x : Int32} (hdg : decode cc pc = .ok (.invokestatic index, 3)) (kk : W p l e R s m args below meth c H locs cells slots Q (F0 m (pc + 3) ls (.int (if 0 ≤ x then x else 0 - x) :: rest))) : W p l e R s m args below meth c H locs cells slots Q (F0 m pc ls (.int x :: rest)) := by
  obtain ⟨⟨hx, hb, hml, hown, hts⟩, -⟩ := hC
  exact va_mabs hx hb (hml.trans hsz.symm) hown (hts _ K.1) (hts _ K.2.1) (hts _ K.2.2.1) (hts _ K.2.2.2.1) hfr hlo hcs.1 hcs.2 hdg kk
theorem z_maxJ (hC : zC p s m args c own cc nL D cy) (K : zSk own index Lib.MathLoose.max_long.x Lib.MathLoose.max_long.code 4 (some .long) 2) (hsz : ls.size = nL) (hfr : 1 ≤ R.frames) (hlo : (rest.map fun v => v.category).sum + 15 ≤ R.locals) (hcs : cells ≤ R.cells ∧ slots ≤ R.slots) {x y : Int64} (hdg : decode cc pc = .ok (.invokestatic index, 3)) (kk : W p l e R s m args below meth c H locs cells slots Q (F0 m (pc + 3) ls (.long (if y < x then x else y) :: rest))) : W p l e R s m args below meth c H locs cells slots Q (F0 m pc ls (.long y :: .long x :: rest)) := by
  obtain ⟨⟨hx, hb, hml, hown, hts⟩, -⟩ := hC
  exact va_mmax_long hx hb (hml.trans hsz.symm) hown (hts _ K.1) (hts _ K.2.1) (hts _ K.2.2.1) (hts _ K.2.2.2.1) hfr hlo hcs.1 hcs.2 hdg kk
theorem z_copy (hC : zC p s m args c own cc nL D cy) (K : zCk own index) (hsz : ls.size = nL) (hZ : zW D cy sh nf a0 aT aP A H0 σ H locs) {src dst n0 n1 : Nat} (h0 : src < nf) (h1 : dst < nf) (hs0 : sh src = .inr (0, n0)) (hs1 : sh dst = .inr (0, n1)) {sp dp n : Int32} {k : zS → Option α} (hf : zlet (zcpy σ src dst sp dp n) k = some res) (g1 : ¬ sp < 0) (g2 : ¬ dp < 0) (g3 : ¬ n < 0) (g4 : sp.toNatClampNeg + n.toNatClampNeg ≤ n0) (g5 : dp.toNatClampNeg + n.toNatClampNeg ≤ n1) (hfr : 1 ≤ R.frames) (hlo : (rest.map fun v => v.category).sum + (nativeFrameWords "java/lang/System" "arraycopy" 5 + 11) ≤ R.locals) (hdg : decode cc pc = .ok (.invokestatic index, 3))
    (kk : ∀ (τ : zS) (H1 : Heap) (locs1 : List Loc), k τ = some res → zW D cy sh nf a0 aT aP A H0 τ H1 locs1 → W p l e R s m args below meth c H1 locs1 cells slots Q (F0 m (pc + 3) ls rest)) : W p l e R s m args below meth c H locs cells slots Q (F0 m pc ls (.int n :: .int dp :: .ref (a0 dst) :: .int sp :: .ref (a0 src) :: rest)) := by
  refine va_copyi hC.1.1 hC.1.2.1 (hC.1.2.2.1.trans hsz.symm) hC.1.2.2.2.1 (hC.1.2.2.2.2 _ K.1) (hC.1.2.2.2.2 _ K.2.1) (hC.1.2.2.2.2 _ K.2.2.1) (hC.1.2.2.2.2 _ K.2.2.2) hC.2 hZ.1 hZ.2.1 hZ.2.2 src dst 0 0 (f := σ.1 0 src) (g := σ.1 0 dst) (c0 := cy 0) (c1 := cy 0) (n0 := n0) (n1 := n1) ((zw0 h0).trans (by rw [hs0]; rfl)) ((zw0 h1).trans (by rw [hs1]; rfl)) rfl rfl rfl g1 g2 g3 g4 g5 (fun _ _ => rfl) hfr hlo hdg fun H1 locs1 q1 q2 q3 => ?_
  exact kk _ H1 locs1 hf (zW_up0 (τ := zcpy σ src dst sp dp n) q1 q2 q3 h1 rfl (fun q' c' h => ⟨by simp [zcpy, h], rfl, rfl⟩) (by rw [hs1]; simp [zEk, zar, zcpy]))
theorem z_lstore_n (hC : zC p s m args c own cc nL D cy) {k : Fin 4} {i : Nat} {x : Int64} {lv lv' : List (Nat × Value)} (hdg : decode cc pc = .ok (.lstore_n k, 1)) (hi : (k : Nat) = i) (h : lv_has ls nL lv) (hn : i + 1 < nL) (ha : zadj lv i) (hl : (i, Value.long x) :: lv.filter (fun q => !(q.1 == i) && !(q.1 == i + 1)) = lv')
    (kk : ∀ ls' : Array Slot, lv_has ls' nL lv' → W p l e R s m args below meth c H locs cells slots Q (F0 m (pc + 1) ls' rest)) : W p l e R s m args below meth c H locs cells slots Q (F0 m pc ls (.long x :: rest)) := by
  rw [← zfiltL ha] at hl
  exact lv_lstore_n hC.1.1 hC.1.2.1 hdg hi h hn hl kk
theorem z_lstore (hC : zC p s m args c own cc nL D cy) {i : Nat} {x : Int64} {lv lv' : List (Nat × Value)} (hdg : decode cc pc = .ok (.lstore i, 2)) (h : lv_has ls nL lv) (hn : i + 1 < nL) (ha : zadj lv i) (hl : (i, Value.long x) :: lv.filter (fun q => !(q.1 == i) && !(q.1 == i + 1)) = lv')
    (kk : ∀ ls' : Array Slot, lv_has ls' nL lv' → W p l e R s m args below meth c H locs cells slots Q (F0 m (pc + 2) ls' rest)) : W p l e R s m args below meth c H locs cells slots Q (F0 m pc ls (.long x :: rest)) := by
  rw [← zfiltL ha] at hl
  exact lv_lstore hC.1.1 hC.1.2.1 hdg h hn hl kk
end ZM
