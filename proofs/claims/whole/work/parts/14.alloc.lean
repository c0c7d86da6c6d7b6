section ZF2
variable {p : Program} {l : Launch} {e : Env} {R : Room} {s : State} {m : MethodId} {args : Array Value} {below : List Frame} {meth : Method} {c : Code} {H : Heap} {locs : List Loc} {cells slots : Nat} {Q : State → Prop}
variable {pc : Nat} {ls : Array Slot} {rest : List Value} {A : Nat → Prop} {H0 : Heap} {D : va_G} {cy : Nat → ClassId} {a0 aT aP : Nat → Nat} {σ : zS} {cc : ByteArray} {nL : Nat} {α : Type} {res : α}
theorem fkX6_9 : zFk RX6 9 6 7 .int false := ⟨_, _, _, tyX6, rfl, izX6, by decide, Or.inl (by decide +kernel), rfl, tyX6_ok, nmX6, by decide +kernel, rfl⟩
theorem fkX6_15 : zFk RX6 15 6 8 .int false := ⟨_, _, _, tyX6, rfl, izX6, by decide, Or.inl (by decide +kernel), rfl, tyX6_ok, nmX6, by decide +kernel, rfl⟩
theorem fkX6_18 : zFk RX6 18 6 0 .int true := ⟨_, _, _, tyX6, rfl, izX6, by decide, Or.inl (by decide +kernel), rfl, tyX6_ok, nmX6, by decide +kernel, rfl⟩
theorem fkX6_21 : zFk RX6 21 6 1 .boolean true := ⟨_, _, _, tyX6, rfl, izX6, by decide, Or.inl (by decide +kernel), rfl, tyX6_ok, nmX6, by decide +kernel, rfl⟩
theorem fkX6_34 : zFk RX6 34 6 5 .int true := ⟨_, _, _, tyX6, rfl, izX6, by decide, Or.inl (by decide +kernel), rfl, tyX6_ok, nmX6, by decide +kernel, rfl⟩
theorem fkX6_37 : zFk RX6 37 6 6 .int true := ⟨_, _, _, tyX6, rfl, izX6, by decide, Or.inl (by decide +kernel), rfl, tyX6_ok, nmX6, by decide +kernel, rfl⟩
theorem fkX5_16 : zFk RX5 16 5 2 .int false := ⟨_, _, _, tyX5, rfl, izX5, by decide, Or.inl (by decide +kernel), rfl, tyX5_ok, nmX5, by decide +kernel, rfl⟩
theorem fkX2_102 : zFk RX2 102 6 8 .int false := ⟨_, _, _, tyX6, rfl, izX6, by decide, Or.inl (by decide +kernel), rfl, tyX6_ok, nmX6, by decide +kernel, rfl⟩
theorem oiX6_3 : Cond.methodLink RX6 3 objectInit ∈ zT ∧ Cond.instanceMethod objectInit ∈ zT ∧ Cond.code objectInit ⟨#[0xb1]⟩ 1 none ∈ zT := ⟨by decide +kernel, by decide +kernel, by decide +kernel⟩
theorem oiX5_1 : Cond.methodLink RX5 1 objectInit ∈ zT ∧ Cond.instanceMethod objectInit ∈ zT ∧ Cond.code objectInit ⟨#[0xb1]⟩ 1 none ∈ zT := ⟨by decide +kernel, by decide +kernel, by decide +kernel⟩
theorem pfX2_37 (hC : zC p s m args c RX2 cc nL D cy) (hZ : zW D cy shX 38 a0 aT aP A H0 σ H locs) {v : Int32} {k : zS → Option α} (hf : zlet (zsI σ 0 2 5 v) k = some res) (hdg : decode cc pc = .ok (.putfield 37, 3)) (kk : ∀ (τ : zS) (H1 : Heap) (locs1 : List Loc), k τ = some res → zW D cy shX 38 a0 aT aP A H0 τ H1 locs1 → W p l e R s m args below meth c H1 locs1 cells slots Q (F0 m (pc + 3) ls rest)) : W p l e R s m args below meth c H locs cells slots Q (F0 m pc ls (.int v :: .ref (a0 2) :: rest)) := z_put0 hC hZ fkX2_37 (by decide) rfl rfl hf hdg kk
theorem fqX6_18 : zFq RX6 18 6 0 .int := ⟨_, _, tyX6, rfl, izX6, by decide, by decide +kernel, rfl, tyX6_ok, nmX6, by decide +kernel, rfl⟩
theorem fqX6_21 : zFq RX6 21 6 1 .boolean := ⟨_, _, tyX6, rfl, izX6, by decide, by decide +kernel, rfl, tyX6_ok, nmX6, by decide +kernel, rfl⟩
theorem fqX6_25 : zFq RX6 25 6 2 .int := ⟨_, _, tyX6, rfl, izX6, by decide, by decide +kernel, rfl, tyX6_ok, nmX6, by decide +kernel, rfl⟩
theorem fqX6_28 : zFq RX6 28 6 3 .int := ⟨_, _, tyX6, rfl, izX6, by decide, by decide +kernel, rfl, tyX6_ok, nmX6, by decide +kernel, rfl⟩
theorem fqX6_31 : zFq RX6 31 6 4 .int := ⟨_, _, tyX6, rfl, izX6, by decide, by decide +kernel, rfl, tyX6_ok, nmX6, by decide +kernel, rfl⟩
theorem fqX6_34 : zFq RX6 34 6 5 .int := ⟨_, _, tyX6, rfl, izX6, by decide, by decide +kernel, rfl, tyX6_ok, nmX6, by decide +kernel, rfl⟩
theorem fqX6_37 : zFq RX6 37 6 6 .int := ⟨_, _, tyX6, rfl, izX6, by decide, by decide +kernel, rfl, tyX6_ok, nmX6, by decide +kernel, rfl⟩
theorem fqX5_7 : zFq RX5 7 5 0 (.object "CarrierPool$Telling") := ⟨_, _, tyX5, rfl, izX5, by decide, by decide +kernel, rfl, tyX5_ok, nmX5, by decide +kernel, rfl⟩
theorem fqX5_13 : zFq RX5 13 5 1 (.object "CarrierPool$Telling") := ⟨_, _, tyX5, rfl, izX5, by decide, by decide +kernel, rfl, tyX5_ok, nmX5, by decide +kernel, rfl⟩
theorem nkX7_106 : Cond.classLink RX7 106 RX6 ∈ zT ∧ Cond.instantiable RX6 10 ∈ zT ∧ Cond.initialized RX6 ∈ zT := ⟨by decide +kernel, by decide +kernel, by decide +kernel⟩
theorem nkX2_17 : Cond.classLink RX2 17 RX5 ∈ zT ∧ Cond.instantiable RX5 4 ∈ zT ∧ Cond.initialized RX5 ∈ zT := ⟨by decide +kernel, by decide +kernel, by decide +kernel⟩
end ZF2
section ZK2
variable {p : Program} {l : Launch} {e : Env} {R : Room} {s : State} {m : MethodId} {args : Array Value} {below : List Frame} {meth : Method} {c : Code} {H : Heap} {locs : List Loc} {cells slots : Nat} {Q : State → Prop}
variable {pc : Nat} {ls : Array Slot} {rest : List Value} {A : Nat → Prop} {H0 : Heap} {D : va_G} {cy : Nat → ClassId} {a0 aT aP : Nat → Nat} {σ : zS} {cc : ByteArray} {nL : Nat} {α : Type} {res : α}
theorem vkX7_111 : zVk RX7 111 yX2_keepTelling cX2_keepTelling 2 none 1 := ⟨by decide +kernel, by decide +kernel, by decide +kernel, by decide +kernel, by decide +kernel, by decide +kernel⟩
theorem kX7_111 (hC : zC p s m args c RX7 cc nL D cy) (hA : ∀ q, H0.size ≤ q → A q) (hZ : zW D cy shX 38 a0 aT aP A H0 σ H locs) {N : Nat} {x1 : Option Nat} {k : zS → Option α} (hf : zbv (fX2_keepTelling N x1 σ) k = some res) (hsz : ls.size = nL) (hW : (rest.map fun v => v.category).sum ≤ 8) (hR : rmX2_keepTelling.frames + 1 ≤ R.frames ∧ 8 + (2 + 11) + rmX2_keepTelling.locals ≤ R.locals) (hcs : cells ≤ R.cells ∧ slots ≤ R.slots) (hdg : decode cc pc = .ok (.invokevirtual 111, 3)) (kk : ∀ (τ : zS) (H1 : Heap) (locs1 : List Loc), k τ = some res → zW D cy shX 38 a0 aT aP A H0 τ H1 locs1 → W p l e R s m args below meth c H1 locs1 cells slots Q (F0 m (pc + 3) ls (rest))) : W p l e R s m args below meth c H locs cells slots Q (F0 m pc ls (va_rf (x1.map aT) :: .ref (a0 2) :: rest)) := by
  cases hq : fX2_keepTelling N x1 σ with
  | none => rw [hq] at hf; cases hf
  | some q =>
    rw [hq] at hf
    exact zcallv hA hZ (zrun hC hZ vkX7_111 rfl (zw0 (by decide)) (cX2_keepTelling_ok l D cy a0 aT aP N x1 σ q hq H.size) hR rfl hsz rfl hW hcs hdg) (fun u H1 locs1 hU hZ1 => by subst hU; exact kk q H1 locs1 hf hZ1)
theorem vkX2_105 : zSk RX2 105 yX2_countedBy cX2_countedBy 3 (some .int) 3 := ⟨by decide +kernel, by decide +kernel, by decide +kernel, by decide +kernel, by decide +kernel⟩
theorem kX2_105 (hC : zC p s m args c RX2 cc nL D cy) (hA : ∀ q, H0.size ≤ q → A q) (hZ : zW D cy shX 38 a0 aT aP A H0 σ H locs) {N : Nat} {x0 : Int32} {x1 : Option Nat} {x2 : Option Nat} {k : Int32 → zS → Option α} (hf : zbi (fX2_countedBy N x0 x1 x2 σ) k = some res) (hsz : ls.size = nL) (hW : (rest.map fun v => v.category).sum ≤ 8) (hR : rmX2_countedBy.frames + 1 ≤ R.frames ∧ 8 + (3 + 11) + rmX2_countedBy.locals ≤ R.locals) (hcs : cells ≤ R.cells ∧ slots ≤ R.slots) (hdg : decode cc pc = .ok (.invokestatic 105, 3)) (kk : ∀ (v : Int32) (τ : zS) (H1 : Heap) (locs1 : List Loc), k v τ = some res → zW D cy shX 38 a0 aT aP A H0 τ H1 locs1 → W p l e R s m args below meth c H1 locs1 cells slots Q (F0 m (pc + 3) ls (.int v :: rest))) : W p l e R s m args below meth c H locs cells slots Q (F0 m pc ls (va_rf (x2.map aT) :: va_rf (x1.map aT) :: .int x0 :: rest)) := by
  cases hq : fX2_countedBy N x0 x1 x2 σ with
  | none => rw [hq] at hf; cases hf
  | some q =>
    rw [hq] at hf
    exact zcalli hA hZ (zrunS hC hZ vkX2_105 (cX2_countedBy_ok l D cy a0 aT aP N x0 x1 x2 σ q.1 q.2 hq H.size) hR rfl hsz rfl hW hcs hdg) (fun u H1 locs1 hU hZ1 => by subst hU; exact kk q.1 q.2 H1 locs1 hf hZ1)
end ZK2
abbrev rmX6_init : Room := { frames := 1, cells := 0, slots := 0, locals := 24 }
noncomputable def fX6_init (N : Nat) (x0 : Option Nat) (x1 : Int32) (x2 : Int32) (x3 : Int32) (x4 : Int32) (x5 : Int32) (x6 : Int32) (x7 : Int32) (w0 : zS) : Option (zS) := zrT w0 x0 (zpT w0 x0 7 (0 : Int32) fun w1 => zpT w1 x0 8 (-9 : Int32) fun w2 => zpT w2 x0 0 x1 fun w3 => zpTZ w3 x0 1 x2 fun w4 => zpT w4 x0 2 x3 fun w5 => zpT w5 x0 3 x4 fun w6 => zpT w6 x0 4 x5 fun w7 => zpT w7 x0 5 x6 fun w8 => zpT w8 x0 6 x7 fun w9 => some w9)
set_option maxHeartbeats 4000000 in
set_option maxRecDepth 100000 in
theorem cX6_init_ok (l : Launch) (D : va_G) (cy : Nat → ClassId) (a0 aT aP : Nat → Nat) (N : Nat) (x0 : Option Nat) (x1 : Int32) (x2 : Int32) (x3 : Int32) (x4 : Int32) (x5 : Int32) (x6 : Int32) (x7 : Int32) (w0 : zS) (τ : zS) (hf : fX6_init N x0 x1 x2 x3 x4 x5 x6 x7 w0 = some τ) : zMv l yX6_init cX6_init 8 none rmX6_init D cy shX 38 a0 aT aP w0 [va_rf (x0.map aT), .int x1, .int x2, .int x3, .int x4, .int x5, .int x6, .int x7] τ (fun u => u = (aT, aP)) := by
  refine zmet_c (by decide +kernel) rfl rfl (by simp [lg_sl, zcat, zcI, zcR, zcL]) ?_
  intro p e s m below meth c A Q ls hin hC hA hZ hl hE
  have hx := hC.1.1
  have hb := hC.1.2.1
  have hl : lv_has ls 8 [(0, va_rf (x0.map aT)), (1, .int x1), (2, .int x2), (3, .int x3), (4, .int x4), (5, .int x5), (6, .int x6), (7, .int x7)] := by simpa [lv_args, zcat, zcI, zcR, zcL] using hl
  unfold fX6_init at hf
  refine z_aload_n (pc := 0) hC dX6_init_0 rfl (lv_at hl 0 rfl) ?_
  refine z_objT (pc := 1) hC hZ oiX6_3 hf hl.1 (Nat.le_of_ble_eq_true rfl) (Nat.le_of_ble_eq_true rfl) dX6_init_1 (fun hf => ?_)
  refine z_aload_n (pc := 4) hC dX6_init_4 rfl (lv_at hl 0 rfl) ?_
  refine lv_iconst (pc := 5) (v := (0 : Int32)) hx hb dX6_init_5 (by decide) ?_
  refine z_pT (pc := 6) hC hZ fkX6_9 rfl hf dX6_init_6 (fun w1 H locs hf hZ => ?_)
  refine z_aload_n (pc := 9) hC dX6_init_9 rfl (lv_at hl 0 rfl) ?_
  refine lv_bipush (pc := 10) (v := (-9 : Int32)) hx hb dX6_init_10 (by decide) ?_
  refine z_pT (pc := 12) hC hZ fkX6_15 rfl hf dX6_init_12 (fun w2 H locs hf hZ => ?_)
  refine z_aload_n (pc := 15) hC dX6_init_15 rfl (lv_at hl 0 rfl) ?_
  refine lv_iload_n (pc := 16) hx hb dX6_init_16 rfl (lv_at hl 1 rfl) ?_
  refine z_pTF (pc := 17) hC hin hZ fqX6_18 rfl hf dX6_init_17 (fun w3 H locs hf hZ => ?_)
  refine z_aload_n (pc := 20) hC dX6_init_20 rfl (lv_at hl 0 rfl) ?_
  refine lv_iload_n (pc := 21) hx hb dX6_init_21 rfl (lv_at hl 2 rfl) ?_
  refine z_pTZF (pc := 22) hC hin hZ fqX6_21 rfl hf dX6_init_22 (fun w4 H locs hf hZ => ?_)
  refine z_aload_n (pc := 25) hC dX6_init_25 rfl (lv_at hl 0 rfl) ?_
  refine lv_iload_n (pc := 26) hx hb dX6_init_26 rfl (lv_at hl 3 rfl) ?_
  refine z_pTF (pc := 27) hC hin hZ fqX6_25 rfl hf dX6_init_27 (fun w5 H locs hf hZ => ?_)
  refine z_aload_n (pc := 30) hC dX6_init_30 rfl (lv_at hl 0 rfl) ?_
  refine lv_iload (pc := 31) hx hb dX6_init_31 (lv_at hl 4 rfl) ?_
  refine z_pTF (pc := 33) hC hin hZ fqX6_28 rfl hf dX6_init_33 (fun w6 H locs hf hZ => ?_)
  refine z_aload_n (pc := 36) hC dX6_init_36 rfl (lv_at hl 0 rfl) ?_
  refine lv_iload (pc := 37) hx hb dX6_init_37 (lv_at hl 5 rfl) ?_
  refine z_pTF (pc := 39) hC hin hZ fqX6_31 rfl hf dX6_init_39 (fun w7 H locs hf hZ => ?_)
  refine z_aload_n (pc := 42) hC dX6_init_42 rfl (lv_at hl 0 rfl) ?_
  refine lv_iload (pc := 43) hx hb dX6_init_43 (lv_at hl 6 rfl) ?_
  refine z_pTF (pc := 45) hC hin hZ fqX6_34 rfl hf dX6_init_45 (fun w8 H locs hf hZ => ?_)
  refine z_aload_n (pc := 48) hC dX6_init_48 rfl (lv_at hl 0 rfl) ?_
  refine lv_iload (pc := 49) hx hb dX6_init_49 (lv_at hl 7 rfl) ?_
  refine z_pTF (pc := 51) hC hin hZ fqX6_37 rfl hf dX6_init_51 (fun w9 H locs hf hZ => ?_)
  obtain rfl := Option.some.inj hf
  exact hE _ _ _ _ _ _ rfl hZ dX6_init_54
section ZK3
variable {p : Program} {l : Launch} {e : Env} {R : Room} {s : State} {m : MethodId} {args : Array Value} {below : List Frame} {meth : Method} {c : Code} {H : Heap} {locs : List Loc} {cells slots : Nat} {Q : State → Prop}
variable {pc : Nat} {ls : Array Slot} {rest : List Value} {A : Nat → Prop} {H0 : Heap} {D : va_G} {cy : Nat → ClassId} {a0 aT aP : Nat → Nat} {σ : zS} {cc : ByteArray} {nL : Nat} {α : Type} {res : α}
theorem ikX7_108 : Cond.methodLink RX7 108 yX6_init ∈ zT ∧ Cond.initialized yX6_init.cls ∈ zT ∧ Cond.code yX6_init cX6_init 8 none ∈ zT ∧ Cond.instanceMethod yX6_init ∈ zT ∧ (yX6_init.cls ≠ "java/lang/invoke/MethodHandle" ∧ yX6_init.cls ≠ "java/lang/invoke/VarHandle" ∧ (parseMethodDescriptor yX6_init.desc).map (fun d => d.parameters.length) = some 7) := ⟨by decide +kernel, by decide +kernel, by decide +kernel, by decide +kernel, by decide +kernel⟩
theorem kX7_108 (hC : zC p s m args c RX7 cc nL D cy) (hA : ∀ q, H0.size ≤ q → A q) (hZ : zW D cy shX 38 a0 aT aP A H0 σ H locs) {N : Nat} {t : Nat} {x1 : Int32} {x2 : Int32} {x3 : Int32} {x4 : Int32} {x5 : Int32} {x6 : Int32} {x7 : Int32} {k : zS → Option α} (hf : zbv (fX6_init N (some t) x1 x2 x3 x4 x5 x6 x7 σ) k = some res) (hsz : ls.size = nL) (hW : (rest.map fun v => v.category).sum ≤ 8) (hR : rmX6_init.frames + 1 ≤ R.frames ∧ 8 + (8 + 11) + rmX6_init.locals ≤ R.locals) (hcs : cells ≤ R.cells ∧ slots ≤ R.slots) (hdg : decode cc pc = .ok (.invokespecial 108, 3)) (kk : ∀ (τ : zS) (H1 : Heap) (locs1 : List Loc), k τ = some res → zW D cy shX 38 a0 aT aP A H0 τ H1 locs1 → W p l e R s m args below meth c H1 locs1 cells slots Q (F0 m (pc + 3) ls rest)) : W p l e R s m args below meth c H locs cells slots Q (F0 m pc ls (.int x7 :: .int x6 :: .int x5 :: .int x4 :: .int x3 :: .int x2 :: .int x1 :: va_rf ((some t).map aT) :: rest)) := by
  cases hq : fX6_init N (some t) x1 x2 x3 x4 x5 x6 x7 σ with
  | none => rw [hq] at hf; cases hf
  | some q =>
    rw [hq] at hf
    exact zcallv hA hZ (zrunI hC hZ ikX7_108.1 ikX7_108.2.1 ikX7_108.2.2.1 ikX7_108.2.2.2.1 rfl ikX7_108.2.2.2.2 (cX6_init_ok l D cy a0 aT aP N (some t) x1 x2 x3 x4 x5 x6 x7 σ q hq H.size) hR rfl hsz rfl hW hcs hdg) (fun u H1 locs1 hU hZ1 => by subst hU; exact kk q H1 locs1 hf hZ1)
end ZK3
abbrev rmX5_init : Room := { frames := 1, cells := 0, slots := 0, locals := 24 }
noncomputable def fX5_init (N : Nat) (x0 : Option Nat) (x1 : Option Nat) (x2 : Option Nat) (x3 : Int32) (w0 : zS) : Option (zS) := zrP w0 x0 (zpPR w0 x0 0 x1 fun w1 => zpPR w1 x0 1 x2 fun w2 => zpP w2 x0 2 x3 fun w3 => some w3)
set_option maxHeartbeats 4000000 in
set_option maxRecDepth 100000 in
theorem cX5_init_ok (l : Launch) (D : va_G) (cy : Nat → ClassId) (a0 aT aP : Nat → Nat) (N : Nat) (x0 : Option Nat) (x1 : Option Nat) (x2 : Option Nat) (x3 : Int32) (w0 : zS) (τ : zS) (hf : fX5_init N x0 x1 x2 x3 w0 = some τ) : zMv l yX5_init cX5_init 4 none rmX5_init D cy shX 38 a0 aT aP w0 [va_rf (x0.map aP), va_rf (x1.map aT), va_rf (x2.map aT), .int x3] τ (fun u => u = (aT, aP)) := by
  refine zmet_c (by decide +kernel) rfl rfl (by simp [lg_sl, zcat, zcI, zcR, zcL]) ?_
  intro p e s m below meth c A Q ls hin hC hA hZ hl hE
  have hx := hC.1.1
  have hb := hC.1.2.1
  have hl : lv_has ls 4 [(0, va_rf (x0.map aP)), (1, va_rf (x1.map aT)), (2, va_rf (x2.map aT)), (3, .int x3)] := by simpa [lv_args, zcat, zcI, zcR, zcL] using hl
  unfold fX5_init at hf
  refine z_aload_n (pc := 0) hC dX5_init_0 rfl (lv_at hl 0 rfl) ?_
  refine z_objP (pc := 1) hC hZ oiX5_1 hf hl.1 (Nat.le_of_ble_eq_true rfl) (Nat.le_of_ble_eq_true rfl) dX5_init_1 (fun hf => ?_)
  refine z_aload_n (pc := 4) hC dX5_init_4 rfl (lv_at hl 0 rfl) ?_
  refine z_aload_n (pc := 5) hC dX5_init_5 rfl (lv_at hl 1 rfl) ?_
  refine z_pPRF (pc := 6) hC hin hZ fqX5_7 rfl hf dX5_init_6 (fun w1 H locs hf hZ => ?_)
  refine z_aload_n (pc := 9) hC dX5_init_9 rfl (lv_at hl 0 rfl) ?_
  refine z_aload_n (pc := 10) hC dX5_init_10 rfl (lv_at hl 2 rfl) ?_
  refine z_pPRF (pc := 11) hC hin hZ fqX5_13 rfl hf dX5_init_11 (fun w2 H locs hf hZ => ?_)
  refine z_aload_n (pc := 14) hC dX5_init_14 rfl (lv_at hl 0 rfl) ?_
  refine lv_iload_n (pc := 15) hx hb dX5_init_15 rfl (lv_at hl 3 rfl) ?_
  refine z_pP (pc := 16) hC hZ fkX5_16 rfl hf dX5_init_16 (fun w3 H locs hf hZ => ?_)
  obtain rfl := Option.some.inj hf
  exact hE _ _ _ _ _ _ rfl hZ dX5_init_19
section ZK3
variable {p : Program} {l : Launch} {e : Env} {R : Room} {s : State} {m : MethodId} {args : Array Value} {below : List Frame} {meth : Method} {c : Code} {H : Heap} {locs : List Loc} {cells slots : Nat} {Q : State → Prop}
variable {pc : Nat} {ls : Array Slot} {rest : List Value} {A : Nat → Prop} {H0 : Heap} {D : va_G} {cy : Nat → ClassId} {a0 aT aP : Nat → Nat} {σ : zS} {cc : ByteArray} {nL : Nat} {α : Type} {res : α}
theorem ikX2_109 : Cond.methodLink RX2 109 yX5_init ∈ zT ∧ Cond.initialized yX5_init.cls ∈ zT ∧ Cond.code yX5_init cX5_init 4 none ∈ zT ∧ Cond.instanceMethod yX5_init ∈ zT ∧ (yX5_init.cls ≠ "java/lang/invoke/MethodHandle" ∧ yX5_init.cls ≠ "java/lang/invoke/VarHandle" ∧ (parseMethodDescriptor yX5_init.desc).map (fun d => d.parameters.length) = some 3) := ⟨by decide +kernel, by decide +kernel, by decide +kernel, by decide +kernel, by decide +kernel⟩
theorem kX2_109 (hC : zC p s m args c RX2 cc nL D cy) (hA : ∀ q, H0.size ≤ q → A q) (hZ : zW D cy shX 38 a0 aT aP A H0 σ H locs) {N : Nat} {t : Nat} {x1 : Option Nat} {x2 : Option Nat} {x3 : Int32} {k : zS → Option α} (hf : zbv (fX5_init N (some t) x1 x2 x3 σ) k = some res) (hsz : ls.size = nL) (hW : (rest.map fun v => v.category).sum ≤ 8) (hR : rmX5_init.frames + 1 ≤ R.frames ∧ 8 + (4 + 11) + rmX5_init.locals ≤ R.locals) (hcs : cells ≤ R.cells ∧ slots ≤ R.slots) (hdg : decode cc pc = .ok (.invokespecial 109, 3)) (kk : ∀ (τ : zS) (H1 : Heap) (locs1 : List Loc), k τ = some res → zW D cy shX 38 a0 aT aP A H0 τ H1 locs1 → W p l e R s m args below meth c H1 locs1 cells slots Q (F0 m (pc + 3) ls rest)) : W p l e R s m args below meth c H locs cells slots Q (F0 m pc ls (.int x3 :: va_rf (x2.map aT) :: va_rf (x1.map aT) :: va_rf ((some t).map aP) :: rest)) := by
  cases hq : fX5_init N (some t) x1 x2 x3 σ with
  | none => rw [hq] at hf; cases hf
  | some q =>
    rw [hq] at hf
    exact zcallv hA hZ (zrunI hC hZ ikX2_109.1 ikX2_109.2.1 ikX2_109.2.2.1 ikX2_109.2.2.2.1 rfl ikX2_109.2.2.2.2 (cX5_init_ok l D cy a0 aT aP N (some t) x1 x2 x3 σ q hq H.size) hR rfl hsz rfl hW hcs hdg) (fun u H1 locs1 hU hZ1 => by subst hU; exact kk q H1 locs1 hf hZ1)
end ZK3
abbrev rmX7_tell : Room := { frames := 2, cells := 1, slots := 10, locals := 51 }
noncomputable def fX7_tell (N : Nat) (x1 : Int32) (x2 : Int32) (x3 : Int32) (x4 : Int32) (x5 : Int32) (w0 : zS) : Option (Int32 × zS) := zbi (fX7_areTwoHouses N x2 x3 w0) fun v2 w1 => if v2 = 0 then (zbi (fX7_refuse N (-1 : Int32) w1) fun v4 w3 => some (v4, w3)) else (zbi (fX7_isKind N x4 w1) fun v6 w5 => if v6 = 0 then (zbi (fX7_refuse N (-1 : Int32) w5) fun v8 w7 => some (v8, w7)) else (if (1 : Int32) ≤ x5 then (if (1000 : Int32) < x5 then (zbi (fX7_refuse N (-6 : Int32) w5) fun v10 w9 => some (v10, w9)) else (if (w5.1 0 2 4) < (400 : Int32) then (znT w5 fun t11 w12 => zbv (fX6_init N (some t11) (w5.1 0 2 4) x1 x2 x3 x4 x5 (w12.1 0 0 0) w12) fun w13 => zbv (fX2_keepTelling N (some t11) w13) fun w14 => some ((w5.1 0 2 4), w14)) else (zbi (fX7_refuse N (-6 : Int32) w5) fun v16 w15 => some (v16, w15)))) else (zbi (fX7_refuse N (-4 : Int32) w5) fun v18 w17 => some (v18, w17))))
set_option maxHeartbeats 4000000 in
set_option maxRecDepth 100000 in
theorem cX7_tell_ok (l : Launch) (D : va_G) (cy : Nat → ClassId) (a0 aT aP : Nat → Nat) (N : Nat) (x1 : Int32) (x2 : Int32) (x3 : Int32) (x4 : Int32) (x5 : Int32) (w0 : zS) (rv : Int32) (τ : zS) (hf : fX7_tell N x1 x2 x3 x4 x5 w0 = some (rv, τ)) : zMi l yX7_tell cX7_tell 7 (some .int) rmX7_tell D cy shX 38 a0 aT aP w0 [.ref (a0 0), .int x1, .int x2, .int x3, .int x4, .int x5] rv τ (fun u => u.2 = aP) := by
  refine zmet_i (by decide +kernel) (Or.inl rfl) (Nat.le_of_ble_eq_true rfl) ?_
  intro p e s m below meth c A Q ls hC hA hZ hl hE
  have hx := hC.1.1
  have hb := hC.1.2.1
  have hl : lv_has ls 7 [(0, .ref (a0 0)), (1, .int x1), (2, .int x2), (3, .int x3), (4, .int x4), (5, .int x5)] := hl
  unfold fX7_tell at hf
  refine lv_aload_n (pc := 0) hx hb dX7_tell_0 rfl (lv_at hl 0 rfl) ?_
  refine lv_iload_n (pc := 1) hx hb dX7_tell_1 rfl (lv_at hl 2 rfl) ?_
  refine lv_iload_n (pc := 2) hx hb dX7_tell_2 rfl (lv_at hl 3 rfl) ?_
  refine kX7_99 (pc := 3) hC hA hZ hf hl.1 (Nat.le_of_ble_eq_true rfl) ⟨Nat.le_of_ble_eq_true rfl, Nat.le_of_ble_eq_true rfl⟩ ⟨Nat.le_of_ble_eq_true rfl, Nat.le_of_ble_eq_true rfl⟩ dX7_tell_3 (fun v2 w1 H locs hf hZ => ?_)
  refine z_eq0 (pc := 6) (tgt := 18) hC hf dX7_tell_6 (by decide) (fun hf => ?_) (fun hf => ?_)
  · refine lv_aload_n (pc := 18) hx hb dX7_tell_18 rfl (lv_at hl 0 rfl) ?_
    refine lv_iconst (pc := 19) (v := (-1 : Int32)) hx hb dX7_tell_19 (by decide) ?_
    refine kX7_73 (pc := 20) hC hA hZ hf hl.1 (Nat.le_of_ble_eq_true rfl) ⟨Nat.le_of_ble_eq_true rfl, Nat.le_of_ble_eq_true rfl⟩ ⟨Nat.le_of_ble_eq_true rfl, Nat.le_of_ble_eq_true rfl⟩ dX7_tell_20 (fun v4 w3 H locs hf hZ => ?_)
    refine W.widen (k := 1) (n := 10) (by decide) (by decide) ?_
    obtain ⟨rfl, rfl⟩ := zinj hf
    exact hE _ _ _ _ _ _ rfl hZ dX7_tell_23
  refine lv_aload_n (pc := 9) hx hb dX7_tell_9 rfl (lv_at hl 0 rfl) ?_
  refine lv_iload (pc := 10) hx hb dX7_tell_10 (lv_at hl 4 rfl) ?_
  refine kX7_81 (pc := 12) hC hA hZ hf hl.1 (Nat.le_of_ble_eq_true rfl) ⟨Nat.le_of_ble_eq_true rfl, Nat.le_of_ble_eq_true rfl⟩ ⟨Nat.le_of_ble_eq_true rfl, Nat.le_of_ble_eq_true rfl⟩ dX7_tell_12 (fun v6 w5 H locs hf hZ => ?_)
  refine z_ne0 (pc := 15) (tgt := 24) hC hf dX7_tell_15 (by decide) (fun hf => ?_) (fun hf => ?_)
  · refine lv_aload_n (pc := 18) hx hb dX7_tell_18 rfl (lv_at hl 0 rfl) ?_
    refine lv_iconst (pc := 19) (v := (-1 : Int32)) hx hb dX7_tell_19 (by decide) ?_
    refine kX7_73 (pc := 20) hC hA hZ hf hl.1 (Nat.le_of_ble_eq_true rfl) ⟨Nat.le_of_ble_eq_true rfl, Nat.le_of_ble_eq_true rfl⟩ ⟨Nat.le_of_ble_eq_true rfl, Nat.le_of_ble_eq_true rfl⟩ dX7_tell_20 (fun v8 w7 H locs hf hZ => ?_)
    refine W.widen (k := 1) (n := 10) (by decide) (by decide) ?_
    obtain ⟨rfl, rfl⟩ := zinj hf
    exact hE _ _ _ _ _ _ rfl hZ dX7_tell_23
  refine lv_iload (pc := 24) hx hb dX7_tell_24 (lv_at hl 5 rfl) ?_
  refine lv_iconst (pc := 26) (v := (1 : Int32)) hx hb dX7_tell_26 (by decide) ?_
  refine z_ige (pc := 27) (tgt := 37) hC hf dX7_tell_27 (by decide) (fun hf => ?_) (fun hf => ?_)
  · refine lv_iload (pc := 37) hx hb dX7_tell_37 (lv_at hl 5 rfl) ?_
    refine lv_sipush (pc := 39) (v := (1000 : Int32)) hx hb dX7_tell_39 (by decide) ?_
    refine z_igt (pc := 42) (tgt := 58) hC hf dX7_tell_42 (by decide) (fun hf => ?_) (fun hf => ?_)
    · refine lv_aload_n (pc := 58) hx hb dX7_tell_58 rfl (lv_at hl 0 rfl) ?_
      refine lv_bipush (pc := 59) (v := (-6 : Int32)) hx hb dX7_tell_59 (by decide) ?_
      refine kX7_73 (pc := 61) hC hA hZ hf hl.1 (Nat.le_of_ble_eq_true rfl) ⟨Nat.le_of_ble_eq_true rfl, Nat.le_of_ble_eq_true rfl⟩ ⟨Nat.le_of_ble_eq_true rfl, Nat.le_of_ble_eq_true rfl⟩ dX7_tell_61 (fun v10 w9 H locs hf hZ => ?_)
      refine W.widen (k := 1) (n := 10) (by decide) (by decide) ?_
      obtain ⟨rfl, rfl⟩ := zinj hf
      exact hE _ _ _ _ _ _ rfl hZ dX7_tell_64
    refine lv_aload_n (pc := 45) hx hb dX7_tell_45 rfl (lv_at hl 0 rfl) ?_
    refine gfX7_42 (pc := 46) hC hZ dX7_tell_46 ?_
    refine gfX7_103 (pc := 49) hC hZ dX7_tell_49 ?_
    refine lv_sipush (pc := 52) (v := (400 : Int32)) hx hb dX7_tell_52 (by decide) ?_
    refine z_ilt (pc := 55) (tgt := 65) hC hf dX7_tell_55 (by decide) (fun hf => ?_) (fun hf => ?_)
    · refine lv_aload_n (pc := 65) hx hb dX7_tell_65 rfl (lv_at hl 0 rfl) ?_
      refine gfX7_42 (pc := 66) hC hZ dX7_tell_66 ?_
      refine gfX7_103 (pc := 69) hC hZ dX7_tell_69 ?_
      refine lv_istore (pc := 72) (lv' := [(6, .int (w5.1 0 2 4)), (0, .ref (a0 0)), (1, .int x1), (2, .int x2), (3, .int x3), (4, .int x4), (5, .int x5)]) hx hb dX7_tell_72 hl (by decide) rfl (fun ls hl => ?_)
      refine lv_aload_n (pc := 74) hx hb dX7_tell_74 rfl (lv_at hl 1 rfl) ?_
      refine gfX7_42 (pc := 75) hC hZ dX7_tell_75 ?_
      refine z_newT (pc := 78) hC hA hZ nkX7_106.1 nkX7_106.2.1 nkX7_106.2.2 hf (Nat.le_of_ble_eq_true rfl) (Nat.le_of_ble_eq_true rfl) dX7_tell_78 (fun t11 w12 aT H hf _ _ hZ => ?_)
      refine lv_dup (pc := 81) hx hb dX7_tell_81 (zcat _) ?_
      refine lv_iload (pc := 82) hx hb dX7_tell_82 (lv_at hl 0 rfl) ?_
      refine lv_iload_n (pc := 84) hx hb dX7_tell_84 rfl (lv_at hl 2 rfl) ?_
      refine lv_iload_n (pc := 85) hx hb dX7_tell_85 rfl (lv_at hl 3 rfl) ?_
      refine lv_iload_n (pc := 86) hx hb dX7_tell_86 rfl (lv_at hl 4 rfl) ?_
      refine lv_iload (pc := 87) hx hb dX7_tell_87 (lv_at hl 5 rfl) ?_
      refine lv_iload (pc := 89) hx hb dX7_tell_89 (lv_at hl 6 rfl) ?_
      refine lv_aload_n (pc := 91) hx hb dX7_tell_91 rfl (lv_at hl 1 rfl) ?_
      refine gfX7_60 (pc := 92) hC hZ dX7_tell_92 ?_
      refine kX7_108 (pc := 95) hC hA hZ hf hl.1 (by simp [zcat, zcI, zcR, zcL]) ⟨Nat.le_of_ble_eq_true rfl, Nat.le_of_ble_eq_true rfl⟩ ⟨Nat.le_of_ble_eq_true rfl, Nat.le_of_ble_eq_true rfl⟩ dX7_tell_95 (fun w13 H locs hf hZ => ?_)
      refine kX7_111 (pc := 98) hC hA hZ hf hl.1 (Nat.le_of_ble_eq_true rfl) ⟨Nat.le_of_ble_eq_true rfl, Nat.le_of_ble_eq_true rfl⟩ ⟨Nat.le_of_ble_eq_true rfl, Nat.le_of_ble_eq_true rfl⟩ dX7_tell_98 (fun w14 H locs hf hZ => ?_)
      refine lv_iload (pc := 101) hx hb dX7_tell_101 (lv_at hl 0 rfl) ?_
      obtain ⟨rfl, rfl⟩ := zinj hf
      exact hE _ _ _ _ _ _ rfl hZ dX7_tell_103
    refine lv_aload_n (pc := 58) hx hb dX7_tell_58 rfl (lv_at hl 0 rfl) ?_
    refine lv_bipush (pc := 59) (v := (-6 : Int32)) hx hb dX7_tell_59 (by decide) ?_
    refine kX7_73 (pc := 61) hC hA hZ hf hl.1 (Nat.le_of_ble_eq_true rfl) ⟨Nat.le_of_ble_eq_true rfl, Nat.le_of_ble_eq_true rfl⟩ ⟨Nat.le_of_ble_eq_true rfl, Nat.le_of_ble_eq_true rfl⟩ dX7_tell_61 (fun v16 w15 H locs hf hZ => ?_)
    refine W.widen (k := 1) (n := 10) (by decide) (by decide) ?_
    obtain ⟨rfl, rfl⟩ := zinj hf
    exact hE _ _ _ _ _ _ rfl hZ dX7_tell_64
  refine lv_aload_n (pc := 30) hx hb dX7_tell_30 rfl (lv_at hl 0 rfl) ?_
  refine lv_bipush (pc := 31) (v := (-4 : Int32)) hx hb dX7_tell_31 (by decide) ?_
  refine kX7_73 (pc := 33) hC hA hZ hf hl.1 (Nat.le_of_ble_eq_true rfl) ⟨Nat.le_of_ble_eq_true rfl, Nat.le_of_ble_eq_true rfl⟩ ⟨Nat.le_of_ble_eq_true rfl, Nat.le_of_ble_eq_true rfl⟩ dX7_tell_33 (fun v18 w17 H locs hf hZ => ?_)
  refine W.widen (k := 1) (n := 10) (by decide) (by decide) ?_
  obtain ⟨rfl, rfl⟩ := zinj hf
  exact hE _ _ _ _ _ _ rfl hZ dX7_tell_36
abbrev rmX2_keepPair : Room := { frames := 2, cells := 1, slots := 4, locals := 47 }
noncomputable def fX2_keepPair (N : Nat) (x1 : Option Nat) (x2 : Option Nat) (x3 : Int32) (w0 : zS) : Option (zS) := zpT w0 x1 7 (1 : Int32) fun w1 => zpT w1 x2 7 (1 : Int32) fun w2 => zpT w2 x1 8 (w2.1 0 2 5) fun w3 => zpT w3 x2 8 (w3.1 0 2 5) fun w4 => znP w4 fun t5 w6 => zbi (fX2_countedBy N x3 x1 x2 w6) fun v8 w7 => zbv (fX5_init N (some t5) x1 x2 v8 w7) fun w9 => zstP w9 18 200 (w4.1 0 2 5) (some t5) fun w10 => zlet (zsI w10 0 2 5 ((w10.1 0 2 5) + (1 : Int32))) fun w11 => some w11
set_option maxHeartbeats 4000000 in
set_option maxRecDepth 100000 in
theorem cX2_keepPair_ok (l : Launch) (D : va_G) (cy : Nat → ClassId) (a0 aT aP : Nat → Nat) (N : Nat) (x1 : Option Nat) (x2 : Option Nat) (x3 : Int32) (w0 : zS) (τ : zS) (hf : fX2_keepPair N x1 x2 x3 w0 = some τ) : zMv l yX2_keepPair cX2_keepPair 4 none rmX2_keepPair D cy shX 38 a0 aT aP w0 [.ref (a0 2), va_rf (x1.map aT), va_rf (x2.map aT), .int x3] τ (fun u => u.1 = aT) := by
  refine zmet_v (by decide +kernel) rfl (by simp [lg_sl, zcat, zcI, zcR, zcL]) ?_
  intro p e s m below meth c A Q ls hC hA hZ hl hE
  have hx := hC.1.1
  have hb := hC.1.2.1
  have hl : lv_has ls 4 [(0, .ref (a0 2)), (1, va_rf (x1.map aT)), (2, va_rf (x2.map aT)), (3, .int x3)] := by simpa [lv_args, zcat, zcI, zcR, zcL] using hl
  unfold fX2_keepPair at hf
  refine z_aload_n (pc := 0) hC dX2_keepPair_0 rfl (lv_at hl 1 rfl) ?_
  refine lv_iconst (pc := 1) (v := (1 : Int32)) hx hb dX2_keepPair_1 (by decide) ?_
  refine z_pT (pc := 2) hC hZ fkX2_40 rfl hf dX2_keepPair_2 (fun w1 H locs hf hZ => ?_)
  refine z_aload_n (pc := 5) hC dX2_keepPair_5 rfl (lv_at hl 2 rfl) ?_
  refine lv_iconst (pc := 6) (v := (1 : Int32)) hx hb dX2_keepPair_6 (by decide) ?_
  refine z_pT (pc := 7) hC hZ fkX2_40 rfl hf dX2_keepPair_7 (fun w2 H locs hf hZ => ?_)
  refine z_aload_n (pc := 10) hC dX2_keepPair_10 rfl (lv_at hl 1 rfl) ?_
  refine lv_aload_n (pc := 11) hx hb dX2_keepPair_11 rfl (lv_at hl 0 rfl) ?_
  refine gfX2_37 (pc := 12) hC hZ dX2_keepPair_12 ?_
  refine z_pT (pc := 15) hC hZ fkX2_102 rfl hf dX2_keepPair_15 (fun w3 H locs hf hZ => ?_)
  refine z_aload_n (pc := 18) hC dX2_keepPair_18 rfl (lv_at hl 2 rfl) ?_
  refine lv_aload_n (pc := 19) hx hb dX2_keepPair_19 rfl (lv_at hl 0 rfl) ?_
  refine gfX2_37 (pc := 20) hC hZ dX2_keepPair_20 ?_
  refine z_pT (pc := 23) hC hZ fkX2_102 rfl hf dX2_keepPair_23 (fun w4 H locs hf hZ => ?_)
  refine lv_aload_n (pc := 26) hx hb dX2_keepPair_26 rfl (lv_at hl 0 rfl) ?_
  refine gfX2_19 (pc := 27) hC hZ dX2_keepPair_27 ?_
  refine lv_aload_n (pc := 30) hx hb dX2_keepPair_30 rfl (lv_at hl 0 rfl) ?_
  refine gfX2_37 (pc := 31) hC hZ dX2_keepPair_31 ?_
  refine z_newP (pc := 34) hC hA hZ nkX2_17.1 nkX2_17.2.1 nkX2_17.2.2 hf (Nat.le_of_ble_eq_true rfl) (Nat.le_of_ble_eq_true rfl) dX2_keepPair_34 (fun t5 w6 aP H hf _ _ hZ => ?_)
  refine lv_dup (pc := 37) hx hb dX2_keepPair_37 (zcat _) ?_
  refine z_aload_n (pc := 38) hC dX2_keepPair_38 rfl (lv_at hl 1 rfl) ?_
  refine z_aload_n (pc := 39) hC dX2_keepPair_39 rfl (lv_at hl 2 rfl) ?_
  refine lv_iload_n (pc := 40) hx hb dX2_keepPair_40 rfl (lv_at hl 3 rfl) ?_
  refine z_aload_n (pc := 41) hC dX2_keepPair_41 rfl (lv_at hl 1 rfl) ?_
  refine z_aload_n (pc := 42) hC dX2_keepPair_42 rfl (lv_at hl 2 rfl) ?_
  refine kX2_105 (pc := 43) hC hA hZ hf hl.1 (by simp [zcat, zcI, zcR, zcL]) ⟨Nat.le_of_ble_eq_true rfl, Nat.le_of_ble_eq_true rfl⟩ ⟨Nat.le_of_ble_eq_true rfl, Nat.le_of_ble_eq_true rfl⟩ dX2_keepPair_43 (fun v8 w7 H locs hf hZ => ?_)
  refine kX2_109 (pc := 46) hC hA hZ hf hl.1 (by simp [zcat, zcI, zcR, zcL]) ⟨Nat.le_of_ble_eq_true rfl, Nat.le_of_ble_eq_true rfl⟩ ⟨Nat.le_of_ble_eq_true rfl, Nat.le_of_ble_eq_true rfl⟩ dX2_keepPair_46 (fun w9 H locs hf hZ => ?_)
  refine z_aastP (pc := 49) hC hZ (by decide) rfl hf dX2_keepPair_49 (fun w10 H locs hf hZ => ?_)
  refine lv_aload_n (pc := 50) hx hb dX2_keepPair_50 rfl (lv_at hl 0 rfl) ?_
  refine lv_dup (pc := 51) hx hb dX2_keepPair_51 rfl ?_
  refine gfX2_37 (pc := 52) hC hZ dX2_keepPair_52 ?_
  refine lv_iconst (pc := 55) (v := (1 : Int32)) hx hb dX2_keepPair_55 (by decide) ?_
  refine lv_iadd (pc := 56) hx hb dX2_keepPair_56 ?_
  refine pfX2_37 (pc := 57) hC hZ hf dX2_keepPair_57 (fun w11 H locs hf hZ => ?_)
  obtain rfl := Option.some.inj hf
  exact hE _ _ _ _ _ _ rfl hZ dX2_keepPair_60
