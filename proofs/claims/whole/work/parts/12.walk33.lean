set_option maxHeartbeats 4000000 in
set_option maxRecDepth 100000 in
theorem cX4_shiftOf_ok (l : Launch) (D : va_G) (cy : Nat → ClassId) (a0 aT aP : Nat → Nat) (N : Nat) (x0 : Int32) (w0 : zS) (rv : Int32) (τ : zS) (hf : fX4_shiftOf N x0 w0 = some (rv, τ)) : zMi l yX4_shiftOf cX4_shiftOf 1 (some .int) rmX4_shiftOf D cy shX 38 a0 aT aP w0 [.int x0] rv τ (fun u => u = (aT, aP)) := by
  refine zmet_i (by decide +kernel) (Or.inl rfl) (Nat.le_of_ble_eq_true rfl) ?_
  intro p e s m below meth c A Q ls hC hA hZ hl hE
  have hx := hC.1.1
  have hb := hC.1.2.1
  have hl : lv_has ls 1 [(0, .int x0)] := hl
  unfold fX4_shiftOf at hf
  refine lv_iconst (pc := 0) (v := (4 : Int32)) hx hb dX4_shiftOf_0 (by decide) ?_
  refine lv_bipush (pc := 1) (v := (7 : Int32)) hx hb dX4_shiftOf_1 (by decide) ?_
  refine lv_iload_n (pc := 3) hx hb dX4_shiftOf_3 rfl (lv_at hl 0 rfl) ?_
  refine lv_isub (pc := 4) hx hb dX4_shiftOf_4 ?_
  refine lv_imul (pc := 5) hx hb dX4_shiftOf_5 ?_
  obtain ⟨rfl, rfl⟩ := zinj hf
  exact hE _ _ _ _ _ _ rfl hZ dX4_shiftOf_6
section ZK
variable {p : Program} {l : Launch} {e : Env} {R : Room} {s : State} {m : MethodId} {args : Array Value} {below : List Frame} {meth : Method} {c : Code} {H : Heap} {locs : List Loc} {cells slots : Nat} {Q : State → Prop}
variable {pc : Nat} {ls : Array Slot} {rest : List Value} {A : Nat → Prop} {H0 : Heap} {D : va_G} {cy : Nat → ClassId} {a0 aT aP : Nat → Nat} {σ : zS} {cc : ByteArray} {nL : Nat} {α : Type} {res : α}
theorem vkX4_78 : zSk RX4 78 yX4_shiftOf cX4_shiftOf 1 (some .int) 1 := ⟨by decide +kernel, by decide +kernel, by decide +kernel, by decide +kernel, by decide +kernel⟩
theorem kX4_78 (hC : zC p s m args c RX4 cc nL D cy) (hA : ∀ q, H0.size ≤ q → A q) (hZ : zW D cy shX 38 a0 aT aP A H0 σ H locs) {N : Nat} {x0 : Int32} {k : Int32 → zS → Option α} (hf : zbi (fX4_shiftOf N x0 σ) k = some res) (hsz : ls.size = nL) (hW : (rest.map fun v => v.category).sum ≤ 8) (hR : rmX4_shiftOf.frames + 1 ≤ R.frames ∧ 8 + (1 + 11) + rmX4_shiftOf.locals ≤ R.locals) (hcs : cells ≤ R.cells ∧ slots ≤ R.slots) (hdg : decode cc pc = .ok (.invokestatic 78, 3)) (kk : ∀ (v : Int32) (τ : zS) (H1 : Heap) (locs1 : List Loc), k v τ = some res → zW D cy shX 38 a0 aT aP A H0 τ H1 locs1 → W p l e R s m args below meth c H1 locs1 cells slots Q (F0 m (pc + 3) ls (.int v :: rest))) : W p l e R s m args below meth c H locs cells slots Q (F0 m pc ls (.int x0 :: rest)) := by
  cases hq : fX4_shiftOf N x0 σ with
  | none => rw [hq] at hf; cases hf
  | some q =>
    rw [hq] at hf
    exact zcalli hA hZ (zrunS hC hZ vkX4_78 (cX4_shiftOf_ok l D cy a0 aT aP N x0 σ q.1 q.2 hq H.size) hR rfl hsz rfl hW hcs hdg) (fun u H1 locs1 hU hZ1 => by subst hU; exact kk q.1 q.2 H1 locs1 hf hZ1)
end ZK
set_option maxHeartbeats 4000000 in
set_option maxRecDepth 100000 in
theorem cX4_scoreOf_ok (l : Launch) (D : va_G) (cy : Nat → ClassId) (a0 aT aP : Nat → Nat) (N : Nat) (x1 : Int32) (x2 : Int32) (w0 : zS) (rv : Int64) (τ : zS) (hf : fX4_scoreOf N x1 x2 w0 = some (rv, τ)) : zMl l yX4_scoreOf cX4_scoreOf 9 (some .long) rmX4_scoreOf D cy shX 38 a0 aT aP w0 [.ref (a0 3), .int x1, .int x2] rv τ (fun u => u = (aT, aP)) := by
  refine zmet_l (by decide +kernel) rfl (Nat.le_of_ble_eq_true rfl) ?_
  intro p e s m below meth c A Q ls hC hA hZ hl hE
  have hx := hC.1.1
  have hb := hC.1.2.1
  have hl : lv_has ls 9 [(0, .ref (a0 3)), (1, .int x1), (2, .int x2)] := hl
  unfold fX4_scoreOf at hf
  refine lv_aload_n (pc := 0) hx hb dX4_scoreOf_0 rfl (lv_at hl 0 rfl) ?_
  refine lv_iload_n (pc := 1) hx hb dX4_scoreOf_1 rfl (lv_at hl 1 rfl) ?_
  refine kX4_40 (pc := 2) hC hA hZ hf hl.1 (Nat.le_of_ble_eq_true rfl) ⟨Nat.le_of_ble_eq_true rfl, Nat.le_of_ble_eq_true rfl⟩ ⟨Nat.le_refl _, Nat.le_refl _⟩ dX4_scoreOf_2 (fun v2 w1 H locs hf hZ => ?_)
  refine z_astore_n (pc := 5) (i := 3) (lv' := [(3, va_rf (v2.map aT)), (0, .ref (a0 3)), (1, .int x1), (2, .int x2)]) hC dX4_scoreOf_5 rfl hl (by decide) (zadj_cons (Or.inl (Nat.ne_of_beq_eq_false rfl)) (zadj_cons (Or.inl (Nat.ne_of_beq_eq_false rfl)) (zadj_cons (Or.inr rfl) zadj_nil))) rfl (fun ls hl => ?_)
  refine lv_aload_n (pc := 6) hx hb dX4_scoreOf_6 rfl (lv_at hl 1 rfl) ?_
  refine lv_iload_n (pc := 7) hx hb dX4_scoreOf_7 rfl (lv_at hl 3 rfl) ?_
  refine kX4_44 (pc := 8) hC hA hZ hf hl.1 (Nat.le_of_ble_eq_true rfl) ⟨Nat.le_of_ble_eq_true rfl, Nat.le_of_ble_eq_true rfl⟩ ⟨Nat.le_refl _, Nat.le_refl _⟩ dX4_scoreOf_8 (fun v4 w3 H locs hf hZ => ?_)
  refine z_astore (pc := 11) (i := 4) (lv' := [(4, va_rf (v4.map aT)), (3, va_rf (v2.map aT)), (0, .ref (a0 3)), (1, .int x1), (2, .int x2)]) hC dX4_scoreOf_11 hl (by decide) (zadj_cons (Or.inr (zcat _)) (zadj_cons (Or.inl (Nat.ne_of_beq_eq_false rfl)) (zadj_cons (Or.inl (Nat.ne_of_beq_eq_false rfl)) (zadj_cons (Or.inl (Nat.ne_of_beq_eq_false rfl)) zadj_nil)))) rfl (fun ls hl => ?_)
  refine z_aload_n (pc := 13) hC dX4_scoreOf_13 rfl (lv_at hl 1 rfl) ?_
  refine z_aload (pc := 14) hC dX4_scoreOf_14 (lv_at hl 0 rfl) ?_
  refine kX4_47 (pc := 16) hC hA hZ hf hl.1 (Nat.le_of_ble_eq_true rfl) ⟨Nat.le_of_ble_eq_true rfl, Nat.le_of_ble_eq_true rfl⟩ ⟨Nat.le_refl _, Nat.le_refl _⟩ dX4_scoreOf_16 (fun v6 w5 H locs hf hZ => ?_)
  refine z_ne0 (pc := 19) (tgt := 26) hC hf dX4_scoreOf_19 (by decide) (fun hf => ?_) (fun hf => ?_)
  · refine lv_ldc2 (pc := 22) (v := (-1 : Int64)) hx hb hC.1.2.2.2.1 (hC.1.2.2.2.2 _ kcX4_60) dX4_scoreOf_22 ?_
    obtain ⟨rfl, rfl⟩ := zinj hf
    exact hE _ _ _ _ _ _ rfl hZ dX4_scoreOf_25
  refine z_aload_n (pc := 26) hC dX4_scoreOf_26 rfl (lv_at hl 1 rfl) ?_
  refine z_gT (pc := 27) hC hZ fkX4_51 rfl hf dX4_scoreOf_27 (fun v7 hf => ?_)
  refine z_aload (pc := 30) hC dX4_scoreOf_30 (lv_at hl 0 rfl) ?_
  refine z_gT (pc := 32) hC hZ fkX4_51 rfl hf dX4_scoreOf_32 (fun v8 hf => ?_)
  refine lv_isub (pc := 35) hx hb dX4_scoreOf_35 ?_
  refine z_abs (pc := 36) hC mkX4_54 hl.1 (Nat.le_of_ble_eq_true rfl) (Nat.le_of_ble_eq_true rfl) ⟨Nat.le_refl _, Nat.le_refl _⟩ dX4_scoreOf_36 ?_
  refine lv_i2l (pc := 39) hx hb dX4_scoreOf_39 rfl ?_
  refine z_lstore (pc := 40) (i := 5) (lv' := [(5, .long (if 0 ≤ (v7 - v8) then (v7 - v8) else 0 - (v7 - v8)).toInt64), (4, va_rf (v4.map aT)), (3, va_rf (v2.map aT)), (0, .ref (a0 3)), (1, .int x1), (2, .int x2)]) hC dX4_scoreOf_40 hl (by decide) (zadj_cons (Or.inr (zcat _)) (zadj_cons (Or.inl (Nat.ne_of_beq_eq_false rfl)) (zadj_cons (Or.inl (Nat.ne_of_beq_eq_false rfl)) (zadj_cons (Or.inl (Nat.ne_of_beq_eq_false rfl)) (zadj_cons (Or.inl (Nat.ne_of_beq_eq_false rfl)) zadj_nil))))) rfl (fun ls hl => ?_)
  refine lv_bipush (pc := 42) (v := (8 : Int32)) hx hb dX4_scoreOf_42 (by decide) ?_
  refine lv_iload_n (pc := 44) hx hb dX4_scoreOf_44 rfl (lv_at hl 5 rfl) ?_
  refine lv_isub (pc := 45) hx hb dX4_scoreOf_45 ?_
  refine lv_i2l (pc := 46) hx hb dX4_scoreOf_46 rfl ?_
  refine z_lstore (pc := 47) (i := 7) (lv' := [(7, .long ((8 : Int32) - x2).toInt64), (5, .long (if 0 ≤ (v7 - v8) then (v7 - v8) else 0 - (v7 - v8)).toInt64), (4, va_rf (v4.map aT)), (3, va_rf (v2.map aT)), (0, .ref (a0 3)), (1, .int x1), (2, .int x2)]) hC dX4_scoreOf_47 hl (by decide) (zadj_cons (Or.inl (Nat.ne_of_beq_eq_false rfl)) (zadj_cons (Or.inl (Nat.ne_of_beq_eq_false rfl)) (zadj_cons (Or.inl (Nat.ne_of_beq_eq_false rfl)) (zadj_cons (Or.inl (Nat.ne_of_beq_eq_false rfl)) (zadj_cons (Or.inl (Nat.ne_of_beq_eq_false rfl)) (zadj_cons (Or.inl (Nat.ne_of_beq_eq_false rfl)) zadj_nil)))))) rfl (fun ls hl => ?_)
  refine lv_ldc2 (pc := 49) (v := (1099511627776 : Int64)) hx hb hC.1.2.2.2.1 (hC.1.2.2.2.2 _ kcX4_74) dX4_scoreOf_49 ?_
  refine lv_lload (pc := 52) hx hb dX4_scoreOf_52 (lv_at hl 1 rfl) ?_
  refine lv_ldc2 (pc := 54) (v := (4294967296 : Int64)) hx hb hC.1.2.2.2.1 (hC.1.2.2.2.2 _ kcX4_76) dX4_scoreOf_54 ?_
  refine lv_lmul (pc := 57) hx hb dX4_scoreOf_57 ?_
  refine lv_lsub (pc := 58) hx hb dX4_scoreOf_58 ?_
  refine lv_lload (pc := 59) hx hb dX4_scoreOf_59 (lv_at hl 0 rfl) ?_
  refine lv_iload_n (pc := 61) hx hb dX4_scoreOf_61 rfl (lv_at hl 5 rfl) ?_
  refine kX4_78 (pc := 62) hC hA hZ hf hl.1 (Nat.le_of_ble_eq_true rfl) ⟨Nat.le_of_ble_eq_true rfl, Nat.le_of_ble_eq_true rfl⟩ ⟨Nat.le_refl _, Nat.le_refl _⟩ dX4_scoreOf_62 (fun v10 w9 H locs hf hZ => ?_)
  refine lv_lshl (pc := 65) hx hb dX4_scoreOf_65 rfl ?_
  refine lv_ladd (pc := 66) hx hb dX4_scoreOf_66 ?_
  obtain ⟨rfl, rfl⟩ := zinj hf
  exact hE _ _ _ _ _ _ rfl hZ dX4_scoreOf_67
section ZK
variable {p : Program} {l : Launch} {e : Env} {R : Room} {s : State} {m : MethodId} {args : Array Value} {below : List Frame} {meth : Method} {c : Code} {H : Heap} {locs : List Loc} {cells slots : Nat} {Q : State → Prop}
variable {pc : Nat} {ls : Array Slot} {rest : List Value} {A : Nat → Prop} {H0 : Heap} {D : va_G} {cy : Nat → ClassId} {a0 aT aP : Nat → Nat} {σ : zS} {cc : ByteArray} {nL : Nat} {α : Type} {res : α}
theorem vkX4_62 : zVk RX4 62 yX4_scoreOf cX4_scoreOf 9 (some .long) 2 := ⟨by decide +kernel, by decide +kernel, by decide +kernel, by decide +kernel, by decide +kernel, by decide +kernel⟩
theorem kX4_62 (hC : zC p s m args c RX4 cc nL D cy) (hA : ∀ q, H0.size ≤ q → A q) (hZ : zW D cy shX 38 a0 aT aP A H0 σ H locs) {N : Nat} {x1 : Int32} {x2 : Int32} {k : Int64 → zS → Option α} (hf : zbi (fX4_scoreOf N x1 x2 σ) k = some res) (hsz : ls.size = nL) (hW : (rest.map fun v => v.category).sum ≤ 8) (hR : rmX4_scoreOf.frames + 1 ≤ R.frames ∧ 8 + (9 + 11) + rmX4_scoreOf.locals ≤ R.locals) (hcs : cells ≤ R.cells ∧ slots ≤ R.slots) (hdg : decode cc pc = .ok (.invokevirtual 62, 3)) (kk : ∀ (v : Int64) (τ : zS) (H1 : Heap) (locs1 : List Loc), k v τ = some res → zW D cy shX 38 a0 aT aP A H0 τ H1 locs1 → W p l e R s m args below meth c H1 locs1 cells slots Q (F0 m (pc + 3) ls (.long v :: rest))) : W p l e R s m args below meth c H locs cells slots Q (F0 m pc ls (.int x2 :: .int x1 :: .ref (a0 3) :: rest)) := by
  cases hq : fX4_scoreOf N x1 x2 σ with
  | none => rw [hq] at hf; cases hf
  | some q =>
    rw [hq] at hf
    exact zcalll hA hZ (zrun hC hZ vkX4_62 rfl (zw0 (by decide)) (cX4_scoreOf_ok l D cy a0 aT aP N x1 x2 σ q.1 q.2 hq H.size) hR rfl hsz rfl hW hcs hdg) (fun u H1 locs1 hU hZ1 => by subst hU; exact kk q.1 q.2 H1 locs1 hf hZ1)
end ZK
set_option maxHeartbeats 4000000 in
set_option maxRecDepth 100000 in
theorem wX4_addGive_18 {p : Program} {l : Launch} {e : Env} {s : State} {m : MethodId} {args : Array Value} {below : List Frame} {meth : Method} {c : Code} {Q : State → Prop} {A : Nat → Prop} {H0 : Heap} {D : va_G} {cy : Nat → ClassId} {a0 aT aP : Nat → Nat} {res : zS} {K : Int32 → zS → Option (zS)} (N : Nat) (x1 : Int32) (x2 : Int32) (hC : zC p s m args c RX4 cX4_addGive 5 D cy) (hA : ∀ q, H0.size ≤ q → A q) (hE : zEnd p l e rmX4_addGive s m args below meth c Q D cy shX 38 a0 A H0 res (fun u => u = (aT, aP)) cX4_addGive .return_ []) (n : Nat) (x3 : Int32) (w0 : zS) {H : Heap} {locs : List Loc} {ls : Array Slot} (hf : lX4_addGive_18 N x1 x2 K n (x3, w0) = some res) (hZ : zW D cy shX 38 a0 aT aP A H0 w0 H locs) (hl : lv_has ls 5 [(0, .ref (a0 3)), (1, .int x1), (2, .int x2), (3, .int x3)]) (hK : ∀ x3 : Int32, ∀ (w0 : zS) (H : Heap) (locs : List Loc) (ls : Array Slot), K x3 w0 = some res → zW D cy shX 38 a0 aT aP A H0 w0 H locs → lv_has ls 5 [(0, .ref (a0 3)), (1, .int x1), (2, .int x2), (3, .int x3)] → W p l e rmX4_addGive s m args below meth c H locs 0 0 Q (F0 m 109 ls [])) : W p l e rmX4_addGive s m args below meth c H locs 0 0 Q (F0 m 18 ls []) := by
  have hx := hC.1.1
  have hb := hC.1.2.1
  have hf2 : zlp (fun rc s1 => bX4_addGive_18 N x1 x2 K rc s1.1 s1.2) n (x3, w0) = some res := hf
  have key := zloop (S := Int32 × zS) (α := zS) (b := fun rc s1 => bX4_addGive_18 N x1 x2 K rc s1.1 s1.2) (r := res) (Wd := fun s1 => ∀ (H : Heap) (locs : List Loc) (ls : Array Slot), zW D cy shX 38 a0 aT aP A H0 s1.2 H locs → lv_has ls 5 [(0, .ref (a0 3)), (1, .int x1), (2, .int x2), (3, .int s1.1)] → W p l e rmX4_addGive s m args below meth c H locs 0 0 Q (F0 m 18 ls []))
  refine key ?_ n (x3, w0) hf2 H locs ls hZ hl
  clear hf hf2 hZ hl key
  rintro rc ⟨x3, w0⟩ ih hf H locs ls hZ hl
  have hf : bX4_addGive_18 N x1 x2 K rc x3 w0 = some res := hf
  have hl : lv_has ls 5 [(0, .ref (a0 3)), (1, .int x1), (2, .int x2), (3, .int x3)] := hl
  unfold bX4_addGive_18 at hf
  refine lv_iload_n (pc := 18) hx hb dX4_addGive_18 rfl (lv_at hl 3 rfl) ?_
  refine lv_aload_n (pc := 19) hx hb dX4_addGive_19 rfl (lv_at hl 0 rfl) ?_
  refine gfX4_29 (pc := 20) hC hZ dX4_addGive_20 ?_
  refine z_ige (pc := 23) (tgt := 109) hC hf dX4_addGive_23 (by decide) (fun hf => ?_) (fun hf => ?_)
  · exact hK x3 w0 H locs ls hf hZ (lv_sub hl [0, 1, 2, 3] rfl)
  refine lv_iload_n (pc := 26) hx hb dX4_addGive_26 rfl (lv_at hl 3 rfl) ?_
  refine lv_bipush (pc := 27) (v := (8 : Int32)) hx hb dX4_addGive_27 (by decide) ?_
  refine z_ige (pc := 29) (tgt := 109) hC hf dX4_addGive_29 (by decide) (fun hf => ?_) (fun hf => ?_)
  · exact hK x3 w0 H locs ls hf hZ (lv_sub hl [0, 1, 2, 3] rfl)
  refine lv_iload_n (pc := 32) hx hb dX4_addGive_32 rfl (lv_at hl 2 rfl) ?_
  refine lv_iconst (pc := 33) (v := (1 : Int32)) hx hb dX4_addGive_33 (by decide) ?_
  refine lv_iload_n (pc := 34) hx hb dX4_addGive_34 rfl (lv_at hl 3 rfl) ?_
  refine lv_ishl (pc := 35) hx hb dX4_addGive_35 ?_
  refine lv_iconst (pc := 36) (v := (-1 : Int32)) hx hb dX4_addGive_36 (by decide) ?_
  refine lv_ixor (pc := 37) hx hb dX4_addGive_37 ?_
  refine lv_iand (pc := 38) hx hb dX4_addGive_38 ?_
  refine lv_istore (pc := 39) (lv' := [(4, .int (x2 &&& (((1 : Int32) <<< (x3 &&& 31)) ^^^ (-1 : Int32)))), (0, .ref (a0 3)), (1, .int x1), (2, .int x2), (3, .int x3)]) hx hb dX4_addGive_39 hl (by decide) rfl (fun ls hl => ?_)
  refine lv_iload (pc := 41) hx hb dX4_addGive_41 (lv_at hl 0 rfl) ?_
  refine lv_iload_n (pc := 43) hx hb dX4_addGive_43 rfl (lv_at hl 3 rfl) ?_
  refine z_ieq (pc := 44) (tgt := 103) hC hf dX4_addGive_44 (by decide) (fun hf => ?_) (fun hf => ?_)
  · refine lv_iinc (pc := 103) (v := (x3 + (1 : Int32))) (lv' := [(3, .int (x3 + (1 : Int32))), (4, .int (x2 &&& (((1 : Int32) <<< (x3 &&& 31)) ^^^ (-1 : Int32)))), (0, .ref (a0 3)), (1, .int x1), (2, .int x2)]) hx hb dX4_addGive_103 hl (k := 4) rfl rfl (by decide) rfl (fun ls hl => ?_)
    refine lv_goto (pc := 106) (tgt := 18) hx hb dX4_addGive_106 (by decide) ?_
    exact ih ((x3 + (1 : Int32)), w0) hf H locs ls hZ (lv_sub hl [2, 3, 4, 0] rfl)
  refine lv_aload_n (pc := 47) hx hb dX4_addGive_47 rfl (lv_at hl 1 rfl) ?_
  refine gfX4_22 (pc := 48) hC hZ dX4_addGive_48 ?_
  refine lv_iload_n (pc := 51) hx hb dX4_addGive_51 rfl (lv_at hl 4 rfl) ?_
  refine z_lald (pc := 52) hC hZ (by decide) rfl hf dX4_addGive_52 (fun v1 hf => ?_)
  refine lv_ldc2 (pc := 53) (v := (-1 : Int64)) hx hb hC.1.2.2.2.1 (hC.1.2.2.2.2 _ kcX4_60) dX4_addGive_53 ?_
  refine W.lcmp (pc := 56) hx hb dX4_addGive_56 ?_
  refine z_eq0 (pc := 57) (tgt := 103) hC hf dX4_addGive_57 (by decide) (fun hf => ?_) (fun hf => ?_)
  · refine lv_iinc (pc := 103) (v := (x3 + (1 : Int32))) (lv' := [(3, .int (x3 + (1 : Int32))), (4, .int (x2 &&& (((1 : Int32) <<< (x3 &&& 31)) ^^^ (-1 : Int32)))), (0, .ref (a0 3)), (1, .int x1), (2, .int x2)]) hx hb dX4_addGive_103 hl (k := 4) rfl rfl (by decide) rfl (fun ls hl => ?_)
    refine lv_goto (pc := 106) (tgt := 18) hx hb dX4_addGive_106 (by decide) ?_
    exact ih ((x3 + (1 : Int32)), w0) hf H locs ls hZ (lv_sub hl [2, 3, 4, 0] rfl)
  refine lv_aload_n (pc := 60) hx hb dX4_addGive_60 rfl (lv_at hl 1 rfl) ?_
  refine gfX4_18 (pc := 61) hC hZ dX4_addGive_61 ?_
  refine lv_iload (pc := 64) hx hb dX4_addGive_64 (lv_at hl 0 rfl) ?_
  refine z_lald (pc := 66) hC hZ (by decide) rfl hf dX4_addGive_66 (fun v2 hf => ?_)
  refine lv_ldc2 (pc := 67) (v := (-1 : Int64)) hx hb hC.1.2.2.2.1 (hC.1.2.2.2.2 _ kcX4_60) dX4_addGive_67 ?_
  refine W.lcmp (pc := 70) hx hb dX4_addGive_70 ?_
  refine z_eq0 (pc := 71) (tgt := 103) hC hf dX4_addGive_71 (by decide) (fun hf => ?_) (fun hf => ?_)
  · refine lv_iinc (pc := 103) (v := (x3 + (1 : Int32))) (lv' := [(3, .int (x3 + (1 : Int32))), (4, .int (x2 &&& (((1 : Int32) <<< (x3 &&& 31)) ^^^ (-1 : Int32)))), (0, .ref (a0 3)), (1, .int x1), (2, .int x2)]) hx hb dX4_addGive_103 hl (k := 4) rfl rfl (by decide) rfl (fun ls hl => ?_)
    refine lv_goto (pc := 106) (tgt := 18) hx hb dX4_addGive_106 (by decide) ?_
    exact ih ((x3 + (1 : Int32)), w0) hf H locs ls hZ (lv_sub hl [2, 3, 4, 0] rfl)
  refine lv_aload_n (pc := 74) hx hb dX4_addGive_74 rfl (lv_at hl 1 rfl) ?_
  refine gfX4_18 (pc := 75) hC hZ dX4_addGive_75 ?_
  refine lv_iload_n (pc := 78) hx hb dX4_addGive_78 rfl (lv_at hl 3 rfl) ?_
  refine lv_aload_n (pc := 79) hx hb dX4_addGive_79 rfl (lv_at hl 1 rfl) ?_
  refine gfX4_18 (pc := 80) hC hZ dX4_addGive_80 ?_
  refine lv_iload_n (pc := 83) hx hb dX4_addGive_83 rfl (lv_at hl 3 rfl) ?_
  refine z_lald (pc := 84) hC hZ (by decide) rfl hf dX4_addGive_84 (fun v3 hf => ?_)
  refine lv_aload_n (pc := 85) hx hb dX4_addGive_85 rfl (lv_at hl 1 rfl) ?_
  refine gfX4_18 (pc := 86) hC hZ dX4_addGive_86 ?_
  refine lv_iload (pc := 89) hx hb dX4_addGive_89 (lv_at hl 0 rfl) ?_
  refine z_lald (pc := 91) hC hZ (by decide) rfl hf dX4_addGive_91 (fun v4 hf => ?_)
  refine lv_aload_n (pc := 92) hx hb dX4_addGive_92 rfl (lv_at hl 1 rfl) ?_
  refine gfX4_22 (pc := 93) hC hZ dX4_addGive_93 ?_
  refine lv_iload_n (pc := 96) hx hb dX4_addGive_96 rfl (lv_at hl 4 rfl) ?_
  refine z_lald (pc := 97) hC hZ (by decide) rfl hf dX4_addGive_97 (fun v5 hf => ?_)
  refine lv_ladd (pc := 98) hx hb dX4_addGive_98 ?_
  refine z_maxJ (pc := 99) hC mkX4_70 hl.1 (Nat.le_of_ble_eq_true rfl) (Nat.le_of_ble_eq_true rfl) ⟨Nat.le_refl _, Nat.le_refl _⟩ dX4_addGive_99 ?_
  refine z_last (pc := 102) hC hZ (by decide) rfl hf dX4_addGive_102 (fun w6 H locs hf hZ => ?_)
  refine lv_iinc (pc := 103) (v := (x3 + (1 : Int32))) (lv' := [(3, .int (x3 + (1 : Int32))), (4, .int (x2 &&& (((1 : Int32) <<< (x3 &&& 31)) ^^^ (-1 : Int32)))), (0, .ref (a0 3)), (1, .int x1), (2, .int x2)]) hx hb dX4_addGive_103 hl (k := 4) rfl rfl (by decide) rfl (fun ls hl => ?_)
  refine lv_goto (pc := 106) (tgt := 18) hx hb dX4_addGive_106 (by decide) ?_
  exact ih ((x3 + (1 : Int32)), w6) hf H locs ls hZ (lv_sub hl [2, 3, 4, 0] rfl)
set_option maxHeartbeats 4000000 in
set_option maxRecDepth 100000 in
theorem wX4_addGive_12 {p : Program} {l : Launch} {e : Env} {s : State} {m : MethodId} {args : Array Value} {below : List Frame} {meth : Method} {c : Code} {Q : State → Prop} {A : Nat → Prop} {H0 : Heap} {D : va_G} {cy : Nat → ClassId} {a0 aT aP : Nat → Nat} {res : zS} {K : Int32 → zS → Option (zS)} (N : Nat) (x1 : Int32) (hC : zC p s m args c RX4 cX4_addGive 5 D cy) (hA : ∀ q, H0.size ≤ q → A q) (hE : zEnd p l e rmX4_addGive s m args below meth c Q D cy shX 38 a0 A H0 res (fun u => u = (aT, aP)) cX4_addGive .return_ []) (n : Nat) (x2 : Int32) (w0 : zS) {H : Heap} {locs : List Loc} {ls : Array Slot} (hf : lX4_addGive_12 N x1 K n (x2, w0) = some res) (hZ : zW D cy shX 38 a0 aT aP A H0 w0 H locs) (hl : lv_has ls 5 [(0, .ref (a0 3)), (1, .int x1), (2, .int x2)]) (hK : ∀ x2 : Int32, ∀ (w0 : zS) (H : Heap) (locs : List Loc) (ls : Array Slot), K x2 w0 = some res → zW D cy shX 38 a0 aT aP A H0 w0 H locs → lv_has ls 5 [(0, .ref (a0 3)), (1, .int x1), (2, .int x2)] → W p l e rmX4_addGive s m args below meth c H locs 0 0 Q (F0 m 115 ls [])) : W p l e rmX4_addGive s m args below meth c H locs 0 0 Q (F0 m 12 ls []) := by
  have hx := hC.1.1
  have hb := hC.1.2.1
  have hf2 : zlp (fun rc s1 => bX4_addGive_12 N x1 K rc s1.1 s1.2) n (x2, w0) = some res := hf
  have key := zloop (S := Int32 × zS) (α := zS) (b := fun rc s1 => bX4_addGive_12 N x1 K rc s1.1 s1.2) (r := res) (Wd := fun s1 => ∀ (H : Heap) (locs : List Loc) (ls : Array Slot), zW D cy shX 38 a0 aT aP A H0 s1.2 H locs → lv_has ls 5 [(0, .ref (a0 3)), (1, .int x1), (2, .int s1.1)] → W p l e rmX4_addGive s m args below meth c H locs 0 0 Q (F0 m 12 ls []))
  refine key ?_ n (x2, w0) hf2 H locs ls hZ hl
  clear hf hf2 hZ hl key
  rintro rc ⟨x2, w0⟩ ih hf H locs ls hZ hl
  have hf : bX4_addGive_12 N x1 K rc x2 w0 = some res := hf
  have hl : lv_has ls 5 [(0, .ref (a0 3)), (1, .int x1), (2, .int x2)] := hl
  unfold bX4_addGive_12 at hf
  refine lv_iload_n (pc := 12) hx hb dX4_addGive_12 rfl (lv_at hl 2 rfl) ?_
  refine z_le0 (pc := 13) (tgt := 115) hC hf dX4_addGive_13 (by decide) (fun hf => ?_) (fun hf => ?_)
  · exact hK x2 w0 H locs ls hf hZ (lv_sub hl [0, 1, 2] rfl)
  refine lv_iconst (pc := 16) (v := (0 : Int32)) hx hb dX4_addGive_16 (by decide) ?_
  refine lv_istore_n (pc := 17) (lv' := [(3, .int (0 : Int32)), (0, .ref (a0 3)), (1, .int x1), (2, .int x2)]) hx hb dX4_addGive_17 rfl hl (by decide) rfl (fun ls hl => ?_)
  refine wX4_addGive_18 (res := res) N x1 x2 hC hA hE N _ _ hf hZ (lv_sub hl [1, 2, 3, 0] rfl) (fun y7 w8 H locs ls hf hZ hl => ?_)
  refine lv_iinc (pc := 109) (v := (x2 + (-1 : Int32))) (lv' := [(2, .int (x2 + (-1 : Int32))), (0, .ref (a0 3)), (1, .int x1), (3, .int y7)]) hx hb dX4_addGive_109 hl (k := 2) rfl rfl (by decide) rfl (fun ls hl => ?_)
  refine lv_goto (pc := 112) (tgt := 12) hx hb dX4_addGive_112 (by decide) ?_
  exact ih ((x2 + (-1 : Int32)), w8) hf H locs ls hZ (lv_sub hl [1, 2, 0] rfl)
set_option maxHeartbeats 4000000 in
set_option maxRecDepth 100000 in
theorem cX4_addGive_ok (l : Launch) (D : va_G) (cy : Nat → ClassId) (a0 aT aP : Nat → Nat) (N : Nat) (x1 : Int32) (w0 : zS) (τ : zS) (hf : fX4_addGive N x1 w0 = some τ) : zMv l yX4_addGive cX4_addGive 5 none rmX4_addGive D cy shX 38 a0 aT aP w0 [.ref (a0 3), .int x1] τ (fun u => u = (aT, aP)) := by
  refine zmet_v (by decide +kernel) rfl (Nat.le_of_ble_eq_true rfl) ?_
  intro p e s m below meth c A Q ls hC hA hZ hl hE
  have hx := hC.1.1
  have hb := hC.1.2.1
  have hl : lv_has ls 5 [(0, .ref (a0 3)), (1, .int x1)] := hl
  unfold fX4_addGive at hf
  refine lv_iload_n (pc := 0) hx hb dX4_addGive_0 rfl (lv_at hl 1 rfl) ?_
  refine lv_aload_n (pc := 1) hx hb dX4_addGive_1 rfl (lv_at hl 0 rfl) ?_
  refine gfX4_18 (pc := 2) hC hZ dX4_addGive_2 ?_
  refine z_alen (pc := 5) (v := (256 : Int32)) hC hZ (by decide) rfl rfl (by decide) dX4_addGive_5 ?_
  refine z_min (pc := 6) hC mkX4_81 hl.1 (Nat.le_of_ble_eq_true rfl) (Nat.le_of_ble_eq_true rfl) ⟨Nat.le_refl _, Nat.le_refl _⟩ dX4_addGive_6 ?_
  refine lv_iconst (pc := 9) (v := (1 : Int32)) hx hb dX4_addGive_9 (by decide) ?_
  refine lv_isub (pc := 10) hx hb dX4_addGive_10 ?_
  refine lv_istore_n (pc := 11) (lv' := [(2, .int ((if (256 : Int32) < x1 then (256 : Int32) else x1) - (1 : Int32))), (0, .ref (a0 3)), (1, .int x1)]) hx hb dX4_addGive_11 rfl hl (by decide) rfl (fun ls hl => ?_)
  refine wX4_addGive_12 (res := τ) N x1 hC hA hE N _ _ hf hZ (lv_sub hl [1, 2, 0] rfl) (fun y9 w10 H locs ls hf hZ hl => ?_)
  obtain rfl := Option.some.inj hf
  exact hE _ _ _ _ _ _ rfl hZ dX4_addGive_115
section ZK
variable {p : Program} {l : Launch} {e : Env} {R : Room} {s : State} {m : MethodId} {args : Array Value} {below : List Frame} {meth : Method} {c : Code} {H : Heap} {locs : List Loc} {cells slots : Nat} {Q : State → Prop}
variable {pc : Nat} {ls : Array Slot} {rest : List Value} {A : Nat → Prop} {H0 : Heap} {D : va_G} {cy : Nat → ClassId} {a0 aT aP : Nat → Nat} {σ : zS} {cc : ByteArray} {nL : Nat} {α : Type} {res : α}
theorem vkX4_66 : zVk RX4 66 yX4_addGive cX4_addGive 5 none 1 := ⟨by decide +kernel, by decide +kernel, by decide +kernel, by decide +kernel, by decide +kernel, by decide +kernel⟩
theorem kX4_66 (hC : zC p s m args c RX4 cc nL D cy) (hA : ∀ q, H0.size ≤ q → A q) (hZ : zW D cy shX 38 a0 aT aP A H0 σ H locs) {N : Nat} {x1 : Int32} {k : zS → Option α} (hf : zbv (fX4_addGive N x1 σ) k = some res) (hsz : ls.size = nL) (hW : (rest.map fun v => v.category).sum ≤ 8) (hR : rmX4_addGive.frames + 1 ≤ R.frames ∧ 8 + (5 + 11) + rmX4_addGive.locals ≤ R.locals) (hcs : cells ≤ R.cells ∧ slots ≤ R.slots) (hdg : decode cc pc = .ok (.invokevirtual 66, 3)) (kk : ∀ (τ : zS) (H1 : Heap) (locs1 : List Loc), k τ = some res → zW D cy shX 38 a0 aT aP A H0 τ H1 locs1 → W p l e R s m args below meth c H1 locs1 cells slots Q (F0 m (pc + 3) ls (rest))) : W p l e R s m args below meth c H locs cells slots Q (F0 m pc ls (.int x1 :: .ref (a0 3) :: rest)) := by
  cases hq : fX4_addGive N x1 σ with
  | none => rw [hq] at hf; cases hf
  | some q =>
    rw [hq] at hf
    exact zcallv hA hZ (zrun hC hZ vkX4_66 rfl (zw0 (by decide)) (cX4_addGive_ok l D cy a0 aT aP N x1 σ q hq H.size) hR rfl hsz rfl hW hcs hdg) (fun u H1 locs1 hU hZ1 => by subst hU; exact kk q H1 locs1 hf hZ1)
end ZK
set_option maxHeartbeats 4000000 in
set_option maxRecDepth 100000 in
theorem wX4_solve_9 {p : Program} {l : Launch} {e : Env} {s : State} {m : MethodId} {args : Array Value} {below : List Frame} {meth : Method} {c : Code} {Q : State → Prop} {A : Nat → Prop} {H0 : Heap} {D : va_G} {cy : Nat → ClassId} {a0 aT aP : Nat → Nat} {res : zS} {K : Int32 → zS → Option (zS)} (N : Nat) (x1 : Int32) (hC : zC p s m args c RX4 cX4_solve 4 D cy) (hA : ∀ q, H0.size ≤ q → A q) (hE : zEnd p l e rmX4_solve s m args below meth c Q D cy shX 38 a0 A H0 res (fun u => u = (aT, aP)) cX4_solve .return_ []) (n : Nat) (x2 : Int32) (w0 : zS) {H : Heap} {locs : List Loc} {ls : Array Slot} (hf : lX4_solve_9 N x1 K n (x2, w0) = some res) (hZ : zW D cy shX 38 a0 aT aP A H0 w0 H locs) (hl : lv_has ls 4 [(0, .ref (a0 3)), (1, .int x1), (2, .int x2)]) (hK : ∀ x2 : Int32, ∀ (w0 : zS) (H : Heap) (locs : List Loc) (ls : Array Slot), K x2 w0 = some res → zW D cy shX 38 a0 aT aP A H0 w0 H locs → lv_has ls 4 [(0, .ref (a0 3)), (1, .int x1), (2, .int x2)] → W p l e rmX4_solve s m args below meth c H locs 0 0 Q (F0 m 38 ls [])) : W p l e rmX4_solve s m args below meth c H locs 0 0 Q (F0 m 9 ls []) := by
  have hx := hC.1.1
  have hb := hC.1.2.1
  have hf2 : zlp (fun rc s1 => bX4_solve_9 N x1 K rc s1.1 s1.2) n (x2, w0) = some res := hf
  have key := zloop (S := Int32 × zS) (α := zS) (b := fun rc s1 => bX4_solve_9 N x1 K rc s1.1 s1.2) (r := res) (Wd := fun s1 => ∀ (H : Heap) (locs : List Loc) (ls : Array Slot), zW D cy shX 38 a0 aT aP A H0 s1.2 H locs → lv_has ls 4 [(0, .ref (a0 3)), (1, .int x1), (2, .int s1.1)] → W p l e rmX4_solve s m args below meth c H locs 0 0 Q (F0 m 9 ls []))
  refine key ?_ n (x2, w0) hf2 H locs ls hZ hl
  clear hf hf2 hZ hl key
  rintro rc ⟨x2, w0⟩ ih hf H locs ls hZ hl
  have hf : bX4_solve_9 N x1 K rc x2 w0 = some res := hf
  have hl : lv_has ls 4 [(0, .ref (a0 3)), (1, .int x1), (2, .int x2)] := hl
  unfold bX4_solve_9 at hf
  refine lv_iload_n (pc := 9) hx hb dX4_solve_9 rfl (lv_at hl 2 rfl) ?_
  refine lv_iload_n (pc := 10) hx hb dX4_solve_10 rfl (lv_at hl 1 rfl) ?_
  refine z_ige (pc := 11) (tgt := 38) hC hf dX4_solve_11 (by decide) (fun hf => ?_) (fun hf => ?_)
  · exact hK x2 w0 H locs ls hf hZ (lv_sub hl [0, 1, 2] rfl)
  refine lv_iload_n (pc := 14) hx hb dX4_solve_14 rfl (lv_at hl 2 rfl) ?_
  refine lv_aload_n (pc := 15) hx hb dX4_solve_15 rfl (lv_at hl 0 rfl) ?_
  refine gfX4_18 (pc := 16) hC hZ dX4_solve_16 ?_
  refine z_alen (pc := 19) (v := (256 : Int32)) hC hZ (by decide) rfl rfl (by decide) dX4_solve_19 ?_
  refine z_ige (pc := 20) (tgt := 38) hC hf dX4_solve_20 (by decide) (fun hf => ?_) (fun hf => ?_)
  · exact hK x2 w0 H locs ls hf hZ (lv_sub hl [0, 1, 2] rfl)
  refine lv_aload_n (pc := 23) hx hb dX4_solve_23 rfl (lv_at hl 0 rfl) ?_
  refine gfX4_18 (pc := 24) hC hZ dX4_solve_24 ?_
  refine lv_iload_n (pc := 27) hx hb dX4_solve_27 rfl (lv_at hl 2 rfl) ?_
  refine lv_ldc2 (pc := 28) (v := (-1 : Int64)) hx hb hC.1.2.2.2.1 (hC.1.2.2.2.2 _ kcX4_60) dX4_solve_28 ?_
  refine z_last (pc := 31) hC hZ (by decide) rfl hf dX4_solve_31 (fun w1 H locs hf hZ => ?_)
  refine lv_iinc (pc := 32) (v := (x2 + (1 : Int32))) (lv' := [(2, .int (x2 + (1 : Int32))), (0, .ref (a0 3)), (1, .int x1)]) hx hb dX4_solve_32 hl (k := 2) rfl rfl (by decide) rfl (fun ls hl => ?_)
  refine lv_goto (pc := 35) (tgt := 9) hx hb dX4_solve_35 (by decide) ?_
  exact ih ((x2 + (1 : Int32)), w1) hf H locs ls hZ (lv_sub hl [1, 2, 0] rfl)
set_option maxHeartbeats 4000000 in
set_option maxRecDepth 100000 in
theorem wX4_solve_57 {p : Program} {l : Launch} {e : Env} {s : State} {m : MethodId} {args : Array Value} {below : List Frame} {meth : Method} {c : Code} {Q : State → Prop} {A : Nat → Prop} {H0 : Heap} {D : va_G} {cy : Nat → ClassId} {a0 aT aP : Nat → Nat} {res : zS} {K : Int32 → zS → Option (zS)} (N : Nat) (x1 : Int32) (x2 : Int32) (hC : zC p s m args c RX4 cX4_solve 4 D cy) (hA : ∀ q, H0.size ≤ q → A q) (hE : zEnd p l e rmX4_solve s m args below meth c Q D cy shX 38 a0 A H0 res (fun u => u = (aT, aP)) cX4_solve .return_ []) (n : Nat) (x3 : Int32) (w0 : zS) {H : Heap} {locs : List Loc} {ls : Array Slot} (hf : lX4_solve_57 N x1 x2 K n (x3, w0) = some res) (hZ : zW D cy shX 38 a0 aT aP A H0 w0 H locs) (hl : lv_has ls 4 [(0, .ref (a0 3)), (1, .int x1), (2, .int x2), (3, .int x3)]) (hK : ∀ x3 : Int32, ∀ (w0 : zS) (H : Heap) (locs : List Loc) (ls : Array Slot), K x3 w0 = some res → zW D cy shX 38 a0 aT aP A H0 w0 H locs → lv_has ls 4 [(0, .ref (a0 3)), (1, .int x1), (2, .int x2), (3, .int x3)] → W p l e rmX4_solve s m args below meth c H locs 0 0 Q (F0 m 83 ls [])) : W p l e rmX4_solve s m args below meth c H locs 0 0 Q (F0 m 57 ls []) := by
  have hx := hC.1.1
  have hb := hC.1.2.1
  have hf2 : zlp (fun rc s1 => bX4_solve_57 N x1 x2 K rc s1.1 s1.2) n (x3, w0) = some res := hf
  have key := zloop (S := Int32 × zS) (α := zS) (b := fun rc s1 => bX4_solve_57 N x1 x2 K rc s1.1 s1.2) (r := res) (Wd := fun s1 => ∀ (H : Heap) (locs : List Loc) (ls : Array Slot), zW D cy shX 38 a0 aT aP A H0 s1.2 H locs → lv_has ls 4 [(0, .ref (a0 3)), (1, .int x1), (2, .int x2), (3, .int s1.1)] → W p l e rmX4_solve s m args below meth c H locs 0 0 Q (F0 m 57 ls []))
  refine key ?_ n (x3, w0) hf2 H locs ls hZ hl
  clear hf hf2 hZ hl key
  rintro rc ⟨x3, w0⟩ ih hf H locs ls hZ hl
  have hf : bX4_solve_57 N x1 x2 K rc x3 w0 = some res := hf
  have hl : lv_has ls 4 [(0, .ref (a0 3)), (1, .int x1), (2, .int x2), (3, .int x3)] := hl
  unfold bX4_solve_57 at hf
  refine lv_iload_n (pc := 57) hx hb dX4_solve_57 rfl (lv_at hl 3 rfl) ?_
  refine lv_aload_n (pc := 58) hx hb dX4_solve_58 rfl (lv_at hl 0 rfl) ?_
  refine gfX4_29 (pc := 59) hC hZ dX4_solve_59 ?_
  refine z_ige (pc := 62) (tgt := 83) hC hf dX4_solve_62 (by decide) (fun hf => ?_) (fun hf => ?_)
  · exact hK x3 w0 H locs ls hf hZ (lv_sub hl [0, 1, 2, 3] rfl)
  refine lv_aload_n (pc := 65) hx hb dX4_solve_65 rfl (lv_at hl 0 rfl) ?_
  refine gfX4_22 (pc := 66) hC hZ dX4_solve_66 ?_
  refine lv_iload_n (pc := 69) hx hb dX4_solve_69 rfl (lv_at hl 3 rfl) ?_
  refine lv_aload_n (pc := 70) hx hb dX4_solve_70 rfl (lv_at hl 0 rfl) ?_
  refine lv_iload_n (pc := 71) hx hb dX4_solve_71 rfl (lv_at hl 2 rfl) ?_
  refine lv_iload_n (pc := 72) hx hb dX4_solve_72 rfl (lv_at hl 3 rfl) ?_
  refine kX4_62 (pc := 73) hC hA hZ hf hl.1 (Nat.le_of_ble_eq_true rfl) ⟨Nat.le_of_ble_eq_true rfl, Nat.le_of_ble_eq_true rfl⟩ ⟨Nat.le_refl _, Nat.le_refl _⟩ dX4_solve_73 (fun v6 w5 H locs hf hZ => ?_)
  refine z_last (pc := 76) hC hZ (by decide) rfl hf dX4_solve_76 (fun w7 H locs hf hZ => ?_)
  refine lv_iinc (pc := 77) (v := (x3 + (1 : Int32))) (lv' := [(3, .int (x3 + (1 : Int32))), (0, .ref (a0 3)), (1, .int x1), (2, .int x2)]) hx hb dX4_solve_77 hl (k := 3) rfl rfl (by decide) rfl (fun ls hl => ?_)
  refine lv_goto (pc := 80) (tgt := 57) hx hb dX4_solve_80 (by decide) ?_
  exact ih ((x3 + (1 : Int32)), w7) hf H locs ls hZ (lv_sub hl [1, 2, 3, 0] rfl)
set_option maxHeartbeats 4000000 in
set_option maxRecDepth 100000 in
theorem wX4_solve_47 {p : Program} {l : Launch} {e : Env} {s : State} {m : MethodId} {args : Array Value} {below : List Frame} {meth : Method} {c : Code} {Q : State → Prop} {A : Nat → Prop} {H0 : Heap} {D : va_G} {cy : Nat → ClassId} {a0 aT aP : Nat → Nat} {res : zS} {K : Int32 → zS → Option (zS)} (N : Nat) (x1 : Int32) (hC : zC p s m args c RX4 cX4_solve 4 D cy) (hA : ∀ q, H0.size ≤ q → A q) (hE : zEnd p l e rmX4_solve s m args below meth c Q D cy shX 38 a0 A H0 res (fun u => u = (aT, aP)) cX4_solve .return_ []) (n : Nat) (x2 : Int32) (w0 : zS) {H : Heap} {locs : List Loc} {ls : Array Slot} (hf : lX4_solve_47 N x1 K n (x2, w0) = some res) (hZ : zW D cy shX 38 a0 aT aP A H0 w0 H locs) (hl : lv_has ls 4 [(0, .ref (a0 3)), (1, .int x1), (2, .int x2)]) (hK : ∀ x2 : Int32, ∀ (w0 : zS) (H : Heap) (locs : List Loc) (ls : Array Slot), K x2 w0 = some res → zW D cy shX 38 a0 aT aP A H0 w0 H locs → lv_has ls 4 [(0, .ref (a0 3)), (1, .int x1), (2, .int x2)] → W p l e rmX4_solve s m args below meth c H locs 0 0 Q (F0 m 94 ls [])) : W p l e rmX4_solve s m args below meth c H locs 0 0 Q (F0 m 47 ls []) := by
  have hx := hC.1.1
  have hb := hC.1.2.1
  have hf2 : zlp (fun rc s1 => bX4_solve_47 N x1 K rc s1.1 s1.2) n (x2, w0) = some res := hf
  have key := zloop (S := Int32 × zS) (α := zS) (b := fun rc s1 => bX4_solve_47 N x1 K rc s1.1 s1.2) (r := res) (Wd := fun s1 => ∀ (H : Heap) (locs : List Loc) (ls : Array Slot), zW D cy shX 38 a0 aT aP A H0 s1.2 H locs → lv_has ls 4 [(0, .ref (a0 3)), (1, .int x1), (2, .int s1.1)] → W p l e rmX4_solve s m args below meth c H locs 0 0 Q (F0 m 47 ls []))
  refine key ?_ n (x2, w0) hf2 H locs ls hZ hl
  clear hf hf2 hZ hl key
  rintro rc ⟨x2, w0⟩ ih hf H locs ls hZ hl
  have hf : bX4_solve_47 N x1 K rc x2 w0 = some res := hf
  have hl : lv_has ls 4 [(0, .ref (a0 3)), (1, .int x1), (2, .int x2)] := hl
  unfold bX4_solve_47 at hf
  refine lv_iload_n (pc := 47) hx hb dX4_solve_47 rfl (lv_at hl 2 rfl) ?_
  refine lv_aload_n (pc := 48) hx hb dX4_solve_48 rfl (lv_at hl 0 rfl) ?_
  refine gfX4_25 (pc := 49) hC hZ dX4_solve_49 ?_
  refine z_ige (pc := 52) (tgt := 94) hC hf dX4_solve_52 (by decide) (fun hf => ?_) (fun hf => ?_)
  · exact hK x2 w0 H locs ls hf hZ (lv_sub hl [0, 1, 2] rfl)
  refine lv_iconst (pc := 55) (v := (0 : Int32)) hx hb dX4_solve_55 (by decide) ?_
  refine lv_istore_n (pc := 56) (lv' := [(3, .int (0 : Int32)), (0, .ref (a0 3)), (1, .int x1), (2, .int x2)]) hx hb dX4_solve_56 rfl hl (by decide) rfl (fun ls hl => ?_)
  refine wX4_solve_57 (res := res) N x1 x2 hC hA hE N _ _ hf hZ (lv_sub hl [1, 2, 3, 0] rfl) (fun y8 w9 H locs ls hf hZ hl => ?_)
  refine lv_aload_n (pc := 83) hx hb dX4_solve_83 rfl (lv_at hl 0 rfl) ?_
  refine lv_iload_n (pc := 84) hx hb dX4_solve_84 rfl (lv_at hl 1 rfl) ?_
  refine kX4_66 (pc := 85) hC hA hZ hf hl.1 (Nat.le_of_ble_eq_true rfl) ⟨Nat.le_of_ble_eq_true rfl, Nat.le_of_ble_eq_true rfl⟩ ⟨Nat.le_refl _, Nat.le_refl _⟩ dX4_solve_85 (fun w10 H locs hf hZ => ?_)
  refine lv_iinc (pc := 88) (v := (x2 + (1 : Int32))) (lv' := [(2, .int (x2 + (1 : Int32))), (0, .ref (a0 3)), (1, .int x1), (3, .int y8)]) hx hb dX4_solve_88 hl (k := 2) rfl rfl (by decide) rfl (fun ls hl => ?_)
  refine lv_goto (pc := 91) (tgt := 47) hx hb dX4_solve_91 (by decide) ?_
  exact ih ((x2 + (1 : Int32)), w10) hf H locs ls hZ (lv_sub hl [1, 2, 0] rfl)
set_option maxHeartbeats 4000000 in
set_option maxRecDepth 100000 in
theorem wX4_solve_96 {p : Program} {l : Launch} {e : Env} {s : State} {m : MethodId} {args : Array Value} {below : List Frame} {meth : Method} {c : Code} {Q : State → Prop} {A : Nat → Prop} {H0 : Heap} {D : va_G} {cy : Nat → ClassId} {a0 aT aP : Nat → Nat} {res : zS} {K : Int32 → zS → Option (zS)} (N : Nat) (x1 : Int32) (hC : zC p s m args c RX4 cX4_solve 4 D cy) (hA : ∀ q, H0.size ≤ q → A q) (hE : zEnd p l e rmX4_solve s m args below meth c Q D cy shX 38 a0 A H0 res (fun u => u = (aT, aP)) cX4_solve .return_ []) (n : Nat) (x2 : Int32) (w0 : zS) {H : Heap} {locs : List Loc} {ls : Array Slot} (hf : lX4_solve_96 N x1 K n (x2, w0) = some res) (hZ : zW D cy shX 38 a0 aT aP A H0 w0 H locs) (hl : lv_has ls 4 [(0, .ref (a0 3)), (1, .int x1), (2, .int x2)]) (hK : ∀ x2 : Int32, ∀ (w0 : zS) (H : Heap) (locs : List Loc) (ls : Array Slot), K x2 w0 = some res → zW D cy shX 38 a0 aT aP A H0 w0 H locs → lv_has ls 4 [(0, .ref (a0 3)), (1, .int x1), (2, .int x2)] → W p l e rmX4_solve s m args below meth c H locs 0 0 Q (F0 m 133 ls [])) : W p l e rmX4_solve s m args below meth c H locs 0 0 Q (F0 m 96 ls []) := by
  have hx := hC.1.1
  have hb := hC.1.2.1
  have hf2 : zlp (fun rc s1 => bX4_solve_96 N x1 K rc s1.1 s1.2) n (x2, w0) = some res := hf
  have key := zloop (S := Int32 × zS) (α := zS) (b := fun rc s1 => bX4_solve_96 N x1 K rc s1.1 s1.2) (r := res) (Wd := fun s1 => ∀ (H : Heap) (locs : List Loc) (ls : Array Slot), zW D cy shX 38 a0 aT aP A H0 s1.2 H locs → lv_has ls 4 [(0, .ref (a0 3)), (1, .int x1), (2, .int s1.1)] → W p l e rmX4_solve s m args below meth c H locs 0 0 Q (F0 m 96 ls []))
  refine key ?_ n (x2, w0) hf2 H locs ls hZ hl
  clear hf hf2 hZ hl key
  rintro rc ⟨x2, w0⟩ ih hf H locs ls hZ hl
  have hf : bX4_solve_96 N x1 K rc x2 w0 = some res := hf
  have hl : lv_has ls 4 [(0, .ref (a0 3)), (1, .int x1), (2, .int x2)] := hl
  unfold bX4_solve_96 at hf
  refine lv_iload_n (pc := 96) hx hb dX4_solve_96 rfl (lv_at hl 2 rfl) ?_
  refine lv_iload_n (pc := 97) hx hb dX4_solve_97 rfl (lv_at hl 1 rfl) ?_
  refine z_ige (pc := 98) (tgt := 133) hC hf dX4_solve_98 (by decide) (fun hf => ?_) (fun hf => ?_)
  · exact hK x2 w0 H locs ls hf hZ (lv_sub hl [0, 1, 2] rfl)
  refine lv_iload_n (pc := 101) hx hb dX4_solve_101 rfl (lv_at hl 2 rfl) ?_
  refine lv_aload_n (pc := 102) hx hb dX4_solve_102 rfl (lv_at hl 0 rfl) ?_
  refine gfX4_18 (pc := 103) hC hZ dX4_solve_103 ?_
  refine z_alen (pc := 106) (v := (256 : Int32)) hC hZ (by decide) rfl rfl (by decide) dX4_solve_106 ?_
  refine z_ige (pc := 107) (tgt := 133) hC hf dX4_solve_107 (by decide) (fun hf => ?_) (fun hf => ?_)
  · exact hK x2 w0 H locs ls hf hZ (lv_sub hl [0, 1, 2] rfl)
  refine lv_aload_n (pc := 110) hx hb dX4_solve_110 rfl (lv_at hl 0 rfl) ?_
  refine lv_aload_n (pc := 111) hx hb dX4_solve_111 rfl (lv_at hl 0 rfl) ?_
  refine gfX4_32 (pc := 112) hC hZ dX4_solve_112 ?_
  refine lv_aload_n (pc := 115) hx hb dX4_solve_115 rfl (lv_at hl 0 rfl) ?_
  refine gfX4_18 (pc := 116) hC hZ dX4_solve_116 ?_
  refine lv_iload_n (pc := 119) hx hb dX4_solve_119 rfl (lv_at hl 2 rfl) ?_
  refine z_lald (pc := 120) hC hZ (by decide) rfl hf dX4_solve_120 (fun v13 hf => ?_)
  refine z_maxJ (pc := 121) hC mkX4_70 hl.1 (Nat.le_of_ble_eq_true rfl) (Nat.le_of_ble_eq_true rfl) ⟨Nat.le_refl _, Nat.le_refl _⟩ dX4_solve_121 ?_
  refine pfX4_32 (pc := 124) hC hZ hf dX4_solve_124 (fun w14 H locs hf hZ => ?_)
  refine lv_iinc (pc := 127) (v := (x2 + (1 : Int32))) (lv' := [(2, .int (x2 + (1 : Int32))), (0, .ref (a0 3)), (1, .int x1)]) hx hb dX4_solve_127 hl (k := 2) rfl rfl (by decide) rfl (fun ls hl => ?_)
  refine lv_goto (pc := 130) (tgt := 96) hx hb dX4_solve_130 (by decide) ?_
  exact ih ((x2 + (1 : Int32)), w14) hf H locs ls hZ (lv_sub hl [1, 2, 0] rfl)
set_option maxHeartbeats 4000000 in
set_option maxRecDepth 100000 in
theorem cX4_solve_ok (l : Launch) (D : va_G) (cy : Nat → ClassId) (a0 aT aP : Nat → Nat) (N : Nat)  (w0 : zS) (τ : zS) (hf : fX4_solve N  w0 = some τ) : zMv l yX4_solve cX4_solve 4 none rmX4_solve D cy shX 38 a0 aT aP w0 [.ref (a0 3)] τ (fun u => u = (aT, aP)) := by
  refine zmet_v (by decide +kernel) rfl (Nat.le_of_ble_eq_true rfl) ?_
  intro p e s m below meth c A Q ls hC hA hZ hl hE
  have hx := hC.1.1
  have hb := hC.1.2.1
  have hl : lv_has ls 4 [(0, .ref (a0 3))] := hl
  unfold fX4_solve at hf
  refine lv_iconst (pc := 0) (v := (1 : Int32)) hx hb dX4_solve_0 (by decide) ?_
  refine lv_aload_n (pc := 1) hx hb dX4_solve_1 rfl (lv_at hl 0 rfl) ?_
  refine gfX4_29 (pc := 2) hC hZ dX4_solve_2 ?_
  refine lv_ishl (pc := 5) hx hb dX4_solve_5 ?_
  refine lv_istore_n (pc := 6) (lv' := [(1, .int ((1 : Int32) <<< ((w0.1 0 3 5) &&& 31))), (0, .ref (a0 3))]) hx hb dX4_solve_6 rfl hl (by decide) rfl (fun ls hl => ?_)
  refine lv_iconst (pc := 7) (v := (0 : Int32)) hx hb dX4_solve_7 (by decide) ?_
  refine lv_istore_n (pc := 8) (lv' := [(2, .int (0 : Int32)), (1, .int ((1 : Int32) <<< ((w0.1 0 3 5) &&& 31))), (0, .ref (a0 3))]) hx hb dX4_solve_8 rfl hl (by decide) rfl (fun ls hl => ?_)
  refine wX4_solve_9 (res := τ) N ((1 : Int32) <<< ((w0.1 0 3 5) &&& 31)) hC hA hE N _ _ hf hZ (lv_sub hl [2, 1, 0] rfl) (fun y2 w3 H locs ls hf hZ hl => ?_)
  refine lv_aload_n (pc := 38) hx hb dX4_solve_38 rfl (lv_at hl 0 rfl) ?_
  refine gfX4_18 (pc := 39) hC hZ dX4_solve_39 ?_
  refine lv_iconst (pc := 42) (v := (0 : Int32)) hx hb dX4_solve_42 (by decide) ?_
  refine lv_lconst (pc := 43) (v := (0 : Int64)) hx hb dX4_solve_43 (by decide) ?_
  refine z_last (pc := 44) hC hZ (by decide) rfl hf dX4_solve_44 (fun w4 H locs hf hZ => ?_)
  refine lv_iconst (pc := 45) (v := (0 : Int32)) hx hb dX4_solve_45 (by decide) ?_
  refine lv_istore_n (pc := 46) (lv' := [(2, .int (0 : Int32)), (0, .ref (a0 3)), (1, .int ((1 : Int32) <<< ((w0.1 0 3 5) &&& 31)))]) hx hb dX4_solve_46 rfl hl (by decide) rfl (fun ls hl => ?_)
  refine wX4_solve_47 (res := τ) N ((1 : Int32) <<< ((w0.1 0 3 5) &&& 31)) hC hA hE N _ _ hf hZ (lv_sub hl [1, 2, 0] rfl) (fun y11 w12 H locs ls hf hZ hl => ?_)
  refine lv_iconst (pc := 94) (v := (0 : Int32)) hx hb dX4_solve_94 (by decide) ?_
  refine lv_istore_n (pc := 95) (lv' := [(2, .int (0 : Int32)), (0, .ref (a0 3)), (1, .int ((1 : Int32) <<< ((w0.1 0 3 5) &&& 31)))]) hx hb dX4_solve_95 rfl hl (by decide) rfl (fun ls hl => ?_)
  refine wX4_solve_96 (res := τ) N ((1 : Int32) <<< ((w0.1 0 3 5) &&& 31)) hC hA hE N _ _ hf hZ (lv_sub hl [1, 2, 0] rfl) (fun y15 w16 H locs ls hf hZ hl => ?_)
  obtain rfl := Option.some.inj hf
  exact hE _ _ _ _ _ _ rfl hZ dX4_solve_133
