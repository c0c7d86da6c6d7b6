set_option maxHeartbeats 4000000 in
set_option maxRecDepth 100000 in
theorem cX3_enter_ok (l : Launch) (D : va_G) (cy : Nat → ClassId) (a0 aT aP : Nat → Nat) (N : Nat) (x1 : Int32) (x2 : Int32) (x3 : Int32) (x4 : Int32) (w0 : zS) (τ : zS) (hf : fX3_enter N x1 x2 x3 x4 w0 = some τ) : zMv l yX3_enter cX3_enter 5 none rmX3_enter D cy shX 38 a0 aT aP w0 [.ref (a0 1), .int x1, .int x2, .int x3, .int x4] τ (fun u => u = (aT, aP)) := by
  refine zmet_v (by decide +kernel) rfl (Nat.le_of_ble_eq_true rfl) ?_
  intro p e s m below meth c A Q ls hC hA hZ hl hE
  have hx := hC.1.1
  have hb := hC.1.2.1
  have hl : lv_has ls 5 [(0, .ref (a0 1)), (1, .int x1), (2, .int x2), (3, .int x3), (4, .int x4)] := hl
  unfold fX3_enter at hf
  refine lv_aload_n (pc := 0) hx hb dX3_enter_0 rfl (lv_at hl 0 rfl) ?_
  refine gfX3_24 (pc := 1) hC hZ dX3_enter_1 ?_
  refine lv_sipush (pc := 4) (v := (2000 : Int32)) hx hb dX3_enter_4 (by decide) ?_
  refine z_ilt (pc := 7) (tgt := 11) hC hf dX3_enter_7 (by decide) (fun hf => ?_) (fun hf => ?_)
  · refine lv_aload_n (pc := 11) hx hb dX3_enter_11 rfl (lv_at hl 0 rfl) ?_
    refine gfX3_9 (pc := 12) hC hZ dX3_enter_12 ?_
    refine lv_aload_n (pc := 15) hx hb dX3_enter_15 rfl (lv_at hl 0 rfl) ?_
    refine gfX3_24 (pc := 16) hC hZ dX3_enter_16 ?_
    refine lv_iload_n (pc := 19) hx hb dX3_enter_19 rfl (lv_at hl 1 rfl) ?_
    refine lv_bipush (pc := 20) (v := (6 : Int32)) hx hb dX3_enter_20 (by decide) ?_
    refine lv_imul (pc := 22) hx hb dX3_enter_22 ?_
    refine lv_iload_n (pc := 23) hx hb dX3_enter_23 rfl (lv_at hl 2 rfl) ?_
    refine lv_iadd (pc := 24) hx hb dX3_enter_24 ?_
    refine z_iast (pc := 25) hC hZ (by decide) rfl hf dX3_enter_25 (fun w1 H locs hf hZ => ?_)
    refine lv_aload_n (pc := 26) hx hb dX3_enter_26 rfl (lv_at hl 0 rfl) ?_
    refine gfX3_15 (pc := 27) hC hZ dX3_enter_27 ?_
    refine lv_aload_n (pc := 30) hx hb dX3_enter_30 rfl (lv_at hl 0 rfl) ?_
    refine gfX3_24 (pc := 31) hC hZ dX3_enter_31 ?_
    refine lv_iload_n (pc := 34) hx hb dX3_enter_34 rfl (lv_at hl 3 rfl) ?_
    refine lv_aload_n (pc := 35) hx hb dX3_enter_35 rfl (lv_at hl 0 rfl) ?_
    refine gfX3_28 (pc := 36) hC hZ dX3_enter_36 ?_
    refine lv_bipush (pc := 39) (v := (30 : Int32)) hx hb dX3_enter_39 (by decide) ?_
    refine lv_imul (pc := 41) hx hb dX3_enter_41 ?_
    refine z_max (pc := 42) hC mkX3_31 hl.1 (Nat.le_of_ble_eq_true rfl) (Nat.le_of_ble_eq_true rfl) ⟨Nat.le_refl _, Nat.le_refl _⟩ dX3_enter_42 ?_
    refine z_iast (pc := 45) hC hZ (by decide) rfl hf dX3_enter_45 (fun w2 H locs hf hZ => ?_)
    refine lv_aload_n (pc := 46) hx hb dX3_enter_46 rfl (lv_at hl 0 rfl) ?_
    refine gfX3_18 (pc := 47) hC hZ dX3_enter_47 ?_
    refine lv_aload_n (pc := 50) hx hb dX3_enter_50 rfl (lv_at hl 0 rfl) ?_
    refine gfX3_24 (pc := 51) hC hZ dX3_enter_51 ?_
    refine lv_iload (pc := 54) hx hb dX3_enter_54 (lv_at hl 4 rfl) ?_
    refine z_iast (pc := 56) hC hZ (by decide) rfl hf dX3_enter_56 (fun w3 H locs hf hZ => ?_)
    refine lv_aload_n (pc := 57) hx hb dX3_enter_57 rfl (lv_at hl 0 rfl) ?_
    refine lv_dup (pc := 58) hx hb dX3_enter_58 rfl ?_
    refine gfX3_24 (pc := 59) hC hZ dX3_enter_59 ?_
    refine lv_iconst (pc := 62) (v := (1 : Int32)) hx hb dX3_enter_62 (by decide) ?_
    refine lv_iadd (pc := 63) hx hb dX3_enter_63 ?_
    refine pfX3_24 (pc := 64) hC hZ hf dX3_enter_64 (fun w4 H locs hf hZ => ?_)
    obtain rfl := Option.some.inj hf
    exact hE _ _ _ _ _ _ rfl hZ dX3_enter_67
  obtain rfl := Option.some.inj hf
  exact hE _ _ _ _ _ _ rfl hZ dX3_enter_10
section ZK
variable {p : Program} {l : Launch} {e : Env} {R : Room} {s : State} {m : MethodId} {args : Array Value} {below : List Frame} {meth : Method} {c : Code} {H : Heap} {locs : List Loc} {cells slots : Nat} {Q : State → Prop}
variable {pc : Nat} {ls : Array Slot} {rest : List Value} {A : Nat → Prop} {H0 : Heap} {D : va_G} {cy : Nat → ClassId} {a0 aT aP : Nat → Nat} {σ : zS} {cc : ByteArray} {nL : Nat} {α : Type} {res : α}
theorem vkX7_91 : zVk RX7 91 yX3_enter cX3_enter 5 none 4 := ⟨by decide +kernel, by decide +kernel, by decide +kernel, by decide +kernel, by decide +kernel, by decide +kernel⟩
theorem kX7_91 (hC : zC p s m args c RX7 cc nL D cy) (hA : ∀ q, H0.size ≤ q → A q) (hZ : zW D cy shX 38 a0 aT aP A H0 σ H locs) {N : Nat} {x1 : Int32} {x2 : Int32} {x3 : Int32} {x4 : Int32} {k : zS → Option α} (hf : zbv (fX3_enter N x1 x2 x3 x4 σ) k = some res) (hsz : ls.size = nL) (hW : (rest.map fun v => v.category).sum ≤ 8) (hR : rmX3_enter.frames + 1 ≤ R.frames ∧ 8 + (5 + 11) + rmX3_enter.locals ≤ R.locals) (hcs : cells ≤ R.cells ∧ slots ≤ R.slots) (hdg : decode cc pc = .ok (.invokevirtual 91, 3)) (kk : ∀ (τ : zS) (H1 : Heap) (locs1 : List Loc), k τ = some res → zW D cy shX 38 a0 aT aP A H0 τ H1 locs1 → W p l e R s m args below meth c H1 locs1 cells slots Q (F0 m (pc + 3) ls (rest))) : W p l e R s m args below meth c H locs cells slots Q (F0 m pc ls (.int x4 :: .int x3 :: .int x2 :: .int x1 :: .ref (a0 1) :: rest)) := by
  cases hq : fX3_enter N x1 x2 x3 x4 σ with
  | none => rw [hq] at hf; cases hf
  | some q =>
    rw [hq] at hf
    exact zcallv hA hZ (zrun hC hZ vkX7_91 rfl (zw0 (by decide)) (cX3_enter_ok l D cy a0 aT aP N x1 x2 x3 x4 σ q hq H.size) hR rfl hsz rfl hW hcs hdg) (fun u H1 locs1 hU hZ1 => by subst hU; exact kk q H1 locs1 hf hZ1)
end ZK
set_option maxHeartbeats 4000000 in
set_option maxRecDepth 100000 in
theorem wX3_sumUpTo_14 {p : Program} {l : Launch} {e : Env} {s : State} {m : MethodId} {args : Array Value} {below : List Frame} {meth : Method} {c : Code} {Q : State → Prop} {A : Nat → Prop} {H0 : Heap} {D : va_G} {cy : Nat → ClassId} {a0 aT aP : Nat → Nat} {res : Int32 × zS} {K : Int32 → Int32 → zS → Option (Int32 × zS)} (N : Nat) (x1 : Int32) (x2 : Int32) (x3 : Int32) (x4 : Int32) (hC : zC p s m args c RX3 cX3_sumUpTo 7 D cy) (hA : ∀ q, H0.size ≤ q → A q) (hE : zEnd p l e rmX3_sumUpTo s m args below meth c Q D cy shX 38 a0 A H0 res.2 (fun u => u = (aT, aP)) cX3_sumUpTo .ireturn [.int res.1]) (n : Nat) (x5 : Int32) (x6 : Int32) (w0 : zS) {H : Heap} {locs : List Loc} {ls : Array Slot} (hf : lX3_sumUpTo_14 N x1 x2 x3 x4 K n (x5, x6, w0) = some res) (hZ : zW D cy shX 38 a0 aT aP A H0 w0 H locs) (hl : lv_has ls 7 [(0, .ref (a0 1)), (1, .int x1), (2, .int x2), (3, .int x3), (4, .int x4), (5, .int x5), (6, .int x6)]) (hK : ∀ x5 : Int32, ∀ x6 : Int32, ∀ (w0 : zS) (H : Heap) (locs : List Loc) (ls : Array Slot), K x5 x6 w0 = some res → zW D cy shX 38 a0 aT aP A H0 w0 H locs → lv_has ls 7 [(0, .ref (a0 1)), (1, .int x1), (2, .int x2), (3, .int x3), (4, .int x4), (5, .int x5), (6, .int x6)] → W p l e rmX3_sumUpTo s m args below meth c H locs 0 0 Q (F0 m 64 ls [])) : W p l e rmX3_sumUpTo s m args below meth c H locs 0 0 Q (F0 m 14 ls []) := by
  have hx := hC.1.1
  have hb := hC.1.2.1
  have hf2 : zlp (fun rc s1 => bX3_sumUpTo_14 N x1 x2 x3 x4 K rc s1.1 s1.2.1 s1.2.2) n (x5, x6, w0) = some res := hf
  have key := zloop (S := Int32 × Int32 × zS) (α := Int32 × zS) (b := fun rc s1 => bX3_sumUpTo_14 N x1 x2 x3 x4 K rc s1.1 s1.2.1 s1.2.2) (r := res) (Wd := fun s1 => ∀ (H : Heap) (locs : List Loc) (ls : Array Slot), zW D cy shX 38 a0 aT aP A H0 s1.2.2 H locs → lv_has ls 7 [(0, .ref (a0 1)), (1, .int x1), (2, .int x2), (3, .int x3), (4, .int x4), (5, .int s1.1), (6, .int s1.2.1)] → W p l e rmX3_sumUpTo s m args below meth c H locs 0 0 Q (F0 m 14 ls []))
  refine key ?_ n (x5, x6, w0) hf2 H locs ls hZ hl
  clear hf hf2 hZ hl key
  rintro rc ⟨x5, x6, w0⟩ ih hf H locs ls hZ hl
  have hf : bX3_sumUpTo_14 N x1 x2 x3 x4 K rc x5 x6 w0 = some res := hf
  have hl : lv_has ls 7 [(0, .ref (a0 1)), (1, .int x1), (2, .int x2), (3, .int x3), (4, .int x4), (5, .int x5), (6, .int x6)] := hl
  unfold bX3_sumUpTo_14 at hf
  refine lv_iload (pc := 14) hx hb dX3_sumUpTo_14 (lv_at hl 6 rfl) ?_
  refine lv_aload_n (pc := 16) hx hb dX3_sumUpTo_16 rfl (lv_at hl 0 rfl) ?_
  refine gfX3_24 (pc := 17) hC hZ dX3_sumUpTo_17 ?_
  refine z_ige (pc := 20) (tgt := 64) hC hf dX3_sumUpTo_20 (by decide) (fun hf => ?_) (fun hf => ?_)
  · exact hK x5 x6 w0 H locs ls hf hZ (lv_sub hl [0, 1, 2, 3, 4, 5, 6] rfl)
  refine lv_aload_n (pc := 23) hx hb dX3_sumUpTo_23 rfl (lv_at hl 0 rfl) ?_
  refine gfX3_9 (pc := 24) hC hZ dX3_sumUpTo_24 ?_
  refine lv_iload (pc := 27) hx hb dX3_sumUpTo_27 (lv_at hl 6 rfl) ?_
  refine z_iald (pc := 29) hC hZ (by decide) rfl hf dX3_sumUpTo_29 (fun v1 hf => ?_)
  refine lv_iload (pc := 30) hx hb dX3_sumUpTo_30 (lv_at hl 4 rfl) ?_
  refine z_ine (pc := 32) (tgt := 58) hC hf dX3_sumUpTo_32 (by decide) (fun hf => ?_) (fun hf => ?_)
  · refine lv_aload_n (pc := 35) hx hb dX3_sumUpTo_35 rfl (lv_at hl 0 rfl) ?_
    refine gfX3_15 (pc := 36) hC hZ dX3_sumUpTo_36 ?_
    refine lv_iload (pc := 39) hx hb dX3_sumUpTo_39 (lv_at hl 6 rfl) ?_
    refine z_iald (pc := 41) hC hZ (by decide) rfl hf dX3_sumUpTo_41 (fun v2 hf => ?_)
    refine lv_iload_n (pc := 42) hx hb dX3_sumUpTo_42 rfl (lv_at hl 3 rfl) ?_
    refine z_igt (pc := 43) (tgt := 58) hC hf dX3_sumUpTo_43 (by decide) (fun hf => ?_) (fun hf => ?_)
    · refine lv_iinc (pc := 58) (v := (x6 + (1 : Int32))) (lv' := [(6, .int (x6 + (1 : Int32))), (0, .ref (a0 1)), (1, .int x1), (2, .int x2), (3, .int x3), (4, .int x4), (5, .int x5)]) hx hb dX3_sumUpTo_58 hl (k := 6) rfl rfl (by decide) rfl (fun ls hl => ?_)
      refine lv_goto (pc := 61) (tgt := 14) hx hb dX3_sumUpTo_61 (by decide) ?_
      exact ih (x5, (x6 + (1 : Int32)), w0) hf H locs ls hZ (lv_sub hl [1, 2, 3, 4, 5, 6, 0] rfl)
    refine lv_iload (pc := 46) hx hb dX3_sumUpTo_46 (lv_at hl 5 rfl) ?_
    refine lv_aload_n (pc := 48) hx hb dX3_sumUpTo_48 rfl (lv_at hl 0 rfl) ?_
    refine gfX3_18 (pc := 49) hC hZ dX3_sumUpTo_49 ?_
    refine lv_iload (pc := 52) hx hb dX3_sumUpTo_52 (lv_at hl 6 rfl) ?_
    refine z_iald (pc := 54) hC hZ (by decide) rfl hf dX3_sumUpTo_54 (fun v3 hf => ?_)
    refine lv_iadd (pc := 55) hx hb dX3_sumUpTo_55 ?_
    refine lv_istore (pc := 56) (lv' := [(5, .int (x5 + v3)), (0, .ref (a0 1)), (1, .int x1), (2, .int x2), (3, .int x3), (4, .int x4), (6, .int x6)]) hx hb dX3_sumUpTo_56 hl (by decide) rfl (fun ls hl => ?_)
    refine lv_iinc (pc := 58) (v := (x6 + (1 : Int32))) (lv' := [(6, .int (x6 + (1 : Int32))), (5, .int (x5 + v3)), (0, .ref (a0 1)), (1, .int x1), (2, .int x2), (3, .int x3), (4, .int x4)]) hx hb dX3_sumUpTo_58 hl (k := 6) rfl rfl (by decide) rfl (fun ls hl => ?_)
    refine lv_goto (pc := 61) (tgt := 14) hx hb dX3_sumUpTo_61 (by decide) ?_
    exact ih ((x5 + v3), (x6 + (1 : Int32)), w0) hf H locs ls hZ (lv_sub hl [2, 3, 4, 5, 6, 1, 0] rfl)
  refine lv_iinc (pc := 58) (v := (x6 + (1 : Int32))) (lv' := [(6, .int (x6 + (1 : Int32))), (0, .ref (a0 1)), (1, .int x1), (2, .int x2), (3, .int x3), (4, .int x4), (5, .int x5)]) hx hb dX3_sumUpTo_58 hl (k := 6) rfl rfl (by decide) rfl (fun ls hl => ?_)
  refine lv_goto (pc := 61) (tgt := 14) hx hb dX3_sumUpTo_61 (by decide) ?_
  exact ih (x5, (x6 + (1 : Int32)), w0) hf H locs ls hZ (lv_sub hl [1, 2, 3, 4, 5, 6, 0] rfl)
set_option maxHeartbeats 4000000 in
set_option maxRecDepth 100000 in
theorem cX3_sumUpTo_ok (l : Launch) (D : va_G) (cy : Nat → ClassId) (a0 aT aP : Nat → Nat) (N : Nat) (x1 : Int32) (x2 : Int32) (x3 : Int32) (w0 : zS) (rv : Int32) (τ : zS) (hf : fX3_sumUpTo N x1 x2 x3 w0 = some (rv, τ)) : zMi l yX3_sumUpTo cX3_sumUpTo 7 (some .int) rmX3_sumUpTo D cy shX 38 a0 aT aP w0 [.ref (a0 1), .int x1, .int x2, .int x3] rv τ (fun u => u = (aT, aP)) := by
  refine zmet_i (by decide +kernel) (Or.inl rfl) (Nat.le_of_ble_eq_true rfl) ?_
  intro p e s m below meth c A Q ls hC hA hZ hl hE
  have hx := hC.1.1
  have hb := hC.1.2.1
  have hl : lv_has ls 7 [(0, .ref (a0 1)), (1, .int x1), (2, .int x2), (3, .int x3)] := hl
  unfold fX3_sumUpTo at hf
  refine lv_iload_n (pc := 0) hx hb dX3_sumUpTo_0 rfl (lv_at hl 1 rfl) ?_
  refine lv_bipush (pc := 1) (v := (6 : Int32)) hx hb dX3_sumUpTo_1 (by decide) ?_
  refine lv_imul (pc := 3) hx hb dX3_sumUpTo_3 ?_
  refine lv_iload_n (pc := 4) hx hb dX3_sumUpTo_4 rfl (lv_at hl 2 rfl) ?_
  refine lv_iadd (pc := 5) hx hb dX3_sumUpTo_5 ?_
  refine lv_istore (pc := 6) (lv' := [(4, .int ((x1 * (6 : Int32)) + x2)), (0, .ref (a0 1)), (1, .int x1), (2, .int x2), (3, .int x3)]) hx hb dX3_sumUpTo_6 hl (by decide) rfl (fun ls hl => ?_)
  refine lv_iconst (pc := 8) (v := (0 : Int32)) hx hb dX3_sumUpTo_8 (by decide) ?_
  refine lv_istore (pc := 9) (lv' := [(5, .int (0 : Int32)), (4, .int ((x1 * (6 : Int32)) + x2)), (0, .ref (a0 1)), (1, .int x1), (2, .int x2), (3, .int x3)]) hx hb dX3_sumUpTo_9 hl (by decide) rfl (fun ls hl => ?_)
  refine lv_iconst (pc := 11) (v := (0 : Int32)) hx hb dX3_sumUpTo_11 (by decide) ?_
  refine lv_istore (pc := 12) (lv' := [(6, .int (0 : Int32)), (5, .int (0 : Int32)), (4, .int ((x1 * (6 : Int32)) + x2)), (0, .ref (a0 1)), (1, .int x1), (2, .int x2), (3, .int x3)]) hx hb dX3_sumUpTo_12 hl (by decide) rfl (fun ls hl => ?_)
  refine wX3_sumUpTo_14 (res := (rv, τ)) N x1 x2 x3 ((x1 * (6 : Int32)) + x2) hC hA hE N _ _ _ hf hZ (lv_sub hl [3, 4, 5, 6, 2, 1, 0] rfl) (fun y4 y5 w6 H locs ls hf hZ hl => ?_)
  refine lv_iload (pc := 64) hx hb dX3_sumUpTo_64 (lv_at hl 5 rfl) ?_
  obtain ⟨rfl, rfl⟩ := zinj hf
  exact hE _ _ _ _ _ _ rfl hZ dX3_sumUpTo_66
section ZK
variable {p : Program} {l : Launch} {e : Env} {R : Room} {s : State} {m : MethodId} {args : Array Value} {below : List Frame} {meth : Method} {c : Code} {H : Heap} {locs : List Loc} {cells slots : Nat} {Q : State → Prop}
variable {pc : Nat} {ls : Array Slot} {rest : List Value} {A : Nat → Prop} {H0 : Heap} {D : va_G} {cy : Nat → ClassId} {a0 aT aP : Nat → Nat} {σ : zS} {cc : ByteArray} {nL : Nat} {α : Type} {res : α}
theorem vkX7_95 : zVk RX7 95 yX3_sumUpTo cX3_sumUpTo 7 (some .int) 3 := ⟨by decide +kernel, by decide +kernel, by decide +kernel, by decide +kernel, by decide +kernel, by decide +kernel⟩
theorem kX7_95 (hC : zC p s m args c RX7 cc nL D cy) (hA : ∀ q, H0.size ≤ q → A q) (hZ : zW D cy shX 38 a0 aT aP A H0 σ H locs) {N : Nat} {x1 : Int32} {x2 : Int32} {x3 : Int32} {k : Int32 → zS → Option α} (hf : zbi (fX3_sumUpTo N x1 x2 x3 σ) k = some res) (hsz : ls.size = nL) (hW : (rest.map fun v => v.category).sum ≤ 8) (hR : rmX3_sumUpTo.frames + 1 ≤ R.frames ∧ 8 + (7 + 11) + rmX3_sumUpTo.locals ≤ R.locals) (hcs : cells ≤ R.cells ∧ slots ≤ R.slots) (hdg : decode cc pc = .ok (.invokevirtual 95, 3)) (kk : ∀ (v : Int32) (τ : zS) (H1 : Heap) (locs1 : List Loc), k v τ = some res → zW D cy shX 38 a0 aT aP A H0 τ H1 locs1 → W p l e R s m args below meth c H1 locs1 cells slots Q (F0 m (pc + 3) ls (.int v :: rest))) : W p l e R s m args below meth c H locs cells slots Q (F0 m pc ls (.int x3 :: .int x2 :: .int x1 :: .ref (a0 1) :: rest)) := by
  cases hq : fX3_sumUpTo N x1 x2 x3 σ with
  | none => rw [hq] at hf; cases hf
  | some q =>
    rw [hq] at hf
    exact zcalli hA hZ (zrun hC hZ vkX7_95 rfl (zw0 (by decide)) (cX3_sumUpTo_ok l D cy a0 aT aP N x1 x2 x3 σ q.1 q.2 hq H.size) hR rfl hsz rfl hW hcs hdg) (fun u H1 locs1 hU hZ1 => by subst hU; exact kk q.1 q.2 H1 locs1 hf hZ1)
end ZK
set_option maxHeartbeats 4000000 in
set_option maxRecDepth 100000 in
theorem cX7_buy_ok (l : Launch) (D : va_G) (cy : Nat → ClassId) (a0 aT aP : Nat → Nat) (N : Nat) (x1 : Int32) (x2 : Int32) (x3 : Int32) (w0 : zS) (rv : Int32) (τ : zS) (hf : fX7_buy N x1 x2 x3 w0 = some (rv, τ)) : zMi l yX7_buy cX7_buy 4 (some .int) rmX7_buy D cy shX 38 a0 aT aP w0 [.ref (a0 0), .int x1, .int x2, .int x3] rv τ (fun u => u = (aT, aP)) := by
  refine zmet_i (by decide +kernel) (Or.inl rfl) (Nat.le_of_ble_eq_true rfl) ?_
  intro p e s m below meth c A Q ls hC hA hZ hl hE
  have hx := hC.1.1
  have hb := hC.1.2.1
  have hl : lv_has ls 4 [(0, .ref (a0 0)), (1, .int x1), (2, .int x2), (3, .int x3)] := hl
  unfold fX7_buy at hf
  refine lv_aload_n (pc := 0) hx hb dX7_buy_0 rfl (lv_at hl 0 rfl) ?_
  refine lv_iload_n (pc := 1) hx hb dX7_buy_1 rfl (lv_at hl 1 rfl) ?_
  refine kX7_77 (pc := 2) hC hA hZ hf hl.1 (Nat.le_of_ble_eq_true rfl) ⟨Nat.le_of_ble_eq_true rfl, Nat.le_of_ble_eq_true rfl⟩ ⟨Nat.le_refl _, Nat.le_refl _⟩ dX7_buy_2 (fun v2 w1 H locs hf hZ => ?_)
  refine z_eq0 (pc := 5) (tgt := 16) hC hf dX7_buy_5 (by decide) (fun hf => ?_) (fun hf => ?_)
  · refine lv_aload_n (pc := 16) hx hb dX7_buy_16 rfl (lv_at hl 0 rfl) ?_
    refine lv_iconst (pc := 17) (v := (-1 : Int32)) hx hb dX7_buy_17 (by decide) ?_
    refine kX7_84 (pc := 18) hC hA hZ hf hl.1 (Nat.le_of_ble_eq_true rfl) ⟨Nat.le_of_ble_eq_true rfl, Nat.le_of_ble_eq_true rfl⟩ ⟨Nat.le_refl _, Nat.le_refl _⟩ dX7_buy_18 (fun v4 w3 H locs hf hZ => ?_)
    obtain ⟨rfl, rfl⟩ := zinj hf
    exact hE _ _ _ _ _ _ rfl hZ dX7_buy_21
  refine lv_aload_n (pc := 8) hx hb dX7_buy_8 rfl (lv_at hl 0 rfl) ?_
  refine lv_iload_n (pc := 9) hx hb dX7_buy_9 rfl (lv_at hl 2 rfl) ?_
  refine kX7_81 (pc := 10) hC hA hZ hf hl.1 (Nat.le_of_ble_eq_true rfl) ⟨Nat.le_of_ble_eq_true rfl, Nat.le_of_ble_eq_true rfl⟩ ⟨Nat.le_refl _, Nat.le_refl _⟩ dX7_buy_10 (fun v6 w5 H locs hf hZ => ?_)
  refine z_ne0 (pc := 13) (tgt := 22) hC hf dX7_buy_13 (by decide) (fun hf => ?_) (fun hf => ?_)
  · refine lv_aload_n (pc := 16) hx hb dX7_buy_16 rfl (lv_at hl 0 rfl) ?_
    refine lv_iconst (pc := 17) (v := (-1 : Int32)) hx hb dX7_buy_17 (by decide) ?_
    refine kX7_84 (pc := 18) hC hA hZ hf hl.1 (Nat.le_of_ble_eq_true rfl) ⟨Nat.le_of_ble_eq_true rfl, Nat.le_of_ble_eq_true rfl⟩ ⟨Nat.le_refl _, Nat.le_refl _⟩ dX7_buy_18 (fun v8 w7 H locs hf hZ => ?_)
    obtain ⟨rfl, rfl⟩ := zinj hf
    exact hE _ _ _ _ _ _ rfl hZ dX7_buy_21
  refine lv_iload_n (pc := 22) hx hb dX7_buy_22 rfl (lv_at hl 3 rfl) ?_
  refine lv_iconst (pc := 23) (v := (1 : Int32)) hx hb dX7_buy_23 (by decide) ?_
  refine z_ige (pc := 24) (tgt := 34) hC hf dX7_buy_24 (by decide) (fun hf => ?_) (fun hf => ?_)
  · refine lv_iload_n (pc := 34) hx hb dX7_buy_34 rfl (lv_at hl 3 rfl) ?_
    refine lv_sipush (pc := 35) (v := (1000 : Int32)) hx hb dX7_buy_35 (by decide) ?_
    refine z_igt (pc := 38) (tgt := 52) hC hf dX7_buy_38 (by decide) (fun hf => ?_) (fun hf => ?_)
    · refine lv_aload_n (pc := 52) hx hb dX7_buy_52 rfl (lv_at hl 0 rfl) ?_
      refine lv_bipush (pc := 53) (v := (-6 : Int32)) hx hb dX7_buy_53 (by decide) ?_
      refine kX7_84 (pc := 55) hC hA hZ hf hl.1 (Nat.le_of_ble_eq_true rfl) ⟨Nat.le_of_ble_eq_true rfl, Nat.le_of_ble_eq_true rfl⟩ ⟨Nat.le_refl _, Nat.le_refl _⟩ dX7_buy_55 (fun v10 w9 H locs hf hZ => ?_)
      obtain ⟨rfl, rfl⟩ := zinj hf
      exact hE _ _ _ _ _ _ rfl hZ dX7_buy_58
    refine lv_aload_n (pc := 41) hx hb dX7_buy_41 rfl (lv_at hl 0 rfl) ?_
    refine gfX7_35 (pc := 42) hC hZ dX7_buy_42 ?_
    refine kX7_87 (pc := 45) hC hA hZ hf hl.1 (Nat.le_of_ble_eq_true rfl) ⟨Nat.le_of_ble_eq_true rfl, Nat.le_of_ble_eq_true rfl⟩ ⟨Nat.le_refl _, Nat.le_refl _⟩ dX7_buy_45 (fun v12 w11 H locs hf hZ => ?_)
    refine lv_iconst (pc := 48) (v := (1 : Int32)) hx hb dX7_buy_48 (by decide) ?_
    refine z_ige (pc := 49) (tgt := 59) hC hf dX7_buy_49 (by decide) (fun hf => ?_) (fun hf => ?_)
    · refine lv_aload_n (pc := 59) hx hb dX7_buy_59 rfl (lv_at hl 0 rfl) ?_
      refine gfX7_35 (pc := 60) hC hZ dX7_buy_60 ?_
      refine lv_iload_n (pc := 63) hx hb dX7_buy_63 rfl (lv_at hl 1 rfl) ?_
      refine lv_iload_n (pc := 64) hx hb dX7_buy_64 rfl (lv_at hl 2 rfl) ?_
      refine lv_aload_n (pc := 65) hx hb dX7_buy_65 rfl (lv_at hl 0 rfl) ?_
      refine gfX7_60 (pc := 66) hC hZ dX7_buy_66 ?_
      refine lv_iload_n (pc := 69) hx hb dX7_buy_69 rfl (lv_at hl 3 rfl) ?_
      refine kX7_91 (pc := 70) hC hA hZ hf hl.1 (Nat.le_of_ble_eq_true rfl) ⟨Nat.le_of_ble_eq_true rfl, Nat.le_of_ble_eq_true rfl⟩ ⟨Nat.le_refl _, Nat.le_refl _⟩ dX7_buy_70 (fun w13 H locs hf hZ => ?_)
      refine lv_aload_n (pc := 73) hx hb dX7_buy_73 rfl (lv_at hl 0 rfl) ?_
      refine gfX7_16 (pc := 74) hC hZ dX7_buy_74 ?_
      refine lv_iload_n (pc := 77) hx hb dX7_buy_77 rfl (lv_at hl 2 rfl) ?_
      refine lv_dup2_11 (pc := 78) hx hb dX7_buy_78 rfl rfl ?_
      refine z_iald (pc := 79) hC hZ (by decide) rfl hf dX7_buy_79 (fun v14 hf => ?_)
      refine lv_iload_n (pc := 80) hx hb dX7_buy_80 rfl (lv_at hl 3 rfl) ?_
      refine lv_iadd (pc := 81) hx hb dX7_buy_81 ?_
      refine z_iast (pc := 82) hC hZ (by decide) rfl hf dX7_buy_82 (fun w15 H locs hf hZ => ?_)
      refine lv_aload_n (pc := 83) hx hb dX7_buy_83 rfl (lv_at hl 0 rfl) ?_
      refine gfX7_35 (pc := 84) hC hZ dX7_buy_84 ?_
      refine lv_iload_n (pc := 87) hx hb dX7_buy_87 rfl (lv_at hl 1 rfl) ?_
      refine lv_iload_n (pc := 88) hx hb dX7_buy_88 rfl (lv_at hl 2 rfl) ?_
      refine lv_aload_n (pc := 89) hx hb dX7_buy_89 rfl (lv_at hl 0 rfl) ?_
      refine gfX7_60 (pc := 90) hC hZ dX7_buy_90 ?_
      refine kX7_95 (pc := 93) hC hA hZ hf hl.1 (Nat.le_of_ble_eq_true rfl) ⟨Nat.le_of_ble_eq_true rfl, Nat.le_of_ble_eq_true rfl⟩ ⟨Nat.le_refl _, Nat.le_refl _⟩ dX7_buy_93 (fun v17 w16 H locs hf hZ => ?_)
      obtain ⟨rfl, rfl⟩ := zinj hf
      exact hE _ _ _ _ _ _ rfl hZ dX7_buy_96
    refine lv_aload_n (pc := 52) hx hb dX7_buy_52 rfl (lv_at hl 0 rfl) ?_
    refine lv_bipush (pc := 53) (v := (-6 : Int32)) hx hb dX7_buy_53 (by decide) ?_
    refine kX7_84 (pc := 55) hC hA hZ hf hl.1 (Nat.le_of_ble_eq_true rfl) ⟨Nat.le_of_ble_eq_true rfl, Nat.le_of_ble_eq_true rfl⟩ ⟨Nat.le_refl _, Nat.le_refl _⟩ dX7_buy_55 (fun v19 w18 H locs hf hZ => ?_)
    obtain ⟨rfl, rfl⟩ := zinj hf
    exact hE _ _ _ _ _ _ rfl hZ dX7_buy_58
  refine lv_aload_n (pc := 27) hx hb dX7_buy_27 rfl (lv_at hl 0 rfl) ?_
  refine lv_bipush (pc := 28) (v := (-4 : Int32)) hx hb dX7_buy_28 (by decide) ?_
  refine kX7_84 (pc := 30) hC hA hZ hf hl.1 (Nat.le_of_ble_eq_true rfl) ⟨Nat.le_of_ble_eq_true rfl, Nat.le_of_ble_eq_true rfl⟩ ⟨Nat.le_refl _, Nat.le_refl _⟩ dX7_buy_30 (fun v21 w20 H locs hf hZ => ?_)
  obtain ⟨rfl, rfl⟩ := zinj hf
  exact hE _ _ _ _ _ _ rfl hZ dX7_buy_33
set_option maxHeartbeats 4000000 in
set_option maxRecDepth 100000 in
theorem cX7_scrap_ok (l : Launch) (D : va_G) (cy : Nat → ClassId) (a0 aT aP : Nat → Nat) (N : Nat) (x1 : Int32) (x2 : Int32) (x3 : Int32) (w0 : zS) (rv : Int32) (τ : zS) (hf : fX7_scrap N x1 x2 x3 w0 = some (rv, τ)) : zMi l yX7_scrap cX7_scrap 4 (some .int) rmX7_scrap D cy shX 38 a0 aT aP w0 [.ref (a0 0), .int x1, .int x2, .int x3] rv τ (fun u => u = (aT, aP)) := by
  refine zmet_i (by decide +kernel) (Or.inl rfl) (Nat.le_of_ble_eq_true rfl) ?_
  intro p e s m below meth c A Q ls hC hA hZ hl hE
  have hx := hC.1.1
  have hb := hC.1.2.1
  have hl : lv_has ls 4 [(0, .ref (a0 0)), (1, .int x1), (2, .int x2), (3, .int x3)] := hl
  unfold fX7_scrap at hf
  refine lv_aload_n (pc := 0) hx hb dX7_scrap_0 rfl (lv_at hl 0 rfl) ?_
  refine lv_iload_n (pc := 1) hx hb dX7_scrap_1 rfl (lv_at hl 1 rfl) ?_
  refine kX7_77 (pc := 2) hC hA hZ hf hl.1 (Nat.le_of_ble_eq_true rfl) ⟨Nat.le_of_ble_eq_true rfl, Nat.le_of_ble_eq_true rfl⟩ ⟨Nat.le_refl _, Nat.le_refl _⟩ dX7_scrap_2 (fun v2 w1 H locs hf hZ => ?_)
  refine z_eq0 (pc := 5) (tgt := 16) hC hf dX7_scrap_5 (by decide) (fun hf => ?_) (fun hf => ?_)
  · refine lv_aload_n (pc := 16) hx hb dX7_scrap_16 rfl (lv_at hl 0 rfl) ?_
    refine lv_iconst (pc := 17) (v := (-1 : Int32)) hx hb dX7_scrap_17 (by decide) ?_
    refine kX7_84 (pc := 18) hC hA hZ hf hl.1 (Nat.le_of_ble_eq_true rfl) ⟨Nat.le_of_ble_eq_true rfl, Nat.le_of_ble_eq_true rfl⟩ ⟨Nat.le_refl _, Nat.le_refl _⟩ dX7_scrap_18 (fun v4 w3 H locs hf hZ => ?_)
    obtain ⟨rfl, rfl⟩ := zinj hf
    exact hE _ _ _ _ _ _ rfl hZ dX7_scrap_21
  refine lv_aload_n (pc := 8) hx hb dX7_scrap_8 rfl (lv_at hl 0 rfl) ?_
  refine lv_iload_n (pc := 9) hx hb dX7_scrap_9 rfl (lv_at hl 2 rfl) ?_
  refine kX7_81 (pc := 10) hC hA hZ hf hl.1 (Nat.le_of_ble_eq_true rfl) ⟨Nat.le_of_ble_eq_true rfl, Nat.le_of_ble_eq_true rfl⟩ ⟨Nat.le_refl _, Nat.le_refl _⟩ dX7_scrap_10 (fun v6 w5 H locs hf hZ => ?_)
  refine z_ne0 (pc := 13) (tgt := 22) hC hf dX7_scrap_13 (by decide) (fun hf => ?_) (fun hf => ?_)
  · refine lv_aload_n (pc := 16) hx hb dX7_scrap_16 rfl (lv_at hl 0 rfl) ?_
    refine lv_iconst (pc := 17) (v := (-1 : Int32)) hx hb dX7_scrap_17 (by decide) ?_
    refine kX7_84 (pc := 18) hC hA hZ hf hl.1 (Nat.le_of_ble_eq_true rfl) ⟨Nat.le_of_ble_eq_true rfl, Nat.le_of_ble_eq_true rfl⟩ ⟨Nat.le_refl _, Nat.le_refl _⟩ dX7_scrap_18 (fun v8 w7 H locs hf hZ => ?_)
    obtain ⟨rfl, rfl⟩ := zinj hf
    exact hE _ _ _ _ _ _ rfl hZ dX7_scrap_21
  refine lv_iload_n (pc := 22) hx hb dX7_scrap_22 rfl (lv_at hl 3 rfl) ?_
  refine lv_iconst (pc := 23) (v := (1 : Int32)) hx hb dX7_scrap_23 (by decide) ?_
  refine z_ige (pc := 24) (tgt := 34) hC hf dX7_scrap_24 (by decide) (fun hf => ?_) (fun hf => ?_)
  · refine lv_iload_n (pc := 34) hx hb dX7_scrap_34 rfl (lv_at hl 3 rfl) ?_
    refine lv_aload_n (pc := 35) hx hb dX7_scrap_35 rfl (lv_at hl 0 rfl) ?_
    refine gfX7_35 (pc := 36) hC hZ dX7_scrap_36 ?_
    refine lv_iload_n (pc := 39) hx hb dX7_scrap_39 rfl (lv_at hl 1 rfl) ?_
    refine lv_iload_n (pc := 40) hx hb dX7_scrap_40 rfl (lv_at hl 2 rfl) ?_
    refine lv_aload_n (pc := 41) hx hb dX7_scrap_41 rfl (lv_at hl 0 rfl) ?_
    refine gfX7_60 (pc := 42) hC hZ dX7_scrap_42 ?_
    refine kX7_95 (pc := 45) hC hA hZ hf hl.1 (Nat.le_of_ble_eq_true rfl) ⟨Nat.le_of_ble_eq_true rfl, Nat.le_of_ble_eq_true rfl⟩ ⟨Nat.le_refl _, Nat.le_refl _⟩ dX7_scrap_45 (fun v10 w9 H locs hf hZ => ?_)
    refine z_ile (pc := 48) (tgt := 58) hC hf dX7_scrap_48 (by decide) (fun hf => ?_) (fun hf => ?_)
    · refine lv_aload_n (pc := 58) hx hb dX7_scrap_58 rfl (lv_at hl 0 rfl) ?_
      refine gfX7_35 (pc := 59) hC hZ dX7_scrap_59 ?_
      refine kX7_87 (pc := 62) hC hA hZ hf hl.1 (Nat.le_of_ble_eq_true rfl) ⟨Nat.le_of_ble_eq_true rfl, Nat.le_of_ble_eq_true rfl⟩ ⟨Nat.le_refl _, Nat.le_refl _⟩ dX7_scrap_62 (fun v12 w11 H locs hf hZ => ?_)
      refine lv_iconst (pc := 65) (v := (1 : Int32)) hx hb dX7_scrap_65 (by decide) ?_
      refine z_ige (pc := 66) (tgt := 76) hC hf dX7_scrap_66 (by decide) (fun hf => ?_) (fun hf => ?_)
      · refine lv_aload_n (pc := 76) hx hb dX7_scrap_76 rfl (lv_at hl 0 rfl) ?_
        refine gfX7_35 (pc := 77) hC hZ dX7_scrap_77 ?_
        refine lv_iload_n (pc := 80) hx hb dX7_scrap_80 rfl (lv_at hl 1 rfl) ?_
        refine lv_iload_n (pc := 81) hx hb dX7_scrap_81 rfl (lv_at hl 2 rfl) ?_
        refine lv_aload_n (pc := 82) hx hb dX7_scrap_82 rfl (lv_at hl 0 rfl) ?_
        refine gfX7_60 (pc := 83) hC hZ dX7_scrap_83 ?_
        refine lv_iload_n (pc := 86) hx hb dX7_scrap_86 rfl (lv_at hl 3 rfl) ?_
        refine lv_ineg (pc := 87) hx hb dX7_scrap_87 ?_
        refine kX7_91 (pc := 88) hC hA hZ hf hl.1 (Nat.le_of_ble_eq_true rfl) ⟨Nat.le_of_ble_eq_true rfl, Nat.le_of_ble_eq_true rfl⟩ ⟨Nat.le_refl _, Nat.le_refl _⟩ dX7_scrap_88 (fun w13 H locs hf hZ => ?_)
        refine lv_aload_n (pc := 91) hx hb dX7_scrap_91 rfl (lv_at hl 0 rfl) ?_
        refine gfX7_19 (pc := 92) hC hZ dX7_scrap_92 ?_
        refine lv_iload_n (pc := 95) hx hb dX7_scrap_95 rfl (lv_at hl 2 rfl) ?_
        refine lv_dup2_11 (pc := 96) hx hb dX7_scrap_96 rfl rfl ?_
        refine z_iald (pc := 97) hC hZ (by decide) rfl hf dX7_scrap_97 (fun v14 hf => ?_)
        refine lv_iload_n (pc := 98) hx hb dX7_scrap_98 rfl (lv_at hl 3 rfl) ?_
        refine lv_iadd (pc := 99) hx hb dX7_scrap_99 ?_
        refine z_iast (pc := 100) hC hZ (by decide) rfl hf dX7_scrap_100 (fun w15 H locs hf hZ => ?_)
        refine lv_aload_n (pc := 101) hx hb dX7_scrap_101 rfl (lv_at hl 0 rfl) ?_
        refine gfX7_35 (pc := 102) hC hZ dX7_scrap_102 ?_
        refine lv_iload_n (pc := 105) hx hb dX7_scrap_105 rfl (lv_at hl 1 rfl) ?_
        refine lv_iload_n (pc := 106) hx hb dX7_scrap_106 rfl (lv_at hl 2 rfl) ?_
        refine lv_aload_n (pc := 107) hx hb dX7_scrap_107 rfl (lv_at hl 0 rfl) ?_
        refine gfX7_60 (pc := 108) hC hZ dX7_scrap_108 ?_
        refine kX7_95 (pc := 111) hC hA hZ hf hl.1 (Nat.le_of_ble_eq_true rfl) ⟨Nat.le_of_ble_eq_true rfl, Nat.le_of_ble_eq_true rfl⟩ ⟨Nat.le_refl _, Nat.le_refl _⟩ dX7_scrap_111 (fun v17 w16 H locs hf hZ => ?_)
        obtain ⟨rfl, rfl⟩ := zinj hf
        exact hE _ _ _ _ _ _ rfl hZ dX7_scrap_114
      refine lv_aload_n (pc := 69) hx hb dX7_scrap_69 rfl (lv_at hl 0 rfl) ?_
      refine lv_bipush (pc := 70) (v := (-6 : Int32)) hx hb dX7_scrap_70 (by decide) ?_
      refine kX7_84 (pc := 72) hC hA hZ hf hl.1 (Nat.le_of_ble_eq_true rfl) ⟨Nat.le_of_ble_eq_true rfl, Nat.le_of_ble_eq_true rfl⟩ ⟨Nat.le_refl _, Nat.le_refl _⟩ dX7_scrap_72 (fun v19 w18 H locs hf hZ => ?_)
      obtain ⟨rfl, rfl⟩ := zinj hf
      exact hE _ _ _ _ _ _ rfl hZ dX7_scrap_75
    refine lv_aload_n (pc := 51) hx hb dX7_scrap_51 rfl (lv_at hl 0 rfl) ?_
    refine lv_bipush (pc := 52) (v := (-5 : Int32)) hx hb dX7_scrap_52 (by decide) ?_
    refine kX7_84 (pc := 54) hC hA hZ hf hl.1 (Nat.le_of_ble_eq_true rfl) ⟨Nat.le_of_ble_eq_true rfl, Nat.le_of_ble_eq_true rfl⟩ ⟨Nat.le_refl _, Nat.le_refl _⟩ dX7_scrap_54 (fun v21 w20 H locs hf hZ => ?_)
    obtain ⟨rfl, rfl⟩ := zinj hf
    exact hE _ _ _ _ _ _ rfl hZ dX7_scrap_57
  refine lv_aload_n (pc := 27) hx hb dX7_scrap_27 rfl (lv_at hl 0 rfl) ?_
  refine lv_bipush (pc := 28) (v := (-4 : Int32)) hx hb dX7_scrap_28 (by decide) ?_
  refine kX7_84 (pc := 30) hC hA hZ hf hl.1 (Nat.le_of_ble_eq_true rfl) ⟨Nat.le_of_ble_eq_true rfl, Nat.le_of_ble_eq_true rfl⟩ ⟨Nat.le_refl _, Nat.le_refl _⟩ dX7_scrap_30 (fun v23 w22 H locs hf hZ => ?_)
  obtain ⟨rfl, rfl⟩ := zinj hf
  exact hE _ _ _ _ _ _ rfl hZ dX7_scrap_33
