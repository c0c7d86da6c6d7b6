set_option maxHeartbeats 4000000 in
set_option maxRecDepth 100000 in
theorem wX8_feesOf_23 {p : Program} {l : Launch} {e : Env} {s : State} {m : MethodId} {args : Array Value} {below : List Frame} {meth : Method} {c : Code} {Q : State → Prop} {A : Nat → Prop} {H0 : Heap} {D : va_G} {cy : Nat → ClassId} {a0 aT aP : Nat → Nat} {res : Int64 × zS} {K : Int64 → Int32 → zS → Option (Int64 × zS)} (N : Nat) (x1 : Int32) (x2 : Int32) (x5 : Int32) (hC : zC p s m args c RX8 cX8_feesOf 8 D cy) (hA : ∀ q, H0.size ≤ q → A q) (hE : zEnd p l e rmX8_feesOf s m args below meth c Q D cy shM 35 a0 A H0 res.2 (fun u => u = (aT, aP)) cX8_feesOf .lreturn [.long res.1]) (n : Nat) (x3 : Int64) (x6 : Int32) (w0 : zS) {H : Heap} {locs : List Loc} {ls : Array Slot} (hf : lX8_feesOf_23 N x1 x2 x5 K n (x3, x6, w0) = some res) (hZ : zW D cy shM 35 a0 aT aP A H0 w0 H locs) (hl : lv_has ls 8 [(0, .ref (a0 0)), (1, .int x1), (2, .int x2), (3, .long x3), (5, .int x5), (6, .int x6)]) (hK : ∀ x3 : Int64, ∀ x6 : Int32, ∀ (w0 : zS) (H : Heap) (locs : List Loc) (ls : Array Slot), K x3 x6 w0 = some res → zW D cy shM 35 a0 aT aP A H0 w0 H locs → lv_has ls 8 [(0, .ref (a0 0)), (1, .int x1), (2, .int x2), (3, .long x3), (5, .int x5), (6, .int x6)] → W p l e rmX8_feesOf s m args below meth c H locs 0 0 Q (F0 m 87 ls [])) : W p l e rmX8_feesOf s m args below meth c H locs 0 0 Q (F0 m 23 ls []) := by
  have hx := hC.1.1
  have hb := hC.1.2.1
  have hf2 : zlp (fun rc s1 => bX8_feesOf_23 N x1 x2 x5 K rc s1.1 s1.2.1 s1.2.2) n (x3, x6, w0) = some res := hf
  have key := zloop (S := Int64 × Int32 × zS) (α := Int64 × zS) (b := fun rc s1 => bX8_feesOf_23 N x1 x2 x5 K rc s1.1 s1.2.1 s1.2.2) (r := res) (Wd := fun s1 => ∀ (H : Heap) (locs : List Loc) (ls : Array Slot), zW D cy shM 35 a0 aT aP A H0 s1.2.2 H locs → lv_has ls 8 [(0, .ref (a0 0)), (1, .int x1), (2, .int x2), (3, .long s1.1), (5, .int x5), (6, .int s1.2.1)] → W p l e rmX8_feesOf s m args below meth c H locs 0 0 Q (F0 m 23 ls []))
  refine key ?_ n (x3, x6, w0) hf2 H locs ls hZ hl
  clear hf hf2 hZ hl key
  rintro rc ⟨x3, x6, w0⟩ ih hf H locs ls hZ hl
  have hf : bX8_feesOf_23 N x1 x2 x5 K rc x3 x6 w0 = some res := hf
  have hl : lv_has ls 8 [(0, .ref (a0 0)), (1, .int x1), (2, .int x2), (3, .long x3), (5, .int x5), (6, .int x6)] := hl
  unfold bX8_feesOf_23 at hf
  refine lv_iload (pc := 23) hx hb dX8_feesOf_23 (lv_at hl 5 rfl) ?_
  refine lv_aload_n (pc := 25) hx hb dX8_feesOf_25 rfl (lv_at hl 0 rfl) ?_
  refine gfX8_123 (pc := 26) hC hZ dX8_feesOf_26 ?_
  refine z_ige (pc := 29) (tgt := 87) hC hf dX8_feesOf_29 (by decide) (fun hf => ?_) (fun hf => ?_)
  · exact hK x3 x6 w0 H locs ls hf hZ (lv_sub hl [0, 1, 2, 3, 4, 5] rfl)
  refine lv_aload_n (pc := 32) hx hb dX8_feesOf_32 rfl (lv_at hl 0 rfl) ?_
  refine gfX8_13 (pc := 33) hC hZ dX8_feesOf_33 ?_
  refine lv_iload (pc := 36) hx hb dX8_feesOf_36 (lv_at hl 5 rfl) ?_
  refine z_iald (pc := 38) hC hZ (by decide) rfl hf dX8_feesOf_38 (fun v1 hf => ?_)
  refine z_ne0 (pc := 39) (tgt := 46) hC hf dX8_feesOf_39 (by decide) (fun hf => ?_) (fun hf => ?_)
  · refine lv_iconst (pc := 42) (v := (0 : Int32)) hx hb dX8_feesOf_42 (by decide) ?_
    refine lv_goto (pc := 43) (tgt := 55) hx hb dX8_feesOf_43 (by decide) ?_
    refine lv_istore (pc := 55) (lv' := [(7, .int (0 : Int32)), (0, .ref (a0 0)), (1, .int x1), (2, .int x2), (3, .long x3), (5, .int x5), (6, .int x6)]) hx hb dX8_feesOf_55 hl (by decide) rfl (fun ls hl => ?_)
    refine lv_lload_n (pc := 57) hx hb dX8_feesOf_57 rfl (lv_at hl 4 rfl) ?_
    refine lv_iload (pc := 58) hx hb dX8_feesOf_58 (lv_at hl 0 rfl) ?_
    refine z_le0 (pc := 60) (tgt := 78) hC hf dX8_feesOf_60 (by decide) (fun hf => ?_) (fun hf => ?_)
    · refine lv_lconst (pc := 78) (v := (0 : Int64)) hx hb dX8_feesOf_78 (by decide) ?_
      refine lv_ladd (pc := 79) hx hb dX8_feesOf_79 ?_
      refine lv_lstore_n (pc := 80) (lv' := [(3, .long (x3 + (0 : Int64))), (7, .int (0 : Int32)), (0, .ref (a0 0)), (1, .int x1), (2, .int x2), (5, .int x5), (6, .int x6)]) hx hb dX8_feesOf_80 rfl hl (by decide) rfl (fun ls hl => ?_)
      refine lv_iinc (pc := 81) (v := (x6 + (1 : Int32))) (lv' := [(6, .int (x6 + (1 : Int32))), (3, .long (x3 + (0 : Int64))), (7, .int (0 : Int32)), (0, .ref (a0 0)), (1, .int x1), (2, .int x2), (5, .int x5)]) hx hb dX8_feesOf_81 hl (k := 6) rfl rfl (by decide) rfl (fun ls hl => ?_)
      refine lv_goto (pc := 84) (tgt := 23) hx hb dX8_feesOf_84 (by decide) ?_
      exact ih ((x3 + (0 : Int64)), (x6 + (1 : Int32)), w0) hf H locs ls hZ (lv_sub hl [3, 4, 5, 1, 6, 0] rfl)
    refine lv_iload (pc := 63) hx hb dX8_feesOf_63 (lv_at hl 0 rfl) ?_
    refine lv_i2l (pc := 65) hx hb dX8_feesOf_65 rfl ?_
    refine lv_aload_n (pc := 66) hx hb dX8_feesOf_66 rfl (lv_at hl 1 rfl) ?_
    refine gfX8_13 (pc := 67) hC hZ dX8_feesOf_67 ?_
    refine lv_iload (pc := 70) hx hb dX8_feesOf_70 (lv_at hl 6 rfl) ?_
    refine z_iald (pc := 72) hC hZ (by decide) rfl hf dX8_feesOf_72 (fun v2 hf => ?_)
    refine lv_i2l (pc := 73) hx hb dX8_feesOf_73 rfl ?_
    refine lv_lmul (pc := 74) hx hb dX8_feesOf_74 ?_
    refine lv_goto (pc := 75) (tgt := 79) hx hb dX8_feesOf_75 (by decide) ?_
    refine lv_ladd (pc := 79) hx hb dX8_feesOf_79 ?_
    refine lv_lstore_n (pc := 80) (lv' := [(3, .long (x3 + ((0 : Int32).toInt64 * v2.toInt64))), (7, .int (0 : Int32)), (0, .ref (a0 0)), (1, .int x1), (2, .int x2), (5, .int x5), (6, .int x6)]) hx hb dX8_feesOf_80 rfl hl (by decide) rfl (fun ls hl => ?_)
    refine lv_iinc (pc := 81) (v := (x6 + (1 : Int32))) (lv' := [(6, .int (x6 + (1 : Int32))), (3, .long (x3 + ((0 : Int32).toInt64 * v2.toInt64))), (7, .int (0 : Int32)), (0, .ref (a0 0)), (1, .int x1), (2, .int x2), (5, .int x5)]) hx hb dX8_feesOf_81 hl (k := 6) rfl rfl (by decide) rfl (fun ls hl => ?_)
    refine lv_goto (pc := 84) (tgt := 23) hx hb dX8_feesOf_84 (by decide) ?_
    exact ih ((x3 + ((0 : Int32).toInt64 * v2.toInt64)), (x6 + (1 : Int32)), w0) hf H locs ls hZ (lv_sub hl [3, 4, 5, 1, 6, 0] rfl)
  refine lv_aload_n (pc := 46) hx hb dX8_feesOf_46 rfl (lv_at hl 0 rfl) ?_
  refine lv_iload_n (pc := 47) hx hb dX8_feesOf_47 rfl (lv_at hl 1 rfl) ?_
  refine lv_iload (pc := 48) hx hb dX8_feesOf_48 (lv_at hl 5 rfl) ?_
  refine lv_iload (pc := 50) hx hb dX8_feesOf_50 (lv_at hl 4 rfl) ?_
  refine kX8_149 (pc := 52) hC hA hZ hf hl.1 (Nat.le_of_ble_eq_true rfl) ⟨Nat.le_of_ble_eq_true rfl, Nat.le_of_ble_eq_true rfl⟩ ⟨Nat.le_refl _, Nat.le_refl _⟩ dX8_feesOf_52 (fun v4 w3 H locs hf hZ => ?_)
  refine lv_istore (pc := 55) (lv' := [(7, .int v4), (0, .ref (a0 0)), (1, .int x1), (2, .int x2), (3, .long x3), (5, .int x5), (6, .int x6)]) hx hb dX8_feesOf_55 hl (by decide) rfl (fun ls hl => ?_)
  refine lv_lload_n (pc := 57) hx hb dX8_feesOf_57 rfl (lv_at hl 4 rfl) ?_
  refine lv_iload (pc := 58) hx hb dX8_feesOf_58 (lv_at hl 0 rfl) ?_
  refine z_le0 (pc := 60) (tgt := 78) hC hf dX8_feesOf_60 (by decide) (fun hf => ?_) (fun hf => ?_)
  · refine lv_lconst (pc := 78) (v := (0 : Int64)) hx hb dX8_feesOf_78 (by decide) ?_
    refine lv_ladd (pc := 79) hx hb dX8_feesOf_79 ?_
    refine lv_lstore_n (pc := 80) (lv' := [(3, .long (x3 + (0 : Int64))), (7, .int v4), (0, .ref (a0 0)), (1, .int x1), (2, .int x2), (5, .int x5), (6, .int x6)]) hx hb dX8_feesOf_80 rfl hl (by decide) rfl (fun ls hl => ?_)
    refine lv_iinc (pc := 81) (v := (x6 + (1 : Int32))) (lv' := [(6, .int (x6 + (1 : Int32))), (3, .long (x3 + (0 : Int64))), (7, .int v4), (0, .ref (a0 0)), (1, .int x1), (2, .int x2), (5, .int x5)]) hx hb dX8_feesOf_81 hl (k := 6) rfl rfl (by decide) rfl (fun ls hl => ?_)
    refine lv_goto (pc := 84) (tgt := 23) hx hb dX8_feesOf_84 (by decide) ?_
    exact ih ((x3 + (0 : Int64)), (x6 + (1 : Int32)), w3) hf H locs ls hZ (lv_sub hl [3, 4, 5, 1, 6, 0] rfl)
  refine lv_iload (pc := 63) hx hb dX8_feesOf_63 (lv_at hl 0 rfl) ?_
  refine lv_i2l (pc := 65) hx hb dX8_feesOf_65 rfl ?_
  refine lv_aload_n (pc := 66) hx hb dX8_feesOf_66 rfl (lv_at hl 1 rfl) ?_
  refine gfX8_13 (pc := 67) hC hZ dX8_feesOf_67 ?_
  refine lv_iload (pc := 70) hx hb dX8_feesOf_70 (lv_at hl 6 rfl) ?_
  refine z_iald (pc := 72) hC hZ (by decide) rfl hf dX8_feesOf_72 (fun v5 hf => ?_)
  refine lv_i2l (pc := 73) hx hb dX8_feesOf_73 rfl ?_
  refine lv_lmul (pc := 74) hx hb dX8_feesOf_74 ?_
  refine lv_goto (pc := 75) (tgt := 79) hx hb dX8_feesOf_75 (by decide) ?_
  refine lv_ladd (pc := 79) hx hb dX8_feesOf_79 ?_
  refine lv_lstore_n (pc := 80) (lv' := [(3, .long (x3 + (v4.toInt64 * v5.toInt64))), (7, .int v4), (0, .ref (a0 0)), (1, .int x1), (2, .int x2), (5, .int x5), (6, .int x6)]) hx hb dX8_feesOf_80 rfl hl (by decide) rfl (fun ls hl => ?_)
  refine lv_iinc (pc := 81) (v := (x6 + (1 : Int32))) (lv' := [(6, .int (x6 + (1 : Int32))), (3, .long (x3 + (v4.toInt64 * v5.toInt64))), (7, .int v4), (0, .ref (a0 0)), (1, .int x1), (2, .int x2), (5, .int x5)]) hx hb dX8_feesOf_81 hl (k := 6) rfl rfl (by decide) rfl (fun ls hl => ?_)
  refine lv_goto (pc := 84) (tgt := 23) hx hb dX8_feesOf_84 (by decide) ?_
  exact ih ((x3 + (v4.toInt64 * v5.toInt64)), (x6 + (1 : Int32)), w3) hf H locs ls hZ (lv_sub hl [3, 4, 5, 1, 6, 0] rfl)
set_option maxHeartbeats 4000000 in
set_option maxRecDepth 100000 in
theorem wX8_feesOf_8 {p : Program} {l : Launch} {e : Env} {s : State} {m : MethodId} {args : Array Value} {below : List Frame} {meth : Method} {c : Code} {Q : State → Prop} {A : Nat → Prop} {H0 : Heap} {D : va_G} {cy : Nat → ClassId} {a0 aT aP : Nat → Nat} {res : Int64 × zS} {K : Int64 → Int32 → zS → Option (Int64 × zS)} (N : Nat) (x1 : Int32) (x2 : Int32) (hC : zC p s m args c RX8 cX8_feesOf 8 D cy) (hA : ∀ q, H0.size ≤ q → A q) (hE : zEnd p l e rmX8_feesOf s m args below meth c Q D cy shM 35 a0 A H0 res.2 (fun u => u = (aT, aP)) cX8_feesOf .lreturn [.long res.1]) (n : Nat) (x3 : Int64) (x5 : Int32) (w0 : zS) {H : Heap} {locs : List Loc} {ls : Array Slot} (hf : lX8_feesOf_8 N x1 x2 K n (x3, x5, w0) = some res) (hZ : zW D cy shM 35 a0 aT aP A H0 w0 H locs) (hl : lv_has ls 8 [(0, .ref (a0 0)), (1, .int x1), (2, .int x2), (3, .long x3), (5, .int x5)]) (hK : ∀ x3 : Int64, ∀ x5 : Int32, ∀ (w0 : zS) (H : Heap) (locs : List Loc) (ls : Array Slot), K x3 x5 w0 = some res → zW D cy shM 35 a0 aT aP A H0 w0 H locs → lv_has ls 8 [(0, .ref (a0 0)), (1, .int x1), (2, .int x2), (3, .long x3), (5, .int x5)] → W p l e rmX8_feesOf s m args below meth c H locs 0 0 Q (F0 m 93 ls [])) : W p l e rmX8_feesOf s m args below meth c H locs 0 0 Q (F0 m 8 ls []) := by
  have hx := hC.1.1
  have hb := hC.1.2.1
  have hf2 : zlp (fun rc s1 => bX8_feesOf_8 N x1 x2 K rc s1.1 s1.2.1 s1.2.2) n (x3, x5, w0) = some res := hf
  have key := zloop (S := Int64 × Int32 × zS) (α := Int64 × zS) (b := fun rc s1 => bX8_feesOf_8 N x1 x2 K rc s1.1 s1.2.1 s1.2.2) (r := res) (Wd := fun s1 => ∀ (H : Heap) (locs : List Loc) (ls : Array Slot), zW D cy shM 35 a0 aT aP A H0 s1.2.2 H locs → lv_has ls 8 [(0, .ref (a0 0)), (1, .int x1), (2, .int x2), (3, .long s1.1), (5, .int s1.2.1)] → W p l e rmX8_feesOf s m args below meth c H locs 0 0 Q (F0 m 8 ls []))
  refine key ?_ n (x3, x5, w0) hf2 H locs ls hZ hl
  clear hf hf2 hZ hl key
  rintro rc ⟨x3, x5, w0⟩ ih hf H locs ls hZ hl
  have hf : bX8_feesOf_8 N x1 x2 K rc x3 x5 w0 = some res := hf
  have hl : lv_has ls 8 [(0, .ref (a0 0)), (1, .int x1), (2, .int x2), (3, .long x3), (5, .int x5)] := hl
  unfold bX8_feesOf_8 at hf
  refine lv_iload (pc := 8) hx hb dX8_feesOf_8 (lv_at hl 4 rfl) ?_
  refine lv_bipush (pc := 10) (v := (30 : Int32)) hx hb dX8_feesOf_10 (by decide) ?_
  refine lv_iload_n (pc := 12) hx hb dX8_feesOf_12 rfl (lv_at hl 2 rfl) ?_
  refine lv_imul (pc := 13) hx hb dX8_feesOf_13 ?_
  refine lv_bipush (pc := 14) (v := (30 : Int32)) hx hb dX8_feesOf_14 (by decide) ?_
  refine lv_iadd (pc := 16) hx hb dX8_feesOf_16 ?_
  refine z_ige (pc := 17) (tgt := 93) hC hf dX8_feesOf_17 (by decide) (fun hf => ?_) (fun hf => ?_)
  · exact hK x3 x5 w0 H locs ls hf hZ (lv_sub hl [0, 1, 2, 3, 4] rfl)
  refine lv_iconst (pc := 20) (v := (0 : Int32)) hx hb dX8_feesOf_20 (by decide) ?_
  refine lv_istore (pc := 21) (lv' := [(6, .int (0 : Int32)), (0, .ref (a0 0)), (1, .int x1), (2, .int x2), (3, .long x3), (5, .int x5)]) hx hb dX8_feesOf_21 hl (by decide) rfl (fun ls hl => ?_)
  refine wX8_feesOf_23 (res := res) N x1 x2 x5 hC hA hE N _ _ _ hf hZ (lv_sub hl [1, 2, 3, 4, 5, 0] rfl) (fun y6 y7 w8 H locs ls hf hZ hl => ?_)
  refine lv_iinc (pc := 87) (v := (x5 + (1 : Int32))) (lv' := [(5, .int (x5 + (1 : Int32))), (0, .ref (a0 0)), (1, .int x1), (2, .int x2), (3, .long y6), (6, .int y7)]) hx hb dX8_feesOf_87 hl (k := 4) rfl rfl (by decide) rfl (fun ls hl => ?_)
  refine lv_goto (pc := 90) (tgt := 8) hx hb dX8_feesOf_90 (by decide) ?_
  exact ih (y6, (x5 + (1 : Int32)), w8) hf H locs ls hZ (lv_sub hl [1, 2, 3, 4, 0] rfl)
set_option maxHeartbeats 4000000 in
set_option maxRecDepth 100000 in
theorem cX8_feesOf_ok (l : Launch) (D : va_G) (cy : Nat → ClassId) (a0 aT aP : Nat → Nat) (N : Nat) (x1 : Int32) (x2 : Int32) (w0 : zS) (rv : Int64) (τ : zS) (hf : fX8_feesOf N x1 x2 w0 = some (rv, τ)) : zMl l yX8_feesOf cX8_feesOf 8 (some .long) rmX8_feesOf D cy shM 35 a0 aT aP w0 [.ref (a0 0), .int x1, .int x2] rv τ (fun u => u = (aT, aP)) := by
  refine zmet_l (by decide +kernel) rfl (Nat.le_of_ble_eq_true rfl) ?_
  intro p e s m below meth c A Q ls hC hA hZ hl hE
  have hx := hC.1.1
  have hb := hC.1.2.1
  have hl : lv_has ls 8 [(0, .ref (a0 0)), (1, .int x1), (2, .int x2)] := hl
  unfold fX8_feesOf at hf
  refine lv_lconst (pc := 0) (v := (0 : Int64)) hx hb dX8_feesOf_0 (by decide) ?_
  refine lv_lstore_n (pc := 1) (lv' := [(3, .long (0 : Int64)), (0, .ref (a0 0)), (1, .int x1), (2, .int x2)]) hx hb dX8_feesOf_1 rfl hl (by decide) rfl (fun ls hl => ?_)
  refine lv_bipush (pc := 2) (v := (30 : Int32)) hx hb dX8_feesOf_2 (by decide) ?_
  refine lv_iload_n (pc := 4) hx hb dX8_feesOf_4 rfl (lv_at hl 3 rfl) ?_
  refine lv_imul (pc := 5) hx hb dX8_feesOf_5 ?_
  refine lv_istore (pc := 6) (lv' := [(5, .int ((30 : Int32) * x2)), (3, .long (0 : Int64)), (0, .ref (a0 0)), (1, .int x1), (2, .int x2)]) hx hb dX8_feesOf_6 hl (by decide) rfl (fun ls hl => ?_)
  refine wX8_feesOf_8 (res := (rv, τ)) N x1 x2 hC hA hE N _ _ _ hf hZ (lv_sub hl [2, 3, 4, 1, 0] rfl) (fun y9 y10 w11 H locs ls hf hZ hl => ?_)
  refine lv_lload_n (pc := 93) hx hb dX8_feesOf_93 rfl (lv_at hl 3 rfl) ?_
  obtain ⟨rfl, rfl⟩ := zinj hf
  exact hE _ _ _ _ _ _ rfl hZ dX8_feesOf_94
section ZK
variable {p : Program} {l : Launch} {e : Env} {R : Room} {s : State} {m : MethodId} {args : Array Value} {below : List Frame} {meth : Method} {c : Code} {H : Heap} {locs : List Loc} {cells slots : Nat} {Q : State → Prop}
variable {pc : Nat} {ls : Array Slot} {rest : List Value} {A : Nat → Prop} {H0 : Heap} {D : va_G} {cy : Nat → ClassId} {a0 aT aP : Nat → Nat} {σ : zS} {cc : ByteArray} {nL : Nat} {α : Type} {res : α}
theorem vkX8_192 : zVk RX8 192 yX8_feesOf cX8_feesOf 8 (some .long) 2 := ⟨by decide +kernel, by decide +kernel, by decide +kernel, by decide +kernel, by decide +kernel, by decide +kernel⟩
theorem kX8_192 (hC : zC p s m args c RX8 cc nL D cy) (hA : ∀ q, H0.size ≤ q → A q) (hZ : zW D cy shM 35 a0 aT aP A H0 σ H locs) {N : Nat} {x1 : Int32} {x2 : Int32} {k : Int64 → zS → Option α} (hf : zbi (fX8_feesOf N x1 x2 σ) k = some res) (hsz : ls.size = nL) (hW : (rest.map fun v => v.category).sum ≤ 8) (hR : rmX8_feesOf.frames + 1 ≤ R.frames ∧ 8 + (8 + 11) + rmX8_feesOf.locals ≤ R.locals) (hcs : cells ≤ R.cells ∧ slots ≤ R.slots) (hdg : decode cc pc = .ok (.invokevirtual 192, 3)) (kk : ∀ (v : Int64) (τ : zS) (H1 : Heap) (locs1 : List Loc), k v τ = some res → zW D cy shM 35 a0 aT aP A H0 τ H1 locs1 → W p l e R s m args below meth c H1 locs1 cells slots Q (F0 m (pc + 3) ls (.long v :: rest))) : W p l e R s m args below meth c H locs cells slots Q (F0 m pc ls (.int x2 :: .int x1 :: .ref (a0 0) :: rest)) := by
  cases hq : fX8_feesOf N x1 x2 σ with
  | none => rw [hq] at hf; cases hf
  | some q =>
    rw [hq] at hf
    exact zcalll hA hZ (zrun hC hZ vkX8_192 rfl (zw0 (by decide)) (cX8_feesOf_ok l D cy a0 aT aP N x1 x2 σ q.1 q.2 hq H.size) hR rfl hsz rfl hW hcs hdg) (fun u H1 locs1 hU hZ1 => by subst hU; exact kk q.1 q.2 H1 locs1 hf hZ1)
end ZK
set_option maxHeartbeats 4000000 in
set_option maxRecDepth 100000 in
theorem cX8_lackOfFees_ok (l : Launch) (D : va_G) (cy : Nat → ClassId) (a0 aT aP : Nat → Nat) (N : Nat) (x1 : Int32) (x2 : Int32) (w0 : zS) (rv : Int32) (τ : zS) (hf : fX8_lackOfFees N x1 x2 w0 = some (rv, τ)) : zMi l yX8_lackOfFees cX8_lackOfFees 3 (some .int) rmX8_lackOfFees D cy shM 35 a0 aT aP w0 [.ref (a0 0), .int x1, .int x2] rv τ (fun u => u = (aT, aP)) := by
  refine zmet_i (by decide +kernel) (Or.inl rfl) (Nat.le_of_ble_eq_true rfl) ?_
  intro p e s m below meth c A Q ls hC hA hZ hl hE
  have hx := hC.1.1
  have hb := hC.1.2.1
  have hl : lv_has ls 3 [(0, .ref (a0 0)), (1, .int x1), (2, .int x2)] := hl
  unfold fX8_lackOfFees at hf
  refine lv_aload_n (pc := 0) hx hb dX8_lackOfFees_0 rfl (lv_at hl 0 rfl) ?_
  refine lv_iload_n (pc := 1) hx hb dX8_lackOfFees_1 rfl (lv_at hl 1 rfl) ?_
  refine kX8_139 (pc := 2) hC hA hZ hf hl.1 (Nat.le_of_ble_eq_true rfl) ⟨Nat.le_of_ble_eq_true rfl, Nat.le_of_ble_eq_true rfl⟩ ⟨Nat.le_refl _, Nat.le_refl _⟩ dX8_lackOfFees_2 (fun v2 w1 H locs hf hZ => ?_)
  refine z_ne0 (pc := 5) (tgt := 12) hC hf dX8_lackOfFees_5 (by decide) (fun hf => ?_) (fun hf => ?_)
  · refine lv_iconst (pc := 8) (v := (-1 : Int32)) hx hb dX8_lackOfFees_8 (by decide) ?_
    refine lv_goto (pc := 9) (tgt := 33) hx hb dX8_lackOfFees_9 (by decide) ?_
    obtain ⟨rfl, rfl⟩ := zinj hf
    exact hE _ _ _ _ _ _ rfl hZ dX8_lackOfFees_33
  refine lv_iload_n (pc := 12) hx hb dX8_lackOfFees_12 rfl (lv_at hl 2 rfl) ?_
  refine z_ge0 (pc := 13) (tgt := 21) hC hf dX8_lackOfFees_13 (by decide) (fun hf => ?_) (fun hf => ?_)
  · refine lv_iload_n (pc := 21) hx hb dX8_lackOfFees_21 rfl (lv_at hl 2 rfl) ?_
    refine lv_bipush (pc := 22) (v := (19 : Int32)) hx hb dX8_lackOfFees_22 (by decide) ?_
    refine z_ile (pc := 24) (tgt := 32) hC hf dX8_lackOfFees_24 (by decide) (fun hf => ?_) (fun hf => ?_)
    · refine lv_iconst (pc := 32) (v := (0 : Int32)) hx hb dX8_lackOfFees_32 (by decide) ?_
      obtain ⟨rfl, rfl⟩ := zinj hf
      exact hE _ _ _ _ _ _ rfl hZ dX8_lackOfFees_33
    refine lv_bipush (pc := 27) (v := (-6 : Int32)) hx hb dX8_lackOfFees_27 (by decide) ?_
    refine lv_goto (pc := 29) (tgt := 33) hx hb dX8_lackOfFees_29 (by decide) ?_
    obtain ⟨rfl, rfl⟩ := zinj hf
    exact hE _ _ _ _ _ _ rfl hZ dX8_lackOfFees_33
  refine lv_bipush (pc := 16) (v := (-4 : Int32)) hx hb dX8_lackOfFees_16 (by decide) ?_
  refine lv_goto (pc := 18) (tgt := 33) hx hb dX8_lackOfFees_18 (by decide) ?_
  obtain ⟨rfl, rfl⟩ := zinj hf
  exact hE _ _ _ _ _ _ rfl hZ dX8_lackOfFees_33
section ZK
variable {p : Program} {l : Launch} {e : Env} {R : Room} {s : State} {m : MethodId} {args : Array Value} {below : List Frame} {meth : Method} {c : Code} {H : Heap} {locs : List Loc} {cells slots : Nat} {Q : State → Prop}
variable {pc : Nat} {ls : Array Slot} {rest : List Value} {A : Nat → Prop} {H0 : Heap} {D : va_G} {cy : Nat → ClassId} {a0 aT aP : Nat → Nat} {σ : zS} {cc : ByteArray} {nL : Nat} {α : Type} {res : α}
theorem vkX8_189 : zVk RX8 189 yX8_lackOfFees cX8_lackOfFees 3 (some .int) 2 := ⟨by decide +kernel, by decide +kernel, by decide +kernel, by decide +kernel, by decide +kernel, by decide +kernel⟩
theorem kX8_189 (hC : zC p s m args c RX8 cc nL D cy) (hA : ∀ q, H0.size ≤ q → A q) (hZ : zW D cy shM 35 a0 aT aP A H0 σ H locs) {N : Nat} {x1 : Int32} {x2 : Int32} {k : Int32 → zS → Option α} (hf : zbi (fX8_lackOfFees N x1 x2 σ) k = some res) (hsz : ls.size = nL) (hW : (rest.map fun v => v.category).sum ≤ 8) (hR : rmX8_lackOfFees.frames + 1 ≤ R.frames ∧ 8 + (3 + 11) + rmX8_lackOfFees.locals ≤ R.locals) (hcs : cells ≤ R.cells ∧ slots ≤ R.slots) (hdg : decode cc pc = .ok (.invokevirtual 189, 3)) (kk : ∀ (v : Int32) (τ : zS) (H1 : Heap) (locs1 : List Loc), k v τ = some res → zW D cy shM 35 a0 aT aP A H0 τ H1 locs1 → W p l e R s m args below meth c H1 locs1 cells slots Q (F0 m (pc + 3) ls (.int v :: rest))) : W p l e R s m args below meth c H locs cells slots Q (F0 m pc ls (.int x2 :: .int x1 :: .ref (a0 0) :: rest)) := by
  cases hq : fX8_lackOfFees N x1 x2 σ with
  | none => rw [hq] at hf; cases hf
  | some q =>
    rw [hq] at hf
    exact zcalli hA hZ (zrun hC hZ vkX8_189 rfl (zw0 (by decide)) (cX8_lackOfFees_ok l D cy a0 aT aP N x1 x2 σ q.1 q.2 hq H.size) hR rfl hsz rfl hW hcs hdg) (fun u H1 locs1 hU hZ1 => by subst hU; exact kk q.1 q.2 H1 locs1 hf hZ1)
end ZK
set_option maxHeartbeats 4000000 in
set_option maxRecDepth 100000 in
theorem cX8_fees_ok (l : Launch) (D : va_G) (cy : Nat → ClassId) (a0 aT aP : Nat → Nat) (N : Nat) (x1 : Int32) (x2 : Int32) (w0 : zS) (rv : Int64) (τ : zS) (hf : fX8_fees N x1 x2 w0 = some (rv, τ)) : zMl l yX8_fees cX8_fees 4 (some .long) rmX8_fees D cy shM 35 a0 aT aP w0 [.ref (a0 0), .int x1, .int x2] rv τ (fun u => u = (aT, aP)) := by
  refine zmet_l (by decide +kernel) rfl (Nat.le_of_ble_eq_true rfl) ?_
  intro p e s m below meth c A Q ls hC hA hZ hl hE
  have hx := hC.1.1
  have hb := hC.1.2.1
  have hl : lv_has ls 4 [(0, .ref (a0 0)), (1, .int x1), (2, .int x2)] := hl
  unfold fX8_fees at hf
  refine lv_aload_n (pc := 0) hx hb dX8_fees_0 rfl (lv_at hl 0 rfl) ?_
  refine lv_iload_n (pc := 1) hx hb dX8_fees_1 rfl (lv_at hl 1 rfl) ?_
  refine lv_iload_n (pc := 2) hx hb dX8_fees_2 rfl (lv_at hl 2 rfl) ?_
  refine kX8_189 (pc := 3) hC hA hZ hf hl.1 (Nat.le_of_ble_eq_true rfl) ⟨Nat.le_of_ble_eq_true rfl, Nat.le_of_ble_eq_true rfl⟩ ⟨Nat.le_refl _, Nat.le_refl _⟩ dX8_fees_3 (fun v2 w1 H locs hf hZ => ?_)
  refine lv_istore_n (pc := 6) (lv' := [(3, .int v2), (0, .ref (a0 0)), (1, .int x1), (2, .int x2)]) hx hb dX8_fees_6 rfl hl (by decide) rfl (fun ls hl => ?_)
  refine lv_iload_n (pc := 7) hx hb dX8_fees_7 rfl (lv_at hl 0 rfl) ?_
  refine z_ge0 (pc := 8) (tgt := 20) hC hf dX8_fees_8 (by decide) (fun hf => ?_) (fun hf => ?_)
  · refine lv_aload_n (pc := 20) hx hb dX8_fees_20 rfl (lv_at hl 1 rfl) ?_
    refine lv_iload_n (pc := 21) hx hb dX8_fees_21 rfl (lv_at hl 2 rfl) ?_
    refine lv_iload_n (pc := 22) hx hb dX8_fees_22 rfl (lv_at hl 3 rfl) ?_
    refine kX8_192 (pc := 23) hC hA hZ hf hl.1 (Nat.le_of_ble_eq_true rfl) ⟨Nat.le_of_ble_eq_true rfl, Nat.le_of_ble_eq_true rfl⟩ ⟨Nat.le_refl _, Nat.le_refl _⟩ dX8_fees_23 (fun v4 w3 H locs hf hZ => ?_)
    obtain ⟨rfl, rfl⟩ := zinj hf
    exact hE _ _ _ _ _ _ rfl hZ dX8_fees_26
  refine lv_aload_n (pc := 11) hx hb dX8_fees_11 rfl (lv_at hl 1 rfl) ?_
  refine lv_iload_n (pc := 12) hx hb dX8_fees_12 rfl (lv_at hl 0 rfl) ?_
  refine kX8_126 (pc := 13) hC hA hZ hf hl.1 (Nat.le_of_ble_eq_true rfl) ⟨Nat.le_of_ble_eq_true rfl, Nat.le_of_ble_eq_true rfl⟩ ⟨Nat.le_refl _, Nat.le_refl _⟩ dX8_fees_13 (fun v6 w5 H locs hf hZ => ?_)
  refine lv_i2l (pc := 16) hx hb dX8_fees_16 rfl ?_
  refine lv_goto (pc := 17) (tgt := 26) hx hb dX8_fees_17 (by decide) ?_
  obtain ⟨rfl, rfl⟩ := zinj hf
  exact hE _ _ _ _ _ _ rfl hZ dX8_fees_26
set_option maxHeartbeats 4000000 in
set_option maxRecDepth 100000 in
theorem wX8_close_42 {p : Program} {l : Launch} {e : Env} {s : State} {m : MethodId} {args : Array Value} {below : List Frame} {meth : Method} {c : Code} {Q : State → Prop} {A : Nat → Prop} {H0 : Heap} {D : va_G} {cy : Nat → ClassId} {a0 aT aP : Nat → Nat} {res : Int32 × zS} {K : Int32 → zS → Option (Int32 × zS)} (N : Nat)  (hC : zC p s m args c RX8 cX8_close 2 D cy) (hA : ∀ q, H0.size ≤ q → A q) (hE : zEnd p l e rmX8_close s m args below meth c Q D cy shM 35 a0 A H0 res.2 (fun u => u = (aT, aP)) cX8_close .ireturn [.int res.1]) (n : Nat) (x1 : Int32) (w0 : zS) {H : Heap} {locs : List Loc} {ls : Array Slot} (hf : lX8_close_42 N  K n (x1, w0) = some res) (hZ : zW D cy shM 35 a0 aT aP A H0 w0 H locs) (hl : lv_has ls 2 [(0, .ref (a0 0)), (1, .int x1)]) (hK : ∀ x1 : Int32, ∀ (w0 : zS) (H : Heap) (locs : List Loc) (ls : Array Slot), K x1 w0 = some res → zW D cy shM 35 a0 aT aP A H0 w0 H locs → lv_has ls 2 [(0, .ref (a0 0)), (1, .int x1)] → W p l e rmX8_close s m args below meth c H locs 0 0 Q (F0 m 79 ls [])) : W p l e rmX8_close s m args below meth c H locs 0 0 Q (F0 m 42 ls []) := by
  have hx := hC.1.1
  have hb := hC.1.2.1
  have hf2 : zlp (fun rc s1 => bX8_close_42 N  K rc s1.1 s1.2) n (x1, w0) = some res := hf
  have key := zloop (S := Int32 × zS) (α := Int32 × zS) (b := fun rc s1 => bX8_close_42 N  K rc s1.1 s1.2) (r := res) (Wd := fun s1 => ∀ (H : Heap) (locs : List Loc) (ls : Array Slot), zW D cy shM 35 a0 aT aP A H0 s1.2 H locs → lv_has ls 2 [(0, .ref (a0 0)), (1, .int s1.1)] → W p l e rmX8_close s m args below meth c H locs 0 0 Q (F0 m 42 ls []))
  refine key ?_ n (x1, w0) hf2 H locs ls hZ hl
  clear hf hf2 hZ hl key
  rintro rc ⟨x1, w0⟩ ih hf H locs ls hZ hl
  have hf : bX8_close_42 N  K rc x1 w0 = some res := hf
  have hl : lv_has ls 2 [(0, .ref (a0 0)), (1, .int x1)] := hl
  unfold bX8_close_42 at hf
  refine lv_iload_n (pc := 42) hx hb dX8_close_42 rfl (lv_at hl 1 rfl) ?_
  refine lv_aload_n (pc := 43) hx hb dX8_close_43 rfl (lv_at hl 0 rfl) ?_
  refine gfX8_115 (pc := 44) hC hZ dX8_close_44 ?_
  refine z_ige (pc := 47) (tgt := 79) hC hf dX8_close_47 (by decide) (fun hf => ?_) (fun hf => ?_)
  · exact hK x1 w0 H locs ls hf hZ (lv_sub hl [0, 1] rfl)
  refine lv_aload_n (pc := 50) hx hb dX8_close_50 rfl (lv_at hl 0 rfl) ?_
  refine gfX8_32 (pc := 51) hC hZ dX8_close_51 ?_
  refine lv_bipush (pc := 54) (v := (20 : Int32)) hx hb dX8_close_54 (by decide) ?_
  refine lv_iload_n (pc := 56) hx hb dX8_close_56 rfl (lv_at hl 1 rfl) ?_
  refine lv_imul (pc := 57) hx hb dX8_close_57 ?_
  refine lv_aload_n (pc := 58) hx hb dX8_close_58 rfl (lv_at hl 0 rfl) ?_
  refine gfX8_136 (pc := 59) hC hZ dX8_close_59 ?_
  refine lv_iadd (pc := 62) hx hb dX8_close_62 ?_
  refine lv_aload_n (pc := 63) hx hb dX8_close_63 rfl (lv_at hl 0 rfl) ?_
  refine lv_iload_n (pc := 64) hx hb dX8_close_64 rfl (lv_at hl 1 rfl) ?_
  refine lv_aload_n (pc := 65) hx hb dX8_close_65 rfl (lv_at hl 0 rfl) ?_
  refine gfX8_136 (pc := 66) hC hZ dX8_close_66 ?_
  refine kX8_192 (pc := 69) hC hA hZ hf hl.1 (Nat.le_of_ble_eq_true rfl) ⟨Nat.le_of_ble_eq_true rfl, Nat.le_of_ble_eq_true rfl⟩ ⟨Nat.le_refl _, Nat.le_refl _⟩ dX8_close_69 (fun v4 w3 H locs hf hZ => ?_)
  refine z_last (pc := 72) hC hZ (by decide) rfl hf dX8_close_72 (fun w5 H locs hf hZ => ?_)
  refine lv_iinc (pc := 73) (v := (x1 + (1 : Int32))) (lv' := [(1, .int (x1 + (1 : Int32))), (0, .ref (a0 0))]) hx hb dX8_close_73 hl (k := 1) rfl rfl (by decide) rfl (fun ls hl => ?_)
  refine lv_goto (pc := 76) (tgt := 42) hx hb dX8_close_76 (by decide) ?_
  exact ih ((x1 + (1 : Int32)), w5) hf H locs ls hZ (lv_sub hl [1, 0] rfl)
set_option maxHeartbeats 4000000 in
set_option maxRecDepth 100000 in
theorem cX8_close_ok (l : Launch) (D : va_G) (cy : Nat → ClassId) (a0 aT aP : Nat → Nat) (N : Nat)  (w0 : zS) (rv : Int32) (τ : zS) (hf : fX8_close N  w0 = some (rv, τ)) : zMi l yX8_close cX8_close 2 (some .int) rmX8_close D cy shM 35 a0 aT aP w0 [.ref (a0 0)] rv τ (fun u => u = (aT, aP)) := by
  refine zmet_i (by decide +kernel) (Or.inl rfl) (Nat.le_of_ble_eq_true rfl) ?_
  intro p e s m below meth c A Q ls hC hA hZ hl hE
  have hx := hC.1.1
  have hb := hC.1.2.1
  have hl : lv_has ls 2 [(0, .ref (a0 0))] := hl
  unfold fX8_close at hf
  refine lv_bipush (pc := 0) (v := (30 : Int32)) hx hb dX8_close_0 (by decide) ?_
  refine lv_aload_n (pc := 2) hx hb dX8_close_2 rfl (lv_at hl 0 rfl) ?_
  refine gfX8_136 (pc := 3) hC hZ dX8_close_3 ?_
  refine lv_imul (pc := 6) hx hb dX8_close_6 ?_
  refine lv_bipush (pc := 7) (v := (30 : Int32)) hx hb dX8_close_7 (by decide) ?_
  refine lv_iadd (pc := 9) hx hb dX8_close_9 ?_
  refine lv_aload_n (pc := 10) hx hb dX8_close_10 rfl (lv_at hl 0 rfl) ?_
  refine gfX8_130 (pc := 11) hC hZ dX8_close_11 ?_
  refine z_ile (pc := 14) (tgt := 24) hC hf dX8_close_14 (by decide) (fun hf => ?_) (fun hf => ?_)
  · refine lv_aload_n (pc := 24) hx hb dX8_close_24 rfl (lv_at hl 0 rfl) ?_
    refine gfX8_136 (pc := 25) hC hZ dX8_close_25 ?_
    refine lv_bipush (pc := 28) (v := (20 : Int32)) hx hb dX8_close_28 (by decide) ?_
    refine z_ine (pc := 30) (tgt := 40) hC hf dX8_close_30 (by decide) (fun hf => ?_) (fun hf => ?_)
    · refine lv_aload_n (pc := 33) hx hb dX8_close_33 rfl (lv_at hl 0 rfl) ?_
      refine lv_bipush (pc := 34) (v := (-6 : Int32)) hx hb dX8_close_34 (by decide) ?_
      refine kX8_126 (pc := 36) hC hA hZ hf hl.1 (Nat.le_of_ble_eq_true rfl) ⟨Nat.le_of_ble_eq_true rfl, Nat.le_of_ble_eq_true rfl⟩ ⟨Nat.le_refl _, Nat.le_refl _⟩ dX8_close_36 (fun v2 w1 H locs hf hZ => ?_)
      obtain ⟨rfl, rfl⟩ := zinj hf
      exact hE _ _ _ _ _ _ rfl hZ dX8_close_39
    refine lv_iconst (pc := 40) (v := (0 : Int32)) hx hb dX8_close_40 (by decide) ?_
    refine lv_istore_n (pc := 41) (lv' := [(1, .int (0 : Int32)), (0, .ref (a0 0))]) hx hb dX8_close_41 rfl hl (by decide) rfl (fun ls hl => ?_)
    refine wX8_close_42 (res := (rv, τ)) N  hC hA hE N _ _ hf hZ (lv_sub hl [1, 0] rfl) (fun y6 w7 H locs ls hf hZ hl => ?_)
    refine lv_aload_n (pc := 79) hx hb dX8_close_79 rfl (lv_at hl 0 rfl) ?_
    refine lv_dup (pc := 80) hx hb dX8_close_80 rfl ?_
    refine gfX8_136 (pc := 81) hC hZ dX8_close_81 ?_
    refine lv_iconst (pc := 84) (v := (1 : Int32)) hx hb dX8_close_84 (by decide) ?_
    refine lv_iadd (pc := 85) hx hb dX8_close_85 ?_
    refine pfX8_136 (pc := 86) hC hZ hf dX8_close_86 (fun w8 H locs hf hZ => ?_)
    refine lv_aload_n (pc := 89) hx hb dX8_close_89 rfl (lv_at hl 0 rfl) ?_
    refine gfX8_136 (pc := 90) hC hZ dX8_close_90 ?_
    refine lv_iconst (pc := 93) (v := (1 : Int32)) hx hb dX8_close_93 (by decide) ?_
    refine lv_isub (pc := 94) hx hb dX8_close_94 ?_
    obtain ⟨rfl, rfl⟩ := zinj hf
    exact hE _ _ _ _ _ _ rfl hZ dX8_close_95
  refine lv_aload_n (pc := 17) hx hb dX8_close_17 rfl (lv_at hl 0 rfl) ?_
  refine lv_bipush (pc := 18) (v := (-3 : Int32)) hx hb dX8_close_18 (by decide) ?_
  refine kX8_126 (pc := 20) hC hA hZ hf hl.1 (Nat.le_of_ble_eq_true rfl) ⟨Nat.le_of_ble_eq_true rfl, Nat.le_of_ble_eq_true rfl⟩ ⟨Nat.le_refl _, Nat.le_refl _⟩ dX8_close_20 (fun v10 w9 H locs hf hZ => ?_)
  obtain ⟨rfl, rfl⟩ := zinj hf
  exact hE _ _ _ _ _ _ rfl hZ dX8_close_23
