set_option maxHeartbeats 4000000 in
set_option maxRecDepth 100000 in
theorem wX8_pair_42 {p : Program} {l : Launch} {e : Env} {s : State} {m : MethodId} {args : Array Value} {below : List Frame} {meth : Method} {c : Code} {Q : State → Prop} {A : Nat → Prop} {H0 : Heap} {D : va_G} {cy : Nat → ClassId} {a0 aT aP : Nat → Nat} {res : Int32 × zS} {K : Int32 → Int32 → zS → Option (Int32 × zS)} (N : Nat) (x2 : Int32) (x3 : Int32) (hC : zC p s m args c RX8 cX8_pair 5 D cy) (hA : ∀ q, H0.size ≤ q → A q) (hE : zEnd p l e rmX8_pair s m args below meth c Q D cy shM 35 a0 A H0 res.2 (fun u => u = (aT, aP)) cX8_pair .ireturn [.int res.1]) (n : Nat) (x1 : Int32) (x4 : Int32) (w0 : zS) {H : Heap} {locs : List Loc} {ls : Array Slot} (hf : lX8_pair_42 N x2 x3 K n (x1, x4, w0) = some res) (hZ : zW D cy shM 35 a0 aT aP A H0 w0 H locs) (hl : lv_has ls 5 [(0, .ref (a0 0)), (1, .int x1), (2, .int x2), (3, .int x3), (4, .int x4)]) (hK : ∀ x1 : Int32, ∀ x4 : Int32, ∀ (w0 : zS) (H : Heap) (locs : List Loc) (ls : Array Slot), K x1 x4 w0 = some res → zW D cy shM 35 a0 aT aP A H0 w0 H locs → lv_has ls 5 [(0, .ref (a0 0)), (1, .int x1), (2, .int x2), (3, .int x3), (4, .int x4)] → W p l e rmX8_pair s m args below meth c H locs 0 0 Q (F0 m 78 ls [])) : W p l e rmX8_pair s m args below meth c H locs 0 0 Q (F0 m 42 ls []) := by
  have hx := hC.1.1
  have hb := hC.1.2.1
  have hf2 : zlp (fun rc s1 => bX8_pair_42 N x2 x3 K rc s1.1 s1.2.1 s1.2.2) n (x1, x4, w0) = some res := hf
  have key := zloop (S := Int32 × Int32 × zS) (α := Int32 × zS) (b := fun rc s1 => bX8_pair_42 N x2 x3 K rc s1.1 s1.2.1 s1.2.2) (r := res) (Wd := fun s1 => ∀ (H : Heap) (locs : List Loc) (ls : Array Slot), zW D cy shM 35 a0 aT aP A H0 s1.2.2 H locs → lv_has ls 5 [(0, .ref (a0 0)), (1, .int s1.1), (2, .int x2), (3, .int x3), (4, .int s1.2.1)] → W p l e rmX8_pair s m args below meth c H locs 0 0 Q (F0 m 42 ls []))
  refine key ?_ n (x1, x4, w0) hf2 H locs ls hZ hl
  clear hf hf2 hZ hl key
  rintro rc ⟨x1, x4, w0⟩ ih hf H locs ls hZ hl
  have hf : bX8_pair_42 N x2 x3 K rc x1 x4 w0 = some res := hf
  have hl : lv_has ls 5 [(0, .ref (a0 0)), (1, .int x1), (2, .int x2), (3, .int x3), (4, .int x4)] := hl
  unfold bX8_pair_42 at hf
  refine lv_iload (pc := 42) hx hb dX8_pair_42 (lv_at hl 4 rfl) ?_
  refine lv_aload_n (pc := 44) hx hb dX8_pair_44 rfl (lv_at hl 0 rfl) ?_
  refine gfX8_123 (pc := 45) hC hZ dX8_pair_45 ?_
  refine z_ige (pc := 48) (tgt := 78) hC hf dX8_pair_48 (by decide) (fun hf => ?_) (fun hf => ?_)
  · exact hK x1 x4 w0 H locs ls hf hZ (lv_sub hl [0, 1, 2, 3, 4] rfl)
  refine lv_iload_n (pc := 51) hx hb dX8_pair_51 rfl (lv_at hl 1 rfl) ?_
  refine lv_bipush (pc := 52) (v := (25 : Int32)) hx hb dX8_pair_52 (by decide) ?_
  refine z_ige (pc := 54) (tgt := 78) hC hf dX8_pair_54 (by decide) (fun hf => ?_) (fun hf => ?_)
  · exact hK x1 x4 w0 H locs ls hf hZ (lv_sub hl [0, 1, 2, 3, 4] rfl)
  refine lv_iload_n (pc := 57) hx hb dX8_pair_57 rfl (lv_at hl 1 rfl) ?_
  refine lv_aload_n (pc := 58) hx hb dX8_pair_58 rfl (lv_at hl 0 rfl) ?_
  refine lv_iload_n (pc := 59) hx hb dX8_pair_59 rfl (lv_at hl 2 rfl) ?_
  refine lv_iload_n (pc := 60) hx hb dX8_pair_60 rfl (lv_at hl 3 rfl) ?_
  refine lv_iload (pc := 61) hx hb dX8_pair_61 (lv_at hl 4 rfl) ?_
  refine lv_bipush (pc := 63) (v := (25 : Int32)) hx hb dX8_pair_63 (by decide) ?_
  refine lv_iload_n (pc := 65) hx hb dX8_pair_65 rfl (lv_at hl 1 rfl) ?_
  refine lv_isub (pc := 66) hx hb dX8_pair_66 ?_
  refine kX8_179 (pc := 67) hC hA hZ hf hl.1 (Nat.le_of_ble_eq_true rfl) ⟨Nat.le_of_ble_eq_true rfl, Nat.le_of_ble_eq_true rfl⟩ ⟨Nat.le_refl _, Nat.le_refl _⟩ dX8_pair_67 (fun v2 w1 H locs hf hZ => ?_)
  refine lv_iadd (pc := 70) hx hb dX8_pair_70 ?_
  refine lv_istore_n (pc := 71) (lv' := [(1, .int (x1 + v2)), (0, .ref (a0 0)), (2, .int x2), (3, .int x3), (4, .int x4)]) hx hb dX8_pair_71 rfl hl (by decide) rfl (fun ls hl => ?_)
  refine lv_iinc (pc := 72) (v := (x4 + (1 : Int32))) (lv' := [(4, .int (x4 + (1 : Int32))), (1, .int (x1 + v2)), (0, .ref (a0 0)), (2, .int x2), (3, .int x3)]) hx hb dX8_pair_72 hl (k := 4) rfl rfl (by decide) rfl (fun ls hl => ?_)
  refine lv_goto (pc := 75) (tgt := 42) hx hb dX8_pair_75 (by decide) ?_
  exact ih ((x1 + v2), (x4 + (1 : Int32)), w1) hf H locs ls hZ (lv_sub hl [2, 1, 3, 4, 0] rfl)
set_option maxHeartbeats 4000000 in
set_option maxRecDepth 100000 in
theorem wX8_pair_31 {p : Program} {l : Launch} {e : Env} {s : State} {m : MethodId} {args : Array Value} {below : List Frame} {meth : Method} {c : Code} {Q : State → Prop} {A : Nat → Prop} {H0 : Heap} {D : va_G} {cy : Nat → ClassId} {a0 aT aP : Nat → Nat} {res : Int32 × zS} {K : Int32 → Int32 → zS → Option (Int32 × zS)} (N : Nat) (x2 : Int32) (hC : zC p s m args c RX8 cX8_pair 5 D cy) (hA : ∀ q, H0.size ≤ q → A q) (hE : zEnd p l e rmX8_pair s m args below meth c Q D cy shM 35 a0 A H0 res.2 (fun u => u = (aT, aP)) cX8_pair .ireturn [.int res.1]) (n : Nat) (x1 : Int32) (x3 : Int32) (w0 : zS) {H : Heap} {locs : List Loc} {ls : Array Slot} (hf : lX8_pair_31 N x2 K n (x1, x3, w0) = some res) (hZ : zW D cy shM 35 a0 aT aP A H0 w0 H locs) (hl : lv_has ls 5 [(0, .ref (a0 0)), (1, .int x1), (2, .int x2), (3, .int x3)]) (hK : ∀ x1 : Int32, ∀ x3 : Int32, ∀ (w0 : zS) (H : Heap) (locs : List Loc) (ls : Array Slot), K x1 x3 w0 = some res → zW D cy shM 35 a0 aT aP A H0 w0 H locs → lv_has ls 5 [(0, .ref (a0 0)), (1, .int x1), (2, .int x2), (3, .int x3)] → W p l e rmX8_pair s m args below meth c H locs 0 0 Q (F0 m 84 ls [])) : W p l e rmX8_pair s m args below meth c H locs 0 0 Q (F0 m 31 ls []) := by
  have hx := hC.1.1
  have hb := hC.1.2.1
  have hf2 : zlp (fun rc s1 => bX8_pair_31 N x2 K rc s1.1 s1.2.1 s1.2.2) n (x1, x3, w0) = some res := hf
  have key := zloop (S := Int32 × Int32 × zS) (α := Int32 × zS) (b := fun rc s1 => bX8_pair_31 N x2 K rc s1.1 s1.2.1 s1.2.2) (r := res) (Wd := fun s1 => ∀ (H : Heap) (locs : List Loc) (ls : Array Slot), zW D cy shM 35 a0 aT aP A H0 s1.2.2 H locs → lv_has ls 5 [(0, .ref (a0 0)), (1, .int s1.1), (2, .int x2), (3, .int s1.2.1)] → W p l e rmX8_pair s m args below meth c H locs 0 0 Q (F0 m 31 ls []))
  refine key ?_ n (x1, x3, w0) hf2 H locs ls hZ hl
  clear hf hf2 hZ hl key
  rintro rc ⟨x1, x3, w0⟩ ih hf H locs ls hZ hl
  have hf : bX8_pair_31 N x2 K rc x1 x3 w0 = some res := hf
  have hl : lv_has ls 5 [(0, .ref (a0 0)), (1, .int x1), (2, .int x2), (3, .int x3)] := hl
  unfold bX8_pair_31 at hf
  refine lv_iload_n (pc := 31) hx hb dX8_pair_31 rfl (lv_at hl 3 rfl) ?_
  refine lv_aload_n (pc := 32) hx hb dX8_pair_32 rfl (lv_at hl 0 rfl) ?_
  refine gfX8_115 (pc := 33) hC hZ dX8_pair_33 ?_
  refine z_ige (pc := 36) (tgt := 84) hC hf dX8_pair_36 (by decide) (fun hf => ?_) (fun hf => ?_)
  · exact hK x1 x3 w0 H locs ls hf hZ (lv_sub hl [0, 1, 2, 3] rfl)
  refine lv_iconst (pc := 39) (v := (0 : Int32)) hx hb dX8_pair_39 (by decide) ?_
  refine lv_istore (pc := 40) (lv' := [(4, .int (0 : Int32)), (0, .ref (a0 0)), (1, .int x1), (2, .int x2), (3, .int x3)]) hx hb dX8_pair_40 hl (by decide) rfl (fun ls hl => ?_)
  refine wX8_pair_42 (res := res) N x2 x3 hC hA hE N _ _ _ hf hZ (lv_sub hl [1, 2, 3, 4, 0] rfl) (fun y3 y4 w5 H locs ls hf hZ hl => ?_)
  refine lv_iinc (pc := 78) (v := (x3 + (1 : Int32))) (lv' := [(3, .int (x3 + (1 : Int32))), (0, .ref (a0 0)), (1, .int y3), (2, .int x2), (4, .int y4)]) hx hb dX8_pair_78 hl (k := 3) rfl rfl (by decide) rfl (fun ls hl => ?_)
  refine lv_goto (pc := 81) (tgt := 31) hx hb dX8_pair_81 (by decide) ?_
  exact ih (y3, (x3 + (1 : Int32)), w5) hf H locs ls hZ (lv_sub hl [1, 2, 3, 0] rfl)
set_option maxHeartbeats 4000000 in
set_option maxRecDepth 100000 in
theorem wX8_pair_21 {p : Program} {l : Launch} {e : Env} {s : State} {m : MethodId} {args : Array Value} {below : List Frame} {meth : Method} {c : Code} {Q : State → Prop} {A : Nat → Prop} {H0 : Heap} {D : va_G} {cy : Nat → ClassId} {a0 aT aP : Nat → Nat} {res : Int32 × zS} {K : Int32 → Int32 → zS → Option (Int32 × zS)} (N : Nat)  (hC : zC p s m args c RX8 cX8_pair 5 D cy) (hA : ∀ q, H0.size ≤ q → A q) (hE : zEnd p l e rmX8_pair s m args below meth c Q D cy shM 35 a0 A H0 res.2 (fun u => u = (aT, aP)) cX8_pair .ireturn [.int res.1]) (n : Nat) (x1 : Int32) (x2 : Int32) (w0 : zS) {H : Heap} {locs : List Loc} {ls : Array Slot} (hf : lX8_pair_21 N  K n (x1, x2, w0) = some res) (hZ : zW D cy shM 35 a0 aT aP A H0 w0 H locs) (hl : lv_has ls 5 [(0, .ref (a0 0)), (1, .int x1), (2, .int x2)]) (hK : ∀ x1 : Int32, ∀ x2 : Int32, ∀ (w0 : zS) (H : Heap) (locs : List Loc) (ls : Array Slot), K x1 x2 w0 = some res → zW D cy shM 35 a0 aT aP A H0 w0 H locs → lv_has ls 5 [(0, .ref (a0 0)), (1, .int x1), (2, .int x2)] → W p l e rmX8_pair s m args below meth c H locs 0 0 Q (F0 m 90 ls [])) : W p l e rmX8_pair s m args below meth c H locs 0 0 Q (F0 m 21 ls []) := by
  have hx := hC.1.1
  have hb := hC.1.2.1
  have hf2 : zlp (fun rc s1 => bX8_pair_21 N  K rc s1.1 s1.2.1 s1.2.2) n (x1, x2, w0) = some res := hf
  have key := zloop (S := Int32 × Int32 × zS) (α := Int32 × zS) (b := fun rc s1 => bX8_pair_21 N  K rc s1.1 s1.2.1 s1.2.2) (r := res) (Wd := fun s1 => ∀ (H : Heap) (locs : List Loc) (ls : Array Slot), zW D cy shM 35 a0 aT aP A H0 s1.2.2 H locs → lv_has ls 5 [(0, .ref (a0 0)), (1, .int s1.1), (2, .int s1.2.1)] → W p l e rmX8_pair s m args below meth c H locs 0 0 Q (F0 m 21 ls []))
  refine key ?_ n (x1, x2, w0) hf2 H locs ls hZ hl
  clear hf hf2 hZ hl key
  rintro rc ⟨x1, x2, w0⟩ ih hf H locs ls hZ hl
  have hf : bX8_pair_21 N  K rc x1 x2 w0 = some res := hf
  have hl : lv_has ls 5 [(0, .ref (a0 0)), (1, .int x1), (2, .int x2)] := hl
  unfold bX8_pair_21 at hf
  refine lv_iload_n (pc := 21) hx hb dX8_pair_21 rfl (lv_at hl 2 rfl) ?_
  refine lv_aload_n (pc := 22) hx hb dX8_pair_22 rfl (lv_at hl 0 rfl) ?_
  refine gfX8_115 (pc := 23) hC hZ dX8_pair_23 ?_
  refine z_ige (pc := 26) (tgt := 90) hC hf dX8_pair_26 (by decide) (fun hf => ?_) (fun hf => ?_)
  · exact hK x1 x2 w0 H locs ls hf hZ (lv_sub hl [0, 1, 2] rfl)
  refine lv_iconst (pc := 29) (v := (0 : Int32)) hx hb dX8_pair_29 (by decide) ?_
  refine lv_istore_n (pc := 30) (lv' := [(3, .int (0 : Int32)), (0, .ref (a0 0)), (1, .int x1), (2, .int x2)]) hx hb dX8_pair_30 rfl hl (by decide) rfl (fun ls hl => ?_)
  refine wX8_pair_31 (res := res) N x2 hC hA hE N _ _ _ hf hZ (lv_sub hl [1, 2, 3, 0] rfl) (fun y6 y7 w8 H locs ls hf hZ hl => ?_)
  refine lv_iinc (pc := 84) (v := (x2 + (1 : Int32))) (lv' := [(2, .int (x2 + (1 : Int32))), (0, .ref (a0 0)), (1, .int y6), (3, .int y7)]) hx hb dX8_pair_84 hl (k := 2) rfl rfl (by decide) rfl (fun ls hl => ?_)
  refine lv_goto (pc := 87) (tgt := 21) hx hb dX8_pair_87 (by decide) ?_
  exact ih (y6, (x2 + (1 : Int32)), w8) hf H locs ls hZ (lv_sub hl [1, 2, 0] rfl)
set_option maxHeartbeats 4000000 in
set_option maxRecDepth 100000 in
theorem cX8_pair_ok (l : Launch) (D : va_G) (cy : Nat → ClassId) (a0 aT aP : Nat → Nat) (N : Nat)  (w0 : zS) (rv : Int32) (τ : zS) (hf : fX8_pair N  w0 = some (rv, τ)) : zMi l yX8_pair cX8_pair 5 (some .int) rmX8_pair D cy shM 35 a0 aT aP w0 [.ref (a0 0)] rv τ (fun u => u = (aT, aP)) := by
  refine zmet_i (by decide +kernel) (Or.inl rfl) (Nat.le_of_ble_eq_true rfl) ?_
  intro p e s m below meth c A Q ls hC hA hZ hl hE
  have hx := hC.1.1
  have hb := hC.1.2.1
  have hl : lv_has ls 5 [(0, .ref (a0 0))] := hl
  unfold fX8_pair at hf
  refine lv_aload_n (pc := 0) hx hb dX8_pair_0 rfl (lv_at hl 0 rfl) ?_
  refine gfX8_133 (pc := 1) hC hZ dX8_pair_1 ?_
  refine lv_sipush (pc := 4) (v := (1900 : Int32)) hx hb dX8_pair_4 (by decide) ?_
  refine z_ile (pc := 7) (tgt := 17) hC hf dX8_pair_7 (by decide) (fun hf => ?_) (fun hf => ?_)
  · refine lv_iconst (pc := 17) (v := (0 : Int32)) hx hb dX8_pair_17 (by decide) ?_
    refine lv_istore_n (pc := 18) (lv' := [(1, .int (0 : Int32)), (0, .ref (a0 0))]) hx hb dX8_pair_18 rfl hl (by decide) rfl (fun ls hl => ?_)
    refine lv_iconst (pc := 19) (v := (0 : Int32)) hx hb dX8_pair_19 (by decide) ?_
    refine lv_istore_n (pc := 20) (lv' := [(2, .int (0 : Int32)), (1, .int (0 : Int32)), (0, .ref (a0 0))]) hx hb dX8_pair_20 rfl hl (by decide) rfl (fun ls hl => ?_)
    refine wX8_pair_21 (res := (rv, τ)) N  hC hA hE N _ _ _ hf hZ (lv_sub hl [2, 1, 0] rfl) (fun y9 y10 w11 H locs ls hf hZ hl => ?_)
    refine lv_iload_n (pc := 90) hx hb dX8_pair_90 rfl (lv_at hl 1 rfl) ?_
    obtain ⟨rfl, rfl⟩ := zinj hf
    exact hE _ _ _ _ _ _ rfl hZ dX8_pair_91
  refine lv_aload_n (pc := 10) hx hb dX8_pair_10 rfl (lv_at hl 0 rfl) ?_
  refine lv_bipush (pc := 11) (v := (-6 : Int32)) hx hb dX8_pair_11 (by decide) ?_
  refine kX8_126 (pc := 13) hC hA hZ hf hl.1 (Nat.le_of_ble_eq_true rfl) ⟨Nat.le_of_ble_eq_true rfl, Nat.le_of_ble_eq_true rfl⟩ ⟨Nat.le_refl _, Nat.le_refl _⟩ dX8_pair_13 (fun v13 w12 H locs hf hZ => ?_)
  obtain ⟨rfl, rfl⟩ := zinj hf
  exact hE _ _ _ _ _ _ rfl hZ dX8_pair_16
set_option maxHeartbeats 4000000 in
set_option maxRecDepth 100000 in
theorem cX8_isQuarrel_ok (l : Launch) (D : va_G) (cy : Nat → ClassId) (a0 aT aP : Nat → Nat) (N : Nat) (x1 : Int32) (w0 : zS) (rv : Int32) (τ : zS) (hf : fX8_isQuarrel N x1 w0 = some (rv, τ)) : zMi l yX8_isQuarrel cX8_isQuarrel 2 (some .boolean) rmX8_isQuarrel D cy shM 35 a0 aT aP w0 [.ref (a0 0), .int x1] rv τ (fun u => u = (aT, aP)) := by
  refine zmet_z (by decide +kernel) rfl (Nat.le_of_ble_eq_true rfl) ?_
  intro p e s m below meth c A Q ls hC hA hZ hl hE
  have hx := hC.1.1
  have hb := hC.1.2.1
  have hl : lv_has ls 2 [(0, .ref (a0 0)), (1, .int x1)] := hl
  unfold fX8_isQuarrel at hf
  refine lv_aload_n (pc := 0) hx hb dX8_isQuarrel_0 rfl (lv_at hl 0 rfl) ?_
  refine gfX8_48 (pc := 1) hC hZ dX8_isQuarrel_1 ?_
  refine lv_aload_n (pc := 4) hx hb dX8_isQuarrel_4 rfl (lv_at hl 0 rfl) ?_
  refine gfX8_60 (pc := 5) hC hZ dX8_isQuarrel_5 ?_
  refine lv_iload_n (pc := 8) hx hb dX8_isQuarrel_8 rfl (lv_at hl 1 rfl) ?_
  refine z_iald (pc := 9) hC hZ (by decide) rfl hf dX8_isQuarrel_9 (fun v1 hf => ?_)
  refine z_iald (pc := 10) hC hZ (by decide) rfl hf dX8_isQuarrel_10 (fun v2 hf => ?_)
  refine lv_aload_n (pc := 11) hx hb dX8_isQuarrel_11 rfl (lv_at hl 0 rfl) ?_
  refine gfX8_48 (pc := 12) hC hZ dX8_isQuarrel_12 ?_
  refine lv_aload_n (pc := 15) hx hb dX8_isQuarrel_15 rfl (lv_at hl 0 rfl) ?_
  refine gfX8_63 (pc := 16) hC hZ dX8_isQuarrel_16 ?_
  refine lv_iload_n (pc := 19) hx hb dX8_isQuarrel_19 rfl (lv_at hl 1 rfl) ?_
  refine z_iald (pc := 20) hC hZ (by decide) rfl hf dX8_isQuarrel_20 (fun v3 hf => ?_)
  refine z_iald (pc := 21) hC hZ (by decide) rfl hf dX8_isQuarrel_21 (fun v4 hf => ?_)
  refine z_ieq (pc := 22) (tgt := 29) hC hf dX8_isQuarrel_22 (by decide) (fun hf => ?_) (fun hf => ?_)
  · refine lv_iconst (pc := 29) (v := (0 : Int32)) hx hb dX8_isQuarrel_29 (by decide) ?_
    obtain ⟨rfl, rfl⟩ := zinj hf
    exact hE (by decide) _ _ _ _ _ _ rfl hZ dX8_isQuarrel_30
  refine lv_iconst (pc := 25) (v := (1 : Int32)) hx hb dX8_isQuarrel_25 (by decide) ?_
  refine lv_goto (pc := 26) (tgt := 30) hx hb dX8_isQuarrel_26 (by decide) ?_
  obtain ⟨rfl, rfl⟩ := zinj hf
  exact hE (by decide) _ _ _ _ _ _ rfl hZ dX8_isQuarrel_30
section ZK
variable {p : Program} {l : Launch} {e : Env} {R : Room} {s : State} {m : MethodId} {args : Array Value} {below : List Frame} {meth : Method} {c : Code} {H : Heap} {locs : List Loc} {cells slots : Nat} {Q : State → Prop}
variable {pc : Nat} {ls : Array Slot} {rest : List Value} {A : Nat → Prop} {H0 : Heap} {D : va_G} {cy : Nat → ClassId} {a0 aT aP : Nat → Nat} {σ : zS} {cc : ByteArray} {nL : Nat} {α : Type} {res : α}
theorem vkX8_183 : zVk RX8 183 yX8_isQuarrel cX8_isQuarrel 2 (some .boolean) 1 := ⟨by decide +kernel, by decide +kernel, by decide +kernel, by decide +kernel, by decide +kernel, by decide +kernel⟩
theorem kX8_183 (hC : zC p s m args c RX8 cc nL D cy) (hA : ∀ q, H0.size ≤ q → A q) (hZ : zW D cy shM 35 a0 aT aP A H0 σ H locs) {N : Nat} {x1 : Int32} {k : Int32 → zS → Option α} (hf : zbi (fX8_isQuarrel N x1 σ) k = some res) (hsz : ls.size = nL) (hW : (rest.map fun v => v.category).sum ≤ 8) (hR : rmX8_isQuarrel.frames + 1 ≤ R.frames ∧ 8 + (2 + 11) + rmX8_isQuarrel.locals ≤ R.locals) (hcs : cells ≤ R.cells ∧ slots ≤ R.slots) (hdg : decode cc pc = .ok (.invokevirtual 183, 3)) (kk : ∀ (v : Int32) (τ : zS) (H1 : Heap) (locs1 : List Loc), k v τ = some res → zW D cy shM 35 a0 aT aP A H0 τ H1 locs1 → W p l e R s m args below meth c H1 locs1 cells slots Q (F0 m (pc + 3) ls (.int v :: rest))) : W p l e R s m args below meth c H locs cells slots Q (F0 m pc ls (.int x1 :: .ref (a0 0) :: rest)) := by
  cases hq : fX8_isQuarrel N x1 σ with
  | none => rw [hq] at hf; cases hf
  | some q =>
    rw [hq] at hf
    exact zcalli hA hZ (zrun hC hZ vkX8_183 rfl (zw0 (by decide)) (cX8_isQuarrel_ok l D cy a0 aT aP N x1 σ q.1 q.2 hq H.size) hR rfl hsz rfl hW hcs hdg) (fun u H1 locs1 hU hZ1 => by subst hU; exact kk q.1 q.2 H1 locs1 hf hZ1)
end ZK
set_option maxHeartbeats 4000000 in
set_option maxRecDepth 100000 in
theorem cX8_judge_ok (l : Launch) (D : va_G) (cy : Nat → ClassId) (a0 aT aP : Nat → Nat) (N : Nat) (x1 : Int32) (x2 : Int32) (w0 : zS) (rv : Int32) (τ : zS) (hf : fX8_judge N x1 x2 w0 = some (rv, τ)) : zMi l yX8_judge cX8_judge 5 (some .int) rmX8_judge D cy shM 35 a0 aT aP w0 [.ref (a0 0), .int x1, .int x2] rv τ (fun u => u = (aT, aP)) := by
  refine zmet_i (by decide +kernel) (Or.inl rfl) (Nat.le_of_ble_eq_true rfl) ?_
  intro p e s m below meth c A Q ls hC hA hZ hl hE
  have hx := hC.1.1
  have hb := hC.1.2.1
  have hl : lv_has ls 5 [(0, .ref (a0 0)), (1, .int x1), (2, .int x2)] := hl
  unfold fX8_judge at hf
  refine lv_iload_n (pc := 0) hx hb dX8_judge_0 rfl (lv_at hl 1 rfl) ?_
  refine lv_iconst (pc := 1) (v := (0 : Int32)) hx hb dX8_judge_1 (by decide) ?_
  refine lv_aload_n (pc := 2) hx hb dX8_judge_2 rfl (lv_at hl 0 rfl) ?_
  refine gfX8_176 (pc := 3) hC hZ dX8_judge_3 ?_
  refine lv_iconst (pc := 6) (v := (1 : Int32)) hx hb dX8_judge_6 (by decide) ?_
  refine lv_isub (pc := 7) hx hb dX8_judge_7 ?_
  refine kX8_119 (pc := 8) hC hA hZ hf hl.1 (Nat.le_of_ble_eq_true rfl) ⟨Nat.le_of_ble_eq_true rfl, Nat.le_of_ble_eq_true rfl⟩ ⟨Nat.le_refl _, Nat.le_refl _⟩ dX8_judge_8 (fun v2 w1 H locs hf hZ => ?_)
  refine z_ne0 (pc := 11) (tgt := 20) hC hf dX8_judge_11 (by decide) (fun hf => ?_) (fun hf => ?_)
  · refine lv_aload_n (pc := 14) hx hb dX8_judge_14 rfl (lv_at hl 0 rfl) ?_
    refine lv_iconst (pc := 15) (v := (-1 : Int32)) hx hb dX8_judge_15 (by decide) ?_
    refine kX8_126 (pc := 16) hC hA hZ hf hl.1 (Nat.le_of_ble_eq_true rfl) ⟨Nat.le_of_ble_eq_true rfl, Nat.le_of_ble_eq_true rfl⟩ ⟨Nat.le_refl _, Nat.le_refl _⟩ dX8_judge_16 (fun v4 w3 H locs hf hZ => ?_)
    obtain ⟨rfl, rfl⟩ := zinj hf
    exact hE _ _ _ _ _ _ rfl hZ dX8_judge_19
  refine lv_aload_n (pc := 20) hx hb dX8_judge_20 rfl (lv_at hl 0 rfl) ?_
  refine lv_iload_n (pc := 21) hx hb dX8_judge_21 rfl (lv_at hl 1 rfl) ?_
  refine kX8_183 (pc := 22) hC hA hZ hf hl.1 (Nat.le_of_ble_eq_true rfl) ⟨Nat.le_of_ble_eq_true rfl, Nat.le_of_ble_eq_true rfl⟩ ⟨Nat.le_refl _, Nat.le_refl _⟩ dX8_judge_22 (fun v6 w5 H locs hf hZ => ?_)
  refine z_ne0 (pc := 25) (tgt := 35) hC hf dX8_judge_25 (by decide) (fun hf => ?_) (fun hf => ?_)
  · refine lv_aload_n (pc := 28) hx hb dX8_judge_28 rfl (lv_at hl 0 rfl) ?_
    refine lv_bipush (pc := 29) (v := (-3 : Int32)) hx hb dX8_judge_29 (by decide) ?_
    refine kX8_126 (pc := 31) hC hA hZ hf hl.1 (Nat.le_of_ble_eq_true rfl) ⟨Nat.le_of_ble_eq_true rfl, Nat.le_of_ble_eq_true rfl⟩ ⟨Nat.le_refl _, Nat.le_refl _⟩ dX8_judge_31 (fun v8 w7 H locs hf hZ => ?_)
    obtain ⟨rfl, rfl⟩ := zinj hf
    exact hE _ _ _ _ _ _ rfl hZ dX8_judge_34
  refine lv_iload_n (pc := 35) hx hb dX8_judge_35 rfl (lv_at hl 2 rfl) ?_
  refine z_ge0 (pc := 36) (tgt := 46) hC hf dX8_judge_36 (by decide) (fun hf => ?_) (fun hf => ?_)
  · refine lv_iload_n (pc := 46) hx hb dX8_judge_46 rfl (lv_at hl 2 rfl) ?_
    refine lv_sipush (pc := 47) (v := (1000 : Int32)) hx hb dX8_judge_47 (by decide) ?_
    refine z_igt (pc := 50) (tgt := 63) hC hf dX8_judge_50 (by decide) (fun hf => ?_) (fun hf => ?_)
    · refine lv_aload_n (pc := 63) hx hb dX8_judge_63 rfl (lv_at hl 0 rfl) ?_
      refine lv_bipush (pc := 64) (v := (-6 : Int32)) hx hb dX8_judge_64 (by decide) ?_
      refine kX8_126 (pc := 66) hC hA hZ hf hl.1 (Nat.le_of_ble_eq_true rfl) ⟨Nat.le_of_ble_eq_true rfl, Nat.le_of_ble_eq_true rfl⟩ ⟨Nat.le_refl _, Nat.le_refl _⟩ dX8_judge_66 (fun v10 w9 H locs hf hZ => ?_)
      obtain ⟨rfl, rfl⟩ := zinj hf
      exact hE _ _ _ _ _ _ rfl hZ dX8_judge_69
    refine lv_aload_n (pc := 53) hx hb dX8_judge_53 rfl (lv_at hl 0 rfl) ?_
    refine gfX8_133 (pc := 54) hC hZ dX8_judge_54 ?_
    refine lv_sipush (pc := 57) (v := (1998 : Int32)) hx hb dX8_judge_57 (by decide) ?_
    refine z_ile (pc := 60) (tgt := 70) hC hf dX8_judge_60 (by decide) (fun hf => ?_) (fun hf => ?_)
    · refine lv_aload_n (pc := 70) hx hb dX8_judge_70 rfl (lv_at hl 0 rfl) ?_
      refine gfX8_66 (pc := 71) hC hZ dX8_judge_71 ?_
      refine lv_iload_n (pc := 74) hx hb dX8_judge_74 rfl (lv_at hl 1 rfl) ?_
      refine z_iald (pc := 75) hC hZ (by decide) rfl hf dX8_judge_75 (fun v11 hf => ?_)
      refine lv_istore_n (pc := 76) (lv' := [(3, .int v11), (0, .ref (a0 0)), (1, .int x1), (2, .int x2)]) hx hb dX8_judge_76 rfl hl (by decide) rfl (fun ls hl => ?_)
      refine lv_aload_n (pc := 77) hx hb dX8_judge_77 rfl (lv_at hl 1 rfl) ?_
      refine gfX8_66 (pc := 78) hC hZ dX8_judge_78 ?_
      refine lv_iload_n (pc := 81) hx hb dX8_judge_81 rfl (lv_at hl 2 rfl) ?_
      refine lv_iload_n (pc := 82) hx hb dX8_judge_82 rfl (lv_at hl 3 rfl) ?_
      refine z_iast (pc := 83) hC hZ (by decide) rfl hf dX8_judge_83 (fun w12 H locs hf hZ => ?_)
      refine lv_aload_n (pc := 84) hx hb dX8_judge_84 rfl (lv_at hl 1 rfl) ?_
      refine gfX8_69 (pc := 85) hC hZ dX8_judge_85 ?_
      refine lv_iload_n (pc := 88) hx hb dX8_judge_88 rfl (lv_at hl 2 rfl) ?_
      refine lv_iconst (pc := 89) (v := (1 : Int32)) hx hb dX8_judge_89 (by decide) ?_
      refine z_zast (pc := 90) hC hZ (by decide) rfl hf dX8_judge_90 (fun w13 H locs hf hZ => ?_)
      refine lv_aload_n (pc := 91) hx hb dX8_judge_91 rfl (lv_at hl 1 rfl) ?_
      refine gfX8_60 (pc := 92) hC hZ dX8_judge_92 ?_
      refine lv_iload_n (pc := 95) hx hb dX8_judge_95 rfl (lv_at hl 2 rfl) ?_
      refine z_iald (pc := 96) hC hZ (by decide) rfl hf dX8_judge_96 (fun v14 hf => ?_)
      refine lv_istore (pc := 97) (lv' := [(4, .int v14), (3, .int v11), (0, .ref (a0 0)), (1, .int x1), (2, .int x2)]) hx hb dX8_judge_97 hl (by decide) rfl (fun ls hl => ?_)
      refine lv_iload_n (pc := 99) hx hb dX8_judge_99 rfl (lv_at hl 4 rfl) ?_
      refine lv_iload_n (pc := 100) hx hb dX8_judge_100 rfl (lv_at hl 1 rfl) ?_
      refine z_ieq (pc := 101) (tgt := 168) hC hf dX8_judge_101 (by decide) (fun hf => ?_) (fun hf => ?_)
      · refine lv_iload_n (pc := 168) hx hb dX8_judge_168 rfl (lv_at hl 1 rfl) ?_
        obtain ⟨rfl, rfl⟩ := zinj hf
        exact hE _ _ _ _ _ _ rfl hZ dX8_judge_169
      refine lv_aload_n (pc := 104) hx hb dX8_judge_104 rfl (lv_at hl 2 rfl) ?_
      refine lv_aload_n (pc := 105) hx hb dX8_judge_105 rfl (lv_at hl 2 rfl) ?_
      refine gfX8_39 (pc := 106) hC hZ dX8_judge_106 ?_
      refine lv_iload (pc := 109) hx hb dX8_judge_109 (lv_at hl 0 rfl) ?_
      refine z_iald (pc := 111) hC hZ (by decide) rfl hf dX8_judge_111 (fun v15 hf => ?_)
      refine lv_aload_n (pc := 112) hx hb dX8_judge_112 rfl (lv_at hl 2 rfl) ?_
      refine gfX8_45 (pc := 113) hC hZ dX8_judge_113 ?_
      refine lv_iload (pc := 116) hx hb dX8_judge_116 (lv_at hl 0 rfl) ?_
      refine z_iald (pc := 118) hC hZ (by decide) rfl hf dX8_judge_118 (fun v16 hf => ?_)
      refine lv_aload_n (pc := 119) hx hb dX8_judge_119 rfl (lv_at hl 2 rfl) ?_
      refine gfX8_51 (pc := 120) hC hZ dX8_judge_120 ?_
      refine lv_aload_n (pc := 123) hx hb dX8_judge_123 rfl (lv_at hl 2 rfl) ?_
      refine gfX8_63 (pc := 124) hC hZ dX8_judge_124 ?_
      refine lv_iload_n (pc := 127) hx hb dX8_judge_127 rfl (lv_at hl 3 rfl) ?_
      refine z_iald (pc := 128) hC hZ (by decide) rfl hf dX8_judge_128 (fun v17 hf => ?_)
      refine z_iald (pc := 129) hC hZ (by decide) rfl hf dX8_judge_129 (fun v18 hf => ?_)
      refine lv_iload_n (pc := 130) hx hb dX8_judge_130 rfl (lv_at hl 1 rfl) ?_
      refine lv_iload_n (pc := 131) hx hb dX8_judge_131 rfl (lv_at hl 4 rfl) ?_
      refine lv_isub (pc := 132) hx hb dX8_judge_132 ?_
      refine kX8_153 (pc := 133) hC hA hZ hf hl.1 (Nat.le_of_ble_eq_true rfl) ⟨Nat.le_of_ble_eq_true rfl, Nat.le_of_ble_eq_true rfl⟩ ⟨Nat.le_refl _, Nat.le_refl _⟩ dX8_judge_133 (fun w19 H locs hf hZ => ?_)
      refine lv_aload_n (pc := 136) hx hb dX8_judge_136 rfl (lv_at hl 2 rfl) ?_
      refine lv_aload_n (pc := 137) hx hb dX8_judge_137 rfl (lv_at hl 2 rfl) ?_
      refine gfX8_42 (pc := 138) hC hZ dX8_judge_138 ?_
      refine lv_iload (pc := 141) hx hb dX8_judge_141 (lv_at hl 0 rfl) ?_
      refine z_iald (pc := 143) hC hZ (by decide) rfl hf dX8_judge_143 (fun v20 hf => ?_)
      refine lv_aload_n (pc := 144) hx hb dX8_judge_144 rfl (lv_at hl 2 rfl) ?_
      refine gfX8_45 (pc := 145) hC hZ dX8_judge_145 ?_
      refine lv_iload (pc := 148) hx hb dX8_judge_148 (lv_at hl 0 rfl) ?_
      refine z_iald (pc := 150) hC hZ (by decide) rfl hf dX8_judge_150 (fun v21 hf => ?_)
      refine lv_aload_n (pc := 151) hx hb dX8_judge_151 rfl (lv_at hl 2 rfl) ?_
      refine gfX8_51 (pc := 152) hC hZ dX8_judge_152 ?_
      refine lv_aload_n (pc := 155) hx hb dX8_judge_155 rfl (lv_at hl 2 rfl) ?_
      refine gfX8_63 (pc := 156) hC hZ dX8_judge_156 ?_
      refine lv_iload_n (pc := 159) hx hb dX8_judge_159 rfl (lv_at hl 3 rfl) ?_
      refine z_iald (pc := 160) hC hZ (by decide) rfl hf dX8_judge_160 (fun v22 hf => ?_)
      refine z_iald (pc := 161) hC hZ (by decide) rfl hf dX8_judge_161 (fun v23 hf => ?_)
      refine lv_iload_n (pc := 162) hx hb dX8_judge_162 rfl (lv_at hl 4 rfl) ?_
      refine lv_iload_n (pc := 163) hx hb dX8_judge_163 rfl (lv_at hl 1 rfl) ?_
      refine lv_isub (pc := 164) hx hb dX8_judge_164 ?_
      refine kX8_153 (pc := 165) hC hA hZ hf hl.1 (Nat.le_of_ble_eq_true rfl) ⟨Nat.le_of_ble_eq_true rfl, Nat.le_of_ble_eq_true rfl⟩ ⟨Nat.le_refl _, Nat.le_refl _⟩ dX8_judge_165 (fun w24 H locs hf hZ => ?_)
      refine lv_iload_n (pc := 168) hx hb dX8_judge_168 rfl (lv_at hl 1 rfl) ?_
      obtain ⟨rfl, rfl⟩ := zinj hf
      exact hE _ _ _ _ _ _ rfl hZ dX8_judge_169
    refine lv_aload_n (pc := 63) hx hb dX8_judge_63 rfl (lv_at hl 0 rfl) ?_
    refine lv_bipush (pc := 64) (v := (-6 : Int32)) hx hb dX8_judge_64 (by decide) ?_
    refine kX8_126 (pc := 66) hC hA hZ hf hl.1 (Nat.le_of_ble_eq_true rfl) ⟨Nat.le_of_ble_eq_true rfl, Nat.le_of_ble_eq_true rfl⟩ ⟨Nat.le_refl _, Nat.le_refl _⟩ dX8_judge_66 (fun v26 w25 H locs hf hZ => ?_)
    obtain ⟨rfl, rfl⟩ := zinj hf
    exact hE _ _ _ _ _ _ rfl hZ dX8_judge_69
  refine lv_aload_n (pc := 39) hx hb dX8_judge_39 rfl (lv_at hl 0 rfl) ?_
  refine lv_bipush (pc := 40) (v := (-4 : Int32)) hx hb dX8_judge_40 (by decide) ?_
  refine kX8_126 (pc := 42) hC hA hZ hf hl.1 (Nat.le_of_ble_eq_true rfl) ⟨Nat.le_of_ble_eq_true rfl, Nat.le_of_ble_eq_true rfl⟩ ⟨Nat.le_refl _, Nat.le_refl _⟩ dX8_judge_42 (fun v28 w27 H locs hf hZ => ?_)
  obtain ⟨rfl, rfl⟩ := zinj hf
  exact hE _ _ _ _ _ _ rfl hZ dX8_judge_45
