set_option maxHeartbeats 4000000 in
set_option maxRecDepth 100000 in
theorem wX4_solve_9 {p : Program} {l : Launch} {e : Env} {s : State} {m : MethodId} {args : Array Value} {below : List Frame} {meth : Method} {c : Code} {Q : State → Prop} {A : Nat → Prop} {H0 : Heap} {D : va_G} {cy : Nat → ClassId} {a0 aT aP : Nat → Nat} {res : zS} {K : Int32 → zS → Option (zS)} (N : Nat) (x1 : Int32) (hC : zC p s m args c RX4 cX4_solve 4 D cy) (hA : ∀ q, H0.size ≤ q → A q) (hE : zEnd p l e rmX4_solve s m args below meth c Q D cy shX 38 a0 A H0 res (fun u => u = (aT, aP)) cX4_solve .return_ []) (n : Nat) (x2 : Int32) (w0 : zS) {H : Heap} {locs : List Loc} {ls : Array Slot} (hf : lX4_solve_9 N x1 K n (x2, w0) = some res) (hZ : zW D cy shX 38 a0 aT aP A H0 w0 H locs) (hl : lv_has ls 4 [(0, .ref (a0 3)), (1, .int x1), (2, .int x2)]) (hK : ∀ x2 : Int32, ∀ (w0 : zS) (H : Heap) (locs : List Loc) (ls : Array Slot), K x2 w0 = some res → zW D cy shX 38 a0 aT aP A H0 w0 H locs → lv_has ls 4 [(0, .ref (a0 3)), (1, .int x1), (2, .int x2)] → W p l e rmX4_solve s m args below meth c H locs 0 0 Q (F0 m 38 ls [])) : W p l e rmX4_solve s m args below meth c H locs 0 0 Q (F0 m 9 ls []) := by
  have hx := hC.1.1
  have hb := hC.1.2.1
  have hf2 : zlp (fun rc s1 => bX4_solve_9 N x1 K rc s1.1 s1.2) n (x2, w0) = some res := hf
  have key := zloop (S := Int32 × zS) (α := zS) (b := fun rc s1 => bX4_solve_9 N x1 K rc s1.1 s1.2) (r := res) (Wd := fun s1 => ∀ (H : Heap) (locs : List Loc) (ls : Array Slot), zW D cy shX 38 a0 aT aP A H0 s1.2 H locs → lv_has ls 4 [(0, .ref (a0 3)), (1, .int x1), (2, .int s1.1)] → W p l e rmX4_solve s m args below meth c H locs 0 0 Q (F0 m 9 ls []))
  refine key ?_ n (x2, w0) hf2 H locs ls hZ hl
  clear hf hf2 hZ hl key
  rintro rc ⟨x2, w0⟩ ih hf H locs ls hZ hl
  have hf : bX4_solve_9 N x1 K rc x2 w0 = some res := hf
  have hl : lv_has ls 4 [(0, .ref (a0 3)), (1, .int x1), (2, .int x2)] := hl
  unfold bX4_solve_9 at hf
  refine lv_iload_n (pc := 9) hx hb dX4_solve_9 rfl (lv_at hl 2 rfl) ?_
  refine lv_iload_n (pc := 10) hx hb dX4_solve_10 rfl (lv_at hl 1 rfl) ?_
  refine z_ige (pc := 11) (tgt := 38) hC hf dX4_solve_11 (by decide) (fun hf => ?_) (fun hf => ?_)
  · exact hK x2 w0 H locs ls hf hZ (lv_sub hl [0, 1, 2] rfl)
  refine lv_iload_n (pc := 14) hx hb dX4_solve_14 rfl (lv_at hl 2 rfl) ?_
  refine lv_aload_n (pc := 15) hx hb dX4_solve_15 rfl (lv_at hl 0 rfl) ?_
  refine gfX4_18 (pc := 16) hC hZ dX4_solve_16 ?_
  refine z_alen (pc := 19) (v := (256 : Int32)) hC hZ (by decide) rfl rfl (by decide) dX4_solve_19 ?_
  refine z_ige (pc := 20) (tgt := 38) hC hf dX4_solve_20 (by decide) (fun hf => ?_) (fun hf => ?_)
  · exact hK x2 w0 H locs ls hf hZ (lv_sub hl [0, 1, 2] rfl)
  refine lv_aload_n (pc := 23) hx hb dX4_solve_23 rfl (lv_at hl 0 rfl) ?_
  refine gfX4_18 (pc := 24) hC hZ dX4_solve_24 ?_
  refine lv_iload_n (pc := 27) hx hb dX4_solve_27 rfl (lv_at hl 2 rfl) ?_
  refine lv_ldc2 (pc := 28) (v := (-1 : Int64)) hx hb hC.1.2.2.2.1 (hC.1.2.2.2.2 _ kcX4_55) dX4_solve_28 ?_
  refine z_last (pc := 31) hC hZ (by decide) rfl hf dX4_solve_31 (fun w1 H locs hf hZ => ?_)
  refine lv_iinc (pc := 32) (v := (x2 + (1 : Int32))) (lv' := [(2, .int (x2 + (1 : Int32))), (0, .ref (a0 3)), (1, .int x1)]) hx hb dX4_solve_32 hl (k := 2) rfl rfl (by decide) rfl (fun ls hl => ?_)
  refine lv_goto (pc := 35) (tgt := 9) hx hb dX4_solve_35 (by decide) ?_
  exact ih ((x2 + (1 : Int32)), w1) hf H locs ls hZ (lv_sub hl [1, 2, 0] rfl)
set_option maxHeartbeats 4000000 in
set_option maxRecDepth 100000 in
theorem wX4_solve_57 {p : Program} {l : Launch} {e : Env} {s : State} {m : MethodId} {args : Array Value} {below : List Frame} {meth : Method} {c : Code} {Q : State → Prop} {A : Nat → Prop} {H0 : Heap} {D : va_G} {cy : Nat → ClassId} {a0 aT aP : Nat → Nat} {res : zS} {K : Int32 → zS → Option (zS)} (N : Nat) (x1 : Int32) (x2 : Int32) (hC : zC p s m args c RX4 cX4_solve 4 D cy) (hA : ∀ q, H0.size ≤ q → A q) (hE : zEnd p l e rmX4_solve s m args below meth c Q D cy shX 38 a0 A H0 res (fun u => u = (aT, aP)) cX4_solve .return_ []) (n : Nat) (x3 : Int32) (w0 : zS) {H : Heap} {locs : List Loc} {ls : Array Slot} (hf : lX4_solve_57 N x1 x2 K n (x3, w0) = some res) (hZ : zW D cy shX 38 a0 aT aP A H0 w0 H locs) (hl : lv_has ls 4 [(0, .ref (a0 3)), (1, .int x1), (2, .int x2), (3, .int x3)]) (hK : ∀ x3 : Int32, ∀ (w0 : zS) (H : Heap) (locs : List Loc) (ls : Array Slot), K x3 w0 = some res → zW D cy shX 38 a0 aT aP A H0 w0 H locs → lv_has ls 4 [(0, .ref (a0 3)), (1, .int x1), (2, .int x2), (3, .int x3)] → W p l e rmX4_solve s m args below meth c H locs 0 0 Q (F0 m 83 ls [])) : W p l e rmX4_solve s m args below meth c H locs 0 0 Q (F0 m 57 ls []) := by
  have hx := hC.1.1
  have hb := hC.1.2.1
  have hf2 : zlp (fun rc s1 => bX4_solve_57 N x1 x2 K rc s1.1 s1.2) n (x3, w0) = some res := hf
  have key := zloop (S := Int32 × zS) (α := zS) (b := fun rc s1 => bX4_solve_57 N x1 x2 K rc s1.1 s1.2) (r := res) (Wd := fun s1 => ∀ (H : Heap) (locs : List Loc) (ls : Array Slot), zW D cy shX 38 a0 aT aP A H0 s1.2 H locs → lv_has ls 4 [(0, .ref (a0 3)), (1, .int x1), (2, .int x2), (3, .int s1.1)] → W p l e rmX4_solve s m args below meth c H locs 0 0 Q (F0 m 57 ls []))
  refine key ?_ n (x3, w0) hf2 H locs ls hZ hl
  clear hf hf2 hZ hl key
  rintro rc ⟨x3, w0⟩ ih hf H locs ls hZ hl
  have hf : bX4_solve_57 N x1 x2 K rc x3 w0 = some res := hf
  have hl : lv_has ls 4 [(0, .ref (a0 3)), (1, .int x1), (2, .int x2), (3, .int x3)] := hl
  unfold bX4_solve_57 at hf
  refine lv_iload_n (pc := 57) hx hb dX4_solve_57 rfl (lv_at hl 3 rfl) ?_
  refine lv_aload_n (pc := 58) hx hb dX4_solve_58 rfl (lv_at hl 0 rfl) ?_
  refine gfX4_29 (pc := 59) hC hZ dX4_solve_59 ?_
  refine z_ige (pc := 62) (tgt := 83) hC hf dX4_solve_62 (by decide) (fun hf => ?_) (fun hf => ?_)
  · exact hK x3 w0 H locs ls hf hZ (lv_sub hl [0, 1, 2, 3] rfl)
  refine lv_aload_n (pc := 65) hx hb dX4_solve_65 rfl (lv_at hl 0 rfl) ?_
  refine gfX4_22 (pc := 66) hC hZ dX4_solve_66 ?_
  refine lv_iload_n (pc := 69) hx hb dX4_solve_69 rfl (lv_at hl 3 rfl) ?_
  refine lv_aload_n (pc := 70) hx hb dX4_solve_70 rfl (lv_at hl 0 rfl) ?_
  refine lv_iload_n (pc := 71) hx hb dX4_solve_71 rfl (lv_at hl 2 rfl) ?_
  refine lv_iload_n (pc := 72) hx hb dX4_solve_72 rfl (lv_at hl 3 rfl) ?_
  refine kX4_57 (pc := 73) hC hA hZ hf hl.1 (Nat.le_of_ble_eq_true rfl) ⟨Nat.le_of_ble_eq_true rfl, Nat.le_of_ble_eq_true rfl⟩ ⟨Nat.le_refl _, Nat.le_refl _⟩ dX4_solve_73 (fun v6 w5 H locs hf hZ => ?_)
  refine z_last (pc := 76) hC hZ (by decide) rfl hf dX4_solve_76 (fun w7 H locs hf hZ => ?_)
  refine lv_iinc (pc := 77) (v := (x3 + (1 : Int32))) (lv' := [(3, .int (x3 + (1 : Int32))), (0, .ref (a0 3)), (1, .int x1), (2, .int x2)]) hx hb dX4_solve_77 hl (k := 3) rfl rfl (by decide) rfl (fun ls hl => ?_)
  refine lv_goto (pc := 80) (tgt := 57) hx hb dX4_solve_80 (by decide) ?_
  exact ih ((x3 + (1 : Int32)), w7) hf H locs ls hZ (lv_sub hl [1, 2, 3, 0] rfl)
set_option maxHeartbeats 4000000 in
set_option maxRecDepth 100000 in
theorem wX4_solve_47 {p : Program} {l : Launch} {e : Env} {s : State} {m : MethodId} {args : Array Value} {below : List Frame} {meth : Method} {c : Code} {Q : State → Prop} {A : Nat → Prop} {H0 : Heap} {D : va_G} {cy : Nat → ClassId} {a0 aT aP : Nat → Nat} {res : zS} {K : Int32 → zS → Option (zS)} (N : Nat) (x1 : Int32) (hC : zC p s m args c RX4 cX4_solve 4 D cy) (hA : ∀ q, H0.size ≤ q → A q) (hE : zEnd p l e rmX4_solve s m args below meth c Q D cy shX 38 a0 A H0 res (fun u => u = (aT, aP)) cX4_solve .return_ []) (n : Nat) (x2 : Int32) (w0 : zS) {H : Heap} {locs : List Loc} {ls : Array Slot} (hf : lX4_solve_47 N x1 K n (x2, w0) = some res) (hZ : zW D cy shX 38 a0 aT aP A H0 w0 H locs) (hl : lv_has ls 4 [(0, .ref (a0 3)), (1, .int x1), (2, .int x2)]) (hK : ∀ x2 : Int32, ∀ (w0 : zS) (H : Heap) (locs : List Loc) (ls : Array Slot), K x2 w0 = some res → zW D cy shX 38 a0 aT aP A H0 w0 H locs → lv_has ls 4 [(0, .ref (a0 3)), (1, .int x1), (2, .int x2)] → W p l e rmX4_solve s m args below meth c H locs 0 0 Q (F0 m 94 ls [])) : W p l e rmX4_solve s m args below meth c H locs 0 0 Q (F0 m 47 ls []) := by
  have hx := hC.1.1
  have hb := hC.1.2.1
  have hf2 : zlp (fun rc s1 => bX4_solve_47 N x1 K rc s1.1 s1.2) n (x2, w0) = some res := hf
  have key := zloop (S := Int32 × zS) (α := zS) (b := fun rc s1 => bX4_solve_47 N x1 K rc s1.1 s1.2) (r := res) (Wd := fun s1 => ∀ (H : Heap) (locs : List Loc) (ls : Array Slot), zW D cy shX 38 a0 aT aP A H0 s1.2 H locs → lv_has ls 4 [(0, .ref (a0 3)), (1, .int x1), (2, .int s1.1)] → W p l e rmX4_solve s m args below meth c H locs 0 0 Q (F0 m 47 ls []))
  refine key ?_ n (x2, w0) hf2 H locs ls hZ hl
  clear hf hf2 hZ hl key
  rintro rc ⟨x2, w0⟩ ih hf H locs ls hZ hl
  have hf : bX4_solve_47 N x1 K rc x2 w0 = some res := hf
  have hl : lv_has ls 4 [(0, .ref (a0 3)), (1, .int x1), (2, .int x2)] := hl
  unfold bX4_solve_47 at hf
  refine lv_iload_n (pc := 47) hx hb dX4_solve_47 rfl (lv_at hl 2 rfl) ?_
  refine lv_aload_n (pc := 48) hx hb dX4_solve_48 rfl (lv_at hl 0 rfl) ?_
  refine gfX4_25 (pc := 49) hC hZ dX4_solve_49 ?_
  refine z_ige (pc := 52) (tgt := 94) hC hf dX4_solve_52 (by decide) (fun hf => ?_) (fun hf => ?_)
  · exact hK x2 w0 H locs ls hf hZ (lv_sub hl [0, 1, 2] rfl)
  refine lv_iconst (pc := 55) (v := (0 : Int32)) hx hb dX4_solve_55 (by decide) ?_
  refine lv_istore_n (pc := 56) (lv' := [(3, .int (0 : Int32)), (0, .ref (a0 3)), (1, .int x1), (2, .int x2)]) hx hb dX4_solve_56 rfl hl (by decide) rfl (fun ls hl => ?_)
  refine wX4_solve_57 (res := res) N x1 x2 hC hA hE N _ _ hf hZ (lv_sub hl [1, 2, 3, 0] rfl) (fun y8 w9 H locs ls hf hZ hl => ?_)
  refine lv_aload_n (pc := 83) hx hb dX4_solve_83 rfl (lv_at hl 0 rfl) ?_
  refine lv_iload_n (pc := 84) hx hb dX4_solve_84 rfl (lv_at hl 1 rfl) ?_
  refine kX4_61 (pc := 85) hC hA hZ hf hl.1 (Nat.le_of_ble_eq_true rfl) ⟨Nat.le_of_ble_eq_true rfl, Nat.le_of_ble_eq_true rfl⟩ ⟨Nat.le_refl _, Nat.le_refl _⟩ dX4_solve_85 (fun w10 H locs hf hZ => ?_)
  refine lv_iinc (pc := 88) (v := (x2 + (1 : Int32))) (lv' := [(2, .int (x2 + (1 : Int32))), (0, .ref (a0 3)), (1, .int x1), (3, .int y8)]) hx hb dX4_solve_88 hl (k := 2) rfl rfl (by decide) rfl (fun ls hl => ?_)
  refine lv_goto (pc := 91) (tgt := 47) hx hb dX4_solve_91 (by decide) ?_
  exact ih ((x2 + (1 : Int32)), w10) hf H locs ls hZ (lv_sub hl [1, 2, 0] rfl)
set_option maxHeartbeats 4000000 in
set_option maxRecDepth 100000 in
theorem wX4_solve_96 {p : Program} {l : Launch} {e : Env} {s : State} {m : MethodId} {args : Array Value} {below : List Frame} {meth : Method} {c : Code} {Q : State → Prop} {A : Nat → Prop} {H0 : Heap} {D : va_G} {cy : Nat → ClassId} {a0 aT aP : Nat → Nat} {res : zS} {K : Int32 → zS → Option (zS)} (N : Nat) (x1 : Int32) (hC : zC p s m args c RX4 cX4_solve 4 D cy) (hA : ∀ q, H0.size ≤ q → A q) (hE : zEnd p l e rmX4_solve s m args below meth c Q D cy shX 38 a0 A H0 res (fun u => u = (aT, aP)) cX4_solve .return_ []) (n : Nat) (x2 : Int32) (w0 : zS) {H : Heap} {locs : List Loc} {ls : Array Slot} (hf : lX4_solve_96 N x1 K n (x2, w0) = some res) (hZ : zW D cy shX 38 a0 aT aP A H0 w0 H locs) (hl : lv_has ls 4 [(0, .ref (a0 3)), (1, .int x1), (2, .int x2)]) (hK : ∀ x2 : Int32, ∀ (w0 : zS) (H : Heap) (locs : List Loc) (ls : Array Slot), K x2 w0 = some res → zW D cy shX 38 a0 aT aP A H0 w0 H locs → lv_has ls 4 [(0, .ref (a0 3)), (1, .int x1), (2, .int x2)] → W p l e rmX4_solve s m args below meth c H locs 0 0 Q (F0 m 133 ls [])) : W p l e rmX4_solve s m args below meth c H locs 0 0 Q (F0 m 96 ls []) := by
  have hx := hC.1.1
  have hb := hC.1.2.1
  have hf2 : zlp (fun rc s1 => bX4_solve_96 N x1 K rc s1.1 s1.2) n (x2, w0) = some res := hf
  have key := zloop (S := Int32 × zS) (α := zS) (b := fun rc s1 => bX4_solve_96 N x1 K rc s1.1 s1.2) (r := res) (Wd := fun s1 => ∀ (H : Heap) (locs : List Loc) (ls : Array Slot), zW D cy shX 38 a0 aT aP A H0 s1.2 H locs → lv_has ls 4 [(0, .ref (a0 3)), (1, .int x1), (2, .int s1.1)] → W p l e rmX4_solve s m args below meth c H locs 0 0 Q (F0 m 96 ls []))
  refine key ?_ n (x2, w0) hf2 H locs ls hZ hl
  clear hf hf2 hZ hl key
  rintro rc ⟨x2, w0⟩ ih hf H locs ls hZ hl
  have hf : bX4_solve_96 N x1 K rc x2 w0 = some res := hf
  have hl : lv_has ls 4 [(0, .ref (a0 3)), (1, .int x1), (2, .int x2)] := hl
  unfold bX4_solve_96 at hf
  refine lv_iload_n (pc := 96) hx hb dX4_solve_96 rfl (lv_at hl 2 rfl) ?_
  refine lv_iload_n (pc := 97) hx hb dX4_solve_97 rfl (lv_at hl 1 rfl) ?_
  refine z_ige (pc := 98) (tgt := 133) hC hf dX4_solve_98 (by decide) (fun hf => ?_) (fun hf => ?_)
  · exact hK x2 w0 H locs ls hf hZ (lv_sub hl [0, 1, 2] rfl)
  refine lv_iload_n (pc := 101) hx hb dX4_solve_101 rfl (lv_at hl 2 rfl) ?_
  refine lv_aload_n (pc := 102) hx hb dX4_solve_102 rfl (lv_at hl 0 rfl) ?_
  refine gfX4_18 (pc := 103) hC hZ dX4_solve_103 ?_
  refine z_alen (pc := 106) (v := (256 : Int32)) hC hZ (by decide) rfl rfl (by decide) dX4_solve_106 ?_
  refine z_ige (pc := 107) (tgt := 133) hC hf dX4_solve_107 (by decide) (fun hf => ?_) (fun hf => ?_)
  · exact hK x2 w0 H locs ls hf hZ (lv_sub hl [0, 1, 2] rfl)
  refine lv_aload_n (pc := 110) hx hb dX4_solve_110 rfl (lv_at hl 0 rfl) ?_
  refine lv_aload_n (pc := 111) hx hb dX4_solve_111 rfl (lv_at hl 0 rfl) ?_
  refine gfX4_32 (pc := 112) hC hZ dX4_solve_112 ?_
  refine lv_aload_n (pc := 115) hx hb dX4_solve_115 rfl (lv_at hl 0 rfl) ?_
  refine gfX4_18 (pc := 116) hC hZ dX4_solve_116 ?_
  refine lv_iload_n (pc := 119) hx hb dX4_solve_119 rfl (lv_at hl 2 rfl) ?_
  refine z_lald (pc := 120) hC hZ (by decide) rfl hf dX4_solve_120 (fun v13 hf => ?_)
  refine z_maxJ (pc := 121) hC mkX4_65 hl.1 (Nat.le_of_ble_eq_true rfl) (Nat.le_of_ble_eq_true rfl) ⟨Nat.le_refl _, Nat.le_refl _⟩ dX4_solve_121 ?_
  refine pfX4_32 (pc := 124) hC hZ hf dX4_solve_124 (fun w14 H locs hf hZ => ?_)
  refine lv_iinc (pc := 127) (v := (x2 + (1 : Int32))) (lv' := [(2, .int (x2 + (1 : Int32))), (0, .ref (a0 3)), (1, .int x1)]) hx hb dX4_solve_127 hl (k := 2) rfl rfl (by decide) rfl (fun ls hl => ?_)
  refine lv_goto (pc := 130) (tgt := 96) hx hb dX4_solve_130 (by decide) ?_
  exact ih ((x2 + (1 : Int32)), w14) hf H locs ls hZ (lv_sub hl [1, 2, 0] rfl)
set_option maxHeartbeats 4000000 in
set_option maxRecDepth 100000 in
theorem cX4_solve_ok (l : Launch) (D : va_G) (cy : Nat → ClassId) (a0 aT aP : Nat → Nat) (N : Nat)  (w0 : zS) (τ : zS) (hf : fX4_solve N  w0 = some τ) : zMv l yX4_solve cX4_solve 4 none rmX4_solve D cy shX 38 a0 aT aP w0 [.ref (a0 3)] τ (fun u => u = (aT, aP)) := by
  refine zmet_v (by decide +kernel) rfl (Nat.le_of_ble_eq_true rfl) ?_
  intro p e s m below meth c A Q ls hC hA hZ hl hE
  have hx := hC.1.1
  have hb := hC.1.2.1
  have hl : lv_has ls 4 [(0, .ref (a0 3))] := hl
  unfold fX4_solve at hf
  refine lv_iconst (pc := 0) (v := (1 : Int32)) hx hb dX4_solve_0 (by decide) ?_
  refine lv_aload_n (pc := 1) hx hb dX4_solve_1 rfl (lv_at hl 0 rfl) ?_
  refine gfX4_29 (pc := 2) hC hZ dX4_solve_2 ?_
  refine lv_ishl (pc := 5) hx hb dX4_solve_5 ?_
  refine lv_istore_n (pc := 6) (lv' := [(1, .int ((1 : Int32) <<< ((w0.1 0 3 5) &&& 31))), (0, .ref (a0 3))]) hx hb dX4_solve_6 rfl hl (by decide) rfl (fun ls hl => ?_)
  refine lv_iconst (pc := 7) (v := (0 : Int32)) hx hb dX4_solve_7 (by decide) ?_
  refine lv_istore_n (pc := 8) (lv' := [(2, .int (0 : Int32)), (1, .int ((1 : Int32) <<< ((w0.1 0 3 5) &&& 31))), (0, .ref (a0 3))]) hx hb dX4_solve_8 rfl hl (by decide) rfl (fun ls hl => ?_)
  refine wX4_solve_9 (res := τ) N ((1 : Int32) <<< ((w0.1 0 3 5) &&& 31)) hC hA hE N _ _ hf hZ (lv_sub hl [2, 1, 0] rfl) (fun y2 w3 H locs ls hf hZ hl => ?_)
  refine lv_aload_n (pc := 38) hx hb dX4_solve_38 rfl (lv_at hl 0 rfl) ?_
  refine gfX4_18 (pc := 39) hC hZ dX4_solve_39 ?_
  refine lv_iconst (pc := 42) (v := (0 : Int32)) hx hb dX4_solve_42 (by decide) ?_
  refine lv_lconst (pc := 43) (v := (0 : Int64)) hx hb dX4_solve_43 (by decide) ?_
  refine z_last (pc := 44) hC hZ (by decide) rfl hf dX4_solve_44 (fun w4 H locs hf hZ => ?_)
  refine lv_iconst (pc := 45) (v := (0 : Int32)) hx hb dX4_solve_45 (by decide) ?_
  refine lv_istore_n (pc := 46) (lv' := [(2, .int (0 : Int32)), (0, .ref (a0 3)), (1, .int ((1 : Int32) <<< ((w0.1 0 3 5) &&& 31)))]) hx hb dX4_solve_46 rfl hl (by decide) rfl (fun ls hl => ?_)
  refine wX4_solve_47 (res := τ) N ((1 : Int32) <<< ((w0.1 0 3 5) &&& 31)) hC hA hE N _ _ hf hZ (lv_sub hl [1, 2, 0] rfl) (fun y11 w12 H locs ls hf hZ hl => ?_)
  refine lv_iconst (pc := 94) (v := (0 : Int32)) hx hb dX4_solve_94 (by decide) ?_
  refine lv_istore_n (pc := 95) (lv' := [(2, .int (0 : Int32)), (0, .ref (a0 3)), (1, .int ((1 : Int32) <<< ((w0.1 0 3 5) &&& 31)))]) hx hb dX4_solve_95 rfl hl (by decide) rfl (fun ls hl => ?_)
  refine wX4_solve_96 (res := τ) N ((1 : Int32) <<< ((w0.1 0 3 5) &&& 31)) hC hA hE N _ _ hf hZ (lv_sub hl [1, 2, 0] rfl) (fun y15 w16 H locs ls hf hZ hl => ?_)
  obtain rfl := Option.some.inj hf
  exact hE _ _ _ _ _ _ rfl hZ dX4_solve_133
set_option maxHeartbeats 4000000 in
set_option maxRecDepth 100000 in
theorem cX4_takeFor_ok (l : Launch) (D : va_G) (cy : Nat → ClassId) (a0 aT aP : Nat → Nat) (N : Nat) (x1 : Int32) (w0 : zS) (rv : Option Nat) (τ : zS) (hf : fX4_takeFor N x1 w0 = some (rv, τ)) : zMq l yX4_takeFor cX4_takeFor 3 (some (.object "CarrierPool$Telling")) rmX4_takeFor D cy shX 38 a0 aT aP w0 [.ref (a0 3), .int x1] (rv.map aT) τ (fun u => u = (aT, aP)) := by
  refine zmet_q (by decide +kernel) rfl (Nat.le_of_ble_eq_true rfl) ?_
  intro p e s m below meth c A Q ls hC hA hZ hl hE
  have hx := hC.1.1
  have hb := hC.1.2.1
  have hl : lv_has ls 3 [(0, .ref (a0 3)), (1, .int x1)] := hl
  unfold fX4_takeFor at hf
  refine lv_iload_n (pc := 0) hx hb dX4_takeFor_0 rfl (lv_at hl 1 rfl) ?_
  refine z_lt0 (pc := 1) (tgt := 12) hC hf dX4_takeFor_1 (by decide) (fun hf => ?_) (fun hf => ?_)
  · refine lv_null (pc := 12) hx hb dX4_takeFor_12 ?_
    refine W.eq (g2 := F0 m 13 ls [va_rf ((none : Option Nat).map aT)]) rfl ?_
    obtain ⟨rfl, rfl⟩ := zinj hf
    exact hE _ _ _ _ _ _ rfl hZ dX4_takeFor_13
  refine lv_iload_n (pc := 4) hx hb dX4_takeFor_4 rfl (lv_at hl 1 rfl) ?_
  refine lv_aload_n (pc := 5) hx hb dX4_takeFor_5 rfl (lv_at hl 0 rfl) ?_
  refine gfX4_25 (pc := 6) hC hZ dX4_takeFor_6 ?_
  refine z_ilt (pc := 9) (tgt := 14) hC hf dX4_takeFor_9 (by decide) (fun hf => ?_) (fun hf => ?_)
  · refine lv_aload_n (pc := 14) hx hb dX4_takeFor_14 rfl (lv_at hl 0 rfl) ?_
    refine gfX4_32 (pc := 15) hC hZ dX4_takeFor_15 ?_
    refine lv_iload_n (pc := 18) hx hb dX4_takeFor_18 rfl (lv_at hl 1 rfl) ?_
    refine kX4_82 (pc := 19) hC hA hZ hf hl.1 (Nat.le_of_ble_eq_true rfl) ⟨Nat.le_of_ble_eq_true rfl, Nat.le_of_ble_eq_true rfl⟩ ⟨Nat.le_refl _, Nat.le_refl _⟩ dX4_takeFor_19 (fun v2 w1 H locs hf hZ => ?_)
    refine lv_lshr (pc := 22) hx hb dX4_takeFor_22 rfl ?_
    refine lv_l2i (pc := 23) hx hb dX4_takeFor_23 rfl ?_
    refine lv_bipush (pc := 24) (v := (15 : Int32)) hx hb dX4_takeFor_24 (by decide) ?_
    refine lv_iand (pc := 26) hx hb dX4_takeFor_26 ?_
    refine lv_istore_n (pc := 27) (lv' := [(2, .int (((w0.2.1 0 3 6) >>> (v2.toInt64 &&& 63)).toInt32 &&& (15 : Int32))), (0, .ref (a0 3)), (1, .int x1)]) hx hb dX4_takeFor_27 rfl hl (by decide) rfl (fun ls hl => ?_)
    refine lv_iload_n (pc := 28) hx hb dX4_takeFor_28 rfl (lv_at hl 0 rfl) ?_
    refine z_ne0 (pc := 29) (tgt := 36) hC hf dX4_takeFor_29 (by decide) (fun hf => ?_) (fun hf => ?_)
    · refine lv_null (pc := 32) hx hb dX4_takeFor_32 ?_
      refine W.eq (g2 := F0 m 33 ls [va_rf ((none : Option Nat).map aT)]) rfl ?_
      refine lv_goto (pc := 33) (tgt := 44) hx hb dX4_takeFor_33 (by decide) ?_
      obtain ⟨rfl, rfl⟩ := zinj hf
      exact hE _ _ _ _ _ _ rfl hZ dX4_takeFor_44
    refine lv_aload_n (pc := 36) hx hb dX4_takeFor_36 rfl (lv_at hl 1 rfl) ?_
    refine lv_bipush (pc := 37) (v := (8 : Int32)) hx hb dX4_takeFor_37 (by decide) ?_
    refine lv_iload_n (pc := 39) hx hb dX4_takeFor_39 rfl (lv_at hl 0 rfl) ?_
    refine lv_isub (pc := 40) hx hb dX4_takeFor_40 ?_
    refine kX4_44 (pc := 41) hC hA hZ hf hl.1 (Nat.le_of_ble_eq_true rfl) ⟨Nat.le_of_ble_eq_true rfl, Nat.le_of_ble_eq_true rfl⟩ ⟨Nat.le_refl _, Nat.le_refl _⟩ dX4_takeFor_41 (fun v4 w3 H locs hf hZ => ?_)
    obtain ⟨rfl, rfl⟩ := zinj hf
    exact hE _ _ _ _ _ _ rfl hZ dX4_takeFor_44
  refine lv_null (pc := 12) hx hb dX4_takeFor_12 ?_
  refine W.eq (g2 := F0 m 13 ls [va_rf ((none : Option Nat).map aT)]) rfl ?_
  obtain ⟨rfl, rfl⟩ := zinj hf
  exact hE _ _ _ _ _ _ rfl hZ dX4_takeFor_13
