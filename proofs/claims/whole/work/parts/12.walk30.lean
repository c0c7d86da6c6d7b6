set_option maxHeartbeats 4000000 in
set_option maxRecDepth 100000 in
theorem wX8_plan_6 {p : Program} {l : Launch} {e : Env} {s : State} {m : MethodId} {args : Array Value} {below : List Frame} {meth : Method} {c : Code} {Q : State → Prop} {A : Nat → Prop} {H0 : Heap} {D : va_G} {cy : Nat → ClassId} {a0 aT aP : Nat → Nat} {res : Int32 × zS} {K : Int32 → Int32 → Int32 → zS → Option (Int32 × zS)} (N : Nat)  (hC : zC p s m args c RX8 cX8_plan 5 D cy) (hA : ∀ q, H0.size ≤ q → A q) (hE : zEnd p l e rmX8_plan s m args below meth c Q D cy shM 35 a0 A H0 res.2 (fun u => u = (aT, aP)) cX8_plan .ireturn [.int res.1]) (n : Nat) (x1 : Int32) (x2 : Int32) (x3 : Int32) (w0 : zS) {H : Heap} {locs : List Loc} {ls : Array Slot} (hf : lX8_plan_6 N  K n (x1, x2, x3, w0) = some res) (hZ : zW D cy shM 35 a0 aT aP A H0 w0 H locs) (hl : lv_has ls 5 [(0, .ref (a0 0)), (1, .int x1), (2, .int x2), (3, .int x3)]) (hK : ∀ x1 : Int32, ∀ x2 : Int32, ∀ x3 : Int32, ∀ (w0 : zS) (H : Heap) (locs : List Loc) (ls : Array Slot), K x1 x2 x3 w0 = some res → zW D cy shM 35 a0 aT aP A H0 w0 H locs → lv_has ls 5 [(0, .ref (a0 0)), (1, .int x1), (2, .int x2), (3, .int x3)] → W p l e rmX8_plan s m args below meth c H locs 0 0 Q (F0 m 38 ls [])) : W p l e rmX8_plan s m args below meth c H locs 0 0 Q (F0 m 6 ls []) := by
  have hx := hC.1.1
  have hb := hC.1.2.1
  have hf2 : zlp (fun rc s1 => bX8_plan_6 N  K rc s1.1 s1.2.1 s1.2.2.1 s1.2.2.2) n (x1, x2, x3, w0) = some res := hf
  have key := zloop (S := Int32 × Int32 × Int32 × zS) (α := Int32 × zS) (b := fun rc s1 => bX8_plan_6 N  K rc s1.1 s1.2.1 s1.2.2.1 s1.2.2.2) (r := res) (Wd := fun s1 => ∀ (H : Heap) (locs : List Loc) (ls : Array Slot), zW D cy shM 35 a0 aT aP A H0 s1.2.2.2 H locs → lv_has ls 5 [(0, .ref (a0 0)), (1, .int s1.1), (2, .int s1.2.1), (3, .int s1.2.2.1)] → W p l e rmX8_plan s m args below meth c H locs 0 0 Q (F0 m 6 ls []))
  refine key ?_ n (x1, x2, x3, w0) hf2 H locs ls hZ hl
  clear hf hf2 hZ hl key
  rintro rc ⟨x1, x2, x3, w0⟩ ih hf H locs ls hZ hl
  have hf : bX8_plan_6 N  K rc x1 x2 x3 w0 = some res := hf
  have hl : lv_has ls 5 [(0, .ref (a0 0)), (1, .int x1), (2, .int x2), (3, .int x3)] := hl
  unfold bX8_plan_6 at hf
  refine lv_iload_n (pc := 6) hx hb dX8_plan_6 rfl (lv_at hl 3 rfl) ?_
  refine lv_aload_n (pc := 7) hx hb dX8_plan_7 rfl (lv_at hl 0 rfl) ?_
  refine gfX8_115 (pc := 8) hC hZ dX8_plan_8 ?_
  refine z_ige (pc := 11) (tgt := 38) hC hf dX8_plan_11 (by decide) (fun hf => ?_) (fun hf => ?_)
  · exact hK x1 x2 x3 w0 H locs ls hf hZ (lv_sub hl [0, 1, 2, 3] rfl)
  refine lv_iload_n (pc := 14) hx hb dX8_plan_14 rfl (lv_at hl 1 rfl) ?_
  refine lv_aload_n (pc := 15) hx hb dX8_plan_15 rfl (lv_at hl 0 rfl) ?_
  refine gfX8_78 (pc := 16) hC hZ dX8_plan_16 ?_
  refine lv_iload_n (pc := 19) hx hb dX8_plan_19 rfl (lv_at hl 3 rfl) ?_
  refine z_iald (pc := 20) hC hZ (by decide) rfl hf dX8_plan_20 (fun v1 hf => ?_)
  refine lv_iadd (pc := 21) hx hb dX8_plan_21 ?_
  refine lv_istore_n (pc := 22) (lv' := [(1, .int (x1 + v1)), (0, .ref (a0 0)), (2, .int x2), (3, .int x3)]) hx hb dX8_plan_22 rfl hl (by decide) rfl (fun ls hl => ?_)
  refine lv_iload_n (pc := 23) hx hb dX8_plan_23 rfl (lv_at hl 2 rfl) ?_
  refine lv_aload_n (pc := 24) hx hb dX8_plan_24 rfl (lv_at hl 1 rfl) ?_
  refine gfX8_81 (pc := 25) hC hZ dX8_plan_25 ?_
  refine lv_iload_n (pc := 28) hx hb dX8_plan_28 rfl (lv_at hl 3 rfl) ?_
  refine z_iald (pc := 29) hC hZ (by decide) rfl hf dX8_plan_29 (fun v2 hf => ?_)
  refine lv_iadd (pc := 30) hx hb dX8_plan_30 ?_
  refine lv_istore_n (pc := 31) (lv' := [(2, .int (x2 + v2)), (1, .int (x1 + v1)), (0, .ref (a0 0)), (3, .int x3)]) hx hb dX8_plan_31 rfl hl (by decide) rfl (fun ls hl => ?_)
  refine lv_iinc (pc := 32) (v := (x3 + (1 : Int32))) (lv' := [(3, .int (x3 + (1 : Int32))), (2, .int (x2 + v2)), (1, .int (x1 + v1)), (0, .ref (a0 0))]) hx hb dX8_plan_32 hl (k := 3) rfl rfl (by decide) rfl (fun ls hl => ?_)
  refine lv_goto (pc := 35) (tgt := 6) hx hb dX8_plan_35 (by decide) ?_
  exact ih ((x1 + v1), (x2 + v2), (x3 + (1 : Int32)), w0) hf H locs ls hZ (lv_sub hl [3, 2, 1, 0] rfl)
set_option maxHeartbeats 4000000 in
set_option maxRecDepth 100000 in
theorem wX8_plan_52 {p : Program} {l : Launch} {e : Env} {s : State} {m : MethodId} {args : Array Value} {below : List Frame} {meth : Method} {c : Code} {Q : State → Prop} {A : Nat → Prop} {H0 : Heap} {D : va_G} {cy : Nat → ClassId} {a0 aT aP : Nat → Nat} {res : Int32 × zS} {K : Int32 → zS → Option (Int32 × zS)} (N : Nat) (x1 : Int32) (x2 : Int32) (hC : zC p s m args c RX8 cX8_plan 5 D cy) (hA : ∀ q, H0.size ≤ q → A q) (hE : zEnd p l e rmX8_plan s m args below meth c Q D cy shM 35 a0 A H0 res.2 (fun u => u = (aT, aP)) cX8_plan .ireturn [.int res.1]) (n : Nat) (x3 : Int32) (w0 : zS) {H : Heap} {locs : List Loc} {ls : Array Slot} (hf : lX8_plan_52 N x1 x2 K n (x3, w0) = some res) (hZ : zW D cy shM 35 a0 aT aP A H0 w0 H locs) (hl : lv_has ls 5 [(0, .ref (a0 0)), (1, .int x1), (2, .int x2), (3, .int x3)]) (hK : ∀ x3 : Int32, ∀ (w0 : zS) (H : Heap) (locs : List Loc) (ls : Array Slot), K x3 w0 = some res → zW D cy shM 35 a0 aT aP A H0 w0 H locs → lv_has ls 5 [(0, .ref (a0 0)), (1, .int x1), (2, .int x2), (3, .int x3)] → W p l e rmX8_plan s m args below meth c H locs 0 0 Q (F0 m 71 ls [])) : W p l e rmX8_plan s m args below meth c H locs 0 0 Q (F0 m 52 ls []) := by
  have hx := hC.1.1
  have hb := hC.1.2.1
  have hf2 : zlp (fun rc s1 => bX8_plan_52 N x1 x2 K rc s1.1 s1.2) n (x3, w0) = some res := hf
  have key := zloop (S := Int32 × zS) (α := Int32 × zS) (b := fun rc s1 => bX8_plan_52 N x1 x2 K rc s1.1 s1.2) (r := res) (Wd := fun s1 => ∀ (H : Heap) (locs : List Loc) (ls : Array Slot), zW D cy shM 35 a0 aT aP A H0 s1.2 H locs → lv_has ls 5 [(0, .ref (a0 0)), (1, .int x1), (2, .int x2), (3, .int s1.1)] → W p l e rmX8_plan s m args below meth c H locs 0 0 Q (F0 m 52 ls []))
  refine key ?_ n (x3, w0) hf2 H locs ls hZ hl
  clear hf hf2 hZ hl key
  rintro rc ⟨x3, w0⟩ ih hf H locs ls hZ hl
  have hf : bX8_plan_52 N x1 x2 K rc x3 w0 = some res := hf
  have hl : lv_has ls 5 [(0, .ref (a0 0)), (1, .int x1), (2, .int x2), (3, .int x3)] := hl
  unfold bX8_plan_52 at hf
  refine lv_iload_n (pc := 52) hx hb dX8_plan_52 rfl (lv_at hl 3 rfl) ?_
  refine lv_bipush (pc := 53) (v := (100 : Int32)) hx hb dX8_plan_53 (by decide) ?_
  refine z_ige (pc := 55) (tgt := 71) hC hf dX8_plan_55 (by decide) (fun hf => ?_) (fun hf => ?_)
  · exact hK x3 w0 H locs ls hf hZ (lv_sub hl [0, 1, 2, 3] rfl)
  refine lv_aload_n (pc := 58) hx hb dX8_plan_58 rfl (lv_at hl 0 rfl) ?_
  refine gfX8_105 (pc := 59) hC hZ dX8_plan_59 ?_
  refine lv_iload_n (pc := 62) hx hb dX8_plan_62 rfl (lv_at hl 3 rfl) ?_
  refine lv_iconst (pc := 63) (v := (0 : Int32)) hx hb dX8_plan_63 (by decide) ?_
  refine z_iast (pc := 64) hC hZ (by decide) rfl hf dX8_plan_64 (fun w7 H locs hf hZ => ?_)
  refine lv_iinc (pc := 65) (v := (x3 + (1 : Int32))) (lv' := [(3, .int (x3 + (1 : Int32))), (0, .ref (a0 0)), (1, .int x1), (2, .int x2)]) hx hb dX8_plan_65 hl (k := 3) rfl rfl (by decide) rfl (fun ls hl => ?_)
  refine lv_goto (pc := 68) (tgt := 52) hx hb dX8_plan_68 (by decide) ?_
  exact ih ((x3 + (1 : Int32)), w7) hf H locs ls hZ (lv_sub hl [1, 2, 3, 0] rfl)
set_option maxHeartbeats 4000000 in
set_option maxRecDepth 100000 in
theorem wX8_plan_76 {p : Program} {l : Launch} {e : Env} {s : State} {m : MethodId} {args : Array Value} {below : List Frame} {meth : Method} {c : Code} {Q : State → Prop} {A : Nat → Prop} {H0 : Heap} {D : va_G} {cy : Nat → ClassId} {a0 aT aP : Nat → Nat} {res : Int32 × zS} {K : Int32 → Int32 → zS → Option (Int32 × zS)} (N : Nat) (x1 : Int32) (x2 : Int32) (hC : zC p s m args c RX8 cX8_plan 5 D cy) (hA : ∀ q, H0.size ≤ q → A q) (hE : zEnd p l e rmX8_plan s m args below meth c Q D cy shM 35 a0 A H0 res.2 (fun u => u = (aT, aP)) cX8_plan .ireturn [.int res.1]) (n : Nat) (x3 : Int32) (x4 : Int32) (w0 : zS) {H : Heap} {locs : List Loc} {ls : Array Slot} (hf : lX8_plan_76 N x1 x2 K n (x3, x4, w0) = some res) (hZ : zW D cy shM 35 a0 aT aP A H0 w0 H locs) (hl : lv_has ls 5 [(0, .ref (a0 0)), (1, .int x1), (2, .int x2), (3, .int x3), (4, .int x4)]) (hK : ∀ x3 : Int32, ∀ x4 : Int32, ∀ (w0 : zS) (H : Heap) (locs : List Loc) (ls : Array Slot), K x3 x4 w0 = some res → zW D cy shM 35 a0 aT aP A H0 w0 H locs → lv_has ls 5 [(0, .ref (a0 0)), (1, .int x1), (2, .int x2), (3, .int x3), (4, .int x4)] → W p l e rmX8_plan s m args below meth c H locs 0 0 Q (F0 m 95 ls [])) : W p l e rmX8_plan s m args below meth c H locs 0 0 Q (F0 m 76 ls []) := by
  have hx := hC.1.1
  have hb := hC.1.2.1
  have hf2 : zlp (fun rc s1 => bX8_plan_76 N x1 x2 K rc s1.1 s1.2.1 s1.2.2) n (x3, x4, w0) = some res := hf
  have key := zloop (S := Int32 × Int32 × zS) (α := Int32 × zS) (b := fun rc s1 => bX8_plan_76 N x1 x2 K rc s1.1 s1.2.1 s1.2.2) (r := res) (Wd := fun s1 => ∀ (H : Heap) (locs : List Loc) (ls : Array Slot), zW D cy shM 35 a0 aT aP A H0 s1.2.2 H locs → lv_has ls 5 [(0, .ref (a0 0)), (1, .int x1), (2, .int x2), (3, .int s1.1), (4, .int s1.2.1)] → W p l e rmX8_plan s m args below meth c H locs 0 0 Q (F0 m 76 ls []))
  refine key ?_ n (x3, x4, w0) hf2 H locs ls hZ hl
  clear hf hf2 hZ hl key
  rintro rc ⟨x3, x4, w0⟩ ih hf H locs ls hZ hl
  have hf : bX8_plan_76 N x1 x2 K rc x3 x4 w0 = some res := hf
  have hl : lv_has ls 5 [(0, .ref (a0 0)), (1, .int x1), (2, .int x2), (3, .int x3), (4, .int x4)] := hl
  unfold bX8_plan_76 at hf
  refine lv_iload (pc := 76) hx hb dX8_plan_76 (lv_at hl 4 rfl) ?_
  refine lv_iload_n (pc := 78) hx hb dX8_plan_78 rfl (lv_at hl 2 rfl) ?_
  refine z_ige (pc := 79) (tgt := 95) hC hf dX8_plan_79 (by decide) (fun hf => ?_) (fun hf => ?_)
  · exact hK x3 x4 w0 H locs ls hf hZ (lv_sub hl [0, 1, 2, 3, 4] rfl)
  refine lv_iload_n (pc := 82) hx hb dX8_plan_82 rfl (lv_at hl 3 rfl) ?_
  refine lv_aload_n (pc := 83) hx hb dX8_plan_83 rfl (lv_at hl 0 rfl) ?_
  refine kX8_209 (pc := 84) hC hA hZ hf hl.1 (Nat.le_of_ble_eq_true rfl) ⟨Nat.le_of_ble_eq_true rfl, Nat.le_of_ble_eq_true rfl⟩ ⟨Nat.le_refl _, Nat.le_refl _⟩ dX8_plan_84 (fun v11 w10 H locs hf hZ => ?_)
  refine lv_iadd (pc := 87) hx hb dX8_plan_87 ?_
  refine lv_istore_n (pc := 88) (lv' := [(3, .int (x3 + v11)), (0, .ref (a0 0)), (1, .int x1), (2, .int x2), (4, .int x4)]) hx hb dX8_plan_88 rfl hl (by decide) rfl (fun ls hl => ?_)
  refine lv_iinc (pc := 89) (v := (x4 + (1 : Int32))) (lv' := [(4, .int (x4 + (1 : Int32))), (3, .int (x3 + v11)), (0, .ref (a0 0)), (1, .int x1), (2, .int x2)]) hx hb dX8_plan_89 hl (k := 4) rfl rfl (by decide) rfl (fun ls hl => ?_)
  refine lv_goto (pc := 92) (tgt := 76) hx hb dX8_plan_92 (by decide) ?_
  exact ih ((x3 + v11), (x4 + (1 : Int32)), w10) hf H locs ls hZ (lv_sub hl [2, 3, 4, 1, 0] rfl)
set_option maxHeartbeats 4000000 in
set_option maxRecDepth 100000 in
theorem cX8_plan_ok (l : Launch) (D : va_G) (cy : Nat → ClassId) (a0 aT aP : Nat → Nat) (N : Nat)  (w0 : zS) (rv : Int32) (τ : zS) (hf : fX8_plan N  w0 = some (rv, τ)) : zMi l yX8_plan cX8_plan 5 (some .int) rmX8_plan D cy shM 35 a0 aT aP w0 [.ref (a0 0)] rv τ (fun u => u = (aT, aP)) := by
  refine zmet_i (by decide +kernel) (Or.inl rfl) (Nat.le_of_ble_eq_true rfl) ?_
  intro p e s m below meth c A Q ls hC hA hZ hl hE
  have hx := hC.1.1
  have hb := hC.1.2.1
  have hl : lv_has ls 5 [(0, .ref (a0 0))] := hl
  unfold fX8_plan at hf
  refine lv_iconst (pc := 0) (v := (0 : Int32)) hx hb dX8_plan_0 (by decide) ?_
  refine lv_istore_n (pc := 1) (lv' := [(1, .int (0 : Int32)), (0, .ref (a0 0))]) hx hb dX8_plan_1 rfl hl (by decide) rfl (fun ls hl => ?_)
  refine lv_iconst (pc := 2) (v := (0 : Int32)) hx hb dX8_plan_2 (by decide) ?_
  refine lv_istore_n (pc := 3) (lv' := [(2, .int (0 : Int32)), (1, .int (0 : Int32)), (0, .ref (a0 0))]) hx hb dX8_plan_3 rfl hl (by decide) rfl (fun ls hl => ?_)
  refine lv_iconst (pc := 4) (v := (0 : Int32)) hx hb dX8_plan_4 (by decide) ?_
  refine lv_istore_n (pc := 5) (lv' := [(3, .int (0 : Int32)), (2, .int (0 : Int32)), (1, .int (0 : Int32)), (0, .ref (a0 0))]) hx hb dX8_plan_5 rfl hl (by decide) rfl (fun ls hl => ?_)
  refine wX8_plan_6 (res := (rv, τ)) N  hC hA hE N _ _ _ _ hf hZ (lv_sub hl [3, 2, 1, 0] rfl) (fun y3 y4 y5 w6 H locs ls hf hZ hl => ?_)
  refine lv_iload_n (pc := 38) hx hb dX8_plan_38 rfl (lv_at hl 1 rfl) ?_
  refine lv_iload_n (pc := 39) hx hb dX8_plan_39 rfl (lv_at hl 2 rfl) ?_
  refine z_ige (pc := 40) (tgt := 50) hC hf dX8_plan_40 (by decide) (fun hf => ?_) (fun hf => ?_)
  · refine lv_iconst (pc := 50) (v := (0 : Int32)) hx hb dX8_plan_50 (by decide) ?_
    refine lv_istore_n (pc := 51) (lv' := [(3, .int (0 : Int32)), (0, .ref (a0 0)), (1, .int y3), (2, .int y4)]) hx hb dX8_plan_51 rfl hl (by decide) rfl (fun ls hl => ?_)
    refine wX8_plan_52 (res := (rv, τ)) N y3 y4 hC hA hE N _ _ hf hZ (lv_sub hl [1, 2, 3, 0] rfl) (fun y8 w9 H locs ls hf hZ hl => ?_)
    refine lv_iconst (pc := 71) (v := (0 : Int32)) hx hb dX8_plan_71 (by decide) ?_
    refine lv_istore_n (pc := 72) (lv' := [(3, .int (0 : Int32)), (0, .ref (a0 0)), (1, .int y3), (2, .int y4)]) hx hb dX8_plan_72 rfl hl (by decide) rfl (fun ls hl => ?_)
    refine lv_iconst (pc := 73) (v := (0 : Int32)) hx hb dX8_plan_73 (by decide) ?_
    refine lv_istore (pc := 74) (lv' := [(4, .int (0 : Int32)), (3, .int (0 : Int32)), (0, .ref (a0 0)), (1, .int y3), (2, .int y4)]) hx hb dX8_plan_74 hl (by decide) rfl (fun ls hl => ?_)
    refine wX8_plan_76 (res := (rv, τ)) N y3 y4 hC hA hE N _ _ _ hf hZ (lv_sub hl [2, 3, 4, 1, 0] rfl) (fun y12 y13 w14 H locs ls hf hZ hl => ?_)
    refine lv_iload_n (pc := 95) hx hb dX8_plan_95 rfl (lv_at hl 3 rfl) ?_
    obtain ⟨rfl, rfl⟩ := zinj hf
    exact hE _ _ _ _ _ _ rfl hZ dX8_plan_96
  refine lv_aload_n (pc := 43) hx hb dX8_plan_43 rfl (lv_at hl 0 rfl) ?_
  refine lv_bipush (pc := 44) (v := (-5 : Int32)) hx hb dX8_plan_44 (by decide) ?_
  refine kX8_126 (pc := 46) hC hA hZ hf hl.1 (Nat.le_of_ble_eq_true rfl) ⟨Nat.le_of_ble_eq_true rfl, Nat.le_of_ble_eq_true rfl⟩ ⟨Nat.le_refl _, Nat.le_refl _⟩ dX8_plan_46 (fun v16 w15 H locs hf hZ => ?_)
  obtain ⟨rfl, rfl⟩ := zinj hf
  exact hE _ _ _ _ _ _ rfl hZ dX8_plan_49
set_option maxHeartbeats 4000000 in
set_option maxRecDepth 100000 in
theorem wX8_check_15 {p : Program} {l : Launch} {e : Env} {s : State} {m : MethodId} {args : Array Value} {below : List Frame} {meth : Method} {c : Code} {Q : State → Prop} {A : Nat → Prop} {H0 : Heap} {D : va_G} {cy : Nat → ClassId} {a0 aT aP : Nat → Nat} {res : Int32 × zS} {K : Int64 → Int32 → zS → Option (Int32 × zS)} (N : Nat) (x1 : Int32) (hC : zC p s m args c RX8 cX8_check 5 D cy) (hA : ∀ q, H0.size ≤ q → A q) (hE : (res.1 = 0 ∨ res.1 = 1) → zEnd p l e rmX8_check s m args below meth c Q D cy shM 35 a0 A H0 res.2 (fun u => u = (aT, aP)) cX8_check .ireturn [.int res.1]) (n : Nat) (x2 : Int64) (x4 : Int32) (w0 : zS) {H : Heap} {locs : List Loc} {ls : Array Slot} (hf : lX8_check_15 N x1 K n (x2, x4, w0) = some res) (hZ : zW D cy shM 35 a0 aT aP A H0 w0 H locs) (hl : lv_has ls 5 [(0, .ref (a0 0)), (1, .int x1), (2, .long x2), (4, .int x4)]) (hK : ∀ x2 : Int64, ∀ x4 : Int32, ∀ (w0 : zS) (H : Heap) (locs : List Loc) (ls : Array Slot), K x2 x4 w0 = some res → zW D cy shM 35 a0 aT aP A H0 w0 H locs → lv_has ls 5 [(0, .ref (a0 0)), (1, .int x1), (2, .long x2), (4, .int x4)] → W p l e rmX8_check s m args below meth c H locs 0 0 Q (F0 m 56 ls [])) : W p l e rmX8_check s m args below meth c H locs 0 0 Q (F0 m 15 ls []) := by
  have hx := hC.1.1
  have hb := hC.1.2.1
  have hf2 : zlp (fun rc s1 => bX8_check_15 N x1 K rc s1.1 s1.2.1 s1.2.2) n (x2, x4, w0) = some res := hf
  have key := zloop (S := Int64 × Int32 × zS) (α := Int32 × zS) (b := fun rc s1 => bX8_check_15 N x1 K rc s1.1 s1.2.1 s1.2.2) (r := res) (Wd := fun s1 => ∀ (H : Heap) (locs : List Loc) (ls : Array Slot), zW D cy shM 35 a0 aT aP A H0 s1.2.2 H locs → lv_has ls 5 [(0, .ref (a0 0)), (1, .int x1), (2, .long s1.1), (4, .int s1.2.1)] → W p l e rmX8_check s m args below meth c H locs 0 0 Q (F0 m 15 ls []))
  refine key ?_ n (x2, x4, w0) hf2 H locs ls hZ hl
  clear hf hf2 hZ hl key
  rintro rc ⟨x2, x4, w0⟩ ih hf H locs ls hZ hl
  have hf : bX8_check_15 N x1 K rc x2 x4 w0 = some res := hf
  have hl : lv_has ls 5 [(0, .ref (a0 0)), (1, .int x1), (2, .long x2), (4, .int x4)] := hl
  unfold bX8_check_15 at hf
  refine lv_iload (pc := 15) hx hb dX8_check_15 (lv_at hl 3 rfl) ?_
  refine lv_aload_n (pc := 17) hx hb dX8_check_17 rfl (lv_at hl 0 rfl) ?_
  refine gfX8_133 (pc := 18) hC hZ dX8_check_18 ?_
  refine z_ige (pc := 21) (tgt := 56) hC hf dX8_check_21 (by decide) (fun hf => ?_) (fun hf => ?_)
  · exact hK x2 x4 w0 H locs ls hf hZ (lv_sub hl [0, 1, 2, 3] rfl)
  refine lv_lload_n (pc := 24) hx hb dX8_check_24 rfl (lv_at hl 2 rfl) ?_
  refine lv_aload_n (pc := 25) hx hb dX8_check_25 rfl (lv_at hl 0 rfl) ?_
  refine gfX8_19 (pc := 26) hC hZ dX8_check_26 ?_
  refine lv_iload (pc := 29) hx hb dX8_check_29 (lv_at hl 3 rfl) ?_
  refine z_iald (pc := 31) hC hZ (by decide) rfl hf dX8_check_31 (fun v3 hf => ?_)
  refine lv_iload_n (pc := 32) hx hb dX8_check_32 rfl (lv_at hl 1 rfl) ?_
  refine z_ine (pc := 33) (tgt := 47) hC hf dX8_check_33 (by decide) (fun hf => ?_) (fun hf => ?_)
  · refine lv_aload_n (pc := 36) hx hb dX8_check_36 rfl (lv_at hl 0 rfl) ?_
    refine gfX8_25 (pc := 37) hC hZ dX8_check_37 ?_
    refine lv_iload (pc := 40) hx hb dX8_check_40 (lv_at hl 3 rfl) ?_
    refine z_iald (pc := 42) hC hZ (by decide) rfl hf dX8_check_42 (fun v4 hf => ?_)
    refine lv_i2l (pc := 43) hx hb dX8_check_43 rfl ?_
    refine lv_goto (pc := 44) (tgt := 48) hx hb dX8_check_44 (by decide) ?_
    refine lv_ladd (pc := 48) hx hb dX8_check_48 ?_
    refine lv_lstore_n (pc := 49) (lv' := [(2, .long (x2 + v4.toInt64)), (0, .ref (a0 0)), (1, .int x1), (4, .int x4)]) hx hb dX8_check_49 rfl hl (by decide) rfl (fun ls hl => ?_)
    refine lv_iinc (pc := 50) (v := (x4 + (1 : Int32))) (lv' := [(4, .int (x4 + (1 : Int32))), (2, .long (x2 + v4.toInt64)), (0, .ref (a0 0)), (1, .int x1)]) hx hb dX8_check_50 hl (k := 3) rfl rfl (by decide) rfl (fun ls hl => ?_)
    refine lv_goto (pc := 53) (tgt := 15) hx hb dX8_check_53 (by decide) ?_
    exact ih ((x2 + v4.toInt64), (x4 + (1 : Int32)), w0) hf H locs ls hZ (lv_sub hl [2, 3, 1, 0] rfl)
  refine lv_lconst (pc := 47) (v := (0 : Int64)) hx hb dX8_check_47 (by decide) ?_
  refine lv_ladd (pc := 48) hx hb dX8_check_48 ?_
  refine lv_lstore_n (pc := 49) (lv' := [(2, .long (x2 + (0 : Int64))), (0, .ref (a0 0)), (1, .int x1), (4, .int x4)]) hx hb dX8_check_49 rfl hl (by decide) rfl (fun ls hl => ?_)
  refine lv_iinc (pc := 50) (v := (x4 + (1 : Int32))) (lv' := [(4, .int (x4 + (1 : Int32))), (2, .long (x2 + (0 : Int64))), (0, .ref (a0 0)), (1, .int x1)]) hx hb dX8_check_50 hl (k := 3) rfl rfl (by decide) rfl (fun ls hl => ?_)
  refine lv_goto (pc := 53) (tgt := 15) hx hb dX8_check_53 (by decide) ?_
  exact ih ((x2 + (0 : Int64)), (x4 + (1 : Int32)), w0) hf H locs ls hZ (lv_sub hl [2, 3, 1, 0] rfl)
set_option maxHeartbeats 4000000 in
set_option maxRecDepth 100000 in
theorem wX8_check_59 {p : Program} {l : Launch} {e : Env} {s : State} {m : MethodId} {args : Array Value} {below : List Frame} {meth : Method} {c : Code} {Q : State → Prop} {A : Nat → Prop} {H0 : Heap} {D : va_G} {cy : Nat → ClassId} {a0 aT aP : Nat → Nat} {res : Int32 × zS} {K : Int64 → Int32 → zS → Option (Int32 × zS)} (N : Nat) (x1 : Int32) (hC : zC p s m args c RX8 cX8_check 5 D cy) (hA : ∀ q, H0.size ≤ q → A q) (hE : (res.1 = 0 ∨ res.1 = 1) → zEnd p l e rmX8_check s m args below meth c Q D cy shM 35 a0 A H0 res.2 (fun u => u = (aT, aP)) cX8_check .ireturn [.int res.1]) (n : Nat) (x2 : Int64) (x4 : Int32) (w0 : zS) {H : Heap} {locs : List Loc} {ls : Array Slot} (hf : lX8_check_59 N x1 K n (x2, x4, w0) = some res) (hZ : zW D cy shM 35 a0 aT aP A H0 w0 H locs) (hl : lv_has ls 5 [(0, .ref (a0 0)), (1, .int x1), (2, .long x2), (4, .int x4)]) (hK : ∀ x2 : Int64, ∀ x4 : Int32, ∀ (w0 : zS) (H : Heap) (locs : List Loc) (ls : Array Slot), K x2 x4 w0 = some res → zW D cy shM 35 a0 aT aP A H0 w0 H locs → lv_has ls 5 [(0, .ref (a0 0)), (1, .int x1), (2, .long x2), (4, .int x4)] → W p l e rmX8_check s m args below meth c H locs 0 0 Q (F0 m 90 ls [])) : W p l e rmX8_check s m args below meth c H locs 0 0 Q (F0 m 59 ls []) := by
  have hx := hC.1.1
  have hb := hC.1.2.1
  have hf2 : zlp (fun rc s1 => bX8_check_59 N x1 K rc s1.1 s1.2.1 s1.2.2) n (x2, x4, w0) = some res := hf
  have key := zloop (S := Int64 × Int32 × zS) (α := Int32 × zS) (b := fun rc s1 => bX8_check_59 N x1 K rc s1.1 s1.2.1 s1.2.2) (r := res) (Wd := fun s1 => ∀ (H : Heap) (locs : List Loc) (ls : Array Slot), zW D cy shM 35 a0 aT aP A H0 s1.2.2 H locs → lv_has ls 5 [(0, .ref (a0 0)), (1, .int x1), (2, .long s1.1), (4, .int s1.2.1)] → W p l e rmX8_check s m args below meth c H locs 0 0 Q (F0 m 59 ls []))
  refine key ?_ n (x2, x4, w0) hf2 H locs ls hZ hl
  clear hf hf2 hZ hl key
  rintro rc ⟨x2, x4, w0⟩ ih hf H locs ls hZ hl
  have hf : bX8_check_59 N x1 K rc x2 x4 w0 = some res := hf
  have hl : lv_has ls 5 [(0, .ref (a0 0)), (1, .int x1), (2, .long x2), (4, .int x4)] := hl
  unfold bX8_check_59 at hf
  refine lv_iload (pc := 59) hx hb dX8_check_59 (lv_at hl 3 rfl) ?_
  refine lv_aload_n (pc := 61) hx hb dX8_check_61 rfl (lv_at hl 0 rfl) ?_
  refine gfX8_115 (pc := 62) hC hZ dX8_check_62 ?_
  refine z_ige (pc := 65) (tgt := 90) hC hf dX8_check_65 (by decide) (fun hf => ?_) (fun hf => ?_)
  · exact hK x2 x4 w0 H locs ls hf hZ (lv_sub hl [0, 1, 2, 3] rfl)
  refine lv_lload_n (pc := 68) hx hb dX8_check_68 rfl (lv_at hl 2 rfl) ?_
  refine lv_aload_n (pc := 69) hx hb dX8_check_69 rfl (lv_at hl 0 rfl) ?_
  refine gfX8_72 (pc := 70) hC hZ dX8_check_70 ?_
  refine lv_bipush (pc := 73) (v := (6 : Int32)) hx hb dX8_check_73 (by decide) ?_
  refine lv_iload (pc := 75) hx hb dX8_check_75 (lv_at hl 3 rfl) ?_
  refine lv_imul (pc := 77) hx hb dX8_check_77 ?_
  refine lv_iload_n (pc := 78) hx hb dX8_check_78 rfl (lv_at hl 1 rfl) ?_
  refine lv_iadd (pc := 79) hx hb dX8_check_79 ?_
  refine z_iald (pc := 80) hC hZ (by decide) rfl hf dX8_check_80 (fun v8 hf => ?_)
  refine lv_i2l (pc := 81) hx hb dX8_check_81 rfl ?_
  refine lv_ladd (pc := 82) hx hb dX8_check_82 ?_
  refine lv_lstore_n (pc := 83) (lv' := [(2, .long (x2 + v8.toInt64)), (0, .ref (a0 0)), (1, .int x1), (4, .int x4)]) hx hb dX8_check_83 rfl hl (by decide) rfl (fun ls hl => ?_)
  refine lv_iinc (pc := 84) (v := (x4 + (1 : Int32))) (lv' := [(4, .int (x4 + (1 : Int32))), (2, .long (x2 + v8.toInt64)), (0, .ref (a0 0)), (1, .int x1)]) hx hb dX8_check_84 hl (k := 3) rfl rfl (by decide) rfl (fun ls hl => ?_)
  refine lv_goto (pc := 87) (tgt := 59) hx hb dX8_check_87 (by decide) ?_
  exact ih ((x2 + v8.toInt64), (x4 + (1 : Int32)), w0) hf H locs ls hZ (lv_sub hl [2, 3, 1, 0] rfl)
set_option maxHeartbeats 4000000 in
set_option maxRecDepth 100000 in
theorem cX8_check_ok (l : Launch) (D : va_G) (cy : Nat → ClassId) (a0 aT aP : Nat → Nat) (N : Nat) (x1 : Int32) (w0 : zS) (rv : Int32) (τ : zS) (hf : fX8_check N x1 w0 = some (rv, τ)) : zMi l yX8_check cX8_check 5 (some .boolean) rmX8_check D cy shM 35 a0 aT aP w0 [.ref (a0 0), .int x1] rv τ (fun u => u = (aT, aP)) := by
  refine zmet_z (by decide +kernel) rfl (Nat.le_of_ble_eq_true rfl) ?_
  intro p e s m below meth c A Q ls hC hA hZ hl hE
  have hx := hC.1.1
  have hb := hC.1.2.1
  have hl : lv_has ls 5 [(0, .ref (a0 0)), (1, .int x1)] := hl
  unfold fX8_check at hf
  refine lv_aload_n (pc := 0) hx hb dX8_check_0 rfl (lv_at hl 0 rfl) ?_
  refine lv_iload_n (pc := 1) hx hb dX8_check_1 rfl (lv_at hl 1 rfl) ?_
  refine kX8_143 (pc := 2) hC hA hZ hf hl.1 (Nat.le_of_ble_eq_true rfl) ⟨Nat.le_of_ble_eq_true rfl, Nat.le_of_ble_eq_true rfl⟩ ⟨Nat.le_refl _, Nat.le_refl _⟩ dX8_check_2 (fun v2 w1 H locs hf hZ => ?_)
  refine z_ne0 (pc := 5) (tgt := 10) hC hf dX8_check_5 (by decide) (fun hf => ?_) (fun hf => ?_)
  · refine lv_iconst (pc := 8) (v := (0 : Int32)) hx hb dX8_check_8 (by decide) ?_
    obtain ⟨rfl, rfl⟩ := zinj hf
    exact hE (by decide) _ _ _ _ _ _ rfl hZ dX8_check_9
  refine lv_lconst (pc := 10) (v := (0 : Int64)) hx hb dX8_check_10 (by decide) ?_
  refine lv_lstore_n (pc := 11) (lv' := [(2, .long (0 : Int64)), (0, .ref (a0 0)), (1, .int x1)]) hx hb dX8_check_11 rfl hl (by decide) rfl (fun ls hl => ?_)
  refine lv_iconst (pc := 12) (v := (0 : Int32)) hx hb dX8_check_12 (by decide) ?_
  refine lv_istore (pc := 13) (lv' := [(4, .int (0 : Int32)), (2, .long (0 : Int64)), (0, .ref (a0 0)), (1, .int x1)]) hx hb dX8_check_13 hl (by decide) rfl (fun ls hl => ?_)
  refine wX8_check_15 (res := (rv, τ)) N x1 hC hA hE N _ _ _ hf hZ (lv_sub hl [2, 3, 1, 0] rfl) (fun y5 y6 w7 H locs ls hf hZ hl => ?_)
  refine lv_iconst (pc := 56) (v := (0 : Int32)) hx hb dX8_check_56 (by decide) ?_
  refine lv_istore (pc := 57) (lv' := [(4, .int (0 : Int32)), (0, .ref (a0 0)), (1, .int x1), (2, .long y5)]) hx hb dX8_check_57 hl (by decide) rfl (fun ls hl => ?_)
  refine wX8_check_59 (res := (rv, τ)) N x1 hC hA hE N _ _ _ hf hZ (lv_sub hl [1, 2, 3, 0] rfl) (fun y9 y10 w11 H locs ls hf hZ hl => ?_)
  refine lv_lload_n (pc := 90) hx hb dX8_check_90 rfl (lv_at hl 2 rfl) ?_
  refine lv_aload_n (pc := 91) hx hb dX8_check_91 rfl (lv_at hl 0 rfl) ?_
  refine gfX8_28 (pc := 92) hC hZ dX8_check_92 ?_
  refine lv_iload_n (pc := 95) hx hb dX8_check_95 rfl (lv_at hl 1 rfl) ?_
  refine z_lald (pc := 96) hC hZ (by decide) rfl hf dX8_check_96 (fun v12 hf => ?_)
  refine W.lcmp (pc := 97) hx hb dX8_check_97 ?_
  refine z_ne0 (pc := 98) (tgt := 105) hC hf dX8_check_98 (by decide) (fun hf => ?_) (fun hf => ?_)
  · refine lv_iconst (pc := 101) (v := (1 : Int32)) hx hb dX8_check_101 (by decide) ?_
    refine lv_goto (pc := 102) (tgt := 106) hx hb dX8_check_102 (by decide) ?_
    obtain ⟨rfl, rfl⟩ := zinj hf
    exact hE (by decide) _ _ _ _ _ _ rfl hZ dX8_check_106
  refine lv_iconst (pc := 105) (v := (0 : Int32)) hx hb dX8_check_105 (by decide) ?_
  obtain ⟨rfl, rfl⟩ := zinj hf
  exact hE (by decide) _ _ _ _ _ _ rfl hZ dX8_check_106
