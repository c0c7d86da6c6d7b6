set_option maxHeartbeats 4000000 in
set_option maxRecDepth 100000 in
theorem cX8_owes_ok (l : Launch) (D : va_G) (cy : Nat → ClassId) (a0 aT aP : Nat → Nat) (N : Nat) (x1 : Int32) (x2 : Int32) (x3 : Int32) (w0 : zS) (rv : Int32) (τ : zS) (hf : fX8_owes N x1 x2 x3 w0 = some (rv, τ)) : zMi l yX8_owes cX8_owes 4 (some .int) rmX8_owes D cy shM 35 a0 aT aP w0 [.ref (a0 0), .int x1, .int x2, .int x3] rv τ (fun u => u = (aT, aP)) := by
  refine zmet_i (by decide +kernel) (Or.inl rfl) (Nat.le_of_ble_eq_true rfl) ?_
  intro p e s m below meth c A Q ls hC hA hZ hl hE
  have hx := hC.1.1
  have hb := hC.1.2.1
  have hl : lv_has ls 4 [(0, .ref (a0 0)), (1, .int x1), (2, .int x2), (3, .int x3)] := hl
  unfold fX8_owes at hf
  refine lv_aload_n (pc := 0) hx hb dX8_owes_0 rfl (lv_at hl 0 rfl) ?_
  refine lv_iload_n (pc := 1) hx hb dX8_owes_1 rfl (lv_at hl 1 rfl) ?_
  refine kX8_139 (pc := 2) hC hA hZ hf hl.1 (Nat.le_of_ble_eq_true rfl) ⟨Nat.le_of_ble_eq_true rfl, Nat.le_of_ble_eq_true rfl⟩ ⟨Nat.le_refl _, Nat.le_refl _⟩ dX8_owes_2 (fun v2 w1 H locs hf hZ => ?_)
  refine z_eq0 (pc := 5) (tgt := 34) hC hf dX8_owes_5 (by decide) (fun hf => ?_) (fun hf => ?_)
  · refine lv_aload_n (pc := 34) hx hb dX8_owes_34 rfl (lv_at hl 0 rfl) ?_
    refine lv_iconst (pc := 35) (v := (-1 : Int32)) hx hb dX8_owes_35 (by decide) ?_
    refine kX8_126 (pc := 36) hC hA hZ hf hl.1 (Nat.le_of_ble_eq_true rfl) ⟨Nat.le_of_ble_eq_true rfl, Nat.le_of_ble_eq_true rfl⟩ ⟨Nat.le_refl _, Nat.le_refl _⟩ dX8_owes_36 (fun v4 w3 H locs hf hZ => ?_)
    obtain ⟨rfl, rfl⟩ := zinj hf
    exact hE _ _ _ _ _ _ rfl hZ dX8_owes_39
  refine lv_aload_n (pc := 8) hx hb dX8_owes_8 rfl (lv_at hl 0 rfl) ?_
  refine lv_iload_n (pc := 9) hx hb dX8_owes_9 rfl (lv_at hl 2 rfl) ?_
  refine kX8_139 (pc := 10) hC hA hZ hf hl.1 (Nat.le_of_ble_eq_true rfl) ⟨Nat.le_of_ble_eq_true rfl, Nat.le_of_ble_eq_true rfl⟩ ⟨Nat.le_refl _, Nat.le_refl _⟩ dX8_owes_10 (fun v6 w5 H locs hf hZ => ?_)
  refine z_eq0 (pc := 13) (tgt := 34) hC hf dX8_owes_13 (by decide) (fun hf => ?_) (fun hf => ?_)
  · refine lv_aload_n (pc := 34) hx hb dX8_owes_34 rfl (lv_at hl 0 rfl) ?_
    refine lv_iconst (pc := 35) (v := (-1 : Int32)) hx hb dX8_owes_35 (by decide) ?_
    refine kX8_126 (pc := 36) hC hA hZ hf hl.1 (Nat.le_of_ble_eq_true rfl) ⟨Nat.le_of_ble_eq_true rfl, Nat.le_of_ble_eq_true rfl⟩ ⟨Nat.le_refl _, Nat.le_refl _⟩ dX8_owes_36 (fun v8 w7 H locs hf hZ => ?_)
    obtain ⟨rfl, rfl⟩ := zinj hf
    exact hE _ _ _ _ _ _ rfl hZ dX8_owes_39
  refine lv_aload_n (pc := 16) hx hb dX8_owes_16 rfl (lv_at hl 0 rfl) ?_
  refine lv_iload_n (pc := 17) hx hb dX8_owes_17 rfl (lv_at hl 3 rfl) ?_
  refine kX8_143 (pc := 18) hC hA hZ hf hl.1 (Nat.le_of_ble_eq_true rfl) ⟨Nat.le_of_ble_eq_true rfl, Nat.le_of_ble_eq_true rfl⟩ ⟨Nat.le_refl _, Nat.le_refl _⟩ dX8_owes_18 (fun v10 w9 H locs hf hZ => ?_)
  refine z_eq0 (pc := 21) (tgt := 34) hC hf dX8_owes_21 (by decide) (fun hf => ?_) (fun hf => ?_)
  · refine lv_aload_n (pc := 34) hx hb dX8_owes_34 rfl (lv_at hl 0 rfl) ?_
    refine lv_iconst (pc := 35) (v := (-1 : Int32)) hx hb dX8_owes_35 (by decide) ?_
    refine kX8_126 (pc := 36) hC hA hZ hf hl.1 (Nat.le_of_ble_eq_true rfl) ⟨Nat.le_of_ble_eq_true rfl, Nat.le_of_ble_eq_true rfl⟩ ⟨Nat.le_refl _, Nat.le_refl _⟩ dX8_owes_36 (fun v12 w11 H locs hf hZ => ?_)
    obtain ⟨rfl, rfl⟩ := zinj hf
    exact hE _ _ _ _ _ _ rfl hZ dX8_owes_39
  refine lv_aload_n (pc := 24) hx hb dX8_owes_24 rfl (lv_at hl 0 rfl) ?_
  refine lv_iload_n (pc := 25) hx hb dX8_owes_25 rfl (lv_at hl 3 rfl) ?_
  refine lv_iload_n (pc := 26) hx hb dX8_owes_26 rfl (lv_at hl 1 rfl) ?_
  refine lv_iload_n (pc := 27) hx hb dX8_owes_27 rfl (lv_at hl 2 rfl) ?_
  refine kX8_196 (pc := 28) hC hA hZ hf hl.1 (Nat.le_of_ble_eq_true rfl) ⟨Nat.le_of_ble_eq_true rfl, Nat.le_of_ble_eq_true rfl⟩ ⟨Nat.le_refl _, Nat.le_refl _⟩ dX8_owes_28 (fun v14 w13 H locs hf hZ => ?_)
  refine lv_goto (pc := 31) (tgt := 39) hx hb dX8_owes_31 (by decide) ?_
  obtain ⟨rfl, rfl⟩ := zinj hf
  exact hE _ _ _ _ _ _ rfl hZ dX8_owes_39
set_option maxHeartbeats 4000000 in
set_option maxRecDepth 100000 in
theorem wX8_stepsTo_2 {p : Program} {l : Launch} {e : Env} {s : State} {m : MethodId} {args : Array Value} {below : List Frame} {meth : Method} {c : Code} {Q : State → Prop} {A : Nat → Prop} {H0 : Heap} {D : va_G} {cy : Nat → ClassId} {a0 aT aP : Nat → Nat} {res : zS} {K : Int32 → zS → Option (zS)} (N : Nat) (x1 : Int32) (x2 : Int32) (hC : zC p s m args c RX8 cX8_stepsTo 6 D cy) (hA : ∀ q, H0.size ≤ q → A q) (hE : zEnd p l e rmX8_stepsTo s m args below meth c Q D cy shM 35 a0 A H0 res (fun u => u = (aT, aP)) cX8_stepsTo .return_ []) (n : Nat) (x3 : Int32) (w0 : zS) {H : Heap} {locs : List Loc} {ls : Array Slot} (hf : lX8_stepsTo_2 N x1 x2 K n (x3, w0) = some res) (hZ : zW D cy shM 35 a0 aT aP A H0 w0 H locs) (hl : lv_has ls 6 [(0, .ref (a0 0)), (1, .int x1), (2, .int x2), (3, .int x3)]) (hK : ∀ x3 : Int32, ∀ (w0 : zS) (H : Heap) (locs : List Loc) (ls : Array Slot), K x3 w0 = some res → zW D cy shM 35 a0 aT aP A H0 w0 H locs → lv_has ls 6 [(0, .ref (a0 0)), (1, .int x1), (2, .int x2), (3, .int x3)] → W p l e rmX8_stepsTo s m args below meth c H locs 0 0 Q (F0 m 22 ls [])) : W p l e rmX8_stepsTo s m args below meth c H locs 0 0 Q (F0 m 2 ls []) := by
  have hx := hC.1.1
  have hb := hC.1.2.1
  have hf2 : zlp (fun rc s1 => bX8_stepsTo_2 N x1 x2 K rc s1.1 s1.2) n (x3, w0) = some res := hf
  have key := zloop (S := Int32 × zS) (α := zS) (b := fun rc s1 => bX8_stepsTo_2 N x1 x2 K rc s1.1 s1.2) (r := res) (Wd := fun s1 => ∀ (H : Heap) (locs : List Loc) (ls : Array Slot), zW D cy shM 35 a0 aT aP A H0 s1.2 H locs → lv_has ls 6 [(0, .ref (a0 0)), (1, .int x1), (2, .int x2), (3, .int s1.1)] → W p l e rmX8_stepsTo s m args below meth c H locs 0 0 Q (F0 m 2 ls []))
  refine key ?_ n (x3, w0) hf2 H locs ls hZ hl
  clear hf hf2 hZ hl key
  rintro rc ⟨x3, w0⟩ ih hf H locs ls hZ hl
  have hf : bX8_stepsTo_2 N x1 x2 K rc x3 w0 = some res := hf
  have hl : lv_has ls 6 [(0, .ref (a0 0)), (1, .int x1), (2, .int x2), (3, .int x3)] := hl
  unfold bX8_stepsTo_2 at hf
  refine lv_iload_n (pc := 2) hx hb dX8_stepsTo_2 rfl (lv_at hl 3 rfl) ?_
  refine lv_bipush (pc := 3) (v := (10 : Int32)) hx hb dX8_stepsTo_3 (by decide) ?_
  refine z_ige (pc := 5) (tgt := 22) hC hf dX8_stepsTo_5 (by decide) (fun hf => ?_) (fun hf => ?_)
  · exact hK x3 w0 H locs ls hf hZ (lv_sub hl [0, 1, 2, 3] rfl)
  refine lv_aload_n (pc := 8) hx hb dX8_stepsTo_8 rfl (lv_at hl 0 rfl) ?_
  refine gfX8_102 (pc := 9) hC hZ dX8_stepsTo_9 ?_
  refine lv_iload_n (pc := 12) hx hb dX8_stepsTo_12 rfl (lv_at hl 3 rfl) ?_
  refine lv_bipush (pc := 13) (v := (99 : Int32)) hx hb dX8_stepsTo_13 (by decide) ?_
  refine z_iast (pc := 15) hC hZ (by decide) rfl hf dX8_stepsTo_15 (fun w1 H locs hf hZ => ?_)
  refine lv_iinc (pc := 16) (v := (x3 + (1 : Int32))) (lv' := [(3, .int (x3 + (1 : Int32))), (0, .ref (a0 0)), (1, .int x1), (2, .int x2)]) hx hb dX8_stepsTo_16 hl (k := 3) rfl rfl (by decide) rfl (fun ls hl => ?_)
  refine lv_goto (pc := 19) (tgt := 2) hx hb dX8_stepsTo_19 (by decide) ?_
  exact ih ((x3 + (1 : Int32)), w1) hf H locs ls hZ (lv_sub hl [1, 2, 3, 0] rfl)
set_option maxHeartbeats 4000000 in
set_option maxRecDepth 100000 in
theorem wX8_stepsTo_52 {p : Program} {l : Launch} {e : Env} {s : State} {m : MethodId} {args : Array Value} {below : List Frame} {meth : Method} {c : Code} {Q : State → Prop} {A : Nat → Prop} {H0 : Heap} {D : va_G} {cy : Nat → ClassId} {a0 aT aP : Nat → Nat} {res : zS} {K : Int32 → zS → Option (zS)} (N : Nat) (x1 : Int32) (x2 : Int32) (x3 : Int32) (x4 : Int32) (hC : zC p s m args c RX8 cX8_stepsTo 6 D cy) (hA : ∀ q, H0.size ≤ q → A q) (hE : zEnd p l e rmX8_stepsTo s m args below meth c Q D cy shM 35 a0 A H0 res (fun u => u = (aT, aP)) cX8_stepsTo .return_ []) (n : Nat) (x5 : Int32) (w0 : zS) {H : Heap} {locs : List Loc} {ls : Array Slot} (hf : lX8_stepsTo_52 N x1 x2 x3 x4 K n (x5, w0) = some res) (hZ : zW D cy shM 35 a0 aT aP A H0 w0 H locs) (hl : lv_has ls 6 [(0, .ref (a0 0)), (1, .int x1), (2, .int x2), (3, .int x3), (4, .int x4), (5, .int x5)]) (hK : ∀ x5 : Int32, ∀ (w0 : zS) (H : Heap) (locs : List Loc) (ls : Array Slot), K x5 w0 = some res → zW D cy shM 35 a0 aT aP A H0 w0 H locs → lv_has ls 6 [(0, .ref (a0 0)), (1, .int x1), (2, .int x2), (3, .int x3), (4, .int x4), (5, .int x5)] → W p l e rmX8_stepsTo s m args below meth c H locs 0 0 Q (F0 m 120 ls [])) : W p l e rmX8_stepsTo s m args below meth c H locs 0 0 Q (F0 m 52 ls []) := by
  have hx := hC.1.1
  have hb := hC.1.2.1
  have hf2 : zlp (fun rc s1 => bX8_stepsTo_52 N x1 x2 x3 x4 K rc s1.1 s1.2) n (x5, w0) = some res := hf
  have key := zloop (S := Int32 × zS) (α := zS) (b := fun rc s1 => bX8_stepsTo_52 N x1 x2 x3 x4 K rc s1.1 s1.2) (r := res) (Wd := fun s1 => ∀ (H : Heap) (locs : List Loc) (ls : Array Slot), zW D cy shM 35 a0 aT aP A H0 s1.2 H locs → lv_has ls 6 [(0, .ref (a0 0)), (1, .int x1), (2, .int x2), (3, .int x3), (4, .int x4), (5, .int s1.1)] → W p l e rmX8_stepsTo s m args below meth c H locs 0 0 Q (F0 m 52 ls []))
  refine key ?_ n (x5, w0) hf2 H locs ls hZ hl
  clear hf hf2 hZ hl key
  rintro rc ⟨x5, w0⟩ ih hf H locs ls hZ hl
  have hf : bX8_stepsTo_52 N x1 x2 x3 x4 K rc x5 w0 = some res := hf
  have hl : lv_has ls 6 [(0, .ref (a0 0)), (1, .int x1), (2, .int x2), (3, .int x3), (4, .int x4), (5, .int x5)] := hl
  unfold bX8_stepsTo_52 at hf
  refine lv_iload (pc := 52) hx hb dX8_stepsTo_52 (lv_at hl 5 rfl) ?_
  refine lv_aload_n (pc := 54) hx hb dX8_stepsTo_54 rfl (lv_at hl 0 rfl) ?_
  refine gfX8_115 (pc := 55) hC hZ dX8_stepsTo_55 ?_
  refine z_ige (pc := 58) (tgt := 120) hC hf dX8_stepsTo_58 (by decide) (fun hf => ?_) (fun hf => ?_)
  · exact hK x5 w0 H locs ls hf hZ (lv_sub hl [0, 1, 2, 3, 4, 5] rfl)
  refine lv_aload_n (pc := 61) hx hb dX8_stepsTo_61 rfl (lv_at hl 0 rfl) ?_
  refine lv_iload_n (pc := 62) hx hb dX8_stepsTo_62 rfl (lv_at hl 1 rfl) ?_
  refine lv_iload (pc := 63) hx hb dX8_stepsTo_63 (lv_at hl 4 rfl) ?_
  refine lv_iload (pc := 65) hx hb dX8_stepsTo_65 (lv_at hl 5 rfl) ?_
  refine kX8_196 (pc := 67) hC hA hZ hf hl.1 (Nat.le_of_ble_eq_true rfl) ⟨Nat.le_of_ble_eq_true rfl, Nat.le_of_ble_eq_true rfl⟩ ⟨Nat.le_refl _, Nat.le_refl _⟩ dX8_stepsTo_67 (fun v6 w5 H locs hf hZ => ?_)
  refine z_le0 (pc := 70) (tgt := 114) hC hf dX8_stepsTo_70 (by decide) (fun hf => ?_) (fun hf => ?_)
  · refine lv_iinc (pc := 114) (v := (x5 + (1 : Int32))) (lv' := [(5, .int (x5 + (1 : Int32))), (0, .ref (a0 0)), (1, .int x1), (2, .int x2), (3, .int x3), (4, .int x4)]) hx hb dX8_stepsTo_114 hl (k := 5) rfl rfl (by decide) rfl (fun ls hl => ?_)
    refine lv_goto (pc := 117) (tgt := 52) hx hb dX8_stepsTo_117 (by decide) ?_
    exact ih ((x5 + (1 : Int32)), w5) hf H locs ls hZ (lv_sub hl [1, 2, 3, 4, 5, 0] rfl)
  refine lv_iload (pc := 73) hx hb dX8_stepsTo_73 (lv_at hl 4 rfl) ?_
  refine lv_iload_n (pc := 75) hx hb dX8_stepsTo_75 rfl (lv_at hl 2 rfl) ?_
  refine z_ieq (pc := 76) (tgt := 114) hC hf dX8_stepsTo_76 (by decide) (fun hf => ?_) (fun hf => ?_)
  · refine lv_iinc (pc := 114) (v := (x5 + (1 : Int32))) (lv' := [(5, .int (x5 + (1 : Int32))), (0, .ref (a0 0)), (1, .int x1), (2, .int x2), (3, .int x3), (4, .int x4)]) hx hb dX8_stepsTo_114 hl (k := 5) rfl rfl (by decide) rfl (fun ls hl => ?_)
    refine lv_goto (pc := 117) (tgt := 52) hx hb dX8_stepsTo_117 (by decide) ?_
    exact ih ((x5 + (1 : Int32)), w5) hf H locs ls hZ (lv_sub hl [1, 2, 3, 4, 5, 0] rfl)
  refine lv_aload_n (pc := 79) hx hb dX8_stepsTo_79 rfl (lv_at hl 0 rfl) ?_
  refine gfX8_102 (pc := 80) hC hZ dX8_stepsTo_80 ?_
  refine lv_iload (pc := 83) hx hb dX8_stepsTo_83 (lv_at hl 5 rfl) ?_
  refine z_iald (pc := 85) hC hZ (by decide) rfl hf dX8_stepsTo_85 (fun v7 hf => ?_)
  refine lv_iconst (pc := 86) (v := (1 : Int32)) hx hb dX8_stepsTo_86 (by decide) ?_
  refine lv_iadd (pc := 87) hx hb dX8_stepsTo_87 ?_
  refine lv_aload_n (pc := 88) hx hb dX8_stepsTo_88 rfl (lv_at hl 0 rfl) ?_
  refine gfX8_102 (pc := 89) hC hZ dX8_stepsTo_89 ?_
  refine lv_iload (pc := 92) hx hb dX8_stepsTo_92 (lv_at hl 4 rfl) ?_
  refine z_iald (pc := 94) hC hZ (by decide) rfl hf dX8_stepsTo_94 (fun v8 hf => ?_)
  refine z_ige (pc := 95) (tgt := 114) hC hf dX8_stepsTo_95 (by decide) (fun hf => ?_) (fun hf => ?_)
  · refine lv_iinc (pc := 114) (v := (x5 + (1 : Int32))) (lv' := [(5, .int (x5 + (1 : Int32))), (0, .ref (a0 0)), (1, .int x1), (2, .int x2), (3, .int x3), (4, .int x4)]) hx hb dX8_stepsTo_114 hl (k := 5) rfl rfl (by decide) rfl (fun ls hl => ?_)
    refine lv_goto (pc := 117) (tgt := 52) hx hb dX8_stepsTo_117 (by decide) ?_
    exact ih ((x5 + (1 : Int32)), w5) hf H locs ls hZ (lv_sub hl [1, 2, 3, 4, 5, 0] rfl)
  refine lv_aload_n (pc := 98) hx hb dX8_stepsTo_98 rfl (lv_at hl 0 rfl) ?_
  refine gfX8_102 (pc := 99) hC hZ dX8_stepsTo_99 ?_
  refine lv_iload (pc := 102) hx hb dX8_stepsTo_102 (lv_at hl 4 rfl) ?_
  refine lv_aload_n (pc := 104) hx hb dX8_stepsTo_104 rfl (lv_at hl 0 rfl) ?_
  refine gfX8_102 (pc := 105) hC hZ dX8_stepsTo_105 ?_
  refine lv_iload (pc := 108) hx hb dX8_stepsTo_108 (lv_at hl 5 rfl) ?_
  refine z_iald (pc := 110) hC hZ (by decide) rfl hf dX8_stepsTo_110 (fun v9 hf => ?_)
  refine lv_iconst (pc := 111) (v := (1 : Int32)) hx hb dX8_stepsTo_111 (by decide) ?_
  refine lv_iadd (pc := 112) hx hb dX8_stepsTo_112 ?_
  refine z_iast (pc := 113) hC hZ (by decide) rfl hf dX8_stepsTo_113 (fun w10 H locs hf hZ => ?_)
  refine lv_iinc (pc := 114) (v := (x5 + (1 : Int32))) (lv' := [(5, .int (x5 + (1 : Int32))), (0, .ref (a0 0)), (1, .int x1), (2, .int x2), (3, .int x3), (4, .int x4)]) hx hb dX8_stepsTo_114 hl (k := 5) rfl rfl (by decide) rfl (fun ls hl => ?_)
  refine lv_goto (pc := 117) (tgt := 52) hx hb dX8_stepsTo_117 (by decide) ?_
  exact ih ((x5 + (1 : Int32)), w10) hf H locs ls hZ (lv_sub hl [1, 2, 3, 4, 5, 0] rfl)
set_option maxHeartbeats 4000000 in
set_option maxRecDepth 100000 in
theorem wX8_stepsTo_40 {p : Program} {l : Launch} {e : Env} {s : State} {m : MethodId} {args : Array Value} {below : List Frame} {meth : Method} {c : Code} {Q : State → Prop} {A : Nat → Prop} {H0 : Heap} {D : va_G} {cy : Nat → ClassId} {a0 aT aP : Nat → Nat} {res : zS} {K : Int32 → zS → Option (zS)} (N : Nat) (x1 : Int32) (x2 : Int32) (x3 : Int32) (hC : zC p s m args c RX8 cX8_stepsTo 6 D cy) (hA : ∀ q, H0.size ≤ q → A q) (hE : zEnd p l e rmX8_stepsTo s m args below meth c Q D cy shM 35 a0 A H0 res (fun u => u = (aT, aP)) cX8_stepsTo .return_ []) (n : Nat) (x4 : Int32) (w0 : zS) {H : Heap} {locs : List Loc} {ls : Array Slot} (hf : lX8_stepsTo_40 N x1 x2 x3 K n (x4, w0) = some res) (hZ : zW D cy shM 35 a0 aT aP A H0 w0 H locs) (hl : lv_has ls 6 [(0, .ref (a0 0)), (1, .int x1), (2, .int x2), (3, .int x3), (4, .int x4)]) (hK : ∀ x4 : Int32, ∀ (w0 : zS) (H : Heap) (locs : List Loc) (ls : Array Slot), K x4 w0 = some res → zW D cy shM 35 a0 aT aP A H0 w0 H locs → lv_has ls 6 [(0, .ref (a0 0)), (1, .int x1), (2, .int x2), (3, .int x3), (4, .int x4)] → W p l e rmX8_stepsTo s m args below meth c H locs 0 0 Q (F0 m 126 ls [])) : W p l e rmX8_stepsTo s m args below meth c H locs 0 0 Q (F0 m 40 ls []) := by
  have hx := hC.1.1
  have hb := hC.1.2.1
  have hf2 : zlp (fun rc s1 => bX8_stepsTo_40 N x1 x2 x3 K rc s1.1 s1.2) n (x4, w0) = some res := hf
  have key := zloop (S := Int32 × zS) (α := zS) (b := fun rc s1 => bX8_stepsTo_40 N x1 x2 x3 K rc s1.1 s1.2) (r := res) (Wd := fun s1 => ∀ (H : Heap) (locs : List Loc) (ls : Array Slot), zW D cy shM 35 a0 aT aP A H0 s1.2 H locs → lv_has ls 6 [(0, .ref (a0 0)), (1, .int x1), (2, .int x2), (3, .int x3), (4, .int s1.1)] → W p l e rmX8_stepsTo s m args below meth c H locs 0 0 Q (F0 m 40 ls []))
  refine key ?_ n (x4, w0) hf2 H locs ls hZ hl
  clear hf hf2 hZ hl key
  rintro rc ⟨x4, w0⟩ ih hf H locs ls hZ hl
  have hf : bX8_stepsTo_40 N x1 x2 x3 K rc x4 w0 = some res := hf
  have hl : lv_has ls 6 [(0, .ref (a0 0)), (1, .int x1), (2, .int x2), (3, .int x3), (4, .int x4)] := hl
  unfold bX8_stepsTo_40 at hf
  refine lv_iload (pc := 40) hx hb dX8_stepsTo_40 (lv_at hl 4 rfl) ?_
  refine lv_aload_n (pc := 42) hx hb dX8_stepsTo_42 rfl (lv_at hl 0 rfl) ?_
  refine gfX8_115 (pc := 43) hC hZ dX8_stepsTo_43 ?_
  refine z_ige (pc := 46) (tgt := 126) hC hf dX8_stepsTo_46 (by decide) (fun hf => ?_) (fun hf => ?_)
  · exact hK x4 w0 H locs ls hf hZ (lv_sub hl [0, 1, 2, 3, 4] rfl)
  refine lv_iload_n (pc := 49) hx hb dX8_stepsTo_49 rfl (lv_at hl 2 rfl) ?_
  refine lv_istore (pc := 50) (lv' := [(5, .int x2), (0, .ref (a0 0)), (1, .int x1), (2, .int x2), (3, .int x3), (4, .int x4)]) hx hb dX8_stepsTo_50 hl (by decide) rfl (fun ls hl => ?_)
  refine wX8_stepsTo_52 (res := res) N x1 x2 x3 x4 hC hA hE N _ _ hf hZ (lv_sub hl [1, 2, 3, 4, 5, 0] rfl) (fun y11 w12 H locs ls hf hZ hl => ?_)
  refine lv_iinc (pc := 120) (v := (x4 + (1 : Int32))) (lv' := [(4, .int (x4 + (1 : Int32))), (0, .ref (a0 0)), (1, .int x1), (2, .int x2), (3, .int x3), (5, .int y11)]) hx hb dX8_stepsTo_120 hl (k := 4) rfl rfl (by decide) rfl (fun ls hl => ?_)
  refine lv_goto (pc := 123) (tgt := 40) hx hb dX8_stepsTo_123 (by decide) ?_
  exact ih ((x4 + (1 : Int32)), w12) hf H locs ls hZ (lv_sub hl [1, 2, 3, 4, 0] rfl)
set_option maxHeartbeats 4000000 in
set_option maxRecDepth 100000 in
theorem wX8_stepsTo_31 {p : Program} {l : Launch} {e : Env} {s : State} {m : MethodId} {args : Array Value} {below : List Frame} {meth : Method} {c : Code} {Q : State → Prop} {A : Nat → Prop} {H0 : Heap} {D : va_G} {cy : Nat → ClassId} {a0 aT aP : Nat → Nat} {res : zS} {K : Int32 → zS → Option (zS)} (N : Nat) (x1 : Int32) (x2 : Int32) (hC : zC p s m args c RX8 cX8_stepsTo 6 D cy) (hA : ∀ q, H0.size ≤ q → A q) (hE : zEnd p l e rmX8_stepsTo s m args below meth c Q D cy shM 35 a0 A H0 res (fun u => u = (aT, aP)) cX8_stepsTo .return_ []) (n : Nat) (x3 : Int32) (w0 : zS) {H : Heap} {locs : List Loc} {ls : Array Slot} (hf : lX8_stepsTo_31 N x1 x2 K n (x3, w0) = some res) (hZ : zW D cy shM 35 a0 aT aP A H0 w0 H locs) (hl : lv_has ls 6 [(0, .ref (a0 0)), (1, .int x1), (2, .int x2), (3, .int x3)]) (hK : ∀ x3 : Int32, ∀ (w0 : zS) (H : Heap) (locs : List Loc) (ls : Array Slot), K x3 w0 = some res → zW D cy shM 35 a0 aT aP A H0 w0 H locs → lv_has ls 6 [(0, .ref (a0 0)), (1, .int x1), (2, .int x2), (3, .int x3)] → W p l e rmX8_stepsTo s m args below meth c H locs 0 0 Q (F0 m 132 ls [])) : W p l e rmX8_stepsTo s m args below meth c H locs 0 0 Q (F0 m 31 ls []) := by
  have hx := hC.1.1
  have hb := hC.1.2.1
  have hf2 : zlp (fun rc s1 => bX8_stepsTo_31 N x1 x2 K rc s1.1 s1.2) n (x3, w0) = some res := hf
  have key := zloop (S := Int32 × zS) (α := zS) (b := fun rc s1 => bX8_stepsTo_31 N x1 x2 K rc s1.1 s1.2) (r := res) (Wd := fun s1 => ∀ (H : Heap) (locs : List Loc) (ls : Array Slot), zW D cy shM 35 a0 aT aP A H0 s1.2 H locs → lv_has ls 6 [(0, .ref (a0 0)), (1, .int x1), (2, .int x2), (3, .int s1.1)] → W p l e rmX8_stepsTo s m args below meth c H locs 0 0 Q (F0 m 31 ls []))
  refine key ?_ n (x3, w0) hf2 H locs ls hZ hl
  clear hf hf2 hZ hl key
  rintro rc ⟨x3, w0⟩ ih hf H locs ls hZ hl
  have hf : bX8_stepsTo_31 N x1 x2 K rc x3 w0 = some res := hf
  have hl : lv_has ls 6 [(0, .ref (a0 0)), (1, .int x1), (2, .int x2), (3, .int x3)] := hl
  unfold bX8_stepsTo_31 at hf
  refine lv_iload_n (pc := 31) hx hb dX8_stepsTo_31 rfl (lv_at hl 3 rfl) ?_
  refine lv_bipush (pc := 32) (v := (10 : Int32)) hx hb dX8_stepsTo_32 (by decide) ?_
  refine z_ige (pc := 34) (tgt := 132) hC hf dX8_stepsTo_34 (by decide) (fun hf => ?_) (fun hf => ?_)
  · exact hK x3 w0 H locs ls hf hZ (lv_sub hl [0, 1, 2, 3] rfl)
  refine lv_iload_n (pc := 37) hx hb dX8_stepsTo_37 rfl (lv_at hl 2 rfl) ?_
  refine lv_istore (pc := 38) (lv' := [(4, .int x2), (0, .ref (a0 0)), (1, .int x1), (2, .int x2), (3, .int x3)]) hx hb dX8_stepsTo_38 hl (by decide) rfl (fun ls hl => ?_)
  refine wX8_stepsTo_40 (res := res) N x1 x2 x3 hC hA hE N _ _ hf hZ (lv_sub hl [1, 2, 3, 4, 0] rfl) (fun y13 w14 H locs ls hf hZ hl => ?_)
  refine lv_iinc (pc := 126) (v := (x3 + (1 : Int32))) (lv' := [(3, .int (x3 + (1 : Int32))), (0, .ref (a0 0)), (1, .int x1), (2, .int x2), (4, .int y13)]) hx hb dX8_stepsTo_126 hl (k := 3) rfl rfl (by decide) rfl (fun ls hl => ?_)
  refine lv_goto (pc := 129) (tgt := 31) hx hb dX8_stepsTo_129 (by decide) ?_
  exact ih ((x3 + (1 : Int32)), w14) hf H locs ls hZ (lv_sub hl [1, 2, 3, 0] rfl)
set_option maxHeartbeats 4000000 in
set_option maxRecDepth 100000 in
theorem cX8_stepsTo_ok (l : Launch) (D : va_G) (cy : Nat → ClassId) (a0 aT aP : Nat → Nat) (N : Nat) (x1 : Int32) (x2 : Int32) (w0 : zS) (τ : zS) (hf : fX8_stepsTo N x1 x2 w0 = some τ) : zMv l yX8_stepsTo cX8_stepsTo 6 none rmX8_stepsTo D cy shM 35 a0 aT aP w0 [.ref (a0 0), .int x1, .int x2] τ (fun u => u = (aT, aP)) := by
  refine zmet_v (by decide +kernel) rfl (Nat.le_of_ble_eq_true rfl) ?_
  intro p e s m below meth c A Q ls hC hA hZ hl hE
  have hx := hC.1.1
  have hb := hC.1.2.1
  have hl : lv_has ls 6 [(0, .ref (a0 0)), (1, .int x1), (2, .int x2)] := hl
  unfold fX8_stepsTo at hf
  refine lv_iconst (pc := 0) (v := (0 : Int32)) hx hb dX8_stepsTo_0 (by decide) ?_
  refine lv_istore_n (pc := 1) (lv' := [(3, .int (0 : Int32)), (0, .ref (a0 0)), (1, .int x1), (2, .int x2)]) hx hb dX8_stepsTo_1 rfl hl (by decide) rfl (fun ls hl => ?_)
  refine wX8_stepsTo_2 (res := τ) N x1 x2 hC hA hE N _ _ hf hZ (lv_sub hl [1, 2, 3, 0] rfl) (fun y2 w3 H locs ls hf hZ hl => ?_)
  refine lv_aload_n (pc := 22) hx hb dX8_stepsTo_22 rfl (lv_at hl 0 rfl) ?_
  refine gfX8_102 (pc := 23) hC hZ dX8_stepsTo_23 ?_
  refine lv_iload_n (pc := 26) hx hb dX8_stepsTo_26 rfl (lv_at hl 2 rfl) ?_
  refine lv_iconst (pc := 27) (v := (0 : Int32)) hx hb dX8_stepsTo_27 (by decide) ?_
  refine z_iast (pc := 28) hC hZ (by decide) rfl hf dX8_stepsTo_28 (fun w4 H locs hf hZ => ?_)
  refine lv_iconst (pc := 29) (v := (0 : Int32)) hx hb dX8_stepsTo_29 (by decide) ?_
  refine lv_istore_n (pc := 30) (lv' := [(3, .int (0 : Int32)), (0, .ref (a0 0)), (1, .int x1), (2, .int x2)]) hx hb dX8_stepsTo_30 rfl hl (by decide) rfl (fun ls hl => ?_)
  refine wX8_stepsTo_31 (res := τ) N x1 x2 hC hA hE N _ _ hf hZ (lv_sub hl [1, 2, 3, 0] rfl) (fun y15 w16 H locs ls hf hZ hl => ?_)
  obtain rfl := Option.some.inj hf
  exact hE _ _ _ _ _ _ rfl hZ dX8_stepsTo_132
section ZK
variable {p : Program} {l : Launch} {e : Env} {R : Room} {s : State} {m : MethodId} {args : Array Value} {below : List Frame} {meth : Method} {c : Code} {H : Heap} {locs : List Loc} {cells slots : Nat} {Q : State → Prop}
variable {pc : Nat} {ls : Array Slot} {rest : List Value} {A : Nat → Prop} {H0 : Heap} {D : va_G} {cy : Nat → ClassId} {a0 aT aP : Nat → Nat} {σ : zS} {cc : ByteArray} {nL : Nat} {α : Type} {res : α}
theorem vkX8_202 : zVk RX8 202 yX8_stepsTo cX8_stepsTo 6 none 2 := ⟨by decide +kernel, by decide +kernel, by decide +kernel, by decide +kernel, by decide +kernel, by decide +kernel⟩
theorem kX8_202 (hC : zC p s m args c RX8 cc nL D cy) (hA : ∀ q, H0.size ≤ q → A q) (hZ : zW D cy shM 35 a0 aT aP A H0 σ H locs) {N : Nat} {x1 : Int32} {x2 : Int32} {k : zS → Option α} (hf : zbv (fX8_stepsTo N x1 x2 σ) k = some res) (hsz : ls.size = nL) (hW : (rest.map fun v => v.category).sum ≤ 8) (hR : rmX8_stepsTo.frames + 1 ≤ R.frames ∧ 8 + (6 + 11) + rmX8_stepsTo.locals ≤ R.locals) (hcs : cells ≤ R.cells ∧ slots ≤ R.slots) (hdg : decode cc pc = .ok (.invokevirtual 202, 3)) (kk : ∀ (τ : zS) (H1 : Heap) (locs1 : List Loc), k τ = some res → zW D cy shM 35 a0 aT aP A H0 τ H1 locs1 → W p l e R s m args below meth c H1 locs1 cells slots Q (F0 m (pc + 3) ls (rest))) : W p l e R s m args below meth c H locs cells slots Q (F0 m pc ls (.int x2 :: .int x1 :: .ref (a0 0) :: rest)) := by
  cases hq : fX8_stepsTo N x1 x2 σ with
  | none => rw [hq] at hf; cases hf
  | some q =>
    rw [hq] at hf
    exact zcallv hA hZ (zrun hC hZ vkX8_202 rfl (zw0 (by decide)) (cX8_stepsTo_ok l D cy a0 aT aP N x1 x2 σ q hq H.size) hR rfl hsz rfl hW hcs hdg) (fun u H1 locs1 hU hZ1 => by subst hU; exact kk q H1 locs1 hf hZ1)
end ZK
set_option maxHeartbeats 4000000 in
set_option maxRecDepth 100000 in
theorem wX8_findRing_30 {p : Program} {l : Launch} {e : Env} {s : State} {m : MethodId} {args : Array Value} {below : List Frame} {meth : Method} {c : Code} {Q : State → Prop} {A : Nat → Prop} {H0 : Heap} {D : va_G} {cy : Nat → ClassId} {a0 aT aP : Nat → Nat} {res : zS} {K : Int32 → Int32 → zS → Option (zS)} (N : Nat) (x1 : Int32) (x3 : Int32) (hC : zC p s m args c RX8 cX8_findRing 5 D cy) (hA : ∀ q, H0.size ≤ q → A q) (hE : zEnd p l e rmX8_findRing s m args below meth c Q D cy shM 35 a0 A H0 res (fun u => u = (aT, aP)) cX8_findRing .return_ []) (n : Nat) (x2 : Int32) (x4 : Int32) (w0 : zS) {H : Heap} {locs : List Loc} {ls : Array Slot} (hf : lX8_findRing_30 N x1 x3 K n (x2, x4, w0) = some res) (hZ : zW D cy shM 35 a0 aT aP A H0 w0 H locs) (hl : lv_has ls 5 [(0, .ref (a0 0)), (1, .int x1), (2, .int x2), (3, .int x3), (4, .int x4)]) (hK : ∀ x2 : Int32, ∀ x4 : Int32, ∀ (w0 : zS) (H : Heap) (locs : List Loc) (ls : Array Slot), K x2 x4 w0 = some res → zW D cy shM 35 a0 aT aP A H0 w0 H locs → lv_has ls 5 [(0, .ref (a0 0)), (1, .int x1), (2, .int x2), (3, .int x3), (4, .int x4)] → W p l e rmX8_findRing s m args below meth c H locs 0 0 Q (F0 m 106 ls [])) : W p l e rmX8_findRing s m args below meth c H locs 0 0 Q (F0 m 30 ls []) := by
  have hx := hC.1.1
  have hb := hC.1.2.1
  have hf2 : zlp (fun rc s1 => bX8_findRing_30 N x1 x3 K rc s1.1 s1.2.1 s1.2.2) n (x2, x4, w0) = some res := hf
  have key := zloop (S := Int32 × Int32 × zS) (α := zS) (b := fun rc s1 => bX8_findRing_30 N x1 x3 K rc s1.1 s1.2.1 s1.2.2) (r := res) (Wd := fun s1 => ∀ (H : Heap) (locs : List Loc) (ls : Array Slot), zW D cy shM 35 a0 aT aP A H0 s1.2.2 H locs → lv_has ls 5 [(0, .ref (a0 0)), (1, .int x1), (2, .int s1.1), (3, .int x3), (4, .int s1.2.1)] → W p l e rmX8_findRing s m args below meth c H locs 0 0 Q (F0 m 30 ls []))
  refine key ?_ n (x2, x4, w0) hf2 H locs ls hZ hl
  clear hf hf2 hZ hl key
  rintro rc ⟨x2, x4, w0⟩ ih hf H locs ls hZ hl
  have hf : bX8_findRing_30 N x1 x3 K rc x2 x4 w0 = some res := hf
  have hl : lv_has ls 5 [(0, .ref (a0 0)), (1, .int x1), (2, .int x2), (3, .int x3), (4, .int x4)] := hl
  unfold bX8_findRing_30 at hf
  refine lv_iload (pc := 30) hx hb dX8_findRing_30 (lv_at hl 4 rfl) ?_
  refine lv_aload_n (pc := 32) hx hb dX8_findRing_32 rfl (lv_at hl 0 rfl) ?_
  refine gfX8_115 (pc := 33) hC hZ dX8_findRing_33 ?_
  refine z_ige (pc := 36) (tgt := 106) hC hf dX8_findRing_36 (by decide) (fun hf => ?_) (fun hf => ?_)
  · exact hK x2 x4 w0 H locs ls hf hZ (lv_sub hl [0, 1, 2, 3, 4] rfl)
  refine lv_aload_n (pc := 39) hx hb dX8_findRing_39 rfl (lv_at hl 0 rfl) ?_
  refine lv_iload_n (pc := 40) hx hb dX8_findRing_40 rfl (lv_at hl 1 rfl) ?_
  refine lv_iload_n (pc := 41) hx hb dX8_findRing_41 rfl (lv_at hl 3 rfl) ?_
  refine lv_iload (pc := 42) hx hb dX8_findRing_42 (lv_at hl 4 rfl) ?_
  refine kX8_196 (pc := 44) hC hA hZ hf hl.1 (Nat.le_of_ble_eq_true rfl) ⟨Nat.le_of_ble_eq_true rfl, Nat.le_of_ble_eq_true rfl⟩ ⟨Nat.le_refl _, Nat.le_refl _⟩ dX8_findRing_44 (fun v4 w3 H locs hf hZ => ?_)
  refine z_le0 (pc := 47) (tgt := 100) hC hf dX8_findRing_47 (by decide) (fun hf => ?_) (fun hf => ?_)
  · refine lv_iinc (pc := 100) (v := (x4 + (1 : Int32))) (lv' := [(4, .int (x4 + (1 : Int32))), (0, .ref (a0 0)), (1, .int x1), (2, .int x2), (3, .int x3)]) hx hb dX8_findRing_100 hl (k := 4) rfl rfl (by decide) rfl (fun ls hl => ?_)
    refine lv_goto (pc := 103) (tgt := 30) hx hb dX8_findRing_103 (by decide) ?_
    exact ih (x2, (x4 + (1 : Int32)), w3) hf H locs ls hZ (lv_sub hl [1, 2, 3, 4, 0] rfl)
  refine lv_aload_n (pc := 50) hx hb dX8_findRing_50 rfl (lv_at hl 0 rfl) ?_
  refine gfX8_102 (pc := 51) hC hZ dX8_findRing_51 ?_
  refine lv_iload (pc := 54) hx hb dX8_findRing_54 (lv_at hl 4 rfl) ?_
  refine z_iald (pc := 56) hC hZ (by decide) rfl hf dX8_findRing_56 (fun v5 hf => ?_)
  refine lv_bipush (pc := 57) (v := (99 : Int32)) hx hb dX8_findRing_57 (by decide) ?_
  refine z_ige (pc := 59) (tgt := 100) hC hf dX8_findRing_59 (by decide) (fun hf => ?_) (fun hf => ?_)
  · refine lv_iinc (pc := 100) (v := (x4 + (1 : Int32))) (lv' := [(4, .int (x4 + (1 : Int32))), (0, .ref (a0 0)), (1, .int x1), (2, .int x2), (3, .int x3)]) hx hb dX8_findRing_100 hl (k := 4) rfl rfl (by decide) rfl (fun ls hl => ?_)
    refine lv_goto (pc := 103) (tgt := 30) hx hb dX8_findRing_103 (by decide) ?_
    exact ih (x2, (x4 + (1 : Int32)), w3) hf H locs ls hZ (lv_sub hl [1, 2, 3, 4, 0] rfl)
  refine lv_aload_n (pc := 62) hx hb dX8_findRing_62 rfl (lv_at hl 0 rfl) ?_
  refine gfX8_199 (pc := 63) hC hZ dX8_findRing_63 ?_
  refine z_eq0 (pc := 66) (tgt := 85) hC hf dX8_findRing_66 (by decide) (fun hf => ?_) (fun hf => ?_)
  · refine lv_aload_n (pc := 85) hx hb dX8_findRing_85 rfl (lv_at hl 0 rfl) ?_
    refine lv_aload_n (pc := 86) hx hb dX8_findRing_86 rfl (lv_at hl 0 rfl) ?_
    refine gfX8_102 (pc := 87) hC hZ dX8_findRing_87 ?_
    refine lv_iload (pc := 90) hx hb dX8_findRing_90 (lv_at hl 4 rfl) ?_
    refine z_iald (pc := 92) hC hZ (by decide) rfl hf dX8_findRing_92 (fun v6 hf => ?_)
    refine lv_iconst (pc := 93) (v := (1 : Int32)) hx hb dX8_findRing_93 (by decide) ?_
    refine lv_iadd (pc := 94) hx hb dX8_findRing_94 ?_
    refine pfX8_199 (pc := 95) hC hZ hf dX8_findRing_95 (fun w7 H locs hf hZ => ?_)
    refine lv_iload_n (pc := 98) hx hb dX8_findRing_98 rfl (lv_at hl 3 rfl) ?_
    refine lv_istore_n (pc := 99) (lv' := [(2, .int x3), (0, .ref (a0 0)), (1, .int x1), (3, .int x3), (4, .int x4)]) hx hb dX8_findRing_99 rfl hl (by decide) rfl (fun ls hl => ?_)
    refine lv_iinc (pc := 100) (v := (x4 + (1 : Int32))) (lv' := [(4, .int (x4 + (1 : Int32))), (2, .int x3), (0, .ref (a0 0)), (1, .int x1), (3, .int x3)]) hx hb dX8_findRing_100 hl (k := 4) rfl rfl (by decide) rfl (fun ls hl => ?_)
    refine lv_goto (pc := 103) (tgt := 30) hx hb dX8_findRing_103 (by decide) ?_
    exact ih (x3, (x4 + (1 : Int32)), w7) hf H locs ls hZ (lv_sub hl [2, 3, 1, 4, 0] rfl)
  refine lv_aload_n (pc := 69) hx hb dX8_findRing_69 rfl (lv_at hl 0 rfl) ?_
  refine gfX8_102 (pc := 70) hC hZ dX8_findRing_70 ?_
  refine lv_iload (pc := 73) hx hb dX8_findRing_73 (lv_at hl 4 rfl) ?_
  refine z_iald (pc := 75) hC hZ (by decide) rfl hf dX8_findRing_75 (fun v8 hf => ?_)
  refine lv_iconst (pc := 76) (v := (1 : Int32)) hx hb dX8_findRing_76 (by decide) ?_
  refine lv_iadd (pc := 77) hx hb dX8_findRing_77 ?_
  refine lv_aload_n (pc := 78) hx hb dX8_findRing_78 rfl (lv_at hl 0 rfl) ?_
  refine gfX8_199 (pc := 79) hC hZ dX8_findRing_79 ?_
  refine z_igt (pc := 82) (tgt := 100) hC hf dX8_findRing_82 (by decide) (fun hf => ?_) (fun hf => ?_)
  · refine lv_iinc (pc := 100) (v := (x4 + (1 : Int32))) (lv' := [(4, .int (x4 + (1 : Int32))), (0, .ref (a0 0)), (1, .int x1), (2, .int x2), (3, .int x3)]) hx hb dX8_findRing_100 hl (k := 4) rfl rfl (by decide) rfl (fun ls hl => ?_)
    refine lv_goto (pc := 103) (tgt := 30) hx hb dX8_findRing_103 (by decide) ?_
    exact ih (x2, (x4 + (1 : Int32)), w3) hf H locs ls hZ (lv_sub hl [1, 2, 3, 4, 0] rfl)
  refine lv_aload_n (pc := 85) hx hb dX8_findRing_85 rfl (lv_at hl 0 rfl) ?_
  refine lv_aload_n (pc := 86) hx hb dX8_findRing_86 rfl (lv_at hl 0 rfl) ?_
  refine gfX8_102 (pc := 87) hC hZ dX8_findRing_87 ?_
  refine lv_iload (pc := 90) hx hb dX8_findRing_90 (lv_at hl 4 rfl) ?_
  refine z_iald (pc := 92) hC hZ (by decide) rfl hf dX8_findRing_92 (fun v9 hf => ?_)
  refine lv_iconst (pc := 93) (v := (1 : Int32)) hx hb dX8_findRing_93 (by decide) ?_
  refine lv_iadd (pc := 94) hx hb dX8_findRing_94 ?_
  refine pfX8_199 (pc := 95) hC hZ hf dX8_findRing_95 (fun w10 H locs hf hZ => ?_)
  refine lv_iload_n (pc := 98) hx hb dX8_findRing_98 rfl (lv_at hl 3 rfl) ?_
  refine lv_istore_n (pc := 99) (lv' := [(2, .int x3), (0, .ref (a0 0)), (1, .int x1), (3, .int x3), (4, .int x4)]) hx hb dX8_findRing_99 rfl hl (by decide) rfl (fun ls hl => ?_)
  refine lv_iinc (pc := 100) (v := (x4 + (1 : Int32))) (lv' := [(4, .int (x4 + (1 : Int32))), (2, .int x3), (0, .ref (a0 0)), (1, .int x1), (3, .int x3)]) hx hb dX8_findRing_100 hl (k := 4) rfl rfl (by decide) rfl (fun ls hl => ?_)
  refine lv_goto (pc := 103) (tgt := 30) hx hb dX8_findRing_103 (by decide) ?_
  exact ih (x3, (x4 + (1 : Int32)), w10) hf H locs ls hZ (lv_sub hl [2, 3, 1, 4, 0] rfl)
set_option maxHeartbeats 4000000 in
set_option maxRecDepth 100000 in
theorem wX8_findRing_15 {p : Program} {l : Launch} {e : Env} {s : State} {m : MethodId} {args : Array Value} {below : List Frame} {meth : Method} {c : Code} {Q : State → Prop} {A : Nat → Prop} {H0 : Heap} {D : va_G} {cy : Nat → ClassId} {a0 aT aP : Nat → Nat} {res : zS} {K : Int32 → Int32 → zS → Option (zS)} (N : Nat) (x1 : Int32) (hC : zC p s m args c RX8 cX8_findRing 5 D cy) (hA : ∀ q, H0.size ≤ q → A q) (hE : zEnd p l e rmX8_findRing s m args below meth c Q D cy shM 35 a0 A H0 res (fun u => u = (aT, aP)) cX8_findRing .return_ []) (n : Nat) (x2 : Int32) (x3 : Int32) (w0 : zS) {H : Heap} {locs : List Loc} {ls : Array Slot} (hf : lX8_findRing_15 N x1 K n (x2, x3, w0) = some res) (hZ : zW D cy shM 35 a0 aT aP A H0 w0 H locs) (hl : lv_has ls 5 [(0, .ref (a0 0)), (1, .int x1), (2, .int x2), (3, .int x3)]) (hK : ∀ x2 : Int32, ∀ x3 : Int32, ∀ (w0 : zS) (H : Heap) (locs : List Loc) (ls : Array Slot), K x2 x3 w0 = some res → zW D cy shM 35 a0 aT aP A H0 w0 H locs → lv_has ls 5 [(0, .ref (a0 0)), (1, .int x1), (2, .int x2), (3, .int x3)] → W p l e rmX8_findRing s m args below meth c H locs 0 0 Q (F0 m 112 ls [])) : W p l e rmX8_findRing s m args below meth c H locs 0 0 Q (F0 m 15 ls []) := by
  have hx := hC.1.1
  have hb := hC.1.2.1
  have hf2 : zlp (fun rc s1 => bX8_findRing_15 N x1 K rc s1.1 s1.2.1 s1.2.2) n (x2, x3, w0) = some res := hf
  have key := zloop (S := Int32 × Int32 × zS) (α := zS) (b := fun rc s1 => bX8_findRing_15 N x1 K rc s1.1 s1.2.1 s1.2.2) (r := res) (Wd := fun s1 => ∀ (H : Heap) (locs : List Loc) (ls : Array Slot), zW D cy shM 35 a0 aT aP A H0 s1.2.2 H locs → lv_has ls 5 [(0, .ref (a0 0)), (1, .int x1), (2, .int s1.1), (3, .int s1.2.1)] → W p l e rmX8_findRing s m args below meth c H locs 0 0 Q (F0 m 15 ls []))
  refine key ?_ n (x2, x3, w0) hf2 H locs ls hZ hl
  clear hf hf2 hZ hl key
  rintro rc ⟨x2, x3, w0⟩ ih hf H locs ls hZ hl
  have hf : bX8_findRing_15 N x1 K rc x2 x3 w0 = some res := hf
  have hl : lv_has ls 5 [(0, .ref (a0 0)), (1, .int x1), (2, .int x2), (3, .int x3)] := hl
  unfold bX8_findRing_15 at hf
  refine lv_iload_n (pc := 15) hx hb dX8_findRing_15 rfl (lv_at hl 3 rfl) ?_
  refine z_lt0 (pc := 16) (tgt := 112) hC hf dX8_findRing_16 (by decide) (fun hf => ?_) (fun hf => ?_)
  · exact hK x2 x3 w0 H locs ls hf hZ (lv_sub hl [0, 1, 2, 3] rfl)
  refine lv_aload_n (pc := 19) hx hb dX8_findRing_19 rfl (lv_at hl 0 rfl) ?_
  refine lv_iload_n (pc := 20) hx hb dX8_findRing_20 rfl (lv_at hl 1 rfl) ?_
  refine lv_iload_n (pc := 21) hx hb dX8_findRing_21 rfl (lv_at hl 3 rfl) ?_
  refine kX8_202 (pc := 22) hC hA hZ hf hl.1 (Nat.le_of_ble_eq_true rfl) ⟨Nat.le_of_ble_eq_true rfl, Nat.le_of_ble_eq_true rfl⟩ ⟨Nat.le_refl _, Nat.le_refl _⟩ dX8_findRing_22 (fun w2 H locs hf hZ => ?_)
  refine lv_iload_n (pc := 25) hx hb dX8_findRing_25 rfl (lv_at hl 3 rfl) ?_
  refine lv_iconst (pc := 26) (v := (1 : Int32)) hx hb dX8_findRing_26 (by decide) ?_
  refine lv_iadd (pc := 27) hx hb dX8_findRing_27 ?_
  refine lv_istore (pc := 28) (lv' := [(4, .int (x3 + (1 : Int32))), (0, .ref (a0 0)), (1, .int x1), (2, .int x2), (3, .int x3)]) hx hb dX8_findRing_28 hl (by decide) rfl (fun ls hl => ?_)
  refine wX8_findRing_30 (res := res) N x1 x3 hC hA hE N _ _ _ hf hZ (lv_sub hl [1, 2, 3, 4, 0] rfl) (fun y11 y12 w13 H locs ls hf hZ hl => ?_)
  refine lv_iinc (pc := 106) (v := (x3 + (-1 : Int32))) (lv' := [(3, .int (x3 + (-1 : Int32))), (0, .ref (a0 0)), (1, .int x1), (2, .int y11), (4, .int y12)]) hx hb dX8_findRing_106 hl (k := 3) rfl rfl (by decide) rfl (fun ls hl => ?_)
  refine lv_goto (pc := 109) (tgt := 15) hx hb dX8_findRing_109 (by decide) ?_
  exact ih (y11, (x3 + (-1 : Int32)), w13) hf H locs ls hZ (lv_sub hl [1, 2, 3, 0] rfl)
set_option maxHeartbeats 4000000 in
set_option maxRecDepth 100000 in
theorem wX8_findRing_146 {p : Program} {l : Launch} {e : Env} {s : State} {m : MethodId} {args : Array Value} {below : List Frame} {meth : Method} {c : Code} {Q : State → Prop} {A : Nat → Prop} {H0 : Heap} {D : va_G} {cy : Nat → ClassId} {a0 aT aP : Nat → Nat} {res : zS} {K : Int32 → zS → Option (zS)} (N : Nat) (x1 : Int32) (x2 : Int32) (x3 : Int32) (hC : zC p s m args c RX8 cX8_findRing 5 D cy) (hA : ∀ q, H0.size ≤ q → A q) (hE : zEnd p l e rmX8_findRing s m args below meth c Q D cy shM 35 a0 A H0 res (fun u => u = (aT, aP)) cX8_findRing .return_ []) (n : Nat) (x4 : Int32) (w0 : zS) {H : Heap} {locs : List Loc} {ls : Array Slot} (hf : lX8_findRing_146 N x1 x2 x3 K n (x4, w0) = some res) (hZ : zW D cy shM 35 a0 aT aP A H0 w0 H locs) (hl : lv_has ls 5 [(0, .ref (a0 0)), (1, .int x1), (2, .int x2), (3, .int x3), (4, .int x4)]) (hK : ∀ x4 : Int32, ∀ (w0 : zS) (H : Heap) (locs : List Loc) (ls : Array Slot), K x4 w0 = some res → zW D cy shM 35 a0 aT aP A H0 w0 H locs → lv_has ls 5 [(0, .ref (a0 0)), (1, .int x1), (2, .int x2), (3, .int x3), (4, .int x4)] → W p l e rmX8_findRing s m args below meth c H locs 0 0 Q (F0 m 186 ls [])) : W p l e rmX8_findRing s m args below meth c H locs 0 0 Q (F0 m 146 ls []) := by
  have hx := hC.1.1
  have hb := hC.1.2.1
  have hf2 : zlp (fun rc s1 => bX8_findRing_146 N x1 x2 x3 K rc s1.1 s1.2) n (x4, w0) = some res := hf
  have key := zloop (S := Int32 × zS) (α := zS) (b := fun rc s1 => bX8_findRing_146 N x1 x2 x3 K rc s1.1 s1.2) (r := res) (Wd := fun s1 => ∀ (H : Heap) (locs : List Loc) (ls : Array Slot), zW D cy shM 35 a0 aT aP A H0 s1.2 H locs → lv_has ls 5 [(0, .ref (a0 0)), (1, .int x1), (2, .int x2), (3, .int x3), (4, .int s1.1)] → W p l e rmX8_findRing s m args below meth c H locs 0 0 Q (F0 m 146 ls []))
  refine key ?_ n (x4, w0) hf2 H locs ls hZ hl
  clear hf hf2 hZ hl key
  rintro rc ⟨x4, w0⟩ ih hf H locs ls hZ hl
  have hf : bX8_findRing_146 N x1 x2 x3 K rc x4 w0 = some res := hf
  have hl : lv_has ls 5 [(0, .ref (a0 0)), (1, .int x1), (2, .int x2), (3, .int x3), (4, .int x4)] := hl
  unfold bX8_findRing_146 at hf
  refine lv_aload_n (pc := 146) hx hb dX8_findRing_146 rfl (lv_at hl 0 rfl) ?_
  refine lv_iload_n (pc := 147) hx hb dX8_findRing_147 rfl (lv_at hl 1 rfl) ?_
  refine lv_aload_n (pc := 148) hx hb dX8_findRing_148 rfl (lv_at hl 0 rfl) ?_
  refine gfX8_99 (pc := 149) hC hZ dX8_findRing_149 ?_
  refine lv_iload_n (pc := 152) hx hb dX8_findRing_152 rfl (lv_at hl 3 rfl) ?_
  refine lv_iconst (pc := 153) (v := (1 : Int32)) hx hb dX8_findRing_153 (by decide) ?_
  refine lv_isub (pc := 154) hx hb dX8_findRing_154 ?_
  refine z_iald (pc := 155) hC hZ (by decide) rfl hf dX8_findRing_155 (fun v19 hf => ?_)
  refine lv_iload (pc := 156) hx hb dX8_findRing_156 (lv_at hl 4 rfl) ?_
  refine kX8_196 (pc := 158) hC hA hZ hf hl.1 (Nat.le_of_ble_eq_true rfl) ⟨Nat.le_of_ble_eq_true rfl, Nat.le_of_ble_eq_true rfl⟩ ⟨Nat.le_refl _, Nat.le_refl _⟩ dX8_findRing_158 (fun v21 w20 H locs hf hZ => ?_)
  refine z_eq0 (pc := 161) (tgt := 180) hC hf dX8_findRing_161 (by decide) (fun hf => ?_) (fun hf => ?_)
  · refine lv_iinc (pc := 180) (v := (x4 + (1 : Int32))) (lv' := [(4, .int (x4 + (1 : Int32))), (0, .ref (a0 0)), (1, .int x1), (2, .int x2), (3, .int x3)]) hx hb dX8_findRing_180 hl (k := 4) rfl rfl (by decide) rfl (fun ls hl => ?_)
    refine lv_goto (pc := 183) (tgt := 146) hx hb dX8_findRing_183 (by decide) ?_
    exact ih ((x4 + (1 : Int32)), w20) hf H locs ls hZ (lv_sub hl [1, 2, 3, 4, 0] rfl)
  refine lv_aload_n (pc := 164) hx hb dX8_findRing_164 rfl (lv_at hl 0 rfl) ?_
  refine gfX8_102 (pc := 165) hC hZ dX8_findRing_165 ?_
  refine lv_iload (pc := 168) hx hb dX8_findRing_168 (lv_at hl 4 rfl) ?_
  refine z_iald (pc := 170) hC hZ (by decide) rfl hf dX8_findRing_170 (fun v22 hf => ?_)
  refine lv_aload_n (pc := 171) hx hb dX8_findRing_171 rfl (lv_at hl 0 rfl) ?_
  refine gfX8_199 (pc := 172) hC hZ dX8_findRing_172 ?_
  refine lv_iload_n (pc := 175) hx hb dX8_findRing_175 rfl (lv_at hl 3 rfl) ?_
  refine lv_isub (pc := 176) hx hb dX8_findRing_176 ?_
  refine z_ieq (pc := 177) (tgt := 186) hC hf dX8_findRing_177 (by decide) (fun hf => ?_) (fun hf => ?_)
  · exact hK x4 w20 H locs ls hf hZ (lv_sub hl [0, 1, 2, 3, 4] rfl)
  refine lv_iinc (pc := 180) (v := (x4 + (1 : Int32))) (lv' := [(4, .int (x4 + (1 : Int32))), (0, .ref (a0 0)), (1, .int x1), (2, .int x2), (3, .int x3)]) hx hb dX8_findRing_180 hl (k := 4) rfl rfl (by decide) rfl (fun ls hl => ?_)
  refine lv_goto (pc := 183) (tgt := 146) hx hb dX8_findRing_183 (by decide) ?_
  exact ih ((x4 + (1 : Int32)), w20) hf H locs ls hZ (lv_sub hl [1, 2, 3, 4, 0] rfl)
set_option maxHeartbeats 4000000 in
set_option maxRecDepth 100000 in
theorem wX8_findRing_135 {p : Program} {l : Launch} {e : Env} {s : State} {m : MethodId} {args : Array Value} {below : List Frame} {meth : Method} {c : Code} {Q : State → Prop} {A : Nat → Prop} {H0 : Heap} {D : va_G} {cy : Nat → ClassId} {a0 aT aP : Nat → Nat} {res : zS} {K : Int32 → zS → Option (zS)} (N : Nat) (x1 : Int32) (x2 : Int32) (hC : zC p s m args c RX8 cX8_findRing 5 D cy) (hA : ∀ q, H0.size ≤ q → A q) (hE : zEnd p l e rmX8_findRing s m args below meth c Q D cy shM 35 a0 A H0 res (fun u => u = (aT, aP)) cX8_findRing .return_ []) (n : Nat) (x3 : Int32) (w0 : zS) {H : Heap} {locs : List Loc} {ls : Array Slot} (hf : lX8_findRing_135 N x1 x2 K n (x3, w0) = some res) (hZ : zW D cy shM 35 a0 aT aP A H0 w0 H locs) (hl : lv_has ls 5 [(0, .ref (a0 0)), (1, .int x1), (2, .int x2), (3, .int x3)]) (hK : ∀ x3 : Int32, ∀ (w0 : zS) (H : Heap) (locs : List Loc) (ls : Array Slot), K x3 w0 = some res → zW D cy shM 35 a0 aT aP A H0 w0 H locs → lv_has ls 5 [(0, .ref (a0 0)), (1, .int x1), (2, .int x2), (3, .int x3)] → W p l e rmX8_findRing s m args below meth c H locs 0 0 Q (F0 m 200 ls [])) : W p l e rmX8_findRing s m args below meth c H locs 0 0 Q (F0 m 135 ls []) := by
  have hx := hC.1.1
  have hb := hC.1.2.1
  have hf2 : zlp (fun rc s1 => bX8_findRing_135 N x1 x2 K rc s1.1 s1.2) n (x3, w0) = some res := hf
  have key := zloop (S := Int32 × zS) (α := zS) (b := fun rc s1 => bX8_findRing_135 N x1 x2 K rc s1.1 s1.2) (r := res) (Wd := fun s1 => ∀ (H : Heap) (locs : List Loc) (ls : Array Slot), zW D cy shM 35 a0 aT aP A H0 s1.2 H locs → lv_has ls 5 [(0, .ref (a0 0)), (1, .int x1), (2, .int x2), (3, .int s1.1)] → W p l e rmX8_findRing s m args below meth c H locs 0 0 Q (F0 m 135 ls []))
  refine key ?_ n (x3, w0) hf2 H locs ls hZ hl
  clear hf hf2 hZ hl key
  rintro rc ⟨x3, w0⟩ ih hf H locs ls hZ hl
  have hf : bX8_findRing_135 N x1 x2 K rc x3 w0 = some res := hf
  have hl : lv_has ls 5 [(0, .ref (a0 0)), (1, .int x1), (2, .int x2), (3, .int x3)] := hl
  unfold bX8_findRing_135 at hf
  refine lv_iload_n (pc := 135) hx hb dX8_findRing_135 rfl (lv_at hl 3 rfl) ?_
  refine lv_aload_n (pc := 136) hx hb dX8_findRing_136 rfl (lv_at hl 0 rfl) ?_
  refine gfX8_199 (pc := 137) hC hZ dX8_findRing_137 ?_
  refine z_ige (pc := 140) (tgt := 200) hC hf dX8_findRing_140 (by decide) (fun hf => ?_) (fun hf => ?_)
  · exact hK x3 w0 H locs ls hf hZ (lv_sub hl [0, 1, 2, 3] rfl)
  refine lv_iload_n (pc := 143) hx hb dX8_findRing_143 rfl (lv_at hl 2 rfl) ?_
  refine lv_istore (pc := 144) (lv' := [(4, .int x2), (0, .ref (a0 0)), (1, .int x1), (2, .int x2), (3, .int x3)]) hx hb dX8_findRing_144 hl (by decide) rfl (fun ls hl => ?_)
  refine wX8_findRing_146 (res := res) N x1 x2 x3 hC hA hE N _ _ hf hZ (lv_sub hl [1, 2, 3, 4, 0] rfl) (fun y23 w24 H locs ls hf hZ hl => ?_)
  refine lv_aload_n (pc := 186) hx hb dX8_findRing_186 rfl (lv_at hl 0 rfl) ?_
  refine gfX8_99 (pc := 187) hC hZ dX8_findRing_187 ?_
  refine lv_iload_n (pc := 190) hx hb dX8_findRing_190 rfl (lv_at hl 3 rfl) ?_
  refine lv_iload (pc := 191) hx hb dX8_findRing_191 (lv_at hl 4 rfl) ?_
  refine z_iast (pc := 193) hC hZ (by decide) rfl hf dX8_findRing_193 (fun w25 H locs hf hZ => ?_)
  refine lv_iinc (pc := 194) (v := (x3 + (1 : Int32))) (lv' := [(3, .int (x3 + (1 : Int32))), (0, .ref (a0 0)), (1, .int x1), (2, .int x2), (4, .int y23)]) hx hb dX8_findRing_194 hl (k := 3) rfl rfl (by decide) rfl (fun ls hl => ?_)
  refine lv_goto (pc := 197) (tgt := 135) hx hb dX8_findRing_197 (by decide) ?_
  exact ih ((x3 + (1 : Int32)), w25) hf H locs ls hZ (lv_sub hl [1, 2, 3, 0] rfl)
set_option maxHeartbeats 4000000 in
set_option maxRecDepth 100000 in
theorem cX8_findRing_ok (l : Launch) (D : va_G) (cy : Nat → ClassId) (a0 aT aP : Nat → Nat) (N : Nat) (x1 : Int32) (w0 : zS) (τ : zS) (hf : fX8_findRing N x1 w0 = some τ) : zMv l yX8_findRing cX8_findRing 5 none rmX8_findRing D cy shM 35 a0 aT aP w0 [.ref (a0 0), .int x1] τ (fun u => u = (aT, aP)) := by
  refine zmet_v (by decide +kernel) rfl (Nat.le_of_ble_eq_true rfl) ?_
  intro p e s m below meth c A Q ls hC hA hZ hl hE
  have hx := hC.1.1
  have hb := hC.1.2.1
  have hl : lv_has ls 5 [(0, .ref (a0 0)), (1, .int x1)] := hl
  unfold fX8_findRing at hf
  refine lv_aload_n (pc := 0) hx hb dX8_findRing_0 rfl (lv_at hl 0 rfl) ?_
  refine lv_iconst (pc := 1) (v := (0 : Int32)) hx hb dX8_findRing_1 (by decide) ?_
  refine pfX8_199 (pc := 2) hC hZ hf dX8_findRing_2 (fun w1 H locs hf hZ => ?_)
  refine lv_bipush (pc := 5) (v := (-9 : Int32)) hx hb dX8_findRing_5 (by decide) ?_
  refine lv_istore_n (pc := 7) (lv' := [(2, .int (-9 : Int32)), (0, .ref (a0 0)), (1, .int x1)]) hx hb dX8_findRing_7 rfl hl (by decide) rfl (fun ls hl => ?_)
  refine lv_aload_n (pc := 8) hx hb dX8_findRing_8 rfl (lv_at hl 1 rfl) ?_
  refine gfX8_115 (pc := 9) hC hZ dX8_findRing_9 ?_
  refine lv_iconst (pc := 12) (v := (1 : Int32)) hx hb dX8_findRing_12 (by decide) ?_
  refine lv_isub (pc := 13) hx hb dX8_findRing_13 ?_
  refine lv_istore_n (pc := 14) (lv' := [(3, .int ((w1.1 0 0 1) - (1 : Int32))), (2, .int (-9 : Int32)), (0, .ref (a0 0)), (1, .int x1)]) hx hb dX8_findRing_14 rfl hl (by decide) rfl (fun ls hl => ?_)
  refine wX8_findRing_15 (res := τ) N x1 hC hA hE N _ _ _ hf hZ (lv_sub hl [2, 3, 1, 0] rfl) (fun y14 y15 w16 H locs ls hf hZ hl => ?_)
  refine lv_aload_n (pc := 112) hx hb dX8_findRing_112 rfl (lv_at hl 0 rfl) ?_
  refine gfX8_199 (pc := 113) hC hZ dX8_findRing_113 ?_
  refine z_ne0 (pc := 116) (tgt := 120) hC hf dX8_findRing_116 (by decide) (fun hf => ?_) (fun hf => ?_)
  · obtain rfl := Option.some.inj hf
    exact hE _ _ _ _ _ _ rfl hZ dX8_findRing_119
  refine lv_aload_n (pc := 120) hx hb dX8_findRing_120 rfl (lv_at hl 0 rfl) ?_
  refine lv_iload_n (pc := 121) hx hb dX8_findRing_121 rfl (lv_at hl 1 rfl) ?_
  refine lv_iload_n (pc := 122) hx hb dX8_findRing_122 rfl (lv_at hl 2 rfl) ?_
  refine kX8_202 (pc := 123) hC hA hZ hf hl.1 (Nat.le_of_ble_eq_true rfl) ⟨Nat.le_of_ble_eq_true rfl, Nat.le_of_ble_eq_true rfl⟩ ⟨Nat.le_refl _, Nat.le_refl _⟩ dX8_findRing_123 (fun w17 H locs hf hZ => ?_)
  refine lv_aload_n (pc := 126) hx hb dX8_findRing_126 rfl (lv_at hl 0 rfl) ?_
  refine gfX8_99 (pc := 127) hC hZ dX8_findRing_127 ?_
  refine lv_iconst (pc := 130) (v := (0 : Int32)) hx hb dX8_findRing_130 (by decide) ?_
  refine lv_iload_n (pc := 131) hx hb dX8_findRing_131 rfl (lv_at hl 2 rfl) ?_
  refine z_iast (pc := 132) hC hZ (by decide) rfl hf dX8_findRing_132 (fun w18 H locs hf hZ => ?_)
  refine lv_iconst (pc := 133) (v := (1 : Int32)) hx hb dX8_findRing_133 (by decide) ?_
  refine lv_istore_n (pc := 134) (lv' := [(3, .int (1 : Int32)), (0, .ref (a0 0)), (1, .int x1), (2, .int y14)]) hx hb dX8_findRing_134 rfl hl (by decide) rfl (fun ls hl => ?_)
  refine wX8_findRing_135 (res := τ) N x1 y14 hC hA hE N _ _ hf hZ (lv_sub hl [1, 2, 3, 0] rfl) (fun y26 w27 H locs ls hf hZ hl => ?_)
  obtain rfl := Option.some.inj hf
  exact hE _ _ _ _ _ _ rfl hZ dX8_findRing_200
section ZK
variable {p : Program} {l : Launch} {e : Env} {R : Room} {s : State} {m : MethodId} {args : Array Value} {below : List Frame} {meth : Method} {c : Code} {H : Heap} {locs : List Loc} {cells slots : Nat} {Q : State → Prop}
variable {pc : Nat} {ls : Array Slot} {rest : List Value} {A : Nat → Prop} {H0 : Heap} {D : va_G} {cy : Nat → ClassId} {a0 aT aP : Nat → Nat} {σ : zS} {cc : ByteArray} {nL : Nat} {α : Type} {res : α}
theorem vkX8_205 : zVk RX8 205 yX8_findRing cX8_findRing 5 none 1 := ⟨by decide +kernel, by decide +kernel, by decide +kernel, by decide +kernel, by decide +kernel, by decide +kernel⟩
theorem kX8_205 (hC : zC p s m args c RX8 cc nL D cy) (hA : ∀ q, H0.size ≤ q → A q) (hZ : zW D cy shM 35 a0 aT aP A H0 σ H locs) {N : Nat} {x1 : Int32} {k : zS → Option α} (hf : zbv (fX8_findRing N x1 σ) k = some res) (hsz : ls.size = nL) (hW : (rest.map fun v => v.category).sum ≤ 8) (hR : rmX8_findRing.frames + 1 ≤ R.frames ∧ 8 + (5 + 11) + rmX8_findRing.locals ≤ R.locals) (hcs : cells ≤ R.cells ∧ slots ≤ R.slots) (hdg : decode cc pc = .ok (.invokevirtual 205, 3)) (kk : ∀ (τ : zS) (H1 : Heap) (locs1 : List Loc), k τ = some res → zW D cy shM 35 a0 aT aP A H0 τ H1 locs1 → W p l e R s m args below meth c H1 locs1 cells slots Q (F0 m (pc + 3) ls (rest))) : W p l e R s m args below meth c H locs cells slots Q (F0 m pc ls (.int x1 :: .ref (a0 0) :: rest)) := by
  cases hq : fX8_findRing N x1 σ with
  | none => rw [hq] at hf; cases hf
  | some q =>
    rw [hq] at hf
    exact zcallv hA hZ (zrun hC hZ vkX8_205 rfl (zw0 (by decide)) (cX8_findRing_ok l D cy a0 aT aP N x1 σ q hq H.size) hR rfl hsz rfl hW hcs hdg) (fun u H1 locs1 hU hZ1 => by subst hU; exact kk q H1 locs1 hf hZ1)
end ZK
