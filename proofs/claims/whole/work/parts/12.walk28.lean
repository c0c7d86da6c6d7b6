set_option maxHeartbeats 4000000 in
set_option maxRecDepth 100000 in
theorem cX8_ring_ok (l : Launch) (D : va_G) (cy : Nat → ClassId) (a0 aT aP : Nat → Nat) (N : Nat) (x1 : Int32) (x2 : Int32) (w0 : zS) (rv : Int32) (τ : zS) (hf : fX8_ring N x1 x2 w0 = some (rv, τ)) : zMi l yX8_ring cX8_ring 3 (some .int) rmX8_ring D cy shM 35 a0 aT aP w0 [.ref (a0 0), .int x1, .int x2] rv τ (fun u => u = (aT, aP)) := by
  refine zmet_i (by decide +kernel) (Or.inl rfl) (Nat.le_of_ble_eq_true rfl) ?_
  intro p e s m below meth c A Q ls hC hA hZ hl hE
  have hx := hC.1.1
  have hb := hC.1.2.1
  have hl : lv_has ls 3 [(0, .ref (a0 0)), (1, .int x1), (2, .int x2)] := hl
  unfold fX8_ring at hf
  refine lv_aload_n (pc := 0) hx hb dX8_ring_0 rfl (lv_at hl 0 rfl) ?_
  refine lv_iload_n (pc := 1) hx hb dX8_ring_1 rfl (lv_at hl 1 rfl) ?_
  refine kX8_143 (pc := 2) hC hA hZ hf hl.1 (Nat.le_of_ble_eq_true rfl) ⟨Nat.le_of_ble_eq_true rfl, Nat.le_of_ble_eq_true rfl⟩ ⟨Nat.le_refl _, Nat.le_refl _⟩ dX8_ring_2 (fun v2 w1 H locs hf hZ => ?_)
  refine z_ne0 (pc := 5) (tgt := 14) hC hf dX8_ring_5 (by decide) (fun hf => ?_) (fun hf => ?_)
  · refine lv_aload_n (pc := 8) hx hb dX8_ring_8 rfl (lv_at hl 0 rfl) ?_
    refine lv_iconst (pc := 9) (v := (-1 : Int32)) hx hb dX8_ring_9 (by decide) ?_
    refine kX8_126 (pc := 10) hC hA hZ hf hl.1 (Nat.le_of_ble_eq_true rfl) ⟨Nat.le_of_ble_eq_true rfl, Nat.le_of_ble_eq_true rfl⟩ ⟨Nat.le_refl _, Nat.le_refl _⟩ dX8_ring_10 (fun v4 w3 H locs hf hZ => ?_)
    obtain ⟨rfl, rfl⟩ := zinj hf
    exact hE _ _ _ _ _ _ rfl hZ dX8_ring_13
  refine lv_aload_n (pc := 14) hx hb dX8_ring_14 rfl (lv_at hl 0 rfl) ?_
  refine lv_iload_n (pc := 15) hx hb dX8_ring_15 rfl (lv_at hl 1 rfl) ?_
  refine kX8_205 (pc := 16) hC hA hZ hf hl.1 (Nat.le_of_ble_eq_true rfl) ⟨Nat.le_of_ble_eq_true rfl, Nat.le_of_ble_eq_true rfl⟩ ⟨Nat.le_refl _, Nat.le_refl _⟩ dX8_ring_16 (fun w5 H locs hf hZ => ?_)
  refine lv_iload_n (pc := 19) hx hb dX8_ring_19 rfl (lv_at hl 2 rfl) ?_
  refine lv_iconst (pc := 20) (v := (0 : Int32)) hx hb dX8_ring_20 (by decide) ?_
  refine lv_aload_n (pc := 21) hx hb dX8_ring_21 rfl (lv_at hl 0 rfl) ?_
  refine gfX8_199 (pc := 22) hC hZ dX8_ring_22 ?_
  refine lv_iconst (pc := 25) (v := (1 : Int32)) hx hb dX8_ring_25 (by decide) ?_
  refine lv_isub (pc := 26) hx hb dX8_ring_26 ?_
  refine kX8_119 (pc := 27) hC hA hZ hf hl.1 (Nat.le_of_ble_eq_true rfl) ⟨Nat.le_of_ble_eq_true rfl, Nat.le_of_ble_eq_true rfl⟩ ⟨Nat.le_refl _, Nat.le_refl _⟩ dX8_ring_27 (fun v7 w6 H locs hf hZ => ?_)
  refine z_eq0 (pc := 30) (tgt := 42) hC hf dX8_ring_30 (by decide) (fun hf => ?_) (fun hf => ?_)
  · refine lv_bipush (pc := 42) (v := (-9 : Int32)) hx hb dX8_ring_42 (by decide) ?_
    obtain ⟨rfl, rfl⟩ := zinj hf
    exact hE _ _ _ _ _ _ rfl hZ dX8_ring_44
  refine lv_aload_n (pc := 33) hx hb dX8_ring_33 rfl (lv_at hl 0 rfl) ?_
  refine gfX8_99 (pc := 34) hC hZ dX8_ring_34 ?_
  refine lv_iload_n (pc := 37) hx hb dX8_ring_37 rfl (lv_at hl 2 rfl) ?_
  refine z_iald (pc := 38) hC hZ (by decide) rfl hf dX8_ring_38 (fun v8 hf => ?_)
  refine lv_goto (pc := 39) (tgt := 44) hx hb dX8_ring_39 (by decide) ?_
  obtain ⟨rfl, rfl⟩ := zinj hf
  exact hE _ _ _ _ _ _ rfl hZ dX8_ring_44
set_option maxHeartbeats 4000000 in
set_option maxRecDepth 100000 in
theorem wX8_off_34 {p : Program} {l : Launch} {e : Env} {s : State} {m : MethodId} {args : Array Value} {below : List Frame} {meth : Method} {c : Code} {Q : State → Prop} {A : Nat → Prop} {H0 : Heap} {D : va_G} {cy : Nat → ClassId} {a0 aT aP : Nat → Nat} {res : Int32 × zS} {K : Int32 → Int32 → zS → Option (Int32 × zS)} (N : Nat) (x1 : Int32) (x2 : Int32) (hC : zC p s m args c RX8 cX8_off 6 D cy) (hA : ∀ q, H0.size ≤ q → A q) (hE : zEnd p l e rmX8_off s m args below meth c Q D cy shM 35 a0 A H0 res.2 (fun u => u = (aT, aP)) cX8_off .ireturn [.int res.1]) (n : Nat) (x3 : Int32) (x4 : Int32) (w0 : zS) {H : Heap} {locs : List Loc} {ls : Array Slot} (hf : lX8_off_34 N x1 x2 K n (x3, x4, w0) = some res) (hZ : zW D cy shM 35 a0 aT aP A H0 w0 H locs) (hl : lv_has ls 6 [(0, .ref (a0 0)), (1, .int x1), (2, .int x2), (3, .int x3), (4, .int x4)]) (hK : ∀ x3 : Int32, ∀ x4 : Int32, ∀ (w0 : zS) (H : Heap) (locs : List Loc) (ls : Array Slot), K x3 x4 w0 = some res → zW D cy shM 35 a0 aT aP A H0 w0 H locs → lv_has ls 6 [(0, .ref (a0 0)), (1, .int x1), (2, .int x2), (3, .int x3), (4, .int x4)] → W p l e rmX8_off s m args below meth c H locs 0 0 Q (F0 m 90 ls [])) : W p l e rmX8_off s m args below meth c H locs 0 0 Q (F0 m 34 ls []) := by
  have hx := hC.1.1
  have hb := hC.1.2.1
  have hf2 : zlp (fun rc s1 => bX8_off_34 N x1 x2 K rc s1.1 s1.2.1 s1.2.2) n (x3, x4, w0) = some res := hf
  have key := zloop (S := Int32 × Int32 × zS) (α := Int32 × zS) (b := fun rc s1 => bX8_off_34 N x1 x2 K rc s1.1 s1.2.1 s1.2.2) (r := res) (Wd := fun s1 => ∀ (H : Heap) (locs : List Loc) (ls : Array Slot), zW D cy shM 35 a0 aT aP A H0 s1.2.2 H locs → lv_has ls 6 [(0, .ref (a0 0)), (1, .int x1), (2, .int x2), (3, .int s1.1), (4, .int s1.2.1)] → W p l e rmX8_off s m args below meth c H locs 0 0 Q (F0 m 34 ls []))
  refine key ?_ n (x3, x4, w0) hf2 H locs ls hZ hl
  clear hf hf2 hZ hl key
  rintro rc ⟨x3, x4, w0⟩ ih hf H locs ls hZ hl
  have hf : bX8_off_34 N x1 x2 K rc x3 x4 w0 = some res := hf
  have hl : lv_has ls 6 [(0, .ref (a0 0)), (1, .int x1), (2, .int x2), (3, .int x3), (4, .int x4)] := hl
  unfold bX8_off_34 at hf
  refine lv_iload (pc := 34) hx hb dX8_off_34 (lv_at hl 4 rfl) ?_
  refine lv_aload_n (pc := 36) hx hb dX8_off_36 rfl (lv_at hl 0 rfl) ?_
  refine gfX8_199 (pc := 37) hC hZ dX8_off_37 ?_
  refine z_ige (pc := 40) (tgt := 90) hC hf dX8_off_40 (by decide) (fun hf => ?_) (fun hf => ?_)
  · exact hK x3 x4 w0 H locs ls hf hZ (lv_sub hl [0, 1, 2, 3, 4] rfl)
  refine lv_aload_n (pc := 43) hx hb dX8_off_43 rfl (lv_at hl 0 rfl) ?_
  refine lv_iload_n (pc := 44) hx hb dX8_off_44 rfl (lv_at hl 1 rfl) ?_
  refine lv_aload_n (pc := 45) hx hb dX8_off_45 rfl (lv_at hl 0 rfl) ?_
  refine gfX8_99 (pc := 46) hC hZ dX8_off_46 ?_
  refine lv_iload (pc := 49) hx hb dX8_off_49 (lv_at hl 4 rfl) ?_
  refine z_iald (pc := 51) hC hZ (by decide) rfl hf dX8_off_51 (fun v6 hf => ?_)
  refine lv_aload_n (pc := 52) hx hb dX8_off_52 rfl (lv_at hl 0 rfl) ?_
  refine gfX8_99 (pc := 53) hC hZ dX8_off_53 ?_
  refine lv_iload (pc := 56) hx hb dX8_off_56 (lv_at hl 4 rfl) ?_
  refine lv_iconst (pc := 58) (v := (1 : Int32)) hx hb dX8_off_58 (by decide) ?_
  refine lv_iadd (pc := 59) hx hb dX8_off_59 ?_
  refine lv_aload_n (pc := 60) hx hb dX8_off_60 rfl (lv_at hl 0 rfl) ?_
  refine gfX8_199 (pc := 61) hC hZ dX8_off_61 ?_
  refine z_irem (pc := 64) hC hf dX8_off_64 (fun hf => ?_)
  refine z_iald (pc := 65) hC hZ (by decide) rfl hf dX8_off_65 (fun v7 hf => ?_)
  refine kX8_196 (pc := 66) hC hA hZ hf hl.1 (Nat.le_of_ble_eq_true rfl) ⟨Nat.le_of_ble_eq_true rfl, Nat.le_of_ble_eq_true rfl⟩ ⟨Nat.le_refl _, Nat.le_refl _⟩ dX8_off_66 (fun v9 w8 H locs hf hZ => ?_)
  refine lv_istore (pc := 69) (lv' := [(5, .int v9), (0, .ref (a0 0)), (1, .int x1), (2, .int x2), (3, .int x3), (4, .int x4)]) hx hb dX8_off_69 hl (by decide) rfl (fun ls hl => ?_)
  refine lv_iload (pc := 71) hx hb dX8_off_71 (lv_at hl 0 rfl) ?_
  refine lv_iload_n (pc := 73) hx hb dX8_off_73 rfl (lv_at hl 4 rfl) ?_
  refine z_ige (pc := 74) (tgt := 82) hC hf dX8_off_74 (by decide) (fun hf => ?_) (fun hf => ?_)
  · refine lv_iload_n (pc := 82) hx hb dX8_off_82 rfl (lv_at hl 4 rfl) ?_
    refine lv_istore_n (pc := 83) (lv' := [(3, .int x3), (5, .int v9), (0, .ref (a0 0)), (1, .int x1), (2, .int x2), (4, .int x4)]) hx hb dX8_off_83 rfl hl (by decide) rfl (fun ls hl => ?_)
    refine lv_iinc (pc := 84) (v := (x4 + (1 : Int32))) (lv' := [(4, .int (x4 + (1 : Int32))), (3, .int x3), (5, .int v9), (0, .ref (a0 0)), (1, .int x1), (2, .int x2)]) hx hb dX8_off_84 hl (k := 5) rfl rfl (by decide) rfl (fun ls hl => ?_)
    refine lv_goto (pc := 87) (tgt := 34) hx hb dX8_off_87 (by decide) ?_
    exact ih (x3, (x4 + (1 : Int32)), w8) hf H locs ls hZ (lv_sub hl [3, 4, 5, 1, 0] rfl)
  refine lv_iload (pc := 77) hx hb dX8_off_77 (lv_at hl 0 rfl) ?_
  refine lv_goto (pc := 79) (tgt := 83) hx hb dX8_off_79 (by decide) ?_
  refine lv_istore_n (pc := 83) (lv' := [(3, .int v9), (5, .int v9), (0, .ref (a0 0)), (1, .int x1), (2, .int x2), (4, .int x4)]) hx hb dX8_off_83 rfl hl (by decide) rfl (fun ls hl => ?_)
  refine lv_iinc (pc := 84) (v := (x4 + (1 : Int32))) (lv' := [(4, .int (x4 + (1 : Int32))), (3, .int v9), (5, .int v9), (0, .ref (a0 0)), (1, .int x1), (2, .int x2)]) hx hb dX8_off_84 hl (k := 5) rfl rfl (by decide) rfl (fun ls hl => ?_)
  refine lv_goto (pc := 87) (tgt := 34) hx hb dX8_off_87 (by decide) ?_
  exact ih (v9, (x4 + (1 : Int32)), w8) hf H locs ls hZ (lv_sub hl [3, 4, 5, 1, 0] rfl)
set_option maxHeartbeats 4000000 in
set_option maxRecDepth 100000 in
theorem wX8_off_93 {p : Program} {l : Launch} {e : Env} {s : State} {m : MethodId} {args : Array Value} {below : List Frame} {meth : Method} {c : Code} {Q : State → Prop} {A : Nat → Prop} {H0 : Heap} {D : va_G} {cy : Nat → ClassId} {a0 aT aP : Nat → Nat} {res : Int32 × zS} {K : Int32 → zS → Option (Int32 × zS)} (N : Nat) (x1 : Int32) (x2 : Int32) (x3 : Int32) (hC : zC p s m args c RX8 cX8_off 6 D cy) (hA : ∀ q, H0.size ≤ q → A q) (hE : zEnd p l e rmX8_off s m args below meth c Q D cy shM 35 a0 A H0 res.2 (fun u => u = (aT, aP)) cX8_off .ireturn [.int res.1]) (n : Nat) (x4 : Int32) (w0 : zS) {H : Heap} {locs : List Loc} {ls : Array Slot} (hf : lX8_off_93 N x1 x2 x3 K n (x4, w0) = some res) (hZ : zW D cy shM 35 a0 aT aP A H0 w0 H locs) (hl : lv_has ls 6 [(0, .ref (a0 0)), (1, .int x1), (2, .int x2), (3, .int x3), (4, .int x4)]) (hK : ∀ x4 : Int32, ∀ (w0 : zS) (H : Heap) (locs : List Loc) (ls : Array Slot), K x4 w0 = some res → zW D cy shM 35 a0 aT aP A H0 w0 H locs → lv_has ls 6 [(0, .ref (a0 0)), (1, .int x1), (2, .int x2), (3, .int x3), (4, .int x4)] → W p l e rmX8_off s m args below meth c H locs 0 0 Q (F0 m 147 ls [])) : W p l e rmX8_off s m args below meth c H locs 0 0 Q (F0 m 93 ls []) := by
  have hx := hC.1.1
  have hb := hC.1.2.1
  have hf2 : zlp (fun rc s1 => bX8_off_93 N x1 x2 x3 K rc s1.1 s1.2) n (x4, w0) = some res := hf
  have key := zloop (S := Int32 × zS) (α := Int32 × zS) (b := fun rc s1 => bX8_off_93 N x1 x2 x3 K rc s1.1 s1.2) (r := res) (Wd := fun s1 => ∀ (H : Heap) (locs : List Loc) (ls : Array Slot), zW D cy shM 35 a0 aT aP A H0 s1.2 H locs → lv_has ls 6 [(0, .ref (a0 0)), (1, .int x1), (2, .int x2), (3, .int x3), (4, .int s1.1)] → W p l e rmX8_off s m args below meth c H locs 0 0 Q (F0 m 93 ls []))
  refine key ?_ n (x4, w0) hf2 H locs ls hZ hl
  clear hf hf2 hZ hl key
  rintro rc ⟨x4, w0⟩ ih hf H locs ls hZ hl
  have hf : bX8_off_93 N x1 x2 x3 K rc x4 w0 = some res := hf
  have hl : lv_has ls 6 [(0, .ref (a0 0)), (1, .int x1), (2, .int x2), (3, .int x3), (4, .int x4)] := hl
  unfold bX8_off_93 at hf
  refine lv_iload (pc := 93) hx hb dX8_off_93 (lv_at hl 4 rfl) ?_
  refine lv_aload_n (pc := 95) hx hb dX8_off_95 rfl (lv_at hl 0 rfl) ?_
  refine gfX8_199 (pc := 96) hC hZ dX8_off_96 ?_
  refine z_ige (pc := 99) (tgt := 147) hC hf dX8_off_99 (by decide) (fun hf => ?_) (fun hf => ?_)
  · exact hK x4 w0 H locs ls hf hZ (lv_sub hl [0, 1, 2, 3, 4] rfl)
  refine lv_aload_n (pc := 102) hx hb dX8_off_102 rfl (lv_at hl 0 rfl) ?_
  refine gfX8_75 (pc := 103) hC hZ dX8_off_103 ?_
  refine lv_bipush (pc := 106) (v := (100 : Int32)) hx hb dX8_off_106 (by decide) ?_
  refine lv_iload_n (pc := 108) hx hb dX8_off_108 rfl (lv_at hl 1 rfl) ?_
  refine lv_imul (pc := 109) hx hb dX8_off_109 ?_
  refine lv_bipush (pc := 110) (v := (10 : Int32)) hx hb dX8_off_110 (by decide) ?_
  refine lv_aload_n (pc := 112) hx hb dX8_off_112 rfl (lv_at hl 0 rfl) ?_
  refine gfX8_99 (pc := 113) hC hZ dX8_off_113 ?_
  refine lv_iload (pc := 116) hx hb dX8_off_116 (lv_at hl 4 rfl) ?_
  refine z_iald (pc := 118) hC hZ (by decide) rfl hf dX8_off_118 (fun v13 hf => ?_)
  refine lv_imul (pc := 119) hx hb dX8_off_119 ?_
  refine lv_iadd (pc := 120) hx hb dX8_off_120 ?_
  refine lv_aload_n (pc := 121) hx hb dX8_off_121 rfl (lv_at hl 0 rfl) ?_
  refine gfX8_99 (pc := 122) hC hZ dX8_off_122 ?_
  refine lv_iload (pc := 125) hx hb dX8_off_125 (lv_at hl 4 rfl) ?_
  refine lv_iconst (pc := 127) (v := (1 : Int32)) hx hb dX8_off_127 (by decide) ?_
  refine lv_iadd (pc := 128) hx hb dX8_off_128 ?_
  refine lv_aload_n (pc := 129) hx hb dX8_off_129 rfl (lv_at hl 0 rfl) ?_
  refine gfX8_199 (pc := 130) hC hZ dX8_off_130 ?_
  refine z_irem (pc := 133) hC hf dX8_off_133 (fun hf => ?_)
  refine z_iald (pc := 134) hC hZ (by decide) rfl hf dX8_off_134 (fun v14 hf => ?_)
  refine lv_iadd (pc := 135) hx hb dX8_off_135 ?_
  refine lv_dup2_11 (pc := 136) hx hb dX8_off_136 rfl rfl ?_
  refine z_iald (pc := 137) hC hZ (by decide) rfl hf dX8_off_137 (fun v15 hf => ?_)
  refine lv_iload_n (pc := 138) hx hb dX8_off_138 rfl (lv_at hl 3 rfl) ?_
  refine lv_isub (pc := 139) hx hb dX8_off_139 ?_
  refine z_iast (pc := 140) hC hZ (by decide) rfl hf dX8_off_140 (fun w16 H locs hf hZ => ?_)
  refine lv_iinc (pc := 141) (v := (x4 + (1 : Int32))) (lv' := [(4, .int (x4 + (1 : Int32))), (0, .ref (a0 0)), (1, .int x1), (2, .int x2), (3, .int x3)]) hx hb dX8_off_141 hl (k := 4) rfl rfl (by decide) rfl (fun ls hl => ?_)
  refine lv_goto (pc := 144) (tgt := 93) hx hb dX8_off_144 (by decide) ?_
  exact ih ((x4 + (1 : Int32)), w16) hf H locs ls hZ (lv_sub hl [1, 2, 3, 4, 0] rfl)
set_option maxHeartbeats 4000000 in
set_option maxRecDepth 100000 in
theorem wX8_off_21 {p : Program} {l : Launch} {e : Env} {s : State} {m : MethodId} {args : Array Value} {below : List Frame} {meth : Method} {c : Code} {Q : State → Prop} {A : Nat → Prop} {H0 : Heap} {D : va_G} {cy : Nat → ClassId} {a0 aT aP : Nat → Nat} {res : Int32 × zS} {K : Int32 → zS → Option (Int32 × zS)} (N : Nat) (x1 : Int32) (hC : zC p s m args c RX8 cX8_off 6 D cy) (hA : ∀ q, H0.size ≤ q → A q) (hE : zEnd p l e rmX8_off s m args below meth c Q D cy shM 35 a0 A H0 res.2 (fun u => u = (aT, aP)) cX8_off .ireturn [.int res.1]) (n : Nat) (x2 : Int32) (w0 : zS) {H : Heap} {locs : List Loc} {ls : Array Slot} (hf : lX8_off_21 N x1 K n (x2, w0) = some res) (hZ : zW D cy shM 35 a0 aT aP A H0 w0 H locs) (hl : lv_has ls 6 [(0, .ref (a0 0)), (1, .int x1), (2, .int x2)]) (hK : ∀ x2 : Int32, ∀ (w0 : zS) (H : Heap) (locs : List Loc) (ls : Array Slot), K x2 w0 = some res → zW D cy shM 35 a0 aT aP A H0 w0 H locs → lv_has ls 6 [(0, .ref (a0 0)), (1, .int x1), (2, .int x2)] → W p l e rmX8_off s m args below meth c H locs 0 0 Q (F0 m 158 ls [])) : W p l e rmX8_off s m args below meth c H locs 0 0 Q (F0 m 21 ls []) := by
  have hx := hC.1.1
  have hb := hC.1.2.1
  have hf2 : zlp (fun rc s1 => bX8_off_21 N x1 K rc s1.1 s1.2) n (x2, w0) = some res := hf
  have key := zloop (S := Int32 × zS) (α := Int32 × zS) (b := fun rc s1 => bX8_off_21 N x1 K rc s1.1 s1.2) (r := res) (Wd := fun s1 => ∀ (H : Heap) (locs : List Loc) (ls : Array Slot), zW D cy shM 35 a0 aT aP A H0 s1.2 H locs → lv_has ls 6 [(0, .ref (a0 0)), (1, .int x1), (2, .int s1.1)] → W p l e rmX8_off s m args below meth c H locs 0 0 Q (F0 m 21 ls []))
  refine key ?_ n (x2, w0) hf2 H locs ls hZ hl
  clear hf hf2 hZ hl key
  rintro rc ⟨x2, w0⟩ ih hf H locs ls hZ hl
  have hf : bX8_off_21 N x1 K rc x2 w0 = some res := hf
  have hl : lv_has ls 6 [(0, .ref (a0 0)), (1, .int x1), (2, .int x2)] := hl
  unfold bX8_off_21 at hf
  refine lv_aload_n (pc := 21) hx hb dX8_off_21 rfl (lv_at hl 0 rfl) ?_
  refine gfX8_199 (pc := 22) hC hZ dX8_off_22 ?_
  refine z_le0 (pc := 25) (tgt := 158) hC hf dX8_off_25 (by decide) (fun hf => ?_) (fun hf => ?_)
  · exact hK x2 w0 H locs ls hf hZ (lv_sub hl [0, 1, 2] rfl)
  refine lv_ldc (pc := 28) (v := (100000 : Int32)) hx hb hC.1.2.2.2.1 (hC.1.2.2.2.2 _ kcX8_157) dX8_off_28 ?_
  refine lv_istore_n (pc := 30) (lv' := [(3, .int (100000 : Int32)), (0, .ref (a0 0)), (1, .int x1), (2, .int x2)]) hx hb dX8_off_30 rfl hl (by decide) rfl (fun ls hl => ?_)
  refine lv_iconst (pc := 31) (v := (0 : Int32)) hx hb dX8_off_31 (by decide) ?_
  refine lv_istore (pc := 32) (lv' := [(4, .int (0 : Int32)), (3, .int (100000 : Int32)), (0, .ref (a0 0)), (1, .int x1), (2, .int x2)]) hx hb dX8_off_32 hl (by decide) rfl (fun ls hl => ?_)
  refine wX8_off_34 (res := res) N x1 x2 hC hA hE N _ _ _ hf hZ (lv_sub hl [2, 3, 4, 1, 0] rfl) (fun y10 y11 w12 H locs ls hf hZ hl => ?_)
  refine lv_iconst (pc := 90) (v := (0 : Int32)) hx hb dX8_off_90 (by decide) ?_
  refine lv_istore (pc := 91) (lv' := [(4, .int (0 : Int32)), (0, .ref (a0 0)), (1, .int x1), (2, .int x2), (3, .int y10)]) hx hb dX8_off_91 hl (by decide) rfl (fun ls hl => ?_)
  refine wX8_off_93 (res := res) N x1 x2 y10 hC hA hE N _ _ hf hZ (lv_sub hl [1, 2, 3, 4, 0] rfl) (fun y17 w18 H locs ls hf hZ hl => ?_)
  refine lv_iinc (pc := 147) (v := (x2 + (1 : Int32))) (lv' := [(2, .int (x2 + (1 : Int32))), (0, .ref (a0 0)), (1, .int x1), (3, .int y10), (4, .int y17)]) hx hb dX8_off_147 hl (k := 2) rfl rfl (by decide) rfl (fun ls hl => ?_)
  refine lv_aload_n (pc := 150) hx hb dX8_off_150 rfl (lv_at hl 1 rfl) ?_
  refine lv_iload_n (pc := 151) hx hb dX8_off_151 rfl (lv_at hl 2 rfl) ?_
  refine kX8_205 (pc := 152) hC hA hZ hf hl.1 (Nat.le_of_ble_eq_true rfl) ⟨Nat.le_of_ble_eq_true rfl, Nat.le_of_ble_eq_true rfl⟩ ⟨Nat.le_refl _, Nat.le_refl _⟩ dX8_off_152 (fun w19 H locs hf hZ => ?_)
  refine lv_goto (pc := 155) (tgt := 21) hx hb dX8_off_155 (by decide) ?_
  exact ih ((x2 + (1 : Int32)), w19) hf H locs ls hZ (lv_sub hl [1, 2, 0] rfl)
set_option maxHeartbeats 4000000 in
set_option maxRecDepth 100000 in
theorem cX8_off_ok (l : Launch) (D : va_G) (cy : Nat → ClassId) (a0 aT aP : Nat → Nat) (N : Nat) (x1 : Int32) (w0 : zS) (rv : Int32) (τ : zS) (hf : fX8_off N x1 w0 = some (rv, τ)) : zMi l yX8_off cX8_off 6 (some .int) rmX8_off D cy shM 35 a0 aT aP w0 [.ref (a0 0), .int x1] rv τ (fun u => u = (aT, aP)) := by
  refine zmet_i (by decide +kernel) (Or.inl rfl) (Nat.le_of_ble_eq_true rfl) ?_
  intro p e s m below meth c A Q ls hC hA hZ hl hE
  have hx := hC.1.1
  have hb := hC.1.2.1
  have hl : lv_has ls 6 [(0, .ref (a0 0)), (1, .int x1)] := hl
  unfold fX8_off at hf
  refine lv_aload_n (pc := 0) hx hb dX8_off_0 rfl (lv_at hl 0 rfl) ?_
  refine lv_iload_n (pc := 1) hx hb dX8_off_1 rfl (lv_at hl 1 rfl) ?_
  refine kX8_143 (pc := 2) hC hA hZ hf hl.1 (Nat.le_of_ble_eq_true rfl) ⟨Nat.le_of_ble_eq_true rfl, Nat.le_of_ble_eq_true rfl⟩ ⟨Nat.le_refl _, Nat.le_refl _⟩ dX8_off_2 (fun v2 w1 H locs hf hZ => ?_)
  refine z_ne0 (pc := 5) (tgt := 14) hC hf dX8_off_5 (by decide) (fun hf => ?_) (fun hf => ?_)
  · refine lv_aload_n (pc := 8) hx hb dX8_off_8 rfl (lv_at hl 0 rfl) ?_
    refine lv_iconst (pc := 9) (v := (-1 : Int32)) hx hb dX8_off_9 (by decide) ?_
    refine kX8_126 (pc := 10) hC hA hZ hf hl.1 (Nat.le_of_ble_eq_true rfl) ⟨Nat.le_of_ble_eq_true rfl, Nat.le_of_ble_eq_true rfl⟩ ⟨Nat.le_refl _, Nat.le_refl _⟩ dX8_off_10 (fun v4 w3 H locs hf hZ => ?_)
    obtain ⟨rfl, rfl⟩ := zinj hf
    exact hE _ _ _ _ _ _ rfl hZ dX8_off_13
  refine lv_iconst (pc := 14) (v := (0 : Int32)) hx hb dX8_off_14 (by decide) ?_
  refine lv_istore_n (pc := 15) (lv' := [(2, .int (0 : Int32)), (0, .ref (a0 0)), (1, .int x1)]) hx hb dX8_off_15 rfl hl (by decide) rfl (fun ls hl => ?_)
  refine lv_aload_n (pc := 16) hx hb dX8_off_16 rfl (lv_at hl 1 rfl) ?_
  refine lv_iload_n (pc := 17) hx hb dX8_off_17 rfl (lv_at hl 2 rfl) ?_
  refine kX8_205 (pc := 18) hC hA hZ hf hl.1 (Nat.le_of_ble_eq_true rfl) ⟨Nat.le_of_ble_eq_true rfl, Nat.le_of_ble_eq_true rfl⟩ ⟨Nat.le_refl _, Nat.le_refl _⟩ dX8_off_18 (fun w5 H locs hf hZ => ?_)
  refine wX8_off_21 (res := (rv, τ)) N x1 hC hA hE N _ _ hf hZ (lv_sub hl [1, 2, 0] rfl) (fun y20 w21 H locs ls hf hZ hl => ?_)
  refine lv_iload_n (pc := 158) hx hb dX8_off_158 rfl (lv_at hl 2 rfl) ?_
  obtain ⟨rfl, rfl⟩ := zinj hf
  exact hE _ _ _ _ _ _ rfl hZ dX8_off_159
set_option maxHeartbeats 4000000 in
set_option maxRecDepth 100000 in
theorem cX8_want_ok (l : Launch) (D : va_G) (cy : Nat → ClassId) (a0 aT aP : Nat → Nat) (N : Nat) (x1 : Int32) (x2 : Int32) (x3 : Int32) (w0 : zS) (rv : Int32) (τ : zS) (hf : fX8_want N x1 x2 x3 w0 = some (rv, τ)) : zMi l yX8_want cX8_want 4 (some .int) rmX8_want D cy shM 35 a0 aT aP w0 [.ref (a0 0), .int x1, .int x2, .int x3] rv τ (fun u => u = (aT, aP)) := by
  refine zmet_i (by decide +kernel) (Or.inl rfl) (Nat.le_of_ble_eq_true rfl) ?_
  intro p e s m below meth c A Q ls hC hA hZ hl hE
  have hx := hC.1.1
  have hb := hC.1.2.1
  have hl : lv_has ls 4 [(0, .ref (a0 0)), (1, .int x1), (2, .int x2), (3, .int x3)] := hl
  unfold fX8_want at hf
  refine lv_aload_n (pc := 0) hx hb dX8_want_0 rfl (lv_at hl 0 rfl) ?_
  refine lv_iload_n (pc := 1) hx hb dX8_want_1 rfl (lv_at hl 1 rfl) ?_
  refine kX8_139 (pc := 2) hC hA hZ hf hl.1 (Nat.le_of_ble_eq_true rfl) ⟨Nat.le_of_ble_eq_true rfl, Nat.le_of_ble_eq_true rfl⟩ ⟨Nat.le_refl _, Nat.le_refl _⟩ dX8_want_2 (fun v2 w1 H locs hf hZ => ?_)
  refine z_ne0 (pc := 5) (tgt := 14) hC hf dX8_want_5 (by decide) (fun hf => ?_) (fun hf => ?_)
  · refine lv_aload_n (pc := 8) hx hb dX8_want_8 rfl (lv_at hl 0 rfl) ?_
    refine lv_iconst (pc := 9) (v := (-1 : Int32)) hx hb dX8_want_9 (by decide) ?_
    refine kX8_126 (pc := 10) hC hA hZ hf hl.1 (Nat.le_of_ble_eq_true rfl) ⟨Nat.le_of_ble_eq_true rfl, Nat.le_of_ble_eq_true rfl⟩ ⟨Nat.le_refl _, Nat.le_refl _⟩ dX8_want_10 (fun v4 w3 H locs hf hZ => ?_)
    obtain ⟨rfl, rfl⟩ := zinj hf
    exact hE _ _ _ _ _ _ rfl hZ dX8_want_13
  refine lv_iload_n (pc := 14) hx hb dX8_want_14 rfl (lv_at hl 2 rfl) ?_
  refine z_lt0 (pc := 15) (tgt := 22) hC hf dX8_want_15 (by decide) (fun hf => ?_) (fun hf => ?_)
  · refine lv_aload_n (pc := 22) hx hb dX8_want_22 rfl (lv_at hl 0 rfl) ?_
    refine lv_bipush (pc := 23) (v := (-4 : Int32)) hx hb dX8_want_23 (by decide) ?_
    refine kX8_126 (pc := 25) hC hA hZ hf hl.1 (Nat.le_of_ble_eq_true rfl) ⟨Nat.le_of_ble_eq_true rfl, Nat.le_of_ble_eq_true rfl⟩ ⟨Nat.le_refl _, Nat.le_refl _⟩ dX8_want_25 (fun v6 w5 H locs hf hZ => ?_)
    obtain ⟨rfl, rfl⟩ := zinj hf
    exact hE _ _ _ _ _ _ rfl hZ dX8_want_28
  refine lv_iload_n (pc := 18) hx hb dX8_want_18 rfl (lv_at hl 3 rfl) ?_
  refine z_ge0 (pc := 19) (tgt := 29) hC hf dX8_want_19 (by decide) (fun hf => ?_) (fun hf => ?_)
  · refine lv_iload_n (pc := 29) hx hb dX8_want_29 rfl (lv_at hl 2 rfl) ?_
    refine lv_bipush (pc := 30) (v := (100 : Int32)) hx hb dX8_want_30 (by decide) ?_
    refine z_igt (pc := 32) (tgt := 41) hC hf dX8_want_32 (by decide) (fun hf => ?_) (fun hf => ?_)
    · refine lv_aload_n (pc := 41) hx hb dX8_want_41 rfl (lv_at hl 0 rfl) ?_
      refine lv_bipush (pc := 42) (v := (-6 : Int32)) hx hb dX8_want_42 (by decide) ?_
      refine kX8_126 (pc := 44) hC hA hZ hf hl.1 (Nat.le_of_ble_eq_true rfl) ⟨Nat.le_of_ble_eq_true rfl, Nat.le_of_ble_eq_true rfl⟩ ⟨Nat.le_refl _, Nat.le_refl _⟩ dX8_want_44 (fun v8 w7 H locs hf hZ => ?_)
      obtain ⟨rfl, rfl⟩ := zinj hf
      exact hE _ _ _ _ _ _ rfl hZ dX8_want_47
    refine lv_iload_n (pc := 35) hx hb dX8_want_35 rfl (lv_at hl 3 rfl) ?_
    refine lv_bipush (pc := 36) (v := (100 : Int32)) hx hb dX8_want_36 (by decide) ?_
    refine z_ile (pc := 38) (tgt := 48) hC hf dX8_want_38 (by decide) (fun hf => ?_) (fun hf => ?_)
    · refine lv_aload_n (pc := 48) hx hb dX8_want_48 rfl (lv_at hl 0 rfl) ?_
      refine gfX8_78 (pc := 49) hC hZ dX8_want_49 ?_
      refine lv_iload_n (pc := 52) hx hb dX8_want_52 rfl (lv_at hl 1 rfl) ?_
      refine lv_iload_n (pc := 53) hx hb dX8_want_53 rfl (lv_at hl 2 rfl) ?_
      refine z_iast (pc := 54) hC hZ (by decide) rfl hf dX8_want_54 (fun w9 H locs hf hZ => ?_)
      refine lv_aload_n (pc := 55) hx hb dX8_want_55 rfl (lv_at hl 0 rfl) ?_
      refine gfX8_81 (pc := 56) hC hZ dX8_want_56 ?_
      refine lv_iload_n (pc := 59) hx hb dX8_want_59 rfl (lv_at hl 1 rfl) ?_
      refine lv_iload_n (pc := 60) hx hb dX8_want_60 rfl (lv_at hl 3 rfl) ?_
      refine z_iast (pc := 61) hC hZ (by decide) rfl hf dX8_want_61 (fun w10 H locs hf hZ => ?_)
      refine lv_iconst (pc := 62) (v := (1 : Int32)) hx hb dX8_want_62 (by decide) ?_
      obtain ⟨rfl, rfl⟩ := zinj hf
      exact hE _ _ _ _ _ _ rfl hZ dX8_want_63
    refine lv_aload_n (pc := 41) hx hb dX8_want_41 rfl (lv_at hl 0 rfl) ?_
    refine lv_bipush (pc := 42) (v := (-6 : Int32)) hx hb dX8_want_42 (by decide) ?_
    refine kX8_126 (pc := 44) hC hA hZ hf hl.1 (Nat.le_of_ble_eq_true rfl) ⟨Nat.le_of_ble_eq_true rfl, Nat.le_of_ble_eq_true rfl⟩ ⟨Nat.le_refl _, Nat.le_refl _⟩ dX8_want_44 (fun v12 w11 H locs hf hZ => ?_)
    obtain ⟨rfl, rfl⟩ := zinj hf
    exact hE _ _ _ _ _ _ rfl hZ dX8_want_47
  refine lv_aload_n (pc := 22) hx hb dX8_want_22 rfl (lv_at hl 0 rfl) ?_
  refine lv_bipush (pc := 23) (v := (-4 : Int32)) hx hb dX8_want_23 (by decide) ?_
  refine kX8_126 (pc := 25) hC hA hZ hf hl.1 (Nat.le_of_ble_eq_true rfl) ⟨Nat.le_of_ble_eq_true rfl, Nat.le_of_ble_eq_true rfl⟩ ⟨Nat.le_refl _, Nat.le_refl _⟩ dX8_want_25 (fun v14 w13 H locs hf hZ => ?_)
  obtain ⟨rfl, rfl⟩ := zinj hf
  exact hE _ _ _ _ _ _ rfl hZ dX8_want_28
set_option maxHeartbeats 4000000 in
set_option maxRecDepth 100000 in
theorem cX8_way_ok (l : Launch) (D : va_G) (cy : Nat → ClassId) (a0 aT aP : Nat → Nat) (N : Nat) (x1 : Int32) (x2 : Int32) (x3 : Int32) (w0 : zS) (rv : Int32) (τ : zS) (hf : fX8_way N x1 x2 x3 w0 = some (rv, τ)) : zMi l yX8_way cX8_way 5 (some .int) rmX8_way D cy shM 35 a0 aT aP w0 [.ref (a0 0), .int x1, .int x2, .int x3] rv τ (fun u => u = (aT, aP)) := by
  refine zmet_i (by decide +kernel) (Or.inl rfl) (Nat.le_of_ble_eq_true rfl) ?_
  intro p e s m below meth c A Q ls hC hA hZ hl hE
  have hx := hC.1.1
  have hb := hC.1.2.1
  have hl : lv_has ls 5 [(0, .ref (a0 0)), (1, .int x1), (2, .int x2), (3, .int x3)] := hl
  unfold fX8_way at hf
  refine lv_aload_n (pc := 0) hx hb dX8_way_0 rfl (lv_at hl 0 rfl) ?_
  refine lv_iload_n (pc := 1) hx hb dX8_way_1 rfl (lv_at hl 1 rfl) ?_
  refine kX8_139 (pc := 2) hC hA hZ hf hl.1 (Nat.le_of_ble_eq_true rfl) ⟨Nat.le_of_ble_eq_true rfl, Nat.le_of_ble_eq_true rfl⟩ ⟨Nat.le_refl _, Nat.le_refl _⟩ dX8_way_2 (fun v2 w1 H locs hf hZ => ?_)
  refine z_eq0 (pc := 5) (tgt := 21) hC hf dX8_way_5 (by decide) (fun hf => ?_) (fun hf => ?_)
  · refine lv_aload_n (pc := 21) hx hb dX8_way_21 rfl (lv_at hl 0 rfl) ?_
    refine lv_iconst (pc := 22) (v := (-1 : Int32)) hx hb dX8_way_22 (by decide) ?_
    refine kX8_126 (pc := 23) hC hA hZ hf hl.1 (Nat.le_of_ble_eq_true rfl) ⟨Nat.le_of_ble_eq_true rfl, Nat.le_of_ble_eq_true rfl⟩ ⟨Nat.le_refl _, Nat.le_refl _⟩ dX8_way_23 (fun v4 w3 H locs hf hZ => ?_)
    obtain ⟨rfl, rfl⟩ := zinj hf
    exact hE _ _ _ _ _ _ rfl hZ dX8_way_26
  refine lv_aload_n (pc := 8) hx hb dX8_way_8 rfl (lv_at hl 0 rfl) ?_
  refine lv_iload_n (pc := 9) hx hb dX8_way_9 rfl (lv_at hl 2 rfl) ?_
  refine kX8_139 (pc := 10) hC hA hZ hf hl.1 (Nat.le_of_ble_eq_true rfl) ⟨Nat.le_of_ble_eq_true rfl, Nat.le_of_ble_eq_true rfl⟩ ⟨Nat.le_refl _, Nat.le_refl _⟩ dX8_way_10 (fun v6 w5 H locs hf hZ => ?_)
  refine z_eq0 (pc := 13) (tgt := 21) hC hf dX8_way_13 (by decide) (fun hf => ?_) (fun hf => ?_)
  · refine lv_aload_n (pc := 21) hx hb dX8_way_21 rfl (lv_at hl 0 rfl) ?_
    refine lv_iconst (pc := 22) (v := (-1 : Int32)) hx hb dX8_way_22 (by decide) ?_
    refine kX8_126 (pc := 23) hC hA hZ hf hl.1 (Nat.le_of_ble_eq_true rfl) ⟨Nat.le_of_ble_eq_true rfl, Nat.le_of_ble_eq_true rfl⟩ ⟨Nat.le_refl _, Nat.le_refl _⟩ dX8_way_23 (fun v8 w7 H locs hf hZ => ?_)
    obtain ⟨rfl, rfl⟩ := zinj hf
    exact hE _ _ _ _ _ _ rfl hZ dX8_way_26
  refine lv_iload_n (pc := 16) hx hb dX8_way_16 rfl (lv_at hl 1 rfl) ?_
  refine lv_iload_n (pc := 17) hx hb dX8_way_17 rfl (lv_at hl 2 rfl) ?_
  refine z_ine (pc := 18) (tgt := 27) hC hf dX8_way_18 (by decide) (fun hf => ?_) (fun hf => ?_)
  · refine lv_aload_n (pc := 21) hx hb dX8_way_21 rfl (lv_at hl 0 rfl) ?_
    refine lv_iconst (pc := 22) (v := (-1 : Int32)) hx hb dX8_way_22 (by decide) ?_
    refine kX8_126 (pc := 23) hC hA hZ hf hl.1 (Nat.le_of_ble_eq_true rfl) ⟨Nat.le_of_ble_eq_true rfl, Nat.le_of_ble_eq_true rfl⟩ ⟨Nat.le_refl _, Nat.le_refl _⟩ dX8_way_23 (fun v10 w9 H locs hf hZ => ?_)
    obtain ⟨rfl, rfl⟩ := zinj hf
    exact hE _ _ _ _ _ _ rfl hZ dX8_way_26
  refine lv_iload_n (pc := 27) hx hb dX8_way_27 rfl (lv_at hl 3 rfl) ?_
  refine z_ge0 (pc := 28) (tgt := 38) hC hf dX8_way_28 (by decide) (fun hf => ?_) (fun hf => ?_)
  · refine lv_iload_n (pc := 38) hx hb dX8_way_38 rfl (lv_at hl 3 rfl) ?_
    refine lv_sipush (pc := 39) (v := (1000 : Int32)) hx hb dX8_way_39 (by decide) ?_
    refine z_ile (pc := 42) (tgt := 52) hC hf dX8_way_42 (by decide) (fun hf => ?_) (fun hf => ?_)
    · refine lv_aload_n (pc := 52) hx hb dX8_way_52 rfl (lv_at hl 0 rfl) ?_
      refine gfX8_84 (pc := 53) hC hZ dX8_way_53 ?_
      refine lv_bipush (pc := 56) (v := (10 : Int32)) hx hb dX8_way_56 (by decide) ?_
      refine lv_iload_n (pc := 58) hx hb dX8_way_58 rfl (lv_at hl 1 rfl) ?_
      refine lv_imul (pc := 59) hx hb dX8_way_59 ?_
      refine lv_iload_n (pc := 60) hx hb dX8_way_60 rfl (lv_at hl 2 rfl) ?_
      refine lv_iadd (pc := 61) hx hb dX8_way_61 ?_
      refine z_iald (pc := 62) hC hZ (by decide) rfl hf dX8_way_62 (fun v11 hf => ?_)
      refine lv_istore (pc := 63) (lv' := [(4, .int v11), (0, .ref (a0 0)), (1, .int x1), (2, .int x2), (3, .int x3)]) hx hb dX8_way_63 hl (by decide) rfl (fun ls hl => ?_)
      refine lv_aload_n (pc := 65) hx hb dX8_way_65 rfl (lv_at hl 1 rfl) ?_
      refine gfX8_84 (pc := 66) hC hZ dX8_way_66 ?_
      refine lv_bipush (pc := 69) (v := (10 : Int32)) hx hb dX8_way_69 (by decide) ?_
      refine lv_iload_n (pc := 71) hx hb dX8_way_71 rfl (lv_at hl 2 rfl) ?_
      refine lv_imul (pc := 72) hx hb dX8_way_72 ?_
      refine lv_iload_n (pc := 73) hx hb dX8_way_73 rfl (lv_at hl 3 rfl) ?_
      refine lv_iadd (pc := 74) hx hb dX8_way_74 ?_
      refine lv_iload_n (pc := 75) hx hb dX8_way_75 rfl (lv_at hl 4 rfl) ?_
      refine z_iast (pc := 76) hC hZ (by decide) rfl hf dX8_way_76 (fun w12 H locs hf hZ => ?_)
      refine lv_aload_n (pc := 77) hx hb dX8_way_77 rfl (lv_at hl 1 rfl) ?_
      refine gfX8_84 (pc := 78) hC hZ dX8_way_78 ?_
      refine lv_bipush (pc := 81) (v := (10 : Int32)) hx hb dX8_way_81 (by decide) ?_
      refine lv_iload_n (pc := 83) hx hb dX8_way_83 rfl (lv_at hl 3 rfl) ?_
      refine lv_imul (pc := 84) hx hb dX8_way_84 ?_
      refine lv_iload_n (pc := 85) hx hb dX8_way_85 rfl (lv_at hl 2 rfl) ?_
      refine lv_iadd (pc := 86) hx hb dX8_way_86 ?_
      refine lv_iload_n (pc := 87) hx hb dX8_way_87 rfl (lv_at hl 4 rfl) ?_
      refine z_iast (pc := 88) hC hZ (by decide) rfl hf dX8_way_88 (fun w13 H locs hf hZ => ?_)
      refine lv_iload (pc := 89) hx hb dX8_way_89 (lv_at hl 0 rfl) ?_
      obtain ⟨rfl, rfl⟩ := zinj hf
      exact hE _ _ _ _ _ _ rfl hZ dX8_way_91
    refine lv_aload_n (pc := 45) hx hb dX8_way_45 rfl (lv_at hl 0 rfl) ?_
    refine lv_bipush (pc := 46) (v := (-6 : Int32)) hx hb dX8_way_46 (by decide) ?_
    refine kX8_126 (pc := 48) hC hA hZ hf hl.1 (Nat.le_of_ble_eq_true rfl) ⟨Nat.le_of_ble_eq_true rfl, Nat.le_of_ble_eq_true rfl⟩ ⟨Nat.le_refl _, Nat.le_refl _⟩ dX8_way_48 (fun v15 w14 H locs hf hZ => ?_)
    obtain ⟨rfl, rfl⟩ := zinj hf
    exact hE _ _ _ _ _ _ rfl hZ dX8_way_51
  refine lv_aload_n (pc := 31) hx hb dX8_way_31 rfl (lv_at hl 0 rfl) ?_
  refine lv_bipush (pc := 32) (v := (-4 : Int32)) hx hb dX8_way_32 (by decide) ?_
  refine kX8_126 (pc := 34) hC hA hZ hf hl.1 (Nat.le_of_ble_eq_true rfl) ⟨Nat.le_of_ble_eq_true rfl, Nat.le_of_ble_eq_true rfl⟩ ⟨Nat.le_refl _, Nat.le_refl _⟩ dX8_way_34 (fun v17 w16 H locs hf hZ => ?_)
  obtain ⟨rfl, rfl⟩ := zinj hf
  exact hE _ _ _ _ _ _ rfl hZ dX8_way_37
