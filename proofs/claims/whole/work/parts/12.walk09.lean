set_option maxHeartbeats 4000000 in
set_option maxRecDepth 100000 in
theorem wX1_sizeAt_7 {p : Program} {l : Launch} {e : Env} {s : State} {m : MethodId} {args : Array Value} {below : List Frame} {meth : Method} {c : Code} {Q : State → Prop} {A : Nat → Prop} {H0 : Heap} {D : va_G} {cy : Nat → ClassId} {a0 aT aP : Nat → Nat} {res : Int32 × zS} {K : Int32 → Int32 → zS → Option (Int32 × zS)} (N : Nat) (x1 : Int32) (x2 : Int32) (hC : zC p s m args c RX1 cX1_sizeAt 6 D cy) (hA : ∀ q, H0.size ≤ q → A q) (hE : zEnd p l e rmX1_sizeAt s m args below meth c Q D cy shX 38 a0 A H0 res.2 (fun u => u = (aT, aP)) cX1_sizeAt .ireturn [.int res.1]) (n : Nat) (x3 : Int32) (x4 : Int32) (w0 : zS) {H : Heap} {locs : List Loc} {ls : Array Slot} (hf : lX1_sizeAt_7 N x1 x2 K n (x3, x4, w0) = some res) (hZ : zW D cy shX 38 a0 aT aP A H0 w0 H locs) (hl : lv_has ls 6 [(0, .ref (a0 4)), (1, .int x1), (2, .int x2), (3, .int x3), (4, .int x4)]) (hK : ∀ x3 : Int32, ∀ x4 : Int32, ∀ (w0 : zS) (H : Heap) (locs : List Loc) (ls : Array Slot), K x3 x4 w0 = some res → zW D cy shX 38 a0 aT aP A H0 w0 H locs → lv_has ls 6 [(0, .ref (a0 4)), (1, .int x1), (2, .int x2), (3, .int x3), (4, .int x4)] → W p l e rmX1_sizeAt s m args below meth c H locs 0 0 Q (F0 m 80 ls [])) : W p l e rmX1_sizeAt s m args below meth c H locs 0 0 Q (F0 m 7 ls []) := by
  have hx := hC.1.1
  have hb := hC.1.2.1
  have hf2 : zlp (fun rc s1 => bX1_sizeAt_7 N x1 x2 K rc s1.1 s1.2.1 s1.2.2) n (x3, x4, w0) = some res := hf
  have key := zloop (S := Int32 × Int32 × zS) (α := Int32 × zS) (b := fun rc s1 => bX1_sizeAt_7 N x1 x2 K rc s1.1 s1.2.1 s1.2.2) (r := res) (Wd := fun s1 => ∀ (H : Heap) (locs : List Loc) (ls : Array Slot), zW D cy shX 38 a0 aT aP A H0 s1.2.2 H locs → lv_has ls 6 [(0, .ref (a0 4)), (1, .int x1), (2, .int x2), (3, .int s1.1), (4, .int s1.2.1)] → W p l e rmX1_sizeAt s m args below meth c H locs 0 0 Q (F0 m 7 ls []))
  refine key ?_ n (x3, x4, w0) hf2 H locs ls hZ hl
  clear hf hf2 hZ hl key
  rintro rc ⟨x3, x4, w0⟩ ih hf H locs ls hZ hl
  have hf : bX1_sizeAt_7 N x1 x2 K rc x3 x4 w0 = some res := hf
  have hl : lv_has ls 6 [(0, .ref (a0 4)), (1, .int x1), (2, .int x2), (3, .int x3), (4, .int x4)] := hl
  unfold bX1_sizeAt_7 at hf
  refine lv_iload (pc := 7) hx hb dX1_sizeAt_7 (lv_at hl 4 rfl) ?_
  refine lv_bipush (pc := 9) (v := (10 : Int32)) hx hb dX1_sizeAt_9 (by decide) ?_
  refine z_ige (pc := 11) (tgt := 80) hC hf dX1_sizeAt_11 (by decide) (fun hf => ?_) (fun hf => ?_)
  · exact hK x3 x4 w0 H locs ls hf hZ (lv_sub hl [0, 1, 2, 3, 4] rfl)
  refine lv_aload_n (pc := 14) hx hb dX1_sizeAt_14 rfl (lv_at hl 0 rfl) ?_
  refine gfX1_18 (pc := 15) hC hZ dX1_sizeAt_15 ?_
  refine lv_iload (pc := 18) hx hb dX1_sizeAt_18 (lv_at hl 4 rfl) ?_
  refine z_iald (pc := 20) hC hZ (by decide) rfl hf dX1_sizeAt_20 (fun v1 hf => ?_)
  refine z_le0 (pc := 21) (tgt := 39) hC hf dX1_sizeAt_21 (by decide) (fun hf => ?_) (fun hf => ?_)
  · refine lv_iconst (pc := 39) (v := (0 : Int32)) hx hb dX1_sizeAt_39 (by decide) ?_
    refine lv_istore (pc := 40) (lv' := [(5, .int (0 : Int32)), (0, .ref (a0 4)), (1, .int x1), (2, .int x2), (3, .int x3), (4, .int x4)]) hx hb dX1_sizeAt_40 hl (by decide) rfl (fun ls hl => ?_)
    refine lv_iload (pc := 42) hx hb dX1_sizeAt_42 (lv_at hl 0 rfl) ?_
    refine z_eq0 (pc := 44) (tgt := 74) hC hf dX1_sizeAt_44 (by decide) (fun hf => ?_) (fun hf => ?_)
    · refine lv_iinc (pc := 74) (v := (x4 + (1 : Int32))) (lv' := [(4, .int (x4 + (1 : Int32))), (5, .int (0 : Int32)), (0, .ref (a0 4)), (1, .int x1), (2, .int x2), (3, .int x3)]) hx hb dX1_sizeAt_74 hl (k := 5) rfl rfl (by decide) rfl (fun ls hl => ?_)
      refine lv_goto (pc := 77) (tgt := 7) hx hb dX1_sizeAt_77 (by decide) ?_
      exact ih (x3, (x4 + (1 : Int32)), w0) hf H locs ls hZ (lv_sub hl [2, 3, 4, 5, 0] rfl)
    refine lv_iload_n (pc := 47) hx hb dX1_sizeAt_47 rfl (lv_at hl 4 rfl) ?_
    refine z_eq0 (pc := 48) (tgt := 64) hC hf dX1_sizeAt_48 (by decide) (fun hf => ?_) (fun hf => ?_)
    · refine lv_aload_n (pc := 64) hx hb dX1_sizeAt_64 rfl (lv_at hl 1 rfl) ?_
      refine gfX1_18 (pc := 65) hC hZ dX1_sizeAt_65 ?_
      refine lv_iload (pc := 68) hx hb dX1_sizeAt_68 (lv_at hl 5 rfl) ?_
      refine z_iald (pc := 70) hC hZ (by decide) rfl hf dX1_sizeAt_70 (fun v2 hf => ?_)
      refine lv_iconst (pc := 71) (v := (1 : Int32)) hx hb dX1_sizeAt_71 (by decide) ?_
      refine lv_iadd (pc := 72) hx hb dX1_sizeAt_72 ?_
      refine lv_istore_n (pc := 73) (lv' := [(3, .int (v2 + (1 : Int32))), (5, .int (0 : Int32)), (0, .ref (a0 4)), (1, .int x1), (2, .int x2), (4, .int x4)]) hx hb dX1_sizeAt_73 rfl hl (by decide) rfl (fun ls hl => ?_)
      refine lv_iinc (pc := 74) (v := (x4 + (1 : Int32))) (lv' := [(4, .int (x4 + (1 : Int32))), (3, .int (v2 + (1 : Int32))), (5, .int (0 : Int32)), (0, .ref (a0 4)), (1, .int x1), (2, .int x2)]) hx hb dX1_sizeAt_74 hl (k := 5) rfl rfl (by decide) rfl (fun ls hl => ?_)
      refine lv_goto (pc := 77) (tgt := 7) hx hb dX1_sizeAt_77 (by decide) ?_
      exact ih ((v2 + (1 : Int32)), (x4 + (1 : Int32)), w0) hf H locs ls hZ (lv_sub hl [3, 4, 5, 1, 0] rfl)
    refine lv_aload_n (pc := 51) hx hb dX1_sizeAt_51 rfl (lv_at hl 1 rfl) ?_
    refine gfX1_18 (pc := 52) hC hZ dX1_sizeAt_52 ?_
    refine lv_iload (pc := 55) hx hb dX1_sizeAt_55 (lv_at hl 5 rfl) ?_
    refine z_iald (pc := 57) hC hZ (by decide) rfl hf dX1_sizeAt_57 (fun v3 hf => ?_)
    refine lv_iconst (pc := 58) (v := (1 : Int32)) hx hb dX1_sizeAt_58 (by decide) ?_
    refine lv_iadd (pc := 59) hx hb dX1_sizeAt_59 ?_
    refine lv_iload_n (pc := 60) hx hb dX1_sizeAt_60 rfl (lv_at hl 4 rfl) ?_
    refine z_ige (pc := 61) (tgt := 74) hC hf dX1_sizeAt_61 (by decide) (fun hf => ?_) (fun hf => ?_)
    · refine lv_iinc (pc := 74) (v := (x4 + (1 : Int32))) (lv' := [(4, .int (x4 + (1 : Int32))), (5, .int (0 : Int32)), (0, .ref (a0 4)), (1, .int x1), (2, .int x2), (3, .int x3)]) hx hb dX1_sizeAt_74 hl (k := 5) rfl rfl (by decide) rfl (fun ls hl => ?_)
      refine lv_goto (pc := 77) (tgt := 7) hx hb dX1_sizeAt_77 (by decide) ?_
      exact ih (x3, (x4 + (1 : Int32)), w0) hf H locs ls hZ (lv_sub hl [2, 3, 4, 5, 0] rfl)
    refine lv_aload_n (pc := 64) hx hb dX1_sizeAt_64 rfl (lv_at hl 1 rfl) ?_
    refine gfX1_18 (pc := 65) hC hZ dX1_sizeAt_65 ?_
    refine lv_iload (pc := 68) hx hb dX1_sizeAt_68 (lv_at hl 5 rfl) ?_
    refine z_iald (pc := 70) hC hZ (by decide) rfl hf dX1_sizeAt_70 (fun v4 hf => ?_)
    refine lv_iconst (pc := 71) (v := (1 : Int32)) hx hb dX1_sizeAt_71 (by decide) ?_
    refine lv_iadd (pc := 72) hx hb dX1_sizeAt_72 ?_
    refine lv_istore_n (pc := 73) (lv' := [(3, .int (v4 + (1 : Int32))), (5, .int (0 : Int32)), (0, .ref (a0 4)), (1, .int x1), (2, .int x2), (4, .int x4)]) hx hb dX1_sizeAt_73 rfl hl (by decide) rfl (fun ls hl => ?_)
    refine lv_iinc (pc := 74) (v := (x4 + (1 : Int32))) (lv' := [(4, .int (x4 + (1 : Int32))), (3, .int (v4 + (1 : Int32))), (5, .int (0 : Int32)), (0, .ref (a0 4)), (1, .int x1), (2, .int x2)]) hx hb dX1_sizeAt_74 hl (k := 5) rfl rfl (by decide) rfl (fun ls hl => ?_)
    refine lv_goto (pc := 77) (tgt := 7) hx hb dX1_sizeAt_77 (by decide) ?_
    exact ih ((v4 + (1 : Int32)), (x4 + (1 : Int32)), w0) hf H locs ls hZ (lv_sub hl [3, 4, 5, 1, 0] rfl)
  refine lv_aload_n (pc := 24) hx hb dX1_sizeAt_24 rfl (lv_at hl 0 rfl) ?_
  refine lv_iload_n (pc := 25) hx hb dX1_sizeAt_25 rfl (lv_at hl 1 rfl) ?_
  refine lv_iload_n (pc := 26) hx hb dX1_sizeAt_26 rfl (lv_at hl 2 rfl) ?_
  refine lv_iload (pc := 27) hx hb dX1_sizeAt_27 (lv_at hl 4 rfl) ?_
  refine kX1_53 (pc := 29) hC hA hZ hf hl.1 (Nat.le_of_ble_eq_true rfl) ⟨Nat.le_of_ble_eq_true rfl, Nat.le_of_ble_eq_true rfl⟩ ⟨Nat.le_refl _, Nat.le_refl _⟩ dX1_sizeAt_29 (fun v6 w5 H locs hf hZ => ?_)
  refine z_le0 (pc := 32) (tgt := 39) hC hf dX1_sizeAt_32 (by decide) (fun hf => ?_) (fun hf => ?_)
  · refine lv_iconst (pc := 39) (v := (0 : Int32)) hx hb dX1_sizeAt_39 (by decide) ?_
    refine lv_istore (pc := 40) (lv' := [(5, .int (0 : Int32)), (0, .ref (a0 4)), (1, .int x1), (2, .int x2), (3, .int x3), (4, .int x4)]) hx hb dX1_sizeAt_40 hl (by decide) rfl (fun ls hl => ?_)
    refine lv_iload (pc := 42) hx hb dX1_sizeAt_42 (lv_at hl 0 rfl) ?_
    refine z_eq0 (pc := 44) (tgt := 74) hC hf dX1_sizeAt_44 (by decide) (fun hf => ?_) (fun hf => ?_)
    · refine lv_iinc (pc := 74) (v := (x4 + (1 : Int32))) (lv' := [(4, .int (x4 + (1 : Int32))), (5, .int (0 : Int32)), (0, .ref (a0 4)), (1, .int x1), (2, .int x2), (3, .int x3)]) hx hb dX1_sizeAt_74 hl (k := 5) rfl rfl (by decide) rfl (fun ls hl => ?_)
      refine lv_goto (pc := 77) (tgt := 7) hx hb dX1_sizeAt_77 (by decide) ?_
      exact ih (x3, (x4 + (1 : Int32)), w5) hf H locs ls hZ (lv_sub hl [2, 3, 4, 5, 0] rfl)
    refine lv_iload_n (pc := 47) hx hb dX1_sizeAt_47 rfl (lv_at hl 4 rfl) ?_
    refine z_eq0 (pc := 48) (tgt := 64) hC hf dX1_sizeAt_48 (by decide) (fun hf => ?_) (fun hf => ?_)
    · refine lv_aload_n (pc := 64) hx hb dX1_sizeAt_64 rfl (lv_at hl 1 rfl) ?_
      refine gfX1_18 (pc := 65) hC hZ dX1_sizeAt_65 ?_
      refine lv_iload (pc := 68) hx hb dX1_sizeAt_68 (lv_at hl 5 rfl) ?_
      refine z_iald (pc := 70) hC hZ (by decide) rfl hf dX1_sizeAt_70 (fun v7 hf => ?_)
      refine lv_iconst (pc := 71) (v := (1 : Int32)) hx hb dX1_sizeAt_71 (by decide) ?_
      refine lv_iadd (pc := 72) hx hb dX1_sizeAt_72 ?_
      refine lv_istore_n (pc := 73) (lv' := [(3, .int (v7 + (1 : Int32))), (5, .int (0 : Int32)), (0, .ref (a0 4)), (1, .int x1), (2, .int x2), (4, .int x4)]) hx hb dX1_sizeAt_73 rfl hl (by decide) rfl (fun ls hl => ?_)
      refine lv_iinc (pc := 74) (v := (x4 + (1 : Int32))) (lv' := [(4, .int (x4 + (1 : Int32))), (3, .int (v7 + (1 : Int32))), (5, .int (0 : Int32)), (0, .ref (a0 4)), (1, .int x1), (2, .int x2)]) hx hb dX1_sizeAt_74 hl (k := 5) rfl rfl (by decide) rfl (fun ls hl => ?_)
      refine lv_goto (pc := 77) (tgt := 7) hx hb dX1_sizeAt_77 (by decide) ?_
      exact ih ((v7 + (1 : Int32)), (x4 + (1 : Int32)), w5) hf H locs ls hZ (lv_sub hl [3, 4, 5, 1, 0] rfl)
    refine lv_aload_n (pc := 51) hx hb dX1_sizeAt_51 rfl (lv_at hl 1 rfl) ?_
    refine gfX1_18 (pc := 52) hC hZ dX1_sizeAt_52 ?_
    refine lv_iload (pc := 55) hx hb dX1_sizeAt_55 (lv_at hl 5 rfl) ?_
    refine z_iald (pc := 57) hC hZ (by decide) rfl hf dX1_sizeAt_57 (fun v8 hf => ?_)
    refine lv_iconst (pc := 58) (v := (1 : Int32)) hx hb dX1_sizeAt_58 (by decide) ?_
    refine lv_iadd (pc := 59) hx hb dX1_sizeAt_59 ?_
    refine lv_iload_n (pc := 60) hx hb dX1_sizeAt_60 rfl (lv_at hl 4 rfl) ?_
    refine z_ige (pc := 61) (tgt := 74) hC hf dX1_sizeAt_61 (by decide) (fun hf => ?_) (fun hf => ?_)
    · refine lv_iinc (pc := 74) (v := (x4 + (1 : Int32))) (lv' := [(4, .int (x4 + (1 : Int32))), (5, .int (0 : Int32)), (0, .ref (a0 4)), (1, .int x1), (2, .int x2), (3, .int x3)]) hx hb dX1_sizeAt_74 hl (k := 5) rfl rfl (by decide) rfl (fun ls hl => ?_)
      refine lv_goto (pc := 77) (tgt := 7) hx hb dX1_sizeAt_77 (by decide) ?_
      exact ih (x3, (x4 + (1 : Int32)), w5) hf H locs ls hZ (lv_sub hl [2, 3, 4, 5, 0] rfl)
    refine lv_aload_n (pc := 64) hx hb dX1_sizeAt_64 rfl (lv_at hl 1 rfl) ?_
    refine gfX1_18 (pc := 65) hC hZ dX1_sizeAt_65 ?_
    refine lv_iload (pc := 68) hx hb dX1_sizeAt_68 (lv_at hl 5 rfl) ?_
    refine z_iald (pc := 70) hC hZ (by decide) rfl hf dX1_sizeAt_70 (fun v9 hf => ?_)
    refine lv_iconst (pc := 71) (v := (1 : Int32)) hx hb dX1_sizeAt_71 (by decide) ?_
    refine lv_iadd (pc := 72) hx hb dX1_sizeAt_72 ?_
    refine lv_istore_n (pc := 73) (lv' := [(3, .int (v9 + (1 : Int32))), (5, .int (0 : Int32)), (0, .ref (a0 4)), (1, .int x1), (2, .int x2), (4, .int x4)]) hx hb dX1_sizeAt_73 rfl hl (by decide) rfl (fun ls hl => ?_)
    refine lv_iinc (pc := 74) (v := (x4 + (1 : Int32))) (lv' := [(4, .int (x4 + (1 : Int32))), (3, .int (v9 + (1 : Int32))), (5, .int (0 : Int32)), (0, .ref (a0 4)), (1, .int x1), (2, .int x2)]) hx hb dX1_sizeAt_74 hl (k := 5) rfl rfl (by decide) rfl (fun ls hl => ?_)
    refine lv_goto (pc := 77) (tgt := 7) hx hb dX1_sizeAt_77 (by decide) ?_
    exact ih ((v9 + (1 : Int32)), (x4 + (1 : Int32)), w5) hf H locs ls hZ (lv_sub hl [3, 4, 5, 1, 0] rfl)
  refine lv_iconst (pc := 35) (v := (1 : Int32)) hx hb dX1_sizeAt_35 (by decide) ?_
  refine lv_goto (pc := 36) (tgt := 40) hx hb dX1_sizeAt_36 (by decide) ?_
  refine lv_istore (pc := 40) (lv' := [(5, .int (1 : Int32)), (0, .ref (a0 4)), (1, .int x1), (2, .int x2), (3, .int x3), (4, .int x4)]) hx hb dX1_sizeAt_40 hl (by decide) rfl (fun ls hl => ?_)
  refine lv_iload (pc := 42) hx hb dX1_sizeAt_42 (lv_at hl 0 rfl) ?_
  refine z_eq0 (pc := 44) (tgt := 74) hC hf dX1_sizeAt_44 (by decide) (fun hf => ?_) (fun hf => ?_)
  · refine lv_iinc (pc := 74) (v := (x4 + (1 : Int32))) (lv' := [(4, .int (x4 + (1 : Int32))), (5, .int (1 : Int32)), (0, .ref (a0 4)), (1, .int x1), (2, .int x2), (3, .int x3)]) hx hb dX1_sizeAt_74 hl (k := 5) rfl rfl (by decide) rfl (fun ls hl => ?_)
    refine lv_goto (pc := 77) (tgt := 7) hx hb dX1_sizeAt_77 (by decide) ?_
    exact ih (x3, (x4 + (1 : Int32)), w5) hf H locs ls hZ (lv_sub hl [2, 3, 4, 5, 0] rfl)
  refine lv_iload_n (pc := 47) hx hb dX1_sizeAt_47 rfl (lv_at hl 4 rfl) ?_
  refine z_eq0 (pc := 48) (tgt := 64) hC hf dX1_sizeAt_48 (by decide) (fun hf => ?_) (fun hf => ?_)
  · refine lv_aload_n (pc := 64) hx hb dX1_sizeAt_64 rfl (lv_at hl 1 rfl) ?_
    refine gfX1_18 (pc := 65) hC hZ dX1_sizeAt_65 ?_
    refine lv_iload (pc := 68) hx hb dX1_sizeAt_68 (lv_at hl 5 rfl) ?_
    refine z_iald (pc := 70) hC hZ (by decide) rfl hf dX1_sizeAt_70 (fun v10 hf => ?_)
    refine lv_iconst (pc := 71) (v := (1 : Int32)) hx hb dX1_sizeAt_71 (by decide) ?_
    refine lv_iadd (pc := 72) hx hb dX1_sizeAt_72 ?_
    refine lv_istore_n (pc := 73) (lv' := [(3, .int (v10 + (1 : Int32))), (5, .int (1 : Int32)), (0, .ref (a0 4)), (1, .int x1), (2, .int x2), (4, .int x4)]) hx hb dX1_sizeAt_73 rfl hl (by decide) rfl (fun ls hl => ?_)
    refine lv_iinc (pc := 74) (v := (x4 + (1 : Int32))) (lv' := [(4, .int (x4 + (1 : Int32))), (3, .int (v10 + (1 : Int32))), (5, .int (1 : Int32)), (0, .ref (a0 4)), (1, .int x1), (2, .int x2)]) hx hb dX1_sizeAt_74 hl (k := 5) rfl rfl (by decide) rfl (fun ls hl => ?_)
    refine lv_goto (pc := 77) (tgt := 7) hx hb dX1_sizeAt_77 (by decide) ?_
    exact ih ((v10 + (1 : Int32)), (x4 + (1 : Int32)), w5) hf H locs ls hZ (lv_sub hl [3, 4, 5, 1, 0] rfl)
  refine lv_aload_n (pc := 51) hx hb dX1_sizeAt_51 rfl (lv_at hl 1 rfl) ?_
  refine gfX1_18 (pc := 52) hC hZ dX1_sizeAt_52 ?_
  refine lv_iload (pc := 55) hx hb dX1_sizeAt_55 (lv_at hl 5 rfl) ?_
  refine z_iald (pc := 57) hC hZ (by decide) rfl hf dX1_sizeAt_57 (fun v11 hf => ?_)
  refine lv_iconst (pc := 58) (v := (1 : Int32)) hx hb dX1_sizeAt_58 (by decide) ?_
  refine lv_iadd (pc := 59) hx hb dX1_sizeAt_59 ?_
  refine lv_iload_n (pc := 60) hx hb dX1_sizeAt_60 rfl (lv_at hl 4 rfl) ?_
  refine z_ige (pc := 61) (tgt := 74) hC hf dX1_sizeAt_61 (by decide) (fun hf => ?_) (fun hf => ?_)
  · refine lv_iinc (pc := 74) (v := (x4 + (1 : Int32))) (lv' := [(4, .int (x4 + (1 : Int32))), (5, .int (1 : Int32)), (0, .ref (a0 4)), (1, .int x1), (2, .int x2), (3, .int x3)]) hx hb dX1_sizeAt_74 hl (k := 5) rfl rfl (by decide) rfl (fun ls hl => ?_)
    refine lv_goto (pc := 77) (tgt := 7) hx hb dX1_sizeAt_77 (by decide) ?_
    exact ih (x3, (x4 + (1 : Int32)), w5) hf H locs ls hZ (lv_sub hl [2, 3, 4, 5, 0] rfl)
  refine lv_aload_n (pc := 64) hx hb dX1_sizeAt_64 rfl (lv_at hl 1 rfl) ?_
  refine gfX1_18 (pc := 65) hC hZ dX1_sizeAt_65 ?_
  refine lv_iload (pc := 68) hx hb dX1_sizeAt_68 (lv_at hl 5 rfl) ?_
  refine z_iald (pc := 70) hC hZ (by decide) rfl hf dX1_sizeAt_70 (fun v12 hf => ?_)
  refine lv_iconst (pc := 71) (v := (1 : Int32)) hx hb dX1_sizeAt_71 (by decide) ?_
  refine lv_iadd (pc := 72) hx hb dX1_sizeAt_72 ?_
  refine lv_istore_n (pc := 73) (lv' := [(3, .int (v12 + (1 : Int32))), (5, .int (1 : Int32)), (0, .ref (a0 4)), (1, .int x1), (2, .int x2), (4, .int x4)]) hx hb dX1_sizeAt_73 rfl hl (by decide) rfl (fun ls hl => ?_)
  refine lv_iinc (pc := 74) (v := (x4 + (1 : Int32))) (lv' := [(4, .int (x4 + (1 : Int32))), (3, .int (v12 + (1 : Int32))), (5, .int (1 : Int32)), (0, .ref (a0 4)), (1, .int x1), (2, .int x2)]) hx hb dX1_sizeAt_74 hl (k := 5) rfl rfl (by decide) rfl (fun ls hl => ?_)
  refine lv_goto (pc := 77) (tgt := 7) hx hb dX1_sizeAt_77 (by decide) ?_
  exact ih ((v12 + (1 : Int32)), (x4 + (1 : Int32)), w5) hf H locs ls hZ (lv_sub hl [3, 4, 5, 1, 0] rfl)
set_option maxHeartbeats 4000000 in
set_option maxRecDepth 100000 in
theorem cX1_sizeAt_ok (l : Launch) (D : va_G) (cy : Nat → ClassId) (a0 aT aP : Nat → Nat) (N : Nat) (x1 : Int32) (x2 : Int32) (w0 : zS) (rv : Int32) (τ : zS) (hf : fX1_sizeAt N x1 x2 w0 = some (rv, τ)) : zMi l yX1_sizeAt cX1_sizeAt 6 (some .int) rmX1_sizeAt D cy shX 38 a0 aT aP w0 [.ref (a0 4), .int x1, .int x2] rv τ (fun u => u = (aT, aP)) := by
  refine zmet_i (by decide +kernel) (Or.inl rfl) (Nat.le_of_ble_eq_true rfl) ?_
  intro p e s m below meth c A Q ls hC hA hZ hl hE
  have hx := hC.1.1
  have hb := hC.1.2.1
  have hl : lv_has ls 6 [(0, .ref (a0 4)), (1, .int x1), (2, .int x2)] := hl
  unfold fX1_sizeAt at hf
  refine lv_iconst (pc := 0) (v := (0 : Int32)) hx hb dX1_sizeAt_0 (by decide) ?_
  refine lv_istore_n (pc := 1) (lv' := [(3, .int (0 : Int32)), (0, .ref (a0 4)), (1, .int x1), (2, .int x2)]) hx hb dX1_sizeAt_1 rfl hl (by decide) rfl (fun ls hl => ?_)
  refine lv_iload_n (pc := 2) hx hb dX1_sizeAt_2 rfl (lv_at hl 3 rfl) ?_
  refine lv_iconst (pc := 3) (v := (1 : Int32)) hx hb dX1_sizeAt_3 (by decide) ?_
  refine lv_iadd (pc := 4) hx hb dX1_sizeAt_4 ?_
  refine lv_istore (pc := 5) (lv' := [(4, .int (x2 + (1 : Int32))), (3, .int (0 : Int32)), (0, .ref (a0 4)), (1, .int x1), (2, .int x2)]) hx hb dX1_sizeAt_5 hl (by decide) rfl (fun ls hl => ?_)
  refine wX1_sizeAt_7 (res := (rv, τ)) N x1 x2 hC hA hE N _ _ _ hf hZ (lv_sub hl [2, 3, 4, 1, 0] rfl) (fun y13 y14 w15 H locs ls hf hZ hl => ?_)
  refine lv_iload_n (pc := 80) hx hb dX1_sizeAt_80 rfl (lv_at hl 3 rfl) ?_
  obtain ⟨rfl, rfl⟩ := zinj hf
  exact hE _ _ _ _ _ _ rfl hZ dX1_sizeAt_81
section ZK
variable {p : Program} {l : Launch} {e : Env} {R : Room} {s : State} {m : MethodId} {args : Array Value} {below : List Frame} {meth : Method} {c : Code} {H : Heap} {locs : List Loc} {cells slots : Nat} {Q : State → Prop}
variable {pc : Nat} {ls : Array Slot} {rest : List Value} {A : Nat → Prop} {H0 : Heap} {D : va_G} {cy : Nat → ClassId} {a0 aT aP : Nat → Nat} {σ : zS} {cc : ByteArray} {nL : Nat} {α : Type} {res : α}
theorem vkX1_39 : zVk RX1 39 yX1_sizeAt cX1_sizeAt 6 (some .int) 2 := ⟨by decide +kernel, by decide +kernel, by decide +kernel, by decide +kernel, by decide +kernel, by decide +kernel⟩
theorem kX1_39 (hC : zC p s m args c RX1 cc nL D cy) (hA : ∀ q, H0.size ≤ q → A q) (hZ : zW D cy shX 38 a0 aT aP A H0 σ H locs) {N : Nat} {x1 : Int32} {x2 : Int32} {k : Int32 → zS → Option α} (hf : zbi (fX1_sizeAt N x1 x2 σ) k = some res) (hsz : ls.size = nL) (hW : (rest.map fun v => v.category).sum ≤ 8) (hR : rmX1_sizeAt.frames + 1 ≤ R.frames ∧ 8 + (6 + 11) + rmX1_sizeAt.locals ≤ R.locals) (hcs : cells ≤ R.cells ∧ slots ≤ R.slots) (hdg : decode cc pc = .ok (.invokevirtual 39, 3)) (kk : ∀ (v : Int32) (τ : zS) (H1 : Heap) (locs1 : List Loc), k v τ = some res → zW D cy shX 38 a0 aT aP A H0 τ H1 locs1 → W p l e R s m args below meth c H1 locs1 cells slots Q (F0 m (pc + 3) ls (.int v :: rest))) : W p l e R s m args below meth c H locs cells slots Q (F0 m pc ls (.int x2 :: .int x1 :: .ref (a0 4) :: rest)) := by
  cases hq : fX1_sizeAt N x1 x2 σ with
  | none => rw [hq] at hf; cases hf
  | some q =>
    rw [hq] at hf
    exact zcalli hA hZ (zrun hC hZ vkX1_39 rfl (zw0 (by decide)) (cX1_sizeAt_ok l D cy a0 aT aP N x1 x2 σ q.1 q.2 hq H.size) hR rfl hsz rfl hW hcs hdg) (fun u H1 locs1 hU hZ1 => by subst hU; exact kk q.1 q.2 H1 locs1 hf hZ1)
end ZK
set_option maxHeartbeats 4000000 in
set_option maxRecDepth 100000 in
theorem wX1_nextHouse_18 {p : Program} {l : Launch} {e : Env} {s : State} {m : MethodId} {args : Array Value} {below : List Frame} {meth : Method} {c : Code} {Q : State → Prop} {A : Nat → Prop} {H0 : Heap} {D : va_G} {cy : Nat → ClassId} {a0 aT aP : Nat → Nat} {res : Int32 × zS} {K : Int32 → zS → Option (Int32 × zS)} (N : Nat) (x1 : Int32) (x2 : Int32) (x3 : Int32) (x4 : Int32) (hC : zC p s m args c RX1 cX1_nextHouse 6 D cy) (hA : ∀ q, H0.size ≤ q → A q) (hE : zEnd p l e rmX1_nextHouse s m args below meth c Q D cy shX 38 a0 A H0 res.2 (fun u => u = (aT, aP)) cX1_nextHouse .ireturn [.int res.1]) (n : Nat) (x5 : Int32) (w0 : zS) {H : Heap} {locs : List Loc} {ls : Array Slot} (hf : lX1_nextHouse_18 N x1 x2 x3 x4 K n (x5, w0) = some res) (hZ : zW D cy shX 38 a0 aT aP A H0 w0 H locs) (hl : lv_has ls 6 [(0, .ref (a0 4)), (1, .int x1), (2, .int x2), (3, .int x3), (4, .int x4), (5, .int x5)]) (hK : ∀ x5 : Int32, ∀ (w0 : zS) (H : Heap) (locs : List Loc) (ls : Array Slot), K x5 w0 = some res → zW D cy shX 38 a0 aT aP A H0 w0 H locs → lv_has ls 6 [(0, .ref (a0 4)), (1, .int x1), (2, .int x2), (3, .int x3), (4, .int x4), (5, .int x5)] → W p l e rmX1_nextHouse s m args below meth c H locs 0 0 Q (F0 m 57 ls [])) : W p l e rmX1_nextHouse s m args below meth c H locs 0 0 Q (F0 m 18 ls []) := by
  have hx := hC.1.1
  have hb := hC.1.2.1
  have hf2 : zlp (fun rc s1 => bX1_nextHouse_18 N x1 x2 x3 x4 K rc s1.1 s1.2) n (x5, w0) = some res := hf
  have key := zloop (S := Int32 × zS) (α := Int32 × zS) (b := fun rc s1 => bX1_nextHouse_18 N x1 x2 x3 x4 K rc s1.1 s1.2) (r := res) (Wd := fun s1 => ∀ (H : Heap) (locs : List Loc) (ls : Array Slot), zW D cy shX 38 a0 aT aP A H0 s1.2 H locs → lv_has ls 6 [(0, .ref (a0 4)), (1, .int x1), (2, .int x2), (3, .int x3), (4, .int x4), (5, .int s1.1)] → W p l e rmX1_nextHouse s m args below meth c H locs 0 0 Q (F0 m 18 ls []))
  refine key ?_ n (x5, w0) hf2 H locs ls hZ hl
  clear hf hf2 hZ hl key
  rintro rc ⟨x5, w0⟩ ih hf H locs ls hZ hl
  have hf : bX1_nextHouse_18 N x1 x2 x3 x4 K rc x5 w0 = some res := hf
  have hl : lv_has ls 6 [(0, .ref (a0 4)), (1, .int x1), (2, .int x2), (3, .int x3), (4, .int x4), (5, .int x5)] := hl
  unfold bX1_nextHouse_18 at hf
  refine lv_iload (pc := 18) hx hb dX1_nextHouse_18 (lv_at hl 5 rfl) ?_
  refine lv_bipush (pc := 20) (v := (10 : Int32)) hx hb dX1_nextHouse_20 (by decide) ?_
  refine z_ige (pc := 22) (tgt := 57) hC hf dX1_nextHouse_22 (by decide) (fun hf => ?_) (fun hf => ?_)
  · exact hK x5 w0 H locs ls hf hZ (lv_sub hl [0, 1, 2, 3, 4, 5] rfl)
  refine lv_aload_n (pc := 25) hx hb dX1_nextHouse_25 rfl (lv_at hl 0 rfl) ?_
  refine gfX1_18 (pc := 26) hC hZ dX1_nextHouse_26 ?_
  refine lv_iload (pc := 29) hx hb dX1_nextHouse_29 (lv_at hl 5 rfl) ?_
  refine z_iald (pc := 31) hC hZ (by decide) rfl hf dX1_nextHouse_31 (fun v2 hf => ?_)
  refine lv_iload_n (pc := 32) hx hb dX1_nextHouse_32 rfl (lv_at hl 3 rfl) ?_
  refine z_ine (pc := 33) (tgt := 51) hC hf dX1_nextHouse_33 (by decide) (fun hf => ?_) (fun hf => ?_)
  · refine lv_aload_n (pc := 36) hx hb dX1_nextHouse_36 rfl (lv_at hl 0 rfl) ?_
    refine lv_iload_n (pc := 37) hx hb dX1_nextHouse_37 rfl (lv_at hl 1 rfl) ?_
    refine lv_iload (pc := 38) hx hb dX1_nextHouse_38 (lv_at hl 4 rfl) ?_
    refine lv_iload (pc := 40) hx hb dX1_nextHouse_40 (lv_at hl 5 rfl) ?_
    refine kX1_53 (pc := 42) hC hA hZ hf hl.1 (Nat.le_of_ble_eq_true rfl) ⟨Nat.le_of_ble_eq_true rfl, Nat.le_of_ble_eq_true rfl⟩ ⟨Nat.le_refl _, Nat.le_refl _⟩ dX1_nextHouse_42 (fun v4 w3 H locs hf hZ => ?_)
    refine z_le0 (pc := 45) (tgt := 51) hC hf dX1_nextHouse_45 (by decide) (fun hf => ?_) (fun hf => ?_)
    · refine lv_iinc (pc := 51) (v := (x5 + (1 : Int32))) (lv' := [(5, .int (x5 + (1 : Int32))), (0, .ref (a0 4)), (1, .int x1), (2, .int x2), (3, .int x3), (4, .int x4)]) hx hb dX1_nextHouse_51 hl (k := 5) rfl rfl (by decide) rfl (fun ls hl => ?_)
      refine lv_goto (pc := 54) (tgt := 18) hx hb dX1_nextHouse_54 (by decide) ?_
      exact ih ((x5 + (1 : Int32)), w3) hf H locs ls hZ (lv_sub hl [1, 2, 3, 4, 5, 0] rfl)
    refine lv_iload (pc := 48) hx hb dX1_nextHouse_48 (lv_at hl 5 rfl) ?_
    obtain rfl := Option.some.inj hf
    exact hE _ _ _ _ _ _ rfl hZ dX1_nextHouse_50
  refine lv_iinc (pc := 51) (v := (x5 + (1 : Int32))) (lv' := [(5, .int (x5 + (1 : Int32))), (0, .ref (a0 4)), (1, .int x1), (2, .int x2), (3, .int x3), (4, .int x4)]) hx hb dX1_nextHouse_51 hl (k := 5) rfl rfl (by decide) rfl (fun ls hl => ?_)
  refine lv_goto (pc := 54) (tgt := 18) hx hb dX1_nextHouse_54 (by decide) ?_
  exact ih ((x5 + (1 : Int32)), w0) hf H locs ls hZ (lv_sub hl [1, 2, 3, 4, 5, 0] rfl)
set_option maxHeartbeats 4000000 in
set_option maxRecDepth 100000 in
theorem cX1_nextHouse_ok (l : Launch) (D : va_G) (cy : Nat → ClassId) (a0 aT aP : Nat → Nat) (N : Nat) (x1 : Int32) (x2 : Int32) (x3 : Int32) (w0 : zS) (rv : Int32) (τ : zS) (hf : fX1_nextHouse N x1 x2 x3 w0 = some (rv, τ)) : zMi l yX1_nextHouse cX1_nextHouse 6 (some .int) rmX1_nextHouse D cy shX 38 a0 aT aP w0 [.ref (a0 4), .int x1, .int x2, .int x3] rv τ (fun u => u = (aT, aP)) := by
  refine zmet_i (by decide +kernel) (Or.inl rfl) (Nat.le_of_ble_eq_true rfl) ?_
  intro p e s m below meth c A Q ls hC hA hZ hl hE
  have hx := hC.1.1
  have hb := hC.1.2.1
  have hl : lv_has ls 6 [(0, .ref (a0 4)), (1, .int x1), (2, .int x2), (3, .int x3)] := hl
  unfold fX1_nextHouse at hf
  refine lv_aload_n (pc := 0) hx hb dX1_nextHouse_0 rfl (lv_at hl 0 rfl) ?_
  refine gfX1_15 (pc := 1) hC hZ dX1_nextHouse_1 ?_
  refine lv_aload_n (pc := 4) hx hb dX1_nextHouse_4 rfl (lv_at hl 0 rfl) ?_
  refine gfX1_24 (pc := 5) hC hZ dX1_nextHouse_5 ?_
  refine lv_iconst (pc := 8) (v := (1 : Int32)) hx hb dX1_nextHouse_8 (by decide) ?_
  refine lv_isub (pc := 9) hx hb dX1_nextHouse_9 ?_
  refine z_iald (pc := 10) hC hZ (by decide) rfl hf dX1_nextHouse_10 (fun v1 hf => ?_)
  refine lv_istore (pc := 11) (lv' := [(4, .int v1), (0, .ref (a0 4)), (1, .int x1), (2, .int x2), (3, .int x3)]) hx hb dX1_nextHouse_11 hl (by decide) rfl (fun ls hl => ?_)
  refine lv_iload_n (pc := 13) hx hb dX1_nextHouse_13 rfl (lv_at hl 3 rfl) ?_
  refine lv_iconst (pc := 14) (v := (1 : Int32)) hx hb dX1_nextHouse_14 (by decide) ?_
  refine lv_iadd (pc := 15) hx hb dX1_nextHouse_15 ?_
  refine lv_istore (pc := 16) (lv' := [(5, .int (x2 + (1 : Int32))), (4, .int v1), (0, .ref (a0 4)), (1, .int x1), (2, .int x2), (3, .int x3)]) hx hb dX1_nextHouse_16 hl (by decide) rfl (fun ls hl => ?_)
  refine wX1_nextHouse_18 (res := (rv, τ)) N x1 x2 x3 v1 hC hA hE N _ _ hf hZ (lv_sub hl [2, 3, 4, 5, 1, 0] rfl) (fun y5 w6 H locs ls hf hZ hl => ?_)
  refine lv_iconst (pc := 57) (v := (-1 : Int32)) hx hb dX1_nextHouse_57 (by decide) ?_
  obtain ⟨rfl, rfl⟩ := zinj hf
  exact hE _ _ _ _ _ _ rfl hZ dX1_nextHouse_58
section ZK
variable {p : Program} {l : Launch} {e : Env} {R : Room} {s : State} {m : MethodId} {args : Array Value} {below : List Frame} {meth : Method} {c : Code} {H : Heap} {locs : List Loc} {cells slots : Nat} {Q : State → Prop}
variable {pc : Nat} {ls : Array Slot} {rest : List Value} {A : Nat → Prop} {H0 : Heap} {D : va_G} {cy : Nat → ClassId} {a0 aT aP : Nat → Nat} {σ : zS} {cc : ByteArray} {nL : Nat} {α : Type} {res : α}
theorem vkX1_57 : zVk RX1 57 yX1_nextHouse cX1_nextHouse 6 (some .int) 3 := ⟨by decide +kernel, by decide +kernel, by decide +kernel, by decide +kernel, by decide +kernel, by decide +kernel⟩
theorem kX1_57 (hC : zC p s m args c RX1 cc nL D cy) (hA : ∀ q, H0.size ≤ q → A q) (hZ : zW D cy shX 38 a0 aT aP A H0 σ H locs) {N : Nat} {x1 : Int32} {x2 : Int32} {x3 : Int32} {k : Int32 → zS → Option α} (hf : zbi (fX1_nextHouse N x1 x2 x3 σ) k = some res) (hsz : ls.size = nL) (hW : (rest.map fun v => v.category).sum ≤ 8) (hR : rmX1_nextHouse.frames + 1 ≤ R.frames ∧ 8 + (6 + 11) + rmX1_nextHouse.locals ≤ R.locals) (hcs : cells ≤ R.cells ∧ slots ≤ R.slots) (hdg : decode cc pc = .ok (.invokevirtual 57, 3)) (kk : ∀ (v : Int32) (τ : zS) (H1 : Heap) (locs1 : List Loc), k v τ = some res → zW D cy shX 38 a0 aT aP A H0 τ H1 locs1 → W p l e R s m args below meth c H1 locs1 cells slots Q (F0 m (pc + 3) ls (.int v :: rest))) : W p l e R s m args below meth c H locs cells slots Q (F0 m pc ls (.int x3 :: .int x2 :: .int x1 :: .ref (a0 4) :: rest)) := by
  cases hq : fX1_nextHouse N x1 x2 x3 σ with
  | none => rw [hq] at hf; cases hf
  | some q =>
    rw [hq] at hf
    exact zcalli hA hZ (zrun hC hZ vkX1_57 rfl (zw0 (by decide)) (cX1_nextHouse_ok l D cy a0 aT aP N x1 x2 x3 σ q.1 q.2 hq H.size) hR rfl hsz rfl hW hcs hdg) (fun u H1 locs1 hU hZ1 => by subst hU; exact kk q.1 q.2 H1 locs1 hf hZ1)
end ZK
