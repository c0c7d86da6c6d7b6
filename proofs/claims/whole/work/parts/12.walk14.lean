set_option maxHeartbeats 4000000 in
set_option maxRecDepth 100000 in
theorem wX0_cheapestUnmet_4 {p : Program} {l : Launch} {e : Env} {s : State} {m : MethodId} {args : Array Value} {below : List Frame} {meth : Method} {c : Code} {Q : State → Prop} {A : Nat → Prop} {H0 : Heap} {D : va_G} {cy : Nat → ClassId} {a0 aT aP : Nat → Nat} {res : Int32 × zS} {K : Int32 → Int32 → zS → Option (Int32 × zS)} (N : Nat)  (hC : zC p s m args c RX0 cX0_cheapestUnmet 4 D cy) (hA : ∀ q, H0.size ≤ q → A q) (hE : zEnd p l e rmX0_cheapestUnmet s m args below meth c Q D cy shX 38 a0 A H0 res.2 (fun u => u = (aT, aP)) cX0_cheapestUnmet .ireturn [.int res.1]) (n : Nat) (x1 : Int32) (x2 : Int32) (w0 : zS) {H : Heap} {locs : List Loc} {ls : Array Slot} (hf : lX0_cheapestUnmet_4 N  K n (x1, x2, w0) = some res) (hZ : zW D cy shX 38 a0 aT aP A H0 w0 H locs) (hl : lv_has ls 4 [(0, .ref (a0 5)), (1, .int x1), (2, .int x2)]) (hK : ∀ x1 : Int32, ∀ x2 : Int32, ∀ (w0 : zS) (H : Heap) (locs : List Loc) (ls : Array Slot), K x1 x2 w0 = some res → zW D cy shX 38 a0 aT aP A H0 w0 H locs → lv_has ls 4 [(0, .ref (a0 5)), (1, .int x1), (2, .int x2)] → W p l e rmX0_cheapestUnmet s m args below meth c H locs 0 0 Q (F0 m 69 ls [])) : W p l e rmX0_cheapestUnmet s m args below meth c H locs 0 0 Q (F0 m 4 ls []) := by
  have hx := hC.1.1
  have hb := hC.1.2.1
  have hf2 : zlp (fun rc s1 => bX0_cheapestUnmet_4 N  K rc s1.1 s1.2.1 s1.2.2) n (x1, x2, w0) = some res := hf
  have key := zloop (S := Int32 × Int32 × zS) (α := Int32 × zS) (b := fun rc s1 => bX0_cheapestUnmet_4 N  K rc s1.1 s1.2.1 s1.2.2) (r := res) (Wd := fun s1 => ∀ (H : Heap) (locs : List Loc) (ls : Array Slot), zW D cy shX 38 a0 aT aP A H0 s1.2.2 H locs → lv_has ls 4 [(0, .ref (a0 5)), (1, .int s1.1), (2, .int s1.2.1)] → W p l e rmX0_cheapestUnmet s m args below meth c H locs 0 0 Q (F0 m 4 ls []))
  refine key ?_ n (x1, x2, w0) hf2 H locs ls hZ hl
  clear hf hf2 hZ hl key
  rintro rc ⟨x1, x2, w0⟩ ih hf H locs ls hZ hl
  have hf : bX0_cheapestUnmet_4 N  K rc x1 x2 w0 = some res := hf
  have hl : lv_has ls 4 [(0, .ref (a0 5)), (1, .int x1), (2, .int x2)] := hl
  unfold bX0_cheapestUnmet_4 at hf
  refine lv_iload_n (pc := 4) hx hb dX0_cheapestUnmet_4 rfl (lv_at hl 2 rfl) ?_
  refine lv_aload_n (pc := 5) hx hb dX0_cheapestUnmet_5 rfl (lv_at hl 0 rfl) ?_
  refine gfX0_48 (pc := 6) hC hZ dX0_cheapestUnmet_6 ?_
  refine z_ige (pc := 9) (tgt := 69) hC hf dX0_cheapestUnmet_9 (by decide) (fun hf => ?_) (fun hf => ?_)
  · exact hK x1 x2 w0 H locs ls hf hZ (lv_sub hl [0, 1, 2] rfl)
  refine lv_aload_n (pc := 12) hx hb dX0_cheapestUnmet_12 rfl (lv_at hl 0 rfl) ?_
  refine gfX0_27 (pc := 13) hC hZ dX0_cheapestUnmet_13 ?_
  refine lv_iload_n (pc := 16) hx hb dX0_cheapestUnmet_16 rfl (lv_at hl 2 rfl) ?_
  refine z_iald (pc := 17) hC hZ (by decide) rfl hf dX0_cheapestUnmet_17 (fun v1 hf => ?_)
  refine z_le0 (pc := 18) (tgt := 36) hC hf dX0_cheapestUnmet_18 (by decide) (fun hf => ?_) (fun hf => ?_)
  · refine lv_iconst (pc := 36) (v := (0 : Int32)) hx hb dX0_cheapestUnmet_36 (by decide) ?_
    refine lv_istore_n (pc := 37) (lv' := [(3, .int (0 : Int32)), (0, .ref (a0 5)), (1, .int x1), (2, .int x2)]) hx hb dX0_cheapestUnmet_37 rfl hl (by decide) rfl (fun ls hl => ?_)
    refine lv_iload_n (pc := 38) hx hb dX0_cheapestUnmet_38 rfl (lv_at hl 0 rfl) ?_
    refine z_eq0 (pc := 39) (tgt := 63) hC hf dX0_cheapestUnmet_39 (by decide) (fun hf => ?_) (fun hf => ?_)
    · refine lv_iinc (pc := 63) (v := (x2 + (1 : Int32))) (lv' := [(2, .int (x2 + (1 : Int32))), (3, .int (0 : Int32)), (0, .ref (a0 5)), (1, .int x1)]) hx hb dX0_cheapestUnmet_63 hl (k := 3) rfl rfl (by decide) rfl (fun ls hl => ?_)
      refine lv_goto (pc := 66) (tgt := 4) hx hb dX0_cheapestUnmet_66 (by decide) ?_
      exact ih (x1, (x2 + (1 : Int32)), w0) hf H locs ls hZ (lv_sub hl [2, 3, 0] rfl)
    refine lv_iload_n (pc := 42) hx hb dX0_cheapestUnmet_42 rfl (lv_at hl 2 rfl) ?_
    refine z_lt0 (pc := 43) (tgt := 61) hC hf dX0_cheapestUnmet_43 (by decide) (fun hf => ?_) (fun hf => ?_)
    · refine lv_iload_n (pc := 61) hx hb dX0_cheapestUnmet_61 rfl (lv_at hl 3 rfl) ?_
      refine lv_istore_n (pc := 62) (lv' := [(1, .int x2), (3, .int (0 : Int32)), (0, .ref (a0 5)), (2, .int x2)]) hx hb dX0_cheapestUnmet_62 rfl hl (by decide) rfl (fun ls hl => ?_)
      refine lv_iinc (pc := 63) (v := (x2 + (1 : Int32))) (lv' := [(2, .int (x2 + (1 : Int32))), (1, .int x2), (3, .int (0 : Int32)), (0, .ref (a0 5))]) hx hb dX0_cheapestUnmet_63 hl (k := 3) rfl rfl (by decide) rfl (fun ls hl => ?_)
      refine lv_goto (pc := 66) (tgt := 4) hx hb dX0_cheapestUnmet_66 (by decide) ?_
      exact ih (x2, (x2 + (1 : Int32)), w0) hf H locs ls hZ (lv_sub hl [3, 1, 0] rfl)
    refine lv_aload_n (pc := 46) hx hb dX0_cheapestUnmet_46 rfl (lv_at hl 1 rfl) ?_
    refine gfX0_33 (pc := 47) hC hZ dX0_cheapestUnmet_47 ?_
    refine lv_iload_n (pc := 50) hx hb dX0_cheapestUnmet_50 rfl (lv_at hl 3 rfl) ?_
    refine z_iald (pc := 51) hC hZ (by decide) rfl hf dX0_cheapestUnmet_51 (fun v2 hf => ?_)
    refine lv_aload_n (pc := 52) hx hb dX0_cheapestUnmet_52 rfl (lv_at hl 1 rfl) ?_
    refine gfX0_33 (pc := 53) hC hZ dX0_cheapestUnmet_53 ?_
    refine lv_iload_n (pc := 56) hx hb dX0_cheapestUnmet_56 rfl (lv_at hl 2 rfl) ?_
    refine z_iald (pc := 57) hC hZ (by decide) rfl hf dX0_cheapestUnmet_57 (fun v3 hf => ?_)
    refine z_ige (pc := 58) (tgt := 63) hC hf dX0_cheapestUnmet_58 (by decide) (fun hf => ?_) (fun hf => ?_)
    · refine lv_iinc (pc := 63) (v := (x2 + (1 : Int32))) (lv' := [(2, .int (x2 + (1 : Int32))), (3, .int (0 : Int32)), (0, .ref (a0 5)), (1, .int x1)]) hx hb dX0_cheapestUnmet_63 hl (k := 3) rfl rfl (by decide) rfl (fun ls hl => ?_)
      refine lv_goto (pc := 66) (tgt := 4) hx hb dX0_cheapestUnmet_66 (by decide) ?_
      exact ih (x1, (x2 + (1 : Int32)), w0) hf H locs ls hZ (lv_sub hl [2, 3, 0] rfl)
    refine lv_iload_n (pc := 61) hx hb dX0_cheapestUnmet_61 rfl (lv_at hl 3 rfl) ?_
    refine lv_istore_n (pc := 62) (lv' := [(1, .int x2), (3, .int (0 : Int32)), (0, .ref (a0 5)), (2, .int x2)]) hx hb dX0_cheapestUnmet_62 rfl hl (by decide) rfl (fun ls hl => ?_)
    refine lv_iinc (pc := 63) (v := (x2 + (1 : Int32))) (lv' := [(2, .int (x2 + (1 : Int32))), (1, .int x2), (3, .int (0 : Int32)), (0, .ref (a0 5))]) hx hb dX0_cheapestUnmet_63 hl (k := 3) rfl rfl (by decide) rfl (fun ls hl => ?_)
    refine lv_goto (pc := 66) (tgt := 4) hx hb dX0_cheapestUnmet_66 (by decide) ?_
    exact ih (x2, (x2 + (1 : Int32)), w0) hf H locs ls hZ (lv_sub hl [3, 1, 0] rfl)
  refine lv_aload_n (pc := 21) hx hb dX0_cheapestUnmet_21 rfl (lv_at hl 0 rfl) ?_
  refine gfX0_33 (pc := 22) hC hZ dX0_cheapestUnmet_22 ?_
  refine lv_iload_n (pc := 25) hx hb dX0_cheapestUnmet_25 rfl (lv_at hl 2 rfl) ?_
  refine z_iald (pc := 26) hC hZ (by decide) rfl hf dX0_cheapestUnmet_26 (fun v4 hf => ?_)
  refine lv_ldc (pc := 27) (v := (1000000000 : Int32)) hx hb hC.1.2.2.2.1 (hC.1.2.2.2.2 _ kcX0_75) dX0_cheapestUnmet_27 ?_
  refine z_ige (pc := 29) (tgt := 36) hC hf dX0_cheapestUnmet_29 (by decide) (fun hf => ?_) (fun hf => ?_)
  · refine lv_iconst (pc := 36) (v := (0 : Int32)) hx hb dX0_cheapestUnmet_36 (by decide) ?_
    refine lv_istore_n (pc := 37) (lv' := [(3, .int (0 : Int32)), (0, .ref (a0 5)), (1, .int x1), (2, .int x2)]) hx hb dX0_cheapestUnmet_37 rfl hl (by decide) rfl (fun ls hl => ?_)
    refine lv_iload_n (pc := 38) hx hb dX0_cheapestUnmet_38 rfl (lv_at hl 0 rfl) ?_
    refine z_eq0 (pc := 39) (tgt := 63) hC hf dX0_cheapestUnmet_39 (by decide) (fun hf => ?_) (fun hf => ?_)
    · refine lv_iinc (pc := 63) (v := (x2 + (1 : Int32))) (lv' := [(2, .int (x2 + (1 : Int32))), (3, .int (0 : Int32)), (0, .ref (a0 5)), (1, .int x1)]) hx hb dX0_cheapestUnmet_63 hl (k := 3) rfl rfl (by decide) rfl (fun ls hl => ?_)
      refine lv_goto (pc := 66) (tgt := 4) hx hb dX0_cheapestUnmet_66 (by decide) ?_
      exact ih (x1, (x2 + (1 : Int32)), w0) hf H locs ls hZ (lv_sub hl [2, 3, 0] rfl)
    refine lv_iload_n (pc := 42) hx hb dX0_cheapestUnmet_42 rfl (lv_at hl 2 rfl) ?_
    refine z_lt0 (pc := 43) (tgt := 61) hC hf dX0_cheapestUnmet_43 (by decide) (fun hf => ?_) (fun hf => ?_)
    · refine lv_iload_n (pc := 61) hx hb dX0_cheapestUnmet_61 rfl (lv_at hl 3 rfl) ?_
      refine lv_istore_n (pc := 62) (lv' := [(1, .int x2), (3, .int (0 : Int32)), (0, .ref (a0 5)), (2, .int x2)]) hx hb dX0_cheapestUnmet_62 rfl hl (by decide) rfl (fun ls hl => ?_)
      refine lv_iinc (pc := 63) (v := (x2 + (1 : Int32))) (lv' := [(2, .int (x2 + (1 : Int32))), (1, .int x2), (3, .int (0 : Int32)), (0, .ref (a0 5))]) hx hb dX0_cheapestUnmet_63 hl (k := 3) rfl rfl (by decide) rfl (fun ls hl => ?_)
      refine lv_goto (pc := 66) (tgt := 4) hx hb dX0_cheapestUnmet_66 (by decide) ?_
      exact ih (x2, (x2 + (1 : Int32)), w0) hf H locs ls hZ (lv_sub hl [3, 1, 0] rfl)
    refine lv_aload_n (pc := 46) hx hb dX0_cheapestUnmet_46 rfl (lv_at hl 1 rfl) ?_
    refine gfX0_33 (pc := 47) hC hZ dX0_cheapestUnmet_47 ?_
    refine lv_iload_n (pc := 50) hx hb dX0_cheapestUnmet_50 rfl (lv_at hl 3 rfl) ?_
    refine z_iald (pc := 51) hC hZ (by decide) rfl hf dX0_cheapestUnmet_51 (fun v5 hf => ?_)
    refine lv_aload_n (pc := 52) hx hb dX0_cheapestUnmet_52 rfl (lv_at hl 1 rfl) ?_
    refine gfX0_33 (pc := 53) hC hZ dX0_cheapestUnmet_53 ?_
    refine lv_iload_n (pc := 56) hx hb dX0_cheapestUnmet_56 rfl (lv_at hl 2 rfl) ?_
    refine z_iald (pc := 57) hC hZ (by decide) rfl hf dX0_cheapestUnmet_57 (fun v6 hf => ?_)
    refine z_ige (pc := 58) (tgt := 63) hC hf dX0_cheapestUnmet_58 (by decide) (fun hf => ?_) (fun hf => ?_)
    · refine lv_iinc (pc := 63) (v := (x2 + (1 : Int32))) (lv' := [(2, .int (x2 + (1 : Int32))), (3, .int (0 : Int32)), (0, .ref (a0 5)), (1, .int x1)]) hx hb dX0_cheapestUnmet_63 hl (k := 3) rfl rfl (by decide) rfl (fun ls hl => ?_)
      refine lv_goto (pc := 66) (tgt := 4) hx hb dX0_cheapestUnmet_66 (by decide) ?_
      exact ih (x1, (x2 + (1 : Int32)), w0) hf H locs ls hZ (lv_sub hl [2, 3, 0] rfl)
    refine lv_iload_n (pc := 61) hx hb dX0_cheapestUnmet_61 rfl (lv_at hl 3 rfl) ?_
    refine lv_istore_n (pc := 62) (lv' := [(1, .int x2), (3, .int (0 : Int32)), (0, .ref (a0 5)), (2, .int x2)]) hx hb dX0_cheapestUnmet_62 rfl hl (by decide) rfl (fun ls hl => ?_)
    refine lv_iinc (pc := 63) (v := (x2 + (1 : Int32))) (lv' := [(2, .int (x2 + (1 : Int32))), (1, .int x2), (3, .int (0 : Int32)), (0, .ref (a0 5))]) hx hb dX0_cheapestUnmet_63 hl (k := 3) rfl rfl (by decide) rfl (fun ls hl => ?_)
    refine lv_goto (pc := 66) (tgt := 4) hx hb dX0_cheapestUnmet_66 (by decide) ?_
    exact ih (x2, (x2 + (1 : Int32)), w0) hf H locs ls hZ (lv_sub hl [3, 1, 0] rfl)
  refine lv_iconst (pc := 32) (v := (1 : Int32)) hx hb dX0_cheapestUnmet_32 (by decide) ?_
  refine lv_goto (pc := 33) (tgt := 37) hx hb dX0_cheapestUnmet_33 (by decide) ?_
  refine lv_istore_n (pc := 37) (lv' := [(3, .int (1 : Int32)), (0, .ref (a0 5)), (1, .int x1), (2, .int x2)]) hx hb dX0_cheapestUnmet_37 rfl hl (by decide) rfl (fun ls hl => ?_)
  refine lv_iload_n (pc := 38) hx hb dX0_cheapestUnmet_38 rfl (lv_at hl 0 rfl) ?_
  refine z_eq0 (pc := 39) (tgt := 63) hC hf dX0_cheapestUnmet_39 (by decide) (fun hf => ?_) (fun hf => ?_)
  · refine lv_iinc (pc := 63) (v := (x2 + (1 : Int32))) (lv' := [(2, .int (x2 + (1 : Int32))), (3, .int (1 : Int32)), (0, .ref (a0 5)), (1, .int x1)]) hx hb dX0_cheapestUnmet_63 hl (k := 3) rfl rfl (by decide) rfl (fun ls hl => ?_)
    refine lv_goto (pc := 66) (tgt := 4) hx hb dX0_cheapestUnmet_66 (by decide) ?_
    exact ih (x1, (x2 + (1 : Int32)), w0) hf H locs ls hZ (lv_sub hl [2, 3, 0] rfl)
  refine lv_iload_n (pc := 42) hx hb dX0_cheapestUnmet_42 rfl (lv_at hl 2 rfl) ?_
  refine z_lt0 (pc := 43) (tgt := 61) hC hf dX0_cheapestUnmet_43 (by decide) (fun hf => ?_) (fun hf => ?_)
  · refine lv_iload_n (pc := 61) hx hb dX0_cheapestUnmet_61 rfl (lv_at hl 3 rfl) ?_
    refine lv_istore_n (pc := 62) (lv' := [(1, .int x2), (3, .int (1 : Int32)), (0, .ref (a0 5)), (2, .int x2)]) hx hb dX0_cheapestUnmet_62 rfl hl (by decide) rfl (fun ls hl => ?_)
    refine lv_iinc (pc := 63) (v := (x2 + (1 : Int32))) (lv' := [(2, .int (x2 + (1 : Int32))), (1, .int x2), (3, .int (1 : Int32)), (0, .ref (a0 5))]) hx hb dX0_cheapestUnmet_63 hl (k := 3) rfl rfl (by decide) rfl (fun ls hl => ?_)
    refine lv_goto (pc := 66) (tgt := 4) hx hb dX0_cheapestUnmet_66 (by decide) ?_
    exact ih (x2, (x2 + (1 : Int32)), w0) hf H locs ls hZ (lv_sub hl [3, 1, 0] rfl)
  refine lv_aload_n (pc := 46) hx hb dX0_cheapestUnmet_46 rfl (lv_at hl 1 rfl) ?_
  refine gfX0_33 (pc := 47) hC hZ dX0_cheapestUnmet_47 ?_
  refine lv_iload_n (pc := 50) hx hb dX0_cheapestUnmet_50 rfl (lv_at hl 3 rfl) ?_
  refine z_iald (pc := 51) hC hZ (by decide) rfl hf dX0_cheapestUnmet_51 (fun v7 hf => ?_)
  refine lv_aload_n (pc := 52) hx hb dX0_cheapestUnmet_52 rfl (lv_at hl 1 rfl) ?_
  refine gfX0_33 (pc := 53) hC hZ dX0_cheapestUnmet_53 ?_
  refine lv_iload_n (pc := 56) hx hb dX0_cheapestUnmet_56 rfl (lv_at hl 2 rfl) ?_
  refine z_iald (pc := 57) hC hZ (by decide) rfl hf dX0_cheapestUnmet_57 (fun v8 hf => ?_)
  refine z_ige (pc := 58) (tgt := 63) hC hf dX0_cheapestUnmet_58 (by decide) (fun hf => ?_) (fun hf => ?_)
  · refine lv_iinc (pc := 63) (v := (x2 + (1 : Int32))) (lv' := [(2, .int (x2 + (1 : Int32))), (3, .int (1 : Int32)), (0, .ref (a0 5)), (1, .int x1)]) hx hb dX0_cheapestUnmet_63 hl (k := 3) rfl rfl (by decide) rfl (fun ls hl => ?_)
    refine lv_goto (pc := 66) (tgt := 4) hx hb dX0_cheapestUnmet_66 (by decide) ?_
    exact ih (x1, (x2 + (1 : Int32)), w0) hf H locs ls hZ (lv_sub hl [2, 3, 0] rfl)
  refine lv_iload_n (pc := 61) hx hb dX0_cheapestUnmet_61 rfl (lv_at hl 3 rfl) ?_
  refine lv_istore_n (pc := 62) (lv' := [(1, .int x2), (3, .int (1 : Int32)), (0, .ref (a0 5)), (2, .int x2)]) hx hb dX0_cheapestUnmet_62 rfl hl (by decide) rfl (fun ls hl => ?_)
  refine lv_iinc (pc := 63) (v := (x2 + (1 : Int32))) (lv' := [(2, .int (x2 + (1 : Int32))), (1, .int x2), (3, .int (1 : Int32)), (0, .ref (a0 5))]) hx hb dX0_cheapestUnmet_63 hl (k := 3) rfl rfl (by decide) rfl (fun ls hl => ?_)
  refine lv_goto (pc := 66) (tgt := 4) hx hb dX0_cheapestUnmet_66 (by decide) ?_
  exact ih (x2, (x2 + (1 : Int32)), w0) hf H locs ls hZ (lv_sub hl [3, 1, 0] rfl)
set_option maxHeartbeats 4000000 in
set_option maxRecDepth 100000 in
theorem cX0_cheapestUnmet_ok (l : Launch) (D : va_G) (cy : Nat → ClassId) (a0 aT aP : Nat → Nat) (N : Nat)  (w0 : zS) (rv : Int32) (τ : zS) (hf : fX0_cheapestUnmet N  w0 = some (rv, τ)) : zMi l yX0_cheapestUnmet cX0_cheapestUnmet 4 (some .int) rmX0_cheapestUnmet D cy shX 38 a0 aT aP w0 [.ref (a0 5)] rv τ (fun u => u = (aT, aP)) := by
  refine zmet_i (by decide +kernel) (Or.inl rfl) (Nat.le_of_ble_eq_true rfl) ?_
  intro p e s m below meth c A Q ls hC hA hZ hl hE
  have hx := hC.1.1
  have hb := hC.1.2.1
  have hl : lv_has ls 4 [(0, .ref (a0 5))] := hl
  unfold fX0_cheapestUnmet at hf
  refine lv_iconst (pc := 0) (v := (-1 : Int32)) hx hb dX0_cheapestUnmet_0 (by decide) ?_
  refine lv_istore_n (pc := 1) (lv' := [(1, .int (-1 : Int32)), (0, .ref (a0 5))]) hx hb dX0_cheapestUnmet_1 rfl hl (by decide) rfl (fun ls hl => ?_)
  refine lv_iconst (pc := 2) (v := (0 : Int32)) hx hb dX0_cheapestUnmet_2 (by decide) ?_
  refine lv_istore_n (pc := 3) (lv' := [(2, .int (0 : Int32)), (1, .int (-1 : Int32)), (0, .ref (a0 5))]) hx hb dX0_cheapestUnmet_3 rfl hl (by decide) rfl (fun ls hl => ?_)
  refine wX0_cheapestUnmet_4 (res := (rv, τ)) N  hC hA hE N _ _ _ hf hZ (lv_sub hl [2, 1, 0] rfl) (fun y9 y10 w11 H locs ls hf hZ hl => ?_)
  refine lv_iload_n (pc := 69) hx hb dX0_cheapestUnmet_69 rfl (lv_at hl 1 rfl) ?_
  obtain ⟨rfl, rfl⟩ := zinj hf
  exact hE _ _ _ _ _ _ rfl hZ dX0_cheapestUnmet_70
section ZK
variable {p : Program} {l : Launch} {e : Env} {R : Room} {s : State} {m : MethodId} {args : Array Value} {below : List Frame} {meth : Method} {c : Code} {H : Heap} {locs : List Loc} {cells slots : Nat} {Q : State → Prop}
variable {pc : Nat} {ls : Array Slot} {rest : List Value} {A : Nat → Prop} {H0 : Heap} {D : va_G} {cy : Nat → ClassId} {a0 aT aP : Nat → Nat} {σ : zS} {cc : ByteArray} {nL : Nat} {α : Type} {res : α}
theorem vkX0_67 : zVk RX0 67 yX0_cheapestUnmet cX0_cheapestUnmet 4 (some .int) 0 := ⟨by decide +kernel, by decide +kernel, by decide +kernel, by decide +kernel, by decide +kernel, by decide +kernel⟩
theorem kX0_67 (hC : zC p s m args c RX0 cc nL D cy) (hA : ∀ q, H0.size ≤ q → A q) (hZ : zW D cy shX 38 a0 aT aP A H0 σ H locs) {N : Nat}  {k : Int32 → zS → Option α} (hf : zbi (fX0_cheapestUnmet N  σ) k = some res) (hsz : ls.size = nL) (hW : (rest.map fun v => v.category).sum ≤ 8) (hR : rmX0_cheapestUnmet.frames + 1 ≤ R.frames ∧ 8 + (4 + 11) + rmX0_cheapestUnmet.locals ≤ R.locals) (hcs : cells ≤ R.cells ∧ slots ≤ R.slots) (hdg : decode cc pc = .ok (.invokevirtual 67, 3)) (kk : ∀ (v : Int32) (τ : zS) (H1 : Heap) (locs1 : List Loc), k v τ = some res → zW D cy shX 38 a0 aT aP A H0 τ H1 locs1 → W p l e R s m args below meth c H1 locs1 cells slots Q (F0 m (pc + 3) ls (.int v :: rest))) : W p l e R s m args below meth c H locs cells slots Q (F0 m pc ls (.ref (a0 5) :: rest)) := by
  cases hq : fX0_cheapestUnmet N  σ with
  | none => rw [hq] at hf; cases hf
  | some q =>
    rw [hq] at hf
    exact zcalli hA hZ (zrun hC hZ vkX0_67 rfl (zw0 (by decide)) (cX0_cheapestUnmet_ok l D cy a0 aT aP N  σ q.1 q.2 hq H.size) hR rfl hsz rfl hW hcs hdg) (fun u H1 locs1 hU hZ1 => by subst hU; exact kk q.1 q.2 H1 locs1 hf hZ1)
end ZK
set_option maxHeartbeats 4000000 in
set_option maxRecDepth 100000 in
theorem wX0_amountAlong_12 {p : Program} {l : Launch} {e : Env} {s : State} {m : MethodId} {args : Array Value} {below : List Frame} {meth : Method} {c : Code} {Q : State → Prop} {A : Nat → Prop} {H0 : Heap} {D : va_G} {cy : Nat → ClassId} {a0 aT aP : Nat → Nat} {res : Int32 × zS} {K : Int32 → Int32 → Int32 → zS → Option (Int32 × zS)} (N : Nat) (x1 : Int32) (hC : zC p s m args c RX0 cX0_amountAlong 6 D cy) (hA : ∀ q, H0.size ≤ q → A q) (hE : zEnd p l e rmX0_amountAlong s m args below meth c Q D cy shX 38 a0 A H0 res.2 (fun u => u = (aT, aP)) cX0_amountAlong .ireturn [.int res.1]) (n : Nat) (x2 : Int32) (x3 : Int32) (x4 : Int32) (w0 : zS) {H : Heap} {locs : List Loc} {ls : Array Slot} (hf : lX0_amountAlong_12 N x1 K n (x2, x3, x4, w0) = some res) (hZ : zW D cy shX 38 a0 aT aP A H0 w0 H locs) (hl : lv_has ls 6 [(0, .ref (a0 5)), (1, .int x1), (2, .int x2), (3, .int x3), (4, .int x4)]) (hK : ∀ x2 : Int32, ∀ x3 : Int32, ∀ x4 : Int32, ∀ (w0 : zS) (H : Heap) (locs : List Loc) (ls : Array Slot), K x2 x3 x4 w0 = some res → zW D cy shX 38 a0 aT aP A H0 w0 H locs → lv_has ls 6 [(0, .ref (a0 5)), (1, .int x1), (2, .int x2), (3, .int x3), (4, .int x4)] → W p l e rmX0_amountAlong s m args below meth c H locs 0 0 Q (F0 m 84 ls [])) : W p l e rmX0_amountAlong s m args below meth c H locs 0 0 Q (F0 m 12 ls []) := by
  have hx := hC.1.1
  have hb := hC.1.2.1
  have hf2 : zlp (fun rc s1 => bX0_amountAlong_12 N x1 K rc s1.1 s1.2.1 s1.2.2.1 s1.2.2.2) n (x2, x3, x4, w0) = some res := hf
  have key := zloop (S := Int32 × Int32 × Int32 × zS) (α := Int32 × zS) (b := fun rc s1 => bX0_amountAlong_12 N x1 K rc s1.1 s1.2.1 s1.2.2.1 s1.2.2.2) (r := res) (Wd := fun s1 => ∀ (H : Heap) (locs : List Loc) (ls : Array Slot), zW D cy shX 38 a0 aT aP A H0 s1.2.2.2 H locs → lv_has ls 6 [(0, .ref (a0 5)), (1, .int x1), (2, .int s1.1), (3, .int s1.2.1), (4, .int s1.2.2.1)] → W p l e rmX0_amountAlong s m args below meth c H locs 0 0 Q (F0 m 12 ls []))
  refine key ?_ n (x2, x3, x4, w0) hf2 H locs ls hZ hl
  clear hf hf2 hZ hl key
  rintro rc ⟨x2, x3, x4, w0⟩ ih hf H locs ls hZ hl
  have hf : bX0_amountAlong_12 N x1 K rc x2 x3 x4 w0 = some res := hf
  have hl : lv_has ls 6 [(0, .ref (a0 5)), (1, .int x1), (2, .int x2), (3, .int x3), (4, .int x4)] := hl
  unfold bX0_amountAlong_12 at hf
  refine lv_iload (pc := 12) hx hb dX0_amountAlong_12 (lv_at hl 4 rfl) ?_
  refine lv_bipush (pc := 14) (v := (10 : Int32)) hx hb dX0_amountAlong_14 (by decide) ?_
  refine z_ige (pc := 16) (tgt := 84) hC hf dX0_amountAlong_16 (by decide) (fun hf => ?_) (fun hf => ?_)
  · exact hK x2 x3 x4 w0 H locs ls hf hZ (lv_sub hl [0, 1, 2, 3, 4] rfl)
  refine lv_iload_n (pc := 19) hx hb dX0_amountAlong_19 rfl (lv_at hl 3 rfl) ?_
  refine z_lt0 (pc := 20) (tgt := 84) hC hf dX0_amountAlong_20 (by decide) (fun hf => ?_) (fun hf => ?_)
  · exact hK x2 x3 x4 w0 H locs ls hf hZ (lv_sub hl [0, 1, 2, 3, 4] rfl)
  refine lv_aload_n (pc := 23) hx hb dX0_amountAlong_23 rfl (lv_at hl 0 rfl) ?_
  refine gfX0_36 (pc := 24) hC hZ dX0_amountAlong_24 ?_
  refine lv_iload_n (pc := 27) hx hb dX0_amountAlong_27 rfl (lv_at hl 3 rfl) ?_
  refine z_iald (pc := 28) hC hZ (by decide) rfl hf dX0_amountAlong_28 (fun v2 hf => ?_)
  refine lv_istore (pc := 29) (lv' := [(5, .int v2), (0, .ref (a0 5)), (1, .int x1), (2, .int x2), (3, .int x3), (4, .int x4)]) hx hb dX0_amountAlong_29 hl (by decide) rfl (fun ls hl => ?_)
  refine lv_iload (pc := 31) hx hb dX0_amountAlong_31 (lv_at hl 0 rfl) ?_
  refine z_ge0 (pc := 33) (tgt := 39) hC hf dX0_amountAlong_33 (by decide) (fun hf => ?_) (fun hf => ?_)
  · refine lv_aload_n (pc := 39) hx hb dX0_amountAlong_39 rfl (lv_at hl 1 rfl) ?_
    refine gfX0_39 (pc := 40) hC hZ dX0_amountAlong_40 ?_
    refine lv_iload (pc := 43) hx hb dX0_amountAlong_43 (lv_at hl 0 rfl) ?_
    refine z_iald (pc := 45) hC hZ (by decide) rfl hf dX0_amountAlong_45 (fun v3 hf => ?_)
    refine lv_istore_n (pc := 46) (lv' := [(3, .int v3), (5, .int v2), (0, .ref (a0 5)), (1, .int x1), (2, .int x2), (4, .int x4)]) hx hb dX0_amountAlong_46 rfl hl (by decide) rfl (fun ls hl => ?_)
    refine lv_iload_n (pc := 47) hx hb dX0_amountAlong_47 rfl (lv_at hl 4 rfl) ?_
    refine lv_iload_n (pc := 48) hx hb dX0_amountAlong_48 rfl (lv_at hl 0 rfl) ?_
    refine z_lt0 (pc := 49) (tgt := 67) hC hf dX0_amountAlong_49 (by decide) (fun hf => ?_) (fun hf => ?_)
    · refine lv_aload_n (pc := 67) hx hb dX0_amountAlong_67 rfl (lv_at hl 2 rfl) ?_
      refine gfX0_24 (pc := 68) hC hZ dX0_amountAlong_68 ?_
      refine lv_iload (pc := 71) hx hb dX0_amountAlong_71 (lv_at hl 1 rfl) ?_
      refine z_iald (pc := 73) hC hZ (by decide) rfl hf dX0_amountAlong_73 (fun v4 hf => ?_)
      refine z_min (pc := 74) hC mkX0_42 hl.1 (Nat.le_of_ble_eq_true rfl) (Nat.le_of_ble_eq_true rfl) ⟨Nat.le_refl _, Nat.le_refl _⟩ dX0_amountAlong_74 ?_
      refine lv_istore_n (pc := 77) (lv' := [(2, .int (if v4 < x2 then v4 else x2)), (3, .int v3), (5, .int v2), (0, .ref (a0 5)), (1, .int x1), (4, .int x4)]) hx hb dX0_amountAlong_77 rfl hl (by decide) rfl (fun ls hl => ?_)
      refine lv_iinc (pc := 78) (v := (x4 + (1 : Int32))) (lv' := [(4, .int (x4 + (1 : Int32))), (2, .int (if v4 < x2 then v4 else x2)), (3, .int v3), (5, .int v2), (0, .ref (a0 5)), (1, .int x1)]) hx hb dX0_amountAlong_78 hl (k := 5) rfl rfl (by decide) rfl (fun ls hl => ?_)
      refine lv_goto (pc := 81) (tgt := 12) hx hb dX0_amountAlong_81 (by decide) ?_
      exact ih ((if v4 < x2 then v4 else x2), v3, (x4 + (1 : Int32)), w0) hf H locs ls hZ (lv_sub hl [4, 5, 1, 2, 0] rfl)
    refine lv_aload_n (pc := 52) hx hb dX0_amountAlong_52 rfl (lv_at hl 2 rfl) ?_
    refine gfX0_21 (pc := 53) hC hZ dX0_amountAlong_53 ?_
    refine lv_iload (pc := 56) hx hb dX0_amountAlong_56 (lv_at hl 1 rfl) ?_
    refine lv_bipush (pc := 58) (v := (10 : Int32)) hx hb dX0_amountAlong_58 (by decide) ?_
    refine lv_imul (pc := 60) hx hb dX0_amountAlong_60 ?_
    refine lv_iload_n (pc := 61) hx hb dX0_amountAlong_61 rfl (lv_at hl 0 rfl) ?_
    refine lv_iadd (pc := 62) hx hb dX0_amountAlong_62 ?_
    refine z_iald (pc := 63) hC hZ (by decide) rfl hf dX0_amountAlong_63 (fun v5 hf => ?_)
    refine lv_goto (pc := 64) (tgt := 74) hx hb dX0_amountAlong_64 (by decide) ?_
    refine z_min (pc := 74) hC mkX0_42 hl.1 (Nat.le_of_ble_eq_true rfl) (Nat.le_of_ble_eq_true rfl) ⟨Nat.le_refl _, Nat.le_refl _⟩ dX0_amountAlong_74 ?_
    refine lv_istore_n (pc := 77) (lv' := [(2, .int (if v5 < x2 then v5 else x2)), (3, .int v3), (5, .int v2), (0, .ref (a0 5)), (1, .int x1), (4, .int x4)]) hx hb dX0_amountAlong_77 rfl hl (by decide) rfl (fun ls hl => ?_)
    refine lv_iinc (pc := 78) (v := (x4 + (1 : Int32))) (lv' := [(4, .int (x4 + (1 : Int32))), (2, .int (if v5 < x2 then v5 else x2)), (3, .int v3), (5, .int v2), (0, .ref (a0 5)), (1, .int x1)]) hx hb dX0_amountAlong_78 hl (k := 5) rfl rfl (by decide) rfl (fun ls hl => ?_)
    refine lv_goto (pc := 81) (tgt := 12) hx hb dX0_amountAlong_81 (by decide) ?_
    exact ih ((if v5 < x2 then v5 else x2), v3, (x4 + (1 : Int32)), w0) hf H locs ls hZ (lv_sub hl [4, 5, 1, 2, 0] rfl)
  refine lv_goto (pc := 36) (tgt := 84) hx hb dX0_amountAlong_36 (by decide) ?_
  exact hK x2 x3 x4 w0 H locs ls hf hZ (lv_sub hl [1, 2, 3, 4, 5] rfl)
set_option maxHeartbeats 4000000 in
set_option maxRecDepth 100000 in
theorem cX0_amountAlong_ok (l : Launch) (D : va_G) (cy : Nat → ClassId) (a0 aT aP : Nat → Nat) (N : Nat) (x1 : Int32) (w0 : zS) (rv : Int32) (τ : zS) (hf : fX0_amountAlong N x1 w0 = some (rv, τ)) : zMi l yX0_amountAlong cX0_amountAlong 6 (some .int) rmX0_amountAlong D cy shX 38 a0 aT aP w0 [.ref (a0 5), .int x1] rv τ (fun u => u = (aT, aP)) := by
  refine zmet_i (by decide +kernel) (Or.inl rfl) (Nat.le_of_ble_eq_true rfl) ?_
  intro p e s m below meth c A Q ls hC hA hZ hl hE
  have hx := hC.1.1
  have hb := hC.1.2.1
  have hl : lv_has ls 6 [(0, .ref (a0 5)), (1, .int x1)] := hl
  unfold fX0_amountAlong at hf
  refine lv_aload_n (pc := 0) hx hb dX0_amountAlong_0 rfl (lv_at hl 0 rfl) ?_
  refine gfX0_27 (pc := 1) hC hZ dX0_amountAlong_1 ?_
  refine lv_iload_n (pc := 4) hx hb dX0_amountAlong_4 rfl (lv_at hl 1 rfl) ?_
  refine z_iald (pc := 5) hC hZ (by decide) rfl hf dX0_amountAlong_5 (fun v1 hf => ?_)
  refine lv_istore_n (pc := 6) (lv' := [(2, .int v1), (0, .ref (a0 5)), (1, .int x1)]) hx hb dX0_amountAlong_6 rfl hl (by decide) rfl (fun ls hl => ?_)
  refine lv_iload_n (pc := 7) hx hb dX0_amountAlong_7 rfl (lv_at hl 2 rfl) ?_
  refine lv_istore_n (pc := 8) (lv' := [(3, .int x1), (2, .int v1), (0, .ref (a0 5)), (1, .int x1)]) hx hb dX0_amountAlong_8 rfl hl (by decide) rfl (fun ls hl => ?_)
  refine lv_iconst (pc := 9) (v := (0 : Int32)) hx hb dX0_amountAlong_9 (by decide) ?_
  refine lv_istore (pc := 10) (lv' := [(4, .int (0 : Int32)), (3, .int x1), (2, .int v1), (0, .ref (a0 5)), (1, .int x1)]) hx hb dX0_amountAlong_10 hl (by decide) rfl (fun ls hl => ?_)
  refine wX0_amountAlong_12 (res := (rv, τ)) N x1 hC hA hE N _ _ _ _ hf hZ (lv_sub hl [3, 4, 2, 1, 0] rfl) (fun y6 y7 y8 w9 H locs ls hf hZ hl => ?_)
  refine lv_iload_n (pc := 84) hx hb dX0_amountAlong_84 rfl (lv_at hl 2 rfl) ?_
  obtain ⟨rfl, rfl⟩ := zinj hf
  exact hE _ _ _ _ _ _ rfl hZ dX0_amountAlong_85
section ZK
variable {p : Program} {l : Launch} {e : Env} {R : Room} {s : State} {m : MethodId} {args : Array Value} {below : List Frame} {meth : Method} {c : Code} {H : Heap} {locs : List Loc} {cells slots : Nat} {Q : State → Prop}
variable {pc : Nat} {ls : Array Slot} {rest : List Value} {A : Nat → Prop} {H0 : Heap} {D : va_G} {cy : Nat → ClassId} {a0 aT aP : Nat → Nat} {σ : zS} {cc : ByteArray} {nL : Nat} {α : Type} {res : α}
theorem vkX0_83 : zVk RX0 83 yX0_amountAlong cX0_amountAlong 6 (some .int) 1 := ⟨by decide +kernel, by decide +kernel, by decide +kernel, by decide +kernel, by decide +kernel, by decide +kernel⟩
theorem kX0_83 (hC : zC p s m args c RX0 cc nL D cy) (hA : ∀ q, H0.size ≤ q → A q) (hZ : zW D cy shX 38 a0 aT aP A H0 σ H locs) {N : Nat} {x1 : Int32} {k : Int32 → zS → Option α} (hf : zbi (fX0_amountAlong N x1 σ) k = some res) (hsz : ls.size = nL) (hW : (rest.map fun v => v.category).sum ≤ 8) (hR : rmX0_amountAlong.frames + 1 ≤ R.frames ∧ 8 + (6 + 11) + rmX0_amountAlong.locals ≤ R.locals) (hcs : cells ≤ R.cells ∧ slots ≤ R.slots) (hdg : decode cc pc = .ok (.invokevirtual 83, 3)) (kk : ∀ (v : Int32) (τ : zS) (H1 : Heap) (locs1 : List Loc), k v τ = some res → zW D cy shX 38 a0 aT aP A H0 τ H1 locs1 → W p l e R s m args below meth c H1 locs1 cells slots Q (F0 m (pc + 3) ls (.int v :: rest))) : W p l e R s m args below meth c H locs cells slots Q (F0 m pc ls (.int x1 :: .ref (a0 5) :: rest)) := by
  cases hq : fX0_amountAlong N x1 σ with
  | none => rw [hq] at hf; cases hf
  | some q =>
    rw [hq] at hf
    exact zcalli hA hZ (zrun hC hZ vkX0_83 rfl (zw0 (by decide)) (cX0_amountAlong_ok l D cy a0 aT aP N x1 σ q.1 q.2 hq H.size) hR rfl hsz rfl hW hcs hdg) (fun u H1 locs1 hU hZ1 => by subst hU; exact kk q.1 q.2 H1 locs1 hf hZ1)
end ZK
