set_option maxHeartbeats 4000000 in
set_option maxRecDepth 100000 in
theorem cX7_want_ok (l : Launch) (D : va_G) (cy : Nat → ClassId) (a0 aT aP : Nat → Nat) (N : Nat) (x1 : Int32) (x2 : Int32) (x3 : Int32) (w0 : zS) (rv : Int32) (τ : zS) (hf : fX7_want N x1 x2 x3 w0 = some (rv, τ)) : zMi l yX7_want cX7_want 4 (some .int) rmX7_want D cy shX 38 a0 aT aP w0 [.ref (a0 0), .int x1, .int x2, .int x3] rv τ (fun u => u = (aT, aP)) := by
  refine zmet_i (by decide +kernel) (Or.inl rfl) (Nat.le_of_ble_eq_true rfl) ?_
  intro p e s m below meth c A Q ls hC hA hZ hl hE
  have hx := hC.1.1
  have hb := hC.1.2.1
  have hl : lv_has ls 4 [(0, .ref (a0 0)), (1, .int x1), (2, .int x2), (3, .int x3)] := hl
  unfold fX7_want at hf
  refine lv_aload_n (pc := 0) hx hb dX7_want_0 rfl (lv_at hl 0 rfl) ?_
  refine lv_iload_n (pc := 1) hx hb dX7_want_1 rfl (lv_at hl 1 rfl) ?_
  refine kX7_77 (pc := 2) hC hA hZ hf hl.1 (Nat.le_of_ble_eq_true rfl) ⟨Nat.le_of_ble_eq_true rfl, Nat.le_of_ble_eq_true rfl⟩ ⟨Nat.le_refl _, Nat.le_refl _⟩ dX7_want_2 (fun v2 w1 H locs hf hZ => ?_)
  refine z_ne0 (pc := 5) (tgt := 14) hC hf dX7_want_5 (by decide) (fun hf => ?_) (fun hf => ?_)
  · refine lv_aload_n (pc := 8) hx hb dX7_want_8 rfl (lv_at hl 0 rfl) ?_
    refine lv_iconst (pc := 9) (v := (-1 : Int32)) hx hb dX7_want_9 (by decide) ?_
    refine kX7_73 (pc := 10) hC hA hZ hf hl.1 (Nat.le_of_ble_eq_true rfl) ⟨Nat.le_of_ble_eq_true rfl, Nat.le_of_ble_eq_true rfl⟩ ⟨Nat.le_refl _, Nat.le_refl _⟩ dX7_want_10 (fun v4 w3 H locs hf hZ => ?_)
    obtain ⟨rfl, rfl⟩ := zinj hf
    exact hE _ _ _ _ _ _ rfl hZ dX7_want_13
  refine lv_iload_n (pc := 14) hx hb dX7_want_14 rfl (lv_at hl 2 rfl) ?_
  refine z_lt0 (pc := 15) (tgt := 22) hC hf dX7_want_15 (by decide) (fun hf => ?_) (fun hf => ?_)
  · refine lv_aload_n (pc := 22) hx hb dX7_want_22 rfl (lv_at hl 0 rfl) ?_
    refine lv_bipush (pc := 23) (v := (-4 : Int32)) hx hb dX7_want_23 (by decide) ?_
    refine kX7_73 (pc := 25) hC hA hZ hf hl.1 (Nat.le_of_ble_eq_true rfl) ⟨Nat.le_of_ble_eq_true rfl, Nat.le_of_ble_eq_true rfl⟩ ⟨Nat.le_refl _, Nat.le_refl _⟩ dX7_want_25 (fun v6 w5 H locs hf hZ => ?_)
    obtain ⟨rfl, rfl⟩ := zinj hf
    exact hE _ _ _ _ _ _ rfl hZ dX7_want_28
  refine lv_iload_n (pc := 18) hx hb dX7_want_18 rfl (lv_at hl 3 rfl) ?_
  refine z_ge0 (pc := 19) (tgt := 29) hC hf dX7_want_19 (by decide) (fun hf => ?_) (fun hf => ?_)
  · refine lv_iload_n (pc := 29) hx hb dX7_want_29 rfl (lv_at hl 2 rfl) ?_
    refine lv_bipush (pc := 30) (v := (100 : Int32)) hx hb dX7_want_30 (by decide) ?_
    refine z_igt (pc := 32) (tgt := 41) hC hf dX7_want_32 (by decide) (fun hf => ?_) (fun hf => ?_)
    · refine lv_aload_n (pc := 41) hx hb dX7_want_41 rfl (lv_at hl 0 rfl) ?_
      refine lv_bipush (pc := 42) (v := (-6 : Int32)) hx hb dX7_want_42 (by decide) ?_
      refine kX7_73 (pc := 44) hC hA hZ hf hl.1 (Nat.le_of_ble_eq_true rfl) ⟨Nat.le_of_ble_eq_true rfl, Nat.le_of_ble_eq_true rfl⟩ ⟨Nat.le_refl _, Nat.le_refl _⟩ dX7_want_44 (fun v8 w7 H locs hf hZ => ?_)
      obtain ⟨rfl, rfl⟩ := zinj hf
      exact hE _ _ _ _ _ _ rfl hZ dX7_want_47
    refine lv_iload_n (pc := 35) hx hb dX7_want_35 rfl (lv_at hl 3 rfl) ?_
    refine lv_bipush (pc := 36) (v := (100 : Int32)) hx hb dX7_want_36 (by decide) ?_
    refine z_ile (pc := 38) (tgt := 48) hC hf dX7_want_38 (by decide) (fun hf => ?_) (fun hf => ?_)
    · refine lv_aload_n (pc := 48) hx hb dX7_want_48 rfl (lv_at hl 0 rfl) ?_
      refine gfX7_56 (pc := 49) hC hZ dX7_want_49 ?_
      refine gfX7_220 (pc := 52) hC hZ dX7_want_52 ?_
      refine lv_iload_n (pc := 55) hx hb dX7_want_55 rfl (lv_at hl 1 rfl) ?_
      refine lv_iload_n (pc := 56) hx hb dX7_want_56 rfl (lv_at hl 2 rfl) ?_
      refine z_iast (pc := 57) hC hZ (by decide) rfl hf dX7_want_57 (fun w9 H locs hf hZ => ?_)
      refine lv_aload_n (pc := 58) hx hb dX7_want_58 rfl (lv_at hl 0 rfl) ?_
      refine gfX7_56 (pc := 59) hC hZ dX7_want_59 ?_
      refine gfX7_223 (pc := 62) hC hZ dX7_want_62 ?_
      refine lv_iload_n (pc := 65) hx hb dX7_want_65 rfl (lv_at hl 1 rfl) ?_
      refine lv_iload_n (pc := 66) hx hb dX7_want_66 rfl (lv_at hl 3 rfl) ?_
      refine z_iast (pc := 67) hC hZ (by decide) rfl hf dX7_want_67 (fun w10 H locs hf hZ => ?_)
      refine lv_iconst (pc := 68) (v := (1 : Int32)) hx hb dX7_want_68 (by decide) ?_
      obtain ⟨rfl, rfl⟩ := zinj hf
      exact hE _ _ _ _ _ _ rfl hZ dX7_want_69
    refine lv_aload_n (pc := 41) hx hb dX7_want_41 rfl (lv_at hl 0 rfl) ?_
    refine lv_bipush (pc := 42) (v := (-6 : Int32)) hx hb dX7_want_42 (by decide) ?_
    refine kX7_73 (pc := 44) hC hA hZ hf hl.1 (Nat.le_of_ble_eq_true rfl) ⟨Nat.le_of_ble_eq_true rfl, Nat.le_of_ble_eq_true rfl⟩ ⟨Nat.le_refl _, Nat.le_refl _⟩ dX7_want_44 (fun v12 w11 H locs hf hZ => ?_)
    obtain ⟨rfl, rfl⟩ := zinj hf
    exact hE _ _ _ _ _ _ rfl hZ dX7_want_47
  refine lv_aload_n (pc := 22) hx hb dX7_want_22 rfl (lv_at hl 0 rfl) ?_
  refine lv_bipush (pc := 23) (v := (-4 : Int32)) hx hb dX7_want_23 (by decide) ?_
  refine kX7_73 (pc := 25) hC hA hZ hf hl.1 (Nat.le_of_ble_eq_true rfl) ⟨Nat.le_of_ble_eq_true rfl, Nat.le_of_ble_eq_true rfl⟩ ⟨Nat.le_refl _, Nat.le_refl _⟩ dX7_want_25 (fun v14 w13 H locs hf hZ => ?_)
  obtain ⟨rfl, rfl⟩ := zinj hf
  exact hE _ _ _ _ _ _ rfl hZ dX7_want_28
set_option maxHeartbeats 4000000 in
set_option maxRecDepth 100000 in
theorem cX7_way_ok (l : Launch) (D : va_G) (cy : Nat → ClassId) (a0 aT aP : Nat → Nat) (N : Nat) (x1 : Int32) (x2 : Int32) (x3 : Int32) (w0 : zS) (rv : Int32) (τ : zS) (hf : fX7_way N x1 x2 x3 w0 = some (rv, τ)) : zMi l yX7_way cX7_way 5 (some .int) rmX7_way D cy shX 38 a0 aT aP w0 [.ref (a0 0), .int x1, .int x2, .int x3] rv τ (fun u => u = (aT, aP)) := by
  refine zmet_i (by decide +kernel) (Or.inl rfl) (Nat.le_of_ble_eq_true rfl) ?_
  intro p e s m below meth c A Q ls hC hA hZ hl hE
  have hx := hC.1.1
  have hb := hC.1.2.1
  have hl : lv_has ls 5 [(0, .ref (a0 0)), (1, .int x1), (2, .int x2), (3, .int x3)] := hl
  unfold fX7_way at hf
  refine lv_aload_n (pc := 0) hx hb dX7_way_0 rfl (lv_at hl 0 rfl) ?_
  refine lv_iload_n (pc := 1) hx hb dX7_way_1 rfl (lv_at hl 1 rfl) ?_
  refine lv_iload_n (pc := 2) hx hb dX7_way_2 rfl (lv_at hl 2 rfl) ?_
  refine kX7_99 (pc := 3) hC hA hZ hf hl.1 (Nat.le_of_ble_eq_true rfl) ⟨Nat.le_of_ble_eq_true rfl, Nat.le_of_ble_eq_true rfl⟩ ⟨Nat.le_refl _, Nat.le_refl _⟩ dX7_way_3 (fun v2 w1 H locs hf hZ => ?_)
  refine z_ne0 (pc := 6) (tgt := 15) hC hf dX7_way_6 (by decide) (fun hf => ?_) (fun hf => ?_)
  · refine lv_aload_n (pc := 9) hx hb dX7_way_9 rfl (lv_at hl 0 rfl) ?_
    refine lv_iconst (pc := 10) (v := (-1 : Int32)) hx hb dX7_way_10 (by decide) ?_
    refine kX7_73 (pc := 11) hC hA hZ hf hl.1 (Nat.le_of_ble_eq_true rfl) ⟨Nat.le_of_ble_eq_true rfl, Nat.le_of_ble_eq_true rfl⟩ ⟨Nat.le_refl _, Nat.le_refl _⟩ dX7_way_11 (fun v4 w3 H locs hf hZ => ?_)
    obtain ⟨rfl, rfl⟩ := zinj hf
    exact hE _ _ _ _ _ _ rfl hZ dX7_way_14
  refine lv_iload_n (pc := 15) hx hb dX7_way_15 rfl (lv_at hl 3 rfl) ?_
  refine z_ge0 (pc := 16) (tgt := 26) hC hf dX7_way_16 (by decide) (fun hf => ?_) (fun hf => ?_)
  · refine lv_iload_n (pc := 26) hx hb dX7_way_26 rfl (lv_at hl 3 rfl) ?_
    refine lv_sipush (pc := 27) (v := (1000 : Int32)) hx hb dX7_way_27 (by decide) ?_
    refine z_ile (pc := 30) (tgt := 40) hC hf dX7_way_30 (by decide) (fun hf => ?_) (fun hf => ?_)
    · refine lv_aload_n (pc := 40) hx hb dX7_way_40 rfl (lv_at hl 0 rfl) ?_
      refine gfX7_56 (pc := 41) hC hZ dX7_way_41 ?_
      refine gfX7_226 (pc := 44) hC hZ dX7_way_44 ?_
      refine lv_iload_n (pc := 47) hx hb dX7_way_47 rfl (lv_at hl 1 rfl) ?_
      refine lv_bipush (pc := 48) (v := (10 : Int32)) hx hb dX7_way_48 (by decide) ?_
      refine lv_imul (pc := 50) hx hb dX7_way_50 ?_
      refine lv_iload_n (pc := 51) hx hb dX7_way_51 rfl (lv_at hl 2 rfl) ?_
      refine lv_iadd (pc := 52) hx hb dX7_way_52 ?_
      refine z_iald (pc := 53) hC hZ (by decide) rfl hf dX7_way_53 (fun v5 hf => ?_)
      refine lv_istore (pc := 54) (lv' := [(4, .int v5), (0, .ref (a0 0)), (1, .int x1), (2, .int x2), (3, .int x3)]) hx hb dX7_way_54 hl (by decide) rfl (fun ls hl => ?_)
      refine lv_aload_n (pc := 56) hx hb dX7_way_56 rfl (lv_at hl 1 rfl) ?_
      refine gfX7_56 (pc := 57) hC hZ dX7_way_57 ?_
      refine gfX7_226 (pc := 60) hC hZ dX7_way_60 ?_
      refine lv_iload_n (pc := 63) hx hb dX7_way_63 rfl (lv_at hl 2 rfl) ?_
      refine lv_bipush (pc := 64) (v := (10 : Int32)) hx hb dX7_way_64 (by decide) ?_
      refine lv_imul (pc := 66) hx hb dX7_way_66 ?_
      refine lv_iload_n (pc := 67) hx hb dX7_way_67 rfl (lv_at hl 3 rfl) ?_
      refine lv_iadd (pc := 68) hx hb dX7_way_68 ?_
      refine lv_iload_n (pc := 69) hx hb dX7_way_69 rfl (lv_at hl 4 rfl) ?_
      refine z_iast (pc := 70) hC hZ (by decide) rfl hf dX7_way_70 (fun w6 H locs hf hZ => ?_)
      refine lv_aload_n (pc := 71) hx hb dX7_way_71 rfl (lv_at hl 1 rfl) ?_
      refine gfX7_56 (pc := 72) hC hZ dX7_way_72 ?_
      refine gfX7_226 (pc := 75) hC hZ dX7_way_75 ?_
      refine lv_iload_n (pc := 78) hx hb dX7_way_78 rfl (lv_at hl 3 rfl) ?_
      refine lv_bipush (pc := 79) (v := (10 : Int32)) hx hb dX7_way_79 (by decide) ?_
      refine lv_imul (pc := 81) hx hb dX7_way_81 ?_
      refine lv_iload_n (pc := 82) hx hb dX7_way_82 rfl (lv_at hl 2 rfl) ?_
      refine lv_iadd (pc := 83) hx hb dX7_way_83 ?_
      refine lv_iload_n (pc := 84) hx hb dX7_way_84 rfl (lv_at hl 4 rfl) ?_
      refine z_iast (pc := 85) hC hZ (by decide) rfl hf dX7_way_85 (fun w7 H locs hf hZ => ?_)
      refine lv_iload (pc := 86) hx hb dX7_way_86 (lv_at hl 0 rfl) ?_
      obtain ⟨rfl, rfl⟩ := zinj hf
      exact hE _ _ _ _ _ _ rfl hZ dX7_way_88
    refine lv_aload_n (pc := 33) hx hb dX7_way_33 rfl (lv_at hl 0 rfl) ?_
    refine lv_bipush (pc := 34) (v := (-6 : Int32)) hx hb dX7_way_34 (by decide) ?_
    refine kX7_73 (pc := 36) hC hA hZ hf hl.1 (Nat.le_of_ble_eq_true rfl) ⟨Nat.le_of_ble_eq_true rfl, Nat.le_of_ble_eq_true rfl⟩ ⟨Nat.le_refl _, Nat.le_refl _⟩ dX7_way_36 (fun v9 w8 H locs hf hZ => ?_)
    obtain ⟨rfl, rfl⟩ := zinj hf
    exact hE _ _ _ _ _ _ rfl hZ dX7_way_39
  refine lv_aload_n (pc := 19) hx hb dX7_way_19 rfl (lv_at hl 0 rfl) ?_
  refine lv_bipush (pc := 20) (v := (-4 : Int32)) hx hb dX7_way_20 (by decide) ?_
  refine kX7_73 (pc := 22) hC hA hZ hf hl.1 (Nat.le_of_ble_eq_true rfl) ⟨Nat.le_of_ble_eq_true rfl, Nat.le_of_ble_eq_true rfl⟩ ⟨Nat.le_refl _, Nat.le_refl _⟩ dX7_way_22 (fun v11 w10 H locs hf hZ => ?_)
  obtain ⟨rfl, rfl⟩ := zinj hf
  exact hE _ _ _ _ _ _ rfl hZ dX7_way_25
set_option maxHeartbeats 4000000 in
set_option maxRecDepth 100000 in
theorem wX0_hasEnough_4 {p : Program} {l : Launch} {e : Env} {s : State} {m : MethodId} {args : Array Value} {below : List Frame} {meth : Method} {c : Code} {Q : State → Prop} {A : Nat → Prop} {H0 : Heap} {D : va_G} {cy : Nat → ClassId} {a0 aT aP : Nat → Nat} {res : Int32 × zS} {K : Int32 → Int32 → zS → Option (Int32 × zS)} (N : Nat)  (hC : zC p s m args c RX0 cX0_hasEnough 3 D cy) (hA : ∀ q, H0.size ≤ q → A q) (hE : (res.1 = 0 ∨ res.1 = 1) → zEnd p l e rmX0_hasEnough s m args below meth c Q D cy shX 38 a0 A H0 res.2 (fun u => u = (aT, aP)) cX0_hasEnough .ireturn [.int res.1]) (n : Nat) (x1 : Int32) (x2 : Int32) (w0 : zS) {H : Heap} {locs : List Loc} {ls : Array Slot} (hf : lX0_hasEnough_4 N  K n (x1, x2, w0) = some res) (hZ : zW D cy shX 38 a0 aT aP A H0 w0 H locs) (hl : lv_has ls 3 [(0, .ref (a0 5)), (1, .int x1), (2, .int x2)]) (hK : ∀ x1 : Int32, ∀ x2 : Int32, ∀ (w0 : zS) (H : Heap) (locs : List Loc) (ls : Array Slot), K x1 x2 w0 = some res → zW D cy shX 38 a0 aT aP A H0 w0 H locs → lv_has ls 3 [(0, .ref (a0 5)), (1, .int x1), (2, .int x2)] → W p l e rmX0_hasEnough s m args below meth c H locs 0 0 Q (F0 m 32 ls [])) : W p l e rmX0_hasEnough s m args below meth c H locs 0 0 Q (F0 m 4 ls []) := by
  have hx := hC.1.1
  have hb := hC.1.2.1
  have hf2 : zlp (fun rc s1 => bX0_hasEnough_4 N  K rc s1.1 s1.2.1 s1.2.2) n (x1, x2, w0) = some res := hf
  have key := zloop (S := Int32 × Int32 × zS) (α := Int32 × zS) (b := fun rc s1 => bX0_hasEnough_4 N  K rc s1.1 s1.2.1 s1.2.2) (r := res) (Wd := fun s1 => ∀ (H : Heap) (locs : List Loc) (ls : Array Slot), zW D cy shX 38 a0 aT aP A H0 s1.2.2 H locs → lv_has ls 3 [(0, .ref (a0 5)), (1, .int s1.1), (2, .int s1.2.1)] → W p l e rmX0_hasEnough s m args below meth c H locs 0 0 Q (F0 m 4 ls []))
  refine key ?_ n (x1, x2, w0) hf2 H locs ls hZ hl
  clear hf hf2 hZ hl key
  rintro rc ⟨x1, x2, w0⟩ ih hf H locs ls hZ hl
  have hf : bX0_hasEnough_4 N  K rc x1 x2 w0 = some res := hf
  have hl : lv_has ls 3 [(0, .ref (a0 5)), (1, .int x1), (2, .int x2)] := hl
  unfold bX0_hasEnough_4 at hf
  refine lv_iload_n (pc := 4) hx hb dX0_hasEnough_4 rfl (lv_at hl 2 rfl) ?_
  refine lv_bipush (pc := 5) (v := (10 : Int32)) hx hb dX0_hasEnough_5 (by decide) ?_
  refine z_ige (pc := 7) (tgt := 32) hC hf dX0_hasEnough_7 (by decide) (fun hf => ?_) (fun hf => ?_)
  · exact hK x1 x2 w0 H locs ls hf hZ (lv_sub hl [0, 1, 2] rfl)
  refine lv_iload_n (pc := 10) hx hb dX0_hasEnough_10 rfl (lv_at hl 1 rfl) ?_
  refine lv_aload_n (pc := 11) hx hb dX0_hasEnough_11 rfl (lv_at hl 0 rfl) ?_
  refine gfX0_9 (pc := 12) hC hZ dX0_hasEnough_12 ?_
  refine lv_iload_n (pc := 15) hx hb dX0_hasEnough_15 rfl (lv_at hl 2 rfl) ?_
  refine z_iald (pc := 16) hC hZ (by decide) rfl hf dX0_hasEnough_16 (fun v1 hf => ?_)
  refine lv_aload_n (pc := 17) hx hb dX0_hasEnough_17 rfl (lv_at hl 0 rfl) ?_
  refine gfX0_15 (pc := 18) hC hZ dX0_hasEnough_18 ?_
  refine lv_iload_n (pc := 21) hx hb dX0_hasEnough_21 rfl (lv_at hl 2 rfl) ?_
  refine z_iald (pc := 22) hC hZ (by decide) rfl hf dX0_hasEnough_22 (fun v2 hf => ?_)
  refine lv_isub (pc := 23) hx hb dX0_hasEnough_23 ?_
  refine lv_iadd (pc := 24) hx hb dX0_hasEnough_24 ?_
  refine lv_istore_n (pc := 25) (lv' := [(1, .int (x1 + (v1 - v2))), (0, .ref (a0 5)), (2, .int x2)]) hx hb dX0_hasEnough_25 rfl hl (by decide) rfl (fun ls hl => ?_)
  refine lv_iinc (pc := 26) (v := (x2 + (1 : Int32))) (lv' := [(2, .int (x2 + (1 : Int32))), (1, .int (x1 + (v1 - v2))), (0, .ref (a0 5))]) hx hb dX0_hasEnough_26 hl (k := 2) rfl rfl (by decide) rfl (fun ls hl => ?_)
  refine lv_goto (pc := 29) (tgt := 4) hx hb dX0_hasEnough_29 (by decide) ?_
  exact ih ((x1 + (v1 - v2)), (x2 + (1 : Int32)), w0) hf H locs ls hZ (lv_sub hl [2, 1, 0] rfl)
set_option maxHeartbeats 4000000 in
set_option maxRecDepth 100000 in
theorem cX0_hasEnough_ok (l : Launch) (D : va_G) (cy : Nat → ClassId) (a0 aT aP : Nat → Nat) (N : Nat)  (w0 : zS) (rv : Int32) (τ : zS) (hf : fX0_hasEnough N  w0 = some (rv, τ)) : zMi l yX0_hasEnough cX0_hasEnough 3 (some .boolean) rmX0_hasEnough D cy shX 38 a0 aT aP w0 [.ref (a0 5)] rv τ (fun u => u = (aT, aP)) := by
  refine zmet_z (by decide +kernel) rfl (Nat.le_of_ble_eq_true rfl) ?_
  intro p e s m below meth c A Q ls hC hA hZ hl hE
  have hx := hC.1.1
  have hb := hC.1.2.1
  have hl : lv_has ls 3 [(0, .ref (a0 5))] := hl
  unfold fX0_hasEnough at hf
  refine lv_iconst (pc := 0) (v := (0 : Int32)) hx hb dX0_hasEnough_0 (by decide) ?_
  refine lv_istore_n (pc := 1) (lv' := [(1, .int (0 : Int32)), (0, .ref (a0 5))]) hx hb dX0_hasEnough_1 rfl hl (by decide) rfl (fun ls hl => ?_)
  refine lv_iconst (pc := 2) (v := (0 : Int32)) hx hb dX0_hasEnough_2 (by decide) ?_
  refine lv_istore_n (pc := 3) (lv' := [(2, .int (0 : Int32)), (1, .int (0 : Int32)), (0, .ref (a0 5))]) hx hb dX0_hasEnough_3 rfl hl (by decide) rfl (fun ls hl => ?_)
  refine wX0_hasEnough_4 (res := (rv, τ)) N  hC hA hE N _ _ _ hf hZ (lv_sub hl [2, 1, 0] rfl) (fun y3 y4 w5 H locs ls hf hZ hl => ?_)
  refine lv_iload_n (pc := 32) hx hb dX0_hasEnough_32 rfl (lv_at hl 1 rfl) ?_
  refine z_lt0 (pc := 33) (tgt := 40) hC hf dX0_hasEnough_33 (by decide) (fun hf => ?_) (fun hf => ?_)
  · refine lv_iconst (pc := 40) (v := (0 : Int32)) hx hb dX0_hasEnough_40 (by decide) ?_
    obtain ⟨rfl, rfl⟩ := zinj hf
    exact hE (by decide) _ _ _ _ _ _ rfl hZ dX0_hasEnough_41
  refine lv_iconst (pc := 36) (v := (1 : Int32)) hx hb dX0_hasEnough_36 (by decide) ?_
  refine lv_goto (pc := 37) (tgt := 41) hx hb dX0_hasEnough_37 (by decide) ?_
  obtain ⟨rfl, rfl⟩ := zinj hf
  exact hE (by decide) _ _ _ _ _ _ rfl hZ dX0_hasEnough_41
section ZK
variable {p : Program} {l : Launch} {e : Env} {R : Room} {s : State} {m : MethodId} {args : Array Value} {below : List Frame} {meth : Method} {c : Code} {H : Heap} {locs : List Loc} {cells slots : Nat} {Q : State → Prop}
variable {pc : Nat} {ls : Array Slot} {rest : List Value} {A : Nat → Prop} {H0 : Heap} {D : va_G} {cy : Nat → ClassId} {a0 aT aP : Nat → Nat} {σ : zS} {cc : ByteArray} {nL : Nat} {α : Type} {res : α}
theorem vkX7_229 : zVk RX7 229 yX0_hasEnough cX0_hasEnough 3 (some .boolean) 0 := ⟨by decide +kernel, by decide +kernel, by decide +kernel, by decide +kernel, by decide +kernel, by decide +kernel⟩
theorem kX7_229 (hC : zC p s m args c RX7 cc nL D cy) (hA : ∀ q, H0.size ≤ q → A q) (hZ : zW D cy shX 38 a0 aT aP A H0 σ H locs) {N : Nat}  {k : Int32 → zS → Option α} (hf : zbi (fX0_hasEnough N  σ) k = some res) (hsz : ls.size = nL) (hW : (rest.map fun v => v.category).sum ≤ 8) (hR : rmX0_hasEnough.frames + 1 ≤ R.frames ∧ 8 + (3 + 11) + rmX0_hasEnough.locals ≤ R.locals) (hcs : cells ≤ R.cells ∧ slots ≤ R.slots) (hdg : decode cc pc = .ok (.invokevirtual 229, 3)) (kk : ∀ (v : Int32) (τ : zS) (H1 : Heap) (locs1 : List Loc), k v τ = some res → zW D cy shX 38 a0 aT aP A H0 τ H1 locs1 → W p l e R s m args below meth c H1 locs1 cells slots Q (F0 m (pc + 3) ls (.int v :: rest))) : W p l e R s m args below meth c H locs cells slots Q (F0 m pc ls (.ref (a0 5) :: rest)) := by
  cases hq : fX0_hasEnough N  σ with
  | none => rw [hq] at hf; cases hf
  | some q =>
    rw [hq] at hf
    exact zcalli hA hZ (zrun hC hZ vkX7_229 rfl (zw0 (by decide)) (cX0_hasEnough_ok l D cy a0 aT aP N  σ q.1 q.2 hq H.size) hR rfl hsz rfl hW hcs hdg) (fun u H1 locs1 hU hZ1 => by subst hU; exact kk q.1 q.2 H1 locs1 hf hZ1)
end ZK
set_option maxHeartbeats 4000000 in
set_option maxRecDepth 100000 in
theorem wJ7_fill_53178_c31_5 {p : Program} {l : Launch} {e : Env} {s : State} {m : MethodId} {args : Array Value} {below : List Frame} {meth : Method} {c : Code} {Q : State → Prop} {A : Nat → Prop} {H0 : Heap} {D : va_G} {cy : Nat → ClassId} {a0 aT aP : Nat → Nat} {res : zS} {K : Int32 → zS → Option (zS)} (N : Nat) (x1 : Int32) (x3 : Int32) (hC : zC p s m args c RJ7 cJ7_fill_53178 4 D cy) (hA : ∀ q, H0.size ≤ q → A q) (hE : zEnd p l e rmJ7_fill_53178_c31 s m args below meth c Q D cy shX 38 a0 A H0 res (fun u => u = (aT, aP)) cJ7_fill_53178 .return_ []) (n : Nat) (x2 : Int32) (w0 : zS) {H : Heap} {locs : List Loc} {ls : Array Slot} (hf : lJ7_fill_53178_c31_5 N x1 x3 K n (x2, w0) = some res) (hZ : zW D cy shX 38 a0 aT aP A H0 w0 H locs) (hl : lv_has ls 4 [(0, .ref (a0 31)), (1, .int x1), (2, .int x2), (3, .int x3)]) (hK : ∀ x2 : Int32, ∀ (w0 : zS) (H : Heap) (locs : List Loc) (ls : Array Slot), K x2 w0 = some res → zW D cy shX 38 a0 aT aP A H0 w0 H locs → lv_has ls 4 [(0, .ref (a0 31)), (1, .int x1), (2, .int x2), (3, .int x3)] → W p l e rmJ7_fill_53178_c31 s m args below meth c H locs 0 0 Q (F0 m 20 ls [])) : W p l e rmJ7_fill_53178_c31 s m args below meth c H locs 0 0 Q (F0 m 5 ls []) := by
  have hx := hC.1.1
  have hb := hC.1.2.1
  have hf2 : zlp (fun rc s1 => bJ7_fill_53178_c31_5 N x1 x3 K rc s1.1 s1.2) n (x2, w0) = some res := hf
  have key := zloop (S := Int32 × zS) (α := zS) (b := fun rc s1 => bJ7_fill_53178_c31_5 N x1 x3 K rc s1.1 s1.2) (r := res) (Wd := fun s1 => ∀ (H : Heap) (locs : List Loc) (ls : Array Slot), zW D cy shX 38 a0 aT aP A H0 s1.2 H locs → lv_has ls 4 [(0, .ref (a0 31)), (1, .int x1), (2, .int s1.1), (3, .int x3)] → W p l e rmJ7_fill_53178_c31 s m args below meth c H locs 0 0 Q (F0 m 5 ls []))
  refine key ?_ n (x2, w0) hf2 H locs ls hZ hl
  clear hf hf2 hZ hl key
  rintro rc ⟨x2, w0⟩ ih hf H locs ls hZ hl
  have hf : bJ7_fill_53178_c31_5 N x1 x3 K rc x2 w0 = some res := hf
  have hl : lv_has ls 4 [(0, .ref (a0 31)), (1, .int x1), (2, .int x2), (3, .int x3)] := hl
  unfold bJ7_fill_53178_c31_5 at hf
  refine lv_iload_n (pc := 5) hx hb dJ7_fill_53178_5 rfl (lv_at hl 2 rfl) ?_
  refine lv_iload_n (pc := 6) hx hb dJ7_fill_53178_6 rfl (lv_at hl 3 rfl) ?_
  refine z_ige (pc := 7) (tgt := 20) hC hf dJ7_fill_53178_7 (by decide) (fun hf => ?_) (fun hf => ?_)
  · exact hK x2 w0 H locs ls hf hZ (lv_sub hl [0, 1, 2, 3] rfl)
  refine lv_aload_n (pc := 10) hx hb dJ7_fill_53178_10 rfl (lv_at hl 0 rfl) ?_
  refine lv_iload_n (pc := 11) hx hb dJ7_fill_53178_11 rfl (lv_at hl 2 rfl) ?_
  refine lv_iload_n (pc := 12) hx hb dJ7_fill_53178_12 rfl (lv_at hl 1 rfl) ?_
  refine z_iast (pc := 13) hC hZ (by decide) rfl hf dJ7_fill_53178_13 (fun w1 H locs hf hZ => ?_)
  refine lv_iinc (pc := 14) (v := (x2 + (1 : Int32))) (lv' := [(2, .int (x2 + (1 : Int32))), (0, .ref (a0 31)), (1, .int x1), (3, .int x3)]) hx hb dJ7_fill_53178_14 hl (k := 2) rfl rfl (by decide) rfl (fun ls hl => ?_)
  refine lv_goto (pc := 17) (tgt := 5) hx hb dJ7_fill_53178_17 (by decide) ?_
  exact ih ((x2 + (1 : Int32)), w1) hf H locs ls hZ (lv_sub hl [1, 2, 0, 3] rfl)
set_option maxHeartbeats 4000000 in
set_option maxRecDepth 100000 in
theorem cJ7_fill_53178_c31_ok (l : Launch) (D : va_G) (cy : Nat → ClassId) (a0 aT aP : Nat → Nat) (N : Nat) (x1 : Int32) (w0 : zS) (τ : zS) (hf : fJ7_fill_53178_c31 N x1 w0 = some τ) : zMv l yJ7_fill_53178 cJ7_fill_53178 4 none rmJ7_fill_53178_c31 D cy shX 38 a0 aT aP w0 [.ref (a0 31), .int x1] τ (fun u => u = (aT, aP)) := by
  refine zmet_v (by decide +kernel) rfl (Nat.le_of_ble_eq_true rfl) ?_
  intro p e s m below meth c A Q ls hC hA hZ hl hE
  have hx := hC.1.1
  have hb := hC.1.2.1
  have hl : lv_has ls 4 [(0, .ref (a0 31)), (1, .int x1)] := hl
  unfold fJ7_fill_53178_c31 at hf
  refine lv_iconst (pc := 0) (v := (0 : Int32)) hx hb dJ7_fill_53178_0 (by decide) ?_
  refine lv_istore_n (pc := 1) (lv' := [(2, .int (0 : Int32)), (0, .ref (a0 31)), (1, .int x1)]) hx hb dJ7_fill_53178_1 rfl hl (by decide) rfl (fun ls hl => ?_)
  refine lv_aload_n (pc := 2) hx hb dJ7_fill_53178_2 rfl (lv_at hl 1 rfl) ?_
  refine z_alen (pc := 3) (v := (100 : Int32)) hC hZ (by decide) rfl rfl (by decide) dJ7_fill_53178_3 ?_
  refine lv_istore_n (pc := 4) (lv' := [(3, .int (100 : Int32)), (2, .int (0 : Int32)), (0, .ref (a0 31)), (1, .int x1)]) hx hb dJ7_fill_53178_4 rfl hl (by decide) rfl (fun ls hl => ?_)
  refine wJ7_fill_53178_c31_5 (res := τ) N x1 (100 : Int32) hC hA hE N _ _ hf hZ (lv_sub hl [2, 3, 1, 0] rfl) (fun y2 w3 H locs ls hf hZ hl => ?_)
  obtain rfl := Option.some.inj hf
  exact hE _ _ _ _ _ _ rfl hZ dJ7_fill_53178_20
section ZK
variable {p : Program} {l : Launch} {e : Env} {R : Room} {s : State} {m : MethodId} {args : Array Value} {below : List Frame} {meth : Method} {c : Code} {H : Heap} {locs : List Loc} {cells slots : Nat} {Q : State → Prop}
variable {pc : Nat} {ls : Array Slot} {rest : List Value} {A : Nat → Prop} {H0 : Heap} {D : va_G} {cy : Nat → ClassId} {a0 aT aP : Nat → Nat} {σ : zS} {cc : ByteArray} {nL : Nat} {α : Type} {res : α}
theorem vkX0_58 : zSk RX0 58 yJ7_fill_53178 cJ7_fill_53178 4 none 2 := ⟨by decide +kernel, by decide +kernel, by decide +kernel, by decide +kernel, by decide +kernel⟩
theorem kX0_58_J7_fill_53178_c31 (hC : zC p s m args c RX0 cc nL D cy) (hA : ∀ q, H0.size ≤ q → A q) (hZ : zW D cy shX 38 a0 aT aP A H0 σ H locs) {N : Nat} {x1 : Int32} {k : zS → Option α} (hf : zbv (fJ7_fill_53178_c31 N x1 σ) k = some res) (hsz : ls.size = nL) (hW : (rest.map fun v => v.category).sum ≤ 8) (hR : rmJ7_fill_53178_c31.frames + 1 ≤ R.frames ∧ 8 + (4 + 11) + rmJ7_fill_53178_c31.locals ≤ R.locals) (hcs : cells ≤ R.cells ∧ slots ≤ R.slots) (hdg : decode cc pc = .ok (.invokestatic 58, 3)) (kk : ∀ (τ : zS) (H1 : Heap) (locs1 : List Loc), k τ = some res → zW D cy shX 38 a0 aT aP A H0 τ H1 locs1 → W p l e R s m args below meth c H1 locs1 cells slots Q (F0 m (pc + 3) ls (rest))) : W p l e R s m args below meth c H locs cells slots Q (F0 m pc ls (.int x1 :: .ref (a0 31) :: rest)) := by
  cases hq : fJ7_fill_53178_c31 N x1 σ with
  | none => rw [hq] at hf; cases hf
  | some q =>
    rw [hq] at hf
    exact zcallv hA hZ (zrunS hC hZ vkX0_58 (cJ7_fill_53178_c31_ok l D cy a0 aT aP N x1 σ q hq H.size) hR rfl hsz rfl hW hcs hdg) (fun u H1 locs1 hU hZ1 => by subst hU; exact kk q H1 locs1 hf hZ1)
end ZK
set_option maxHeartbeats 4000000 in
set_option maxRecDepth 100000 in
theorem wX0_reachWants_28 {p : Program} {l : Launch} {e : Env} {s : State} {m : MethodId} {args : Array Value} {below : List Frame} {meth : Method} {c : Code} {Q : State → Prop} {A : Nat → Prop} {H0 : Heap} {D : va_G} {cy : Nat → ClassId} {a0 aT aP : Nat → Nat} {res : Int32 × zS} {K : Int32 → Int32 → zS → Option (Int32 × zS)} (N : Nat) (x2 : Int32) (hC : zC p s m args c RX0 cX0_reachWants 5 D cy) (hA : ∀ q, H0.size ≤ q → A q) (hE : (res.1 = 0 ∨ res.1 = 1) → zEnd p l e rmX0_reachWants s m args below meth c Q D cy shX 38 a0 A H0 res.2 (fun u => u = (aT, aP)) cX0_reachWants .ireturn [.int res.1]) (n : Nat) (x1 : Int32) (x3 : Int32) (w0 : zS) {H : Heap} {locs : List Loc} {ls : Array Slot} (hf : lX0_reachWants_28 N x2 K n (x1, x3, w0) = some res) (hZ : zW D cy shX 38 a0 aT aP A H0 w0 H locs) (hl : lv_has ls 5 [(0, .ref (a0 5)), (1, .int x1), (2, .int x2), (3, .int x3)]) (hK : ∀ x1 : Int32, ∀ x3 : Int32, ∀ (w0 : zS) (H : Heap) (locs : List Loc) (ls : Array Slot), K x1 x3 w0 = some res → zW D cy shX 38 a0 aT aP A H0 w0 H locs → lv_has ls 5 [(0, .ref (a0 5)), (1, .int x1), (2, .int x2), (3, .int x3)] → W p l e rmX0_reachWants s m args below meth c H locs 0 0 Q (F0 m 90 ls [])) : W p l e rmX0_reachWants s m args below meth c H locs 0 0 Q (F0 m 28 ls []) := by
  have hx := hC.1.1
  have hb := hC.1.2.1
  have hf2 : zlp (fun rc s1 => bX0_reachWants_28 N x2 K rc s1.1 s1.2.1 s1.2.2) n (x1, x3, w0) = some res := hf
  have key := zloop (S := Int32 × Int32 × zS) (α := Int32 × zS) (b := fun rc s1 => bX0_reachWants_28 N x2 K rc s1.1 s1.2.1 s1.2.2) (r := res) (Wd := fun s1 => ∀ (H : Heap) (locs : List Loc) (ls : Array Slot), zW D cy shX 38 a0 aT aP A H0 s1.2.2 H locs → lv_has ls 5 [(0, .ref (a0 5)), (1, .int s1.1), (2, .int x2), (3, .int s1.2.1)] → W p l e rmX0_reachWants s m args below meth c H locs 0 0 Q (F0 m 28 ls []))
  refine key ?_ n (x1, x3, w0) hf2 H locs ls hZ hl
  clear hf hf2 hZ hl key
  rintro rc ⟨x1, x3, w0⟩ ih hf H locs ls hZ hl
  have hf : bX0_reachWants_28 N x2 K rc x1 x3 w0 = some res := hf
  have hl : lv_has ls 5 [(0, .ref (a0 5)), (1, .int x1), (2, .int x2), (3, .int x3)] := hl
  unfold bX0_reachWants_28 at hf
  refine lv_iload_n (pc := 28) hx hb dX0_reachWants_28 rfl (lv_at hl 3 rfl) ?_
  refine lv_aload_n (pc := 29) hx hb dX0_reachWants_29 rfl (lv_at hl 0 rfl) ?_
  refine gfX0_48 (pc := 30) hC hZ dX0_reachWants_30 ?_
  refine z_ige (pc := 33) (tgt := 90) hC hf dX0_reachWants_33 (by decide) (fun hf => ?_) (fun hf => ?_)
  · exact hK x1 x3 w0 H locs ls hf hZ (lv_sub hl [0, 1, 2, 3] rfl)
  refine lv_aload_n (pc := 36) hx hb dX0_reachWants_36 rfl (lv_at hl 0 rfl) ?_
  refine gfX0_30 (pc := 37) hC hZ dX0_reachWants_37 ?_
  refine lv_iload_n (pc := 40) hx hb dX0_reachWants_40 rfl (lv_at hl 2 rfl) ?_
  refine z_iald (pc := 41) hC hZ (by decide) rfl hf dX0_reachWants_41 (fun v2 hf => ?_)
  refine lv_aload_n (pc := 42) hx hb dX0_reachWants_42 rfl (lv_at hl 0 rfl) ?_
  refine gfX0_18 (pc := 43) hC hZ dX0_reachWants_43 ?_
  refine lv_iload_n (pc := 46) hx hb dX0_reachWants_46 rfl (lv_at hl 2 rfl) ?_
  refine lv_bipush (pc := 47) (v := (10 : Int32)) hx hb dX0_reachWants_47 (by decide) ?_
  refine lv_imul (pc := 49) hx hb dX0_reachWants_49 ?_
  refine lv_iload_n (pc := 50) hx hb dX0_reachWants_50 rfl (lv_at hl 3 rfl) ?_
  refine lv_iadd (pc := 51) hx hb dX0_reachWants_51 ?_
  refine z_iald (pc := 52) hC hZ (by decide) rfl hf dX0_reachWants_52 (fun v3 hf => ?_)
  refine lv_iadd (pc := 53) hx hb dX0_reachWants_53 ?_
  refine lv_istore (pc := 54) (lv' := [(4, .int (v2 + v3)), (0, .ref (a0 5)), (1, .int x1), (2, .int x2), (3, .int x3)]) hx hb dX0_reachWants_54 hl (by decide) rfl (fun ls hl => ?_)
  refine lv_iload (pc := 56) hx hb dX0_reachWants_56 (lv_at hl 0 rfl) ?_
  refine lv_aload_n (pc := 58) hx hb dX0_reachWants_58 rfl (lv_at hl 1 rfl) ?_
  refine gfX0_33 (pc := 59) hC hZ dX0_reachWants_59 ?_
  refine lv_iload_n (pc := 62) hx hb dX0_reachWants_62 rfl (lv_at hl 4 rfl) ?_
  refine z_iald (pc := 63) hC hZ (by decide) rfl hf dX0_reachWants_63 (fun v4 hf => ?_)
  refine z_ige (pc := 64) (tgt := 84) hC hf dX0_reachWants_64 (by decide) (fun hf => ?_) (fun hf => ?_)
  · refine lv_iinc (pc := 84) (v := (x3 + (1 : Int32))) (lv' := [(3, .int (x3 + (1 : Int32))), (4, .int (v2 + v3)), (0, .ref (a0 5)), (1, .int x1), (2, .int x2)]) hx hb dX0_reachWants_84 hl (k := 4) rfl rfl (by decide) rfl (fun ls hl => ?_)
    refine lv_goto (pc := 87) (tgt := 28) hx hb dX0_reachWants_87 (by decide) ?_
    exact ih (x1, (x3 + (1 : Int32)), w0) hf H locs ls hZ (lv_sub hl [2, 3, 4, 0] rfl)
  refine lv_aload_n (pc := 67) hx hb dX0_reachWants_67 rfl (lv_at hl 1 rfl) ?_
  refine gfX0_33 (pc := 68) hC hZ dX0_reachWants_68 ?_
  refine lv_iload_n (pc := 71) hx hb dX0_reachWants_71 rfl (lv_at hl 4 rfl) ?_
  refine lv_iload (pc := 72) hx hb dX0_reachWants_72 (lv_at hl 0 rfl) ?_
  refine z_iast (pc := 74) hC hZ (by decide) rfl hf dX0_reachWants_74 (fun w5 H locs hf hZ => ?_)
  refine lv_aload_n (pc := 75) hx hb dX0_reachWants_75 rfl (lv_at hl 1 rfl) ?_
  refine gfX0_36 (pc := 76) hC hZ dX0_reachWants_76 ?_
  refine lv_iload_n (pc := 79) hx hb dX0_reachWants_79 rfl (lv_at hl 4 rfl) ?_
  refine lv_iload_n (pc := 80) hx hb dX0_reachWants_80 rfl (lv_at hl 3 rfl) ?_
  refine z_iast (pc := 81) hC hZ (by decide) rfl hf dX0_reachWants_81 (fun w6 H locs hf hZ => ?_)
  refine lv_iconst (pc := 82) (v := (1 : Int32)) hx hb dX0_reachWants_82 (by decide) ?_
  refine lv_istore_n (pc := 83) (lv' := [(1, .int (1 : Int32)), (4, .int (v2 + v3)), (0, .ref (a0 5)), (2, .int x2), (3, .int x3)]) hx hb dX0_reachWants_83 rfl hl (by decide) rfl (fun ls hl => ?_)
  refine lv_iinc (pc := 84) (v := (x3 + (1 : Int32))) (lv' := [(3, .int (x3 + (1 : Int32))), (1, .int (1 : Int32)), (4, .int (v2 + v3)), (0, .ref (a0 5)), (2, .int x2)]) hx hb dX0_reachWants_84 hl (k := 4) rfl rfl (by decide) rfl (fun ls hl => ?_)
  refine lv_goto (pc := 87) (tgt := 28) hx hb dX0_reachWants_87 (by decide) ?_
  exact ih ((1 : Int32), (x3 + (1 : Int32)), w6) hf H locs ls hZ (lv_sub hl [3, 1, 4, 0] rfl)
set_option maxHeartbeats 4000000 in
set_option maxRecDepth 100000 in
theorem wX0_reachWants_4 {p : Program} {l : Launch} {e : Env} {s : State} {m : MethodId} {args : Array Value} {below : List Frame} {meth : Method} {c : Code} {Q : State → Prop} {A : Nat → Prop} {H0 : Heap} {D : va_G} {cy : Nat → ClassId} {a0 aT aP : Nat → Nat} {res : Int32 × zS} {K : Int32 → Int32 → zS → Option (Int32 × zS)} (N : Nat)  (hC : zC p s m args c RX0 cX0_reachWants 5 D cy) (hA : ∀ q, H0.size ≤ q → A q) (hE : (res.1 = 0 ∨ res.1 = 1) → zEnd p l e rmX0_reachWants s m args below meth c Q D cy shX 38 a0 A H0 res.2 (fun u => u = (aT, aP)) cX0_reachWants .ireturn [.int res.1]) (n : Nat) (x1 : Int32) (x2 : Int32) (w0 : zS) {H : Heap} {locs : List Loc} {ls : Array Slot} (hf : lX0_reachWants_4 N  K n (x1, x2, w0) = some res) (hZ : zW D cy shX 38 a0 aT aP A H0 w0 H locs) (hl : lv_has ls 5 [(0, .ref (a0 5)), (1, .int x1), (2, .int x2)]) (hK : ∀ x1 : Int32, ∀ x2 : Int32, ∀ (w0 : zS) (H : Heap) (locs : List Loc) (ls : Array Slot), K x1 x2 w0 = some res → zW D cy shX 38 a0 aT aP A H0 w0 H locs → lv_has ls 5 [(0, .ref (a0 5)), (1, .int x1), (2, .int x2)] → W p l e rmX0_reachWants s m args below meth c H locs 0 0 Q (F0 m 96 ls [])) : W p l e rmX0_reachWants s m args below meth c H locs 0 0 Q (F0 m 4 ls []) := by
  have hx := hC.1.1
  have hb := hC.1.2.1
  have hf2 : zlp (fun rc s1 => bX0_reachWants_4 N  K rc s1.1 s1.2.1 s1.2.2) n (x1, x2, w0) = some res := hf
  have key := zloop (S := Int32 × Int32 × zS) (α := Int32 × zS) (b := fun rc s1 => bX0_reachWants_4 N  K rc s1.1 s1.2.1 s1.2.2) (r := res) (Wd := fun s1 => ∀ (H : Heap) (locs : List Loc) (ls : Array Slot), zW D cy shX 38 a0 aT aP A H0 s1.2.2 H locs → lv_has ls 5 [(0, .ref (a0 5)), (1, .int s1.1), (2, .int s1.2.1)] → W p l e rmX0_reachWants s m args below meth c H locs 0 0 Q (F0 m 4 ls []))
  refine key ?_ n (x1, x2, w0) hf2 H locs ls hZ hl
  clear hf hf2 hZ hl key
  rintro rc ⟨x1, x2, w0⟩ ih hf H locs ls hZ hl
  have hf : bX0_reachWants_4 N  K rc x1 x2 w0 = some res := hf
  have hl : lv_has ls 5 [(0, .ref (a0 5)), (1, .int x1), (2, .int x2)] := hl
  unfold bX0_reachWants_4 at hf
  refine lv_iload_n (pc := 4) hx hb dX0_reachWants_4 rfl (lv_at hl 2 rfl) ?_
  refine lv_aload_n (pc := 5) hx hb dX0_reachWants_5 rfl (lv_at hl 0 rfl) ?_
  refine gfX0_48 (pc := 6) hC hZ dX0_reachWants_6 ?_
  refine z_ige (pc := 9) (tgt := 96) hC hf dX0_reachWants_9 (by decide) (fun hf => ?_) (fun hf => ?_)
  · exact hK x1 x2 w0 H locs ls hf hZ (lv_sub hl [0, 1, 2] rfl)
  refine lv_aload_n (pc := 12) hx hb dX0_reachWants_12 rfl (lv_at hl 0 rfl) ?_
  refine gfX0_30 (pc := 13) hC hZ dX0_reachWants_13 ?_
  refine lv_iload_n (pc := 16) hx hb dX0_reachWants_16 rfl (lv_at hl 2 rfl) ?_
  refine z_iald (pc := 17) hC hZ (by decide) rfl hf dX0_reachWants_17 (fun v1 hf => ?_)
  refine lv_ldc (pc := 18) (v := (1000000000 : Int32)) hx hb hC.1.2.2.2.1 (hC.1.2.2.2.2 _ kcX0_75) dX0_reachWants_18 ?_
  refine z_ilt (pc := 20) (tgt := 26) hC hf dX0_reachWants_20 (by decide) (fun hf => ?_) (fun hf => ?_)
  · refine lv_iconst (pc := 26) (v := (0 : Int32)) hx hb dX0_reachWants_26 (by decide) ?_
    refine lv_istore_n (pc := 27) (lv' := [(3, .int (0 : Int32)), (0, .ref (a0 5)), (1, .int x1), (2, .int x2)]) hx hb dX0_reachWants_27 rfl hl (by decide) rfl (fun ls hl => ?_)
    refine wX0_reachWants_28 (res := res) N x2 hC hA hE N _ _ _ hf hZ (lv_sub hl [1, 2, 3, 0] rfl) (fun y7 y8 w9 H locs ls hf hZ hl => ?_)
    refine lv_iinc (pc := 90) (v := (x2 + (1 : Int32))) (lv' := [(2, .int (x2 + (1 : Int32))), (0, .ref (a0 5)), (1, .int y7), (3, .int y8)]) hx hb dX0_reachWants_90 hl (k := 2) rfl rfl (by decide) rfl (fun ls hl => ?_)
    refine lv_goto (pc := 93) (tgt := 4) hx hb dX0_reachWants_93 (by decide) ?_
    exact ih (y7, (x2 + (1 : Int32)), w9) hf H locs ls hZ (lv_sub hl [1, 2, 0] rfl)
  refine lv_goto (pc := 23) (tgt := 90) hx hb dX0_reachWants_23 (by decide) ?_
  refine lv_iinc (pc := 90) (v := (x2 + (1 : Int32))) (lv' := [(2, .int (x2 + (1 : Int32))), (0, .ref (a0 5)), (1, .int x1)]) hx hb dX0_reachWants_90 hl (k := 2) rfl rfl (by decide) rfl (fun ls hl => ?_)
  refine lv_goto (pc := 93) (tgt := 4) hx hb dX0_reachWants_93 (by decide) ?_
  exact ih (x1, (x2 + (1 : Int32)), w0) hf H locs ls hZ (lv_sub hl [1, 2, 0] rfl)
set_option maxHeartbeats 4000000 in
set_option maxRecDepth 100000 in
theorem cX0_reachWants_ok (l : Launch) (D : va_G) (cy : Nat → ClassId) (a0 aT aP : Nat → Nat) (N : Nat)  (w0 : zS) (rv : Int32) (τ : zS) (hf : fX0_reachWants N  w0 = some (rv, τ)) : zMi l yX0_reachWants cX0_reachWants 5 (some .boolean) rmX0_reachWants D cy shX 38 a0 aT aP w0 [.ref (a0 5)] rv τ (fun u => u = (aT, aP)) := by
  refine zmet_z (by decide +kernel) rfl (Nat.le_of_ble_eq_true rfl) ?_
  intro p e s m below meth c A Q ls hC hA hZ hl hE
  have hx := hC.1.1
  have hb := hC.1.2.1
  have hl : lv_has ls 5 [(0, .ref (a0 5))] := hl
  unfold fX0_reachWants at hf
  refine lv_iconst (pc := 0) (v := (0 : Int32)) hx hb dX0_reachWants_0 (by decide) ?_
  refine lv_istore_n (pc := 1) (lv' := [(1, .int (0 : Int32)), (0, .ref (a0 5))]) hx hb dX0_reachWants_1 rfl hl (by decide) rfl (fun ls hl => ?_)
  refine lv_iconst (pc := 2) (v := (0 : Int32)) hx hb dX0_reachWants_2 (by decide) ?_
  refine lv_istore_n (pc := 3) (lv' := [(2, .int (0 : Int32)), (1, .int (0 : Int32)), (0, .ref (a0 5))]) hx hb dX0_reachWants_3 rfl hl (by decide) rfl (fun ls hl => ?_)
  refine wX0_reachWants_4 (res := (rv, τ)) N  hC hA hE N _ _ _ hf hZ (lv_sub hl [2, 1, 0] rfl) (fun y10 y11 w12 H locs ls hf hZ hl => ?_)
  refine lv_iload_n (pc := 96) hx hb dX0_reachWants_96 rfl (lv_at hl 1 rfl) ?_
  by_cases hz : y10 = 0 ∨ y10 = 1
  · rw [if_pos hz] at hf
    obtain ⟨rfl, rfl⟩ := zinj hf
    exact hE hz _ _ _ _ _ _ rfl hZ dX0_reachWants_97
  rw [if_neg hz] at hf
  cases hf
section ZK
variable {p : Program} {l : Launch} {e : Env} {R : Room} {s : State} {m : MethodId} {args : Array Value} {below : List Frame} {meth : Method} {c : Code} {H : Heap} {locs : List Loc} {cells slots : Nat} {Q : State → Prop}
variable {pc : Nat} {ls : Array Slot} {rest : List Value} {A : Nat → Prop} {H0 : Heap} {D : va_G} {cy : Nat → ClassId} {a0 aT aP : Nat → Nat} {σ : zS} {cc : ByteArray} {nL : Nat} {α : Type} {res : α}
theorem vkX0_76 : zVk RX0 76 yX0_reachWants cX0_reachWants 5 (some .boolean) 0 := ⟨by decide +kernel, by decide +kernel, by decide +kernel, by decide +kernel, by decide +kernel, by decide +kernel⟩
theorem kX0_76 (hC : zC p s m args c RX0 cc nL D cy) (hA : ∀ q, H0.size ≤ q → A q) (hZ : zW D cy shX 38 a0 aT aP A H0 σ H locs) {N : Nat}  {k : Int32 → zS → Option α} (hf : zbi (fX0_reachWants N  σ) k = some res) (hsz : ls.size = nL) (hW : (rest.map fun v => v.category).sum ≤ 8) (hR : rmX0_reachWants.frames + 1 ≤ R.frames ∧ 8 + (5 + 11) + rmX0_reachWants.locals ≤ R.locals) (hcs : cells ≤ R.cells ∧ slots ≤ R.slots) (hdg : decode cc pc = .ok (.invokevirtual 76, 3)) (kk : ∀ (v : Int32) (τ : zS) (H1 : Heap) (locs1 : List Loc), k v τ = some res → zW D cy shX 38 a0 aT aP A H0 τ H1 locs1 → W p l e R s m args below meth c H1 locs1 cells slots Q (F0 m (pc + 3) ls (.int v :: rest))) : W p l e R s m args below meth c H locs cells slots Q (F0 m pc ls (.ref (a0 5) :: rest)) := by
  cases hq : fX0_reachWants N  σ with
  | none => rw [hq] at hf; cases hf
  | some q =>
    rw [hq] at hf
    exact zcalli hA hZ (zrun hC hZ vkX0_76 rfl (zw0 (by decide)) (cX0_reachWants_ok l D cy a0 aT aP N  σ q.1 q.2 hq H.size) hR rfl hsz rfl hW hcs hdg) (fun u H1 locs1 hU hZ1 => by subst hU; exact kk q.1 q.2 H1 locs1 hf hZ1)
end ZK
