set_option maxHeartbeats 4000000 in
set_option maxRecDepth 100000 in
theorem cX7_owe_ok (l : Launch) (D : va_G) (cy : Nat → ClassId) (a0 aT aP : Nat → Nat) (N : Nat) (x1 : Int32) (x2 : Int32) (x3 : Int32) (x4 : Int32) (w0 : zS) (rv : Int32) (τ : zS) (hf : fX7_owe N x1 x2 x3 x4 w0 = some (rv, τ)) : zMi l yX7_owe cX7_owe 5 (some .int) rmX7_owe D cy shX 38 a0 aT aP w0 [.ref (a0 0), .int x1, .int x2, .int x3, .int x4] rv τ (fun u => u = (aT, aP)) := by
  refine zmet_i (by decide +kernel) (Or.inl rfl) (Nat.le_of_ble_eq_true rfl) ?_
  intro p e s m below meth c A Q ls hC hA hZ hl hE
  have hx := hC.1.1
  have hb := hC.1.2.1
  have hl : lv_has ls 5 [(0, .ref (a0 0)), (1, .int x1), (2, .int x2), (3, .int x3), (4, .int x4)] := hl
  unfold fX7_owe at hf
  refine lv_aload_n (pc := 0) hx hb dX7_owe_0 rfl (lv_at hl 0 rfl) ?_
  refine lv_iload_n (pc := 1) hx hb dX7_owe_1 rfl (lv_at hl 1 rfl) ?_
  refine lv_iload_n (pc := 2) hx hb dX7_owe_2 rfl (lv_at hl 2 rfl) ?_
  refine kX7_99 (pc := 3) hC hA hZ hf hl.1 (Nat.le_of_ble_eq_true rfl) ⟨Nat.le_of_ble_eq_true rfl, Nat.le_of_ble_eq_true rfl⟩ ⟨Nat.le_refl _, Nat.le_refl _⟩ dX7_owe_3 (fun v2 w1 H locs hf hZ => ?_)
  refine z_eq0 (pc := 6) (tgt := 17) hC hf dX7_owe_6 (by decide) (fun hf => ?_) (fun hf => ?_)
  · refine lv_aload_n (pc := 17) hx hb dX7_owe_17 rfl (lv_at hl 0 rfl) ?_
    refine lv_iconst (pc := 18) (v := (-1 : Int32)) hx hb dX7_owe_18 (by decide) ?_
    refine kX7_73 (pc := 19) hC hA hZ hf hl.1 (Nat.le_of_ble_eq_true rfl) ⟨Nat.le_of_ble_eq_true rfl, Nat.le_of_ble_eq_true rfl⟩ ⟨Nat.le_refl _, Nat.le_refl _⟩ dX7_owe_19 (fun v4 w3 H locs hf hZ => ?_)
    obtain ⟨rfl, rfl⟩ := zinj hf
    exact hE _ _ _ _ _ _ rfl hZ dX7_owe_22
  refine lv_aload_n (pc := 9) hx hb dX7_owe_9 rfl (lv_at hl 0 rfl) ?_
  refine lv_iload_n (pc := 10) hx hb dX7_owe_10 rfl (lv_at hl 3 rfl) ?_
  refine kX7_81 (pc := 11) hC hA hZ hf hl.1 (Nat.le_of_ble_eq_true rfl) ⟨Nat.le_of_ble_eq_true rfl, Nat.le_of_ble_eq_true rfl⟩ ⟨Nat.le_refl _, Nat.le_refl _⟩ dX7_owe_11 (fun v6 w5 H locs hf hZ => ?_)
  refine z_ne0 (pc := 14) (tgt := 23) hC hf dX7_owe_14 (by decide) (fun hf => ?_) (fun hf => ?_)
  · refine lv_aload_n (pc := 17) hx hb dX7_owe_17 rfl (lv_at hl 0 rfl) ?_
    refine lv_iconst (pc := 18) (v := (-1 : Int32)) hx hb dX7_owe_18 (by decide) ?_
    refine kX7_73 (pc := 19) hC hA hZ hf hl.1 (Nat.le_of_ble_eq_true rfl) ⟨Nat.le_of_ble_eq_true rfl, Nat.le_of_ble_eq_true rfl⟩ ⟨Nat.le_refl _, Nat.le_refl _⟩ dX7_owe_19 (fun v8 w7 H locs hf hZ => ?_)
    obtain ⟨rfl, rfl⟩ := zinj hf
    exact hE _ _ _ _ _ _ rfl hZ dX7_owe_22
  refine lv_iload (pc := 23) hx hb dX7_owe_23 (lv_at hl 4 rfl) ?_
  refine lv_iconst (pc := 25) (v := (1 : Int32)) hx hb dX7_owe_25 (by decide) ?_
  refine z_ige (pc := 26) (tgt := 36) hC hf dX7_owe_26 (by decide) (fun hf => ?_) (fun hf => ?_)
  · refine lv_iload (pc := 36) hx hb dX7_owe_36 (lv_at hl 4 rfl) ?_
    refine lv_ldc (pc := 38) (v := (100000 : Int32)) hx hb hC.1.2.2.2.1 (hC.1.2.2.2.2 _ kcX7_152) dX7_owe_38 ?_
    refine lv_aload_n (pc := 40) hx hb dX7_owe_40 rfl (lv_at hl 0 rfl) ?_
    refine gfX7_49 (pc := 41) hC hZ dX7_owe_41 ?_
    refine lv_iload_n (pc := 44) hx hb dX7_owe_44 rfl (lv_at hl 3 rfl) ?_
    refine lv_iload_n (pc := 45) hx hb dX7_owe_45 rfl (lv_at hl 1 rfl) ?_
    refine lv_iload_n (pc := 46) hx hb dX7_owe_46 rfl (lv_at hl 2 rfl) ?_
    refine kX7_204 (pc := 47) hC hA hZ hf hl.1 (Nat.le_of_ble_eq_true rfl) ⟨Nat.le_of_ble_eq_true rfl, Nat.le_of_ble_eq_true rfl⟩ ⟨Nat.le_refl _, Nat.le_refl _⟩ dX7_owe_47 (fun v10 w9 H locs hf hZ => ?_)
    refine lv_isub (pc := 50) hx hb dX7_owe_50 ?_
    refine z_ile (pc := 51) (tgt := 61) hC hf dX7_owe_51 (by decide) (fun hf => ?_) (fun hf => ?_)
    · refine lv_aload_n (pc := 61) hx hb dX7_owe_61 rfl (lv_at hl 0 rfl) ?_
      refine gfX7_49 (pc := 62) hC hZ dX7_owe_62 ?_
      refine lv_iload_n (pc := 65) hx hb dX7_owe_65 rfl (lv_at hl 3 rfl) ?_
      refine lv_iload_n (pc := 66) hx hb dX7_owe_66 rfl (lv_at hl 1 rfl) ?_
      refine lv_iload_n (pc := 67) hx hb dX7_owe_67 rfl (lv_at hl 2 rfl) ?_
      refine lv_iload (pc := 68) hx hb dX7_owe_68 (lv_at hl 4 rfl) ?_
      refine kX7_207 (pc := 70) hC hA hZ hf hl.1 (Nat.le_of_ble_eq_true rfl) ⟨Nat.le_of_ble_eq_true rfl, Nat.le_of_ble_eq_true rfl⟩ ⟨Nat.le_refl _, Nat.le_refl _⟩ dX7_owe_70 (fun w11 H locs hf hZ => ?_)
      refine lv_aload_n (pc := 73) hx hb dX7_owe_73 rfl (lv_at hl 0 rfl) ?_
      refine gfX7_49 (pc := 74) hC hZ dX7_owe_74 ?_
      refine lv_iload_n (pc := 77) hx hb dX7_owe_77 rfl (lv_at hl 3 rfl) ?_
      refine lv_iload_n (pc := 78) hx hb dX7_owe_78 rfl (lv_at hl 1 rfl) ?_
      refine lv_iload_n (pc := 79) hx hb dX7_owe_79 rfl (lv_at hl 2 rfl) ?_
      refine kX7_204 (pc := 80) hC hA hZ hf hl.1 (Nat.le_of_ble_eq_true rfl) ⟨Nat.le_of_ble_eq_true rfl, Nat.le_of_ble_eq_true rfl⟩ ⟨Nat.le_refl _, Nat.le_refl _⟩ dX7_owe_80 (fun v13 w12 H locs hf hZ => ?_)
      obtain ⟨rfl, rfl⟩ := zinj hf
      exact hE _ _ _ _ _ _ rfl hZ dX7_owe_83
    refine lv_aload_n (pc := 54) hx hb dX7_owe_54 rfl (lv_at hl 0 rfl) ?_
    refine lv_bipush (pc := 55) (v := (-6 : Int32)) hx hb dX7_owe_55 (by decide) ?_
    refine kX7_73 (pc := 57) hC hA hZ hf hl.1 (Nat.le_of_ble_eq_true rfl) ⟨Nat.le_of_ble_eq_true rfl, Nat.le_of_ble_eq_true rfl⟩ ⟨Nat.le_refl _, Nat.le_refl _⟩ dX7_owe_57 (fun v15 w14 H locs hf hZ => ?_)
    obtain ⟨rfl, rfl⟩ := zinj hf
    exact hE _ _ _ _ _ _ rfl hZ dX7_owe_60
  refine lv_aload_n (pc := 29) hx hb dX7_owe_29 rfl (lv_at hl 0 rfl) ?_
  refine lv_bipush (pc := 30) (v := (-4 : Int32)) hx hb dX7_owe_30 (by decide) ?_
  refine kX7_73 (pc := 32) hC hA hZ hf hl.1 (Nat.le_of_ble_eq_true rfl) ⟨Nat.le_of_ble_eq_true rfl, Nat.le_of_ble_eq_true rfl⟩ ⟨Nat.le_refl _, Nat.le_refl _⟩ dX7_owe_32 (fun v17 w16 H locs hf hZ => ?_)
  obtain ⟨rfl, rfl⟩ := zinj hf
  exact hE _ _ _ _ _ _ rfl hZ dX7_owe_35
set_option maxHeartbeats 4000000 in
set_option maxRecDepth 100000 in
theorem cX7_owes_ok (l : Launch) (D : va_G) (cy : Nat → ClassId) (a0 aT aP : Nat → Nat) (N : Nat) (x1 : Int32) (x2 : Int32) (x3 : Int32) (w0 : zS) (rv : Int32) (τ : zS) (hf : fX7_owes N x1 x2 x3 w0 = some (rv, τ)) : zMi l yX7_owes cX7_owes 4 (some .int) rmX7_owes D cy shX 38 a0 aT aP w0 [.ref (a0 0), .int x1, .int x2, .int x3] rv τ (fun u => u = (aT, aP)) := by
  refine zmet_i (by decide +kernel) (Or.inl rfl) (Nat.le_of_ble_eq_true rfl) ?_
  intro p e s m below meth c A Q ls hC hA hZ hl hE
  have hx := hC.1.1
  have hb := hC.1.2.1
  have hl : lv_has ls 4 [(0, .ref (a0 0)), (1, .int x1), (2, .int x2), (3, .int x3)] := hl
  unfold fX7_owes at hf
  refine lv_aload_n (pc := 0) hx hb dX7_owes_0 rfl (lv_at hl 0 rfl) ?_
  refine lv_iload_n (pc := 1) hx hb dX7_owes_1 rfl (lv_at hl 1 rfl) ?_
  refine kX7_77 (pc := 2) hC hA hZ hf hl.1 (Nat.le_of_ble_eq_true rfl) ⟨Nat.le_of_ble_eq_true rfl, Nat.le_of_ble_eq_true rfl⟩ ⟨Nat.le_refl _, Nat.le_refl _⟩ dX7_owes_2 (fun v2 w1 H locs hf hZ => ?_)
  refine z_eq0 (pc := 5) (tgt := 24) hC hf dX7_owes_5 (by decide) (fun hf => ?_) (fun hf => ?_)
  · refine lv_aload_n (pc := 24) hx hb dX7_owes_24 rfl (lv_at hl 0 rfl) ?_
    refine lv_iconst (pc := 25) (v := (-1 : Int32)) hx hb dX7_owes_25 (by decide) ?_
    refine kX7_73 (pc := 26) hC hA hZ hf hl.1 (Nat.le_of_ble_eq_true rfl) ⟨Nat.le_of_ble_eq_true rfl, Nat.le_of_ble_eq_true rfl⟩ ⟨Nat.le_refl _, Nat.le_refl _⟩ dX7_owes_26 (fun v4 w3 H locs hf hZ => ?_)
    obtain ⟨rfl, rfl⟩ := zinj hf
    exact hE _ _ _ _ _ _ rfl hZ dX7_owes_29
  refine lv_aload_n (pc := 8) hx hb dX7_owes_8 rfl (lv_at hl 0 rfl) ?_
  refine lv_iload_n (pc := 9) hx hb dX7_owes_9 rfl (lv_at hl 2 rfl) ?_
  refine kX7_77 (pc := 10) hC hA hZ hf hl.1 (Nat.le_of_ble_eq_true rfl) ⟨Nat.le_of_ble_eq_true rfl, Nat.le_of_ble_eq_true rfl⟩ ⟨Nat.le_refl _, Nat.le_refl _⟩ dX7_owes_10 (fun v6 w5 H locs hf hZ => ?_)
  refine z_eq0 (pc := 13) (tgt := 24) hC hf dX7_owes_13 (by decide) (fun hf => ?_) (fun hf => ?_)
  · refine lv_aload_n (pc := 24) hx hb dX7_owes_24 rfl (lv_at hl 0 rfl) ?_
    refine lv_iconst (pc := 25) (v := (-1 : Int32)) hx hb dX7_owes_25 (by decide) ?_
    refine kX7_73 (pc := 26) hC hA hZ hf hl.1 (Nat.le_of_ble_eq_true rfl) ⟨Nat.le_of_ble_eq_true rfl, Nat.le_of_ble_eq_true rfl⟩ ⟨Nat.le_refl _, Nat.le_refl _⟩ dX7_owes_26 (fun v8 w7 H locs hf hZ => ?_)
    obtain ⟨rfl, rfl⟩ := zinj hf
    exact hE _ _ _ _ _ _ rfl hZ dX7_owes_29
  refine lv_aload_n (pc := 16) hx hb dX7_owes_16 rfl (lv_at hl 0 rfl) ?_
  refine lv_iload_n (pc := 17) hx hb dX7_owes_17 rfl (lv_at hl 3 rfl) ?_
  refine kX7_81 (pc := 18) hC hA hZ hf hl.1 (Nat.le_of_ble_eq_true rfl) ⟨Nat.le_of_ble_eq_true rfl, Nat.le_of_ble_eq_true rfl⟩ ⟨Nat.le_refl _, Nat.le_refl _⟩ dX7_owes_18 (fun v10 w9 H locs hf hZ => ?_)
  refine z_ne0 (pc := 21) (tgt := 30) hC hf dX7_owes_21 (by decide) (fun hf => ?_) (fun hf => ?_)
  · refine lv_aload_n (pc := 24) hx hb dX7_owes_24 rfl (lv_at hl 0 rfl) ?_
    refine lv_iconst (pc := 25) (v := (-1 : Int32)) hx hb dX7_owes_25 (by decide) ?_
    refine kX7_73 (pc := 26) hC hA hZ hf hl.1 (Nat.le_of_ble_eq_true rfl) ⟨Nat.le_of_ble_eq_true rfl, Nat.le_of_ble_eq_true rfl⟩ ⟨Nat.le_refl _, Nat.le_refl _⟩ dX7_owes_26 (fun v12 w11 H locs hf hZ => ?_)
    obtain ⟨rfl, rfl⟩ := zinj hf
    exact hE _ _ _ _ _ _ rfl hZ dX7_owes_29
  refine lv_aload_n (pc := 30) hx hb dX7_owes_30 rfl (lv_at hl 0 rfl) ?_
  refine gfX7_49 (pc := 31) hC hZ dX7_owes_31 ?_
  refine lv_iload_n (pc := 34) hx hb dX7_owes_34 rfl (lv_at hl 3 rfl) ?_
  refine lv_iload_n (pc := 35) hx hb dX7_owes_35 rfl (lv_at hl 1 rfl) ?_
  refine lv_iload_n (pc := 36) hx hb dX7_owes_36 rfl (lv_at hl 2 rfl) ?_
  refine kX7_204 (pc := 37) hC hA hZ hf hl.1 (Nat.le_of_ble_eq_true rfl) ⟨Nat.le_of_ble_eq_true rfl, Nat.le_of_ble_eq_true rfl⟩ ⟨Nat.le_refl _, Nat.le_refl _⟩ dX7_owes_37 (fun v14 w13 H locs hf hZ => ?_)
  obtain ⟨rfl, rfl⟩ := zinj hf
  exact hE _ _ _ _ _ _ rfl hZ dX7_owes_40
set_option maxHeartbeats 4000000 in
set_option maxRecDepth 100000 in
theorem wJ7_fill_53178_c26_5 {p : Program} {l : Launch} {e : Env} {s : State} {m : MethodId} {args : Array Value} {below : List Frame} {meth : Method} {c : Code} {Q : State → Prop} {A : Nat → Prop} {H0 : Heap} {D : va_G} {cy : Nat → ClassId} {a0 aT aP : Nat → Nat} {res : zS} {K : Int32 → zS → Option (zS)} (N : Nat) (x1 : Int32) (x3 : Int32) (hC : zC p s m args c RJ7 cJ7_fill_53178 4 D cy) (hA : ∀ q, H0.size ≤ q → A q) (hE : zEnd p l e rmJ7_fill_53178_c26 s m args below meth c Q D cy shX 38 a0 A H0 res (fun u => u = (aT, aP)) cJ7_fill_53178 .return_ []) (n : Nat) (x2 : Int32) (w0 : zS) {H : Heap} {locs : List Loc} {ls : Array Slot} (hf : lJ7_fill_53178_c26_5 N x1 x3 K n (x2, w0) = some res) (hZ : zW D cy shX 38 a0 aT aP A H0 w0 H locs) (hl : lv_has ls 4 [(0, .ref (a0 26)), (1, .int x1), (2, .int x2), (3, .int x3)]) (hK : ∀ x2 : Int32, ∀ (w0 : zS) (H : Heap) (locs : List Loc) (ls : Array Slot), K x2 w0 = some res → zW D cy shX 38 a0 aT aP A H0 w0 H locs → lv_has ls 4 [(0, .ref (a0 26)), (1, .int x1), (2, .int x2), (3, .int x3)] → W p l e rmJ7_fill_53178_c26 s m args below meth c H locs 0 0 Q (F0 m 20 ls [])) : W p l e rmJ7_fill_53178_c26 s m args below meth c H locs 0 0 Q (F0 m 5 ls []) := by
  have hx := hC.1.1
  have hb := hC.1.2.1
  have hf2 : zlp (fun rc s1 => bJ7_fill_53178_c26_5 N x1 x3 K rc s1.1 s1.2) n (x2, w0) = some res := hf
  have key := zloop (S := Int32 × zS) (α := zS) (b := fun rc s1 => bJ7_fill_53178_c26_5 N x1 x3 K rc s1.1 s1.2) (r := res) (Wd := fun s1 => ∀ (H : Heap) (locs : List Loc) (ls : Array Slot), zW D cy shX 38 a0 aT aP A H0 s1.2 H locs → lv_has ls 4 [(0, .ref (a0 26)), (1, .int x1), (2, .int s1.1), (3, .int x3)] → W p l e rmJ7_fill_53178_c26 s m args below meth c H locs 0 0 Q (F0 m 5 ls []))
  refine key ?_ n (x2, w0) hf2 H locs ls hZ hl
  clear hf hf2 hZ hl key
  rintro rc ⟨x2, w0⟩ ih hf H locs ls hZ hl
  have hf : bJ7_fill_53178_c26_5 N x1 x3 K rc x2 w0 = some res := hf
  have hl : lv_has ls 4 [(0, .ref (a0 26)), (1, .int x1), (2, .int x2), (3, .int x3)] := hl
  unfold bJ7_fill_53178_c26_5 at hf
  refine lv_iload_n (pc := 5) hx hb dJ7_fill_53178_5 rfl (lv_at hl 2 rfl) ?_
  refine lv_iload_n (pc := 6) hx hb dJ7_fill_53178_6 rfl (lv_at hl 3 rfl) ?_
  refine z_ige (pc := 7) (tgt := 20) hC hf dJ7_fill_53178_7 (by decide) (fun hf => ?_) (fun hf => ?_)
  · exact hK x2 w0 H locs ls hf hZ (lv_sub hl [0, 1, 2, 3] rfl)
  refine lv_aload_n (pc := 10) hx hb dJ7_fill_53178_10 rfl (lv_at hl 0 rfl) ?_
  refine lv_iload_n (pc := 11) hx hb dJ7_fill_53178_11 rfl (lv_at hl 2 rfl) ?_
  refine lv_iload_n (pc := 12) hx hb dJ7_fill_53178_12 rfl (lv_at hl 1 rfl) ?_
  refine z_iast (pc := 13) hC hZ (by decide) rfl hf dJ7_fill_53178_13 (fun w1 H locs hf hZ => ?_)
  refine lv_iinc (pc := 14) (v := (x2 + (1 : Int32))) (lv' := [(2, .int (x2 + (1 : Int32))), (0, .ref (a0 26)), (1, .int x1), (3, .int x3)]) hx hb dJ7_fill_53178_14 hl (k := 2) rfl rfl (by decide) rfl (fun ls hl => ?_)
  refine lv_goto (pc := 17) (tgt := 5) hx hb dJ7_fill_53178_17 (by decide) ?_
  exact ih ((x2 + (1 : Int32)), w1) hf H locs ls hZ (lv_sub hl [1, 2, 0, 3] rfl)
set_option maxHeartbeats 4000000 in
set_option maxRecDepth 100000 in
theorem cJ7_fill_53178_c26_ok (l : Launch) (D : va_G) (cy : Nat → ClassId) (a0 aT aP : Nat → Nat) (N : Nat) (x1 : Int32) (w0 : zS) (τ : zS) (hf : fJ7_fill_53178_c26 N x1 w0 = some τ) : zMv l yJ7_fill_53178 cJ7_fill_53178 4 none rmJ7_fill_53178_c26 D cy shX 38 a0 aT aP w0 [.ref (a0 26), .int x1] τ (fun u => u = (aT, aP)) := by
  refine zmet_v (by decide +kernel) rfl (Nat.le_of_ble_eq_true rfl) ?_
  intro p e s m below meth c A Q ls hC hA hZ hl hE
  have hx := hC.1.1
  have hb := hC.1.2.1
  have hl : lv_has ls 4 [(0, .ref (a0 26)), (1, .int x1)] := hl
  unfold fJ7_fill_53178_c26 at hf
  refine lv_iconst (pc := 0) (v := (0 : Int32)) hx hb dJ7_fill_53178_0 (by decide) ?_
  refine lv_istore_n (pc := 1) (lv' := [(2, .int (0 : Int32)), (0, .ref (a0 26)), (1, .int x1)]) hx hb dJ7_fill_53178_1 rfl hl (by decide) rfl (fun ls hl => ?_)
  refine lv_aload_n (pc := 2) hx hb dJ7_fill_53178_2 rfl (lv_at hl 1 rfl) ?_
  refine z_alen (pc := 3) (v := (10 : Int32)) hC hZ (by decide) rfl rfl (by decide) dJ7_fill_53178_3 ?_
  refine lv_istore_n (pc := 4) (lv' := [(3, .int (10 : Int32)), (2, .int (0 : Int32)), (0, .ref (a0 26)), (1, .int x1)]) hx hb dJ7_fill_53178_4 rfl hl (by decide) rfl (fun ls hl => ?_)
  refine wJ7_fill_53178_c26_5 (res := τ) N x1 (10 : Int32) hC hA hE N _ _ hf hZ (lv_sub hl [2, 3, 1, 0] rfl) (fun y2 w3 H locs ls hf hZ hl => ?_)
  obtain rfl := Option.some.inj hf
  exact hE _ _ _ _ _ _ rfl hZ dJ7_fill_53178_20
section ZK
variable {p : Program} {l : Launch} {e : Env} {R : Room} {s : State} {m : MethodId} {args : Array Value} {below : List Frame} {meth : Method} {c : Code} {H : Heap} {locs : List Loc} {cells slots : Nat} {Q : State → Prop}
variable {pc : Nat} {ls : Array Slot} {rest : List Value} {A : Nat → Prop} {H0 : Heap} {D : va_G} {cy : Nat → ClassId} {a0 aT aP : Nat → Nat} {σ : zS} {cc : ByteArray} {nL : Nat} {α : Type} {res : α}
theorem vkX1_47 : zSk RX1 47 yJ7_fill_53178 cJ7_fill_53178 4 none 2 := ⟨by decide +kernel, by decide +kernel, by decide +kernel, by decide +kernel, by decide +kernel⟩
theorem kX1_47_J7_fill_53178_c26 (hC : zC p s m args c RX1 cc nL D cy) (hA : ∀ q, H0.size ≤ q → A q) (hZ : zW D cy shX 38 a0 aT aP A H0 σ H locs) {N : Nat} {x1 : Int32} {k : zS → Option α} (hf : zbv (fJ7_fill_53178_c26 N x1 σ) k = some res) (hsz : ls.size = nL) (hW : (rest.map fun v => v.category).sum ≤ 8) (hR : rmJ7_fill_53178_c26.frames + 1 ≤ R.frames ∧ 8 + (4 + 11) + rmJ7_fill_53178_c26.locals ≤ R.locals) (hcs : cells ≤ R.cells ∧ slots ≤ R.slots) (hdg : decode cc pc = .ok (.invokestatic 47, 3)) (kk : ∀ (τ : zS) (H1 : Heap) (locs1 : List Loc), k τ = some res → zW D cy shX 38 a0 aT aP A H0 τ H1 locs1 → W p l e R s m args below meth c H1 locs1 cells slots Q (F0 m (pc + 3) ls (rest))) : W p l e R s m args below meth c H locs cells slots Q (F0 m pc ls (.int x1 :: .ref (a0 26) :: rest)) := by
  cases hq : fJ7_fill_53178_c26 N x1 σ with
  | none => rw [hq] at hf; cases hf
  | some q =>
    rw [hq] at hf
    exact zcallv hA hZ (zrunS hC hZ vkX1_47 (cJ7_fill_53178_c26_ok l D cy a0 aT aP N x1 σ q hq H.size) hR rfl hsz rfl hW hcs hdg) (fun u H1 locs1 hU hZ1 => by subst hU; exact kk q H1 locs1 hf hZ1)
end ZK
set_option maxHeartbeats 4000000 in
set_option maxRecDepth 100000 in
theorem wX1_spreadBack_47 {p : Program} {l : Launch} {e : Env} {s : State} {m : MethodId} {args : Array Value} {below : List Frame} {meth : Method} {c : Code} {Q : State → Prop} {A : Nat → Prop} {H0 : Heap} {D : va_G} {cy : Nat → ClassId} {a0 aT aP : Nat → Nat} {res : zS} {K : Int32 → Int32 → zS → Option (zS)} (N : Nat) (x1 : Int32) (x2 : Int32) (x4 : Int32) (x5 : Int32) (hC : zC p s m args c RX1 cX1_spreadBack 7 D cy) (hA : ∀ q, H0.size ≤ q → A q) (hE : zEnd p l e rmX1_spreadBack s m args below meth c Q D cy shX 38 a0 A H0 res (fun u => u = (aT, aP)) cX1_spreadBack .return_ []) (n : Nat) (x3 : Int32) (x6 : Int32) (w0 : zS) {H : Heap} {locs : List Loc} {ls : Array Slot} (hf : lX1_spreadBack_47 N x1 x2 x4 x5 K n (x3, x6, w0) = some res) (hZ : zW D cy shX 38 a0 aT aP A H0 w0 H locs) (hl : lv_has ls 7 [(0, .ref (a0 4)), (1, .int x1), (2, .int x2), (3, .int x3), (4, .int x4), (5, .int x5), (6, .int x6)]) (hK : ∀ x3 : Int32, ∀ x6 : Int32, ∀ (w0 : zS) (H : Heap) (locs : List Loc) (ls : Array Slot), K x3 x6 w0 = some res → zW D cy shX 38 a0 aT aP A H0 w0 H locs → lv_has ls 7 [(0, .ref (a0 4)), (1, .int x1), (2, .int x2), (3, .int x3), (4, .int x4), (5, .int x5), (6, .int x6)] → W p l e rmX1_spreadBack s m args below meth c H locs 0 0 Q (F0 m 115 ls [])) : W p l e rmX1_spreadBack s m args below meth c H locs 0 0 Q (F0 m 47 ls []) := by
  have hx := hC.1.1
  have hb := hC.1.2.1
  have hf2 : zlp (fun rc s1 => bX1_spreadBack_47 N x1 x2 x4 x5 K rc s1.1 s1.2.1 s1.2.2) n (x3, x6, w0) = some res := hf
  have key := zloop (S := Int32 × Int32 × zS) (α := zS) (b := fun rc s1 => bX1_spreadBack_47 N x1 x2 x4 x5 K rc s1.1 s1.2.1 s1.2.2) (r := res) (Wd := fun s1 => ∀ (H : Heap) (locs : List Loc) (ls : Array Slot), zW D cy shX 38 a0 aT aP A H0 s1.2.2 H locs → lv_has ls 7 [(0, .ref (a0 4)), (1, .int x1), (2, .int x2), (3, .int s1.1), (4, .int x4), (5, .int x5), (6, .int s1.2.1)] → W p l e rmX1_spreadBack s m args below meth c H locs 0 0 Q (F0 m 47 ls []))
  refine key ?_ n (x3, x6, w0) hf2 H locs ls hZ hl
  clear hf hf2 hZ hl key
  rintro rc ⟨x3, x6, w0⟩ ih hf H locs ls hZ hl
  have hf : bX1_spreadBack_47 N x1 x2 x4 x5 K rc x3 x6 w0 = some res := hf
  have hl : lv_has ls 7 [(0, .ref (a0 4)), (1, .int x1), (2, .int x2), (3, .int x3), (4, .int x4), (5, .int x5), (6, .int x6)] := hl
  unfold bX1_spreadBack_47 at hf
  refine lv_iload (pc := 47) hx hb dX1_spreadBack_47 (lv_at hl 6 rfl) ?_
  refine lv_bipush (pc := 49) (v := (10 : Int32)) hx hb dX1_spreadBack_49 (by decide) ?_
  refine z_ige (pc := 51) (tgt := 115) hC hf dX1_spreadBack_51 (by decide) (fun hf => ?_) (fun hf => ?_)
  · exact hK x3 x6 w0 H locs ls hf hZ (lv_sub hl [0, 1, 2, 3, 4, 5, 6] rfl)
  refine lv_iload_n (pc := 54) hx hb dX1_spreadBack_54 rfl (lv_at hl 3 rfl) ?_
  refine lv_bipush (pc := 55) (v := (10 : Int32)) hx hb dX1_spreadBack_55 (by decide) ?_
  refine z_ige (pc := 57) (tgt := 115) hC hf dX1_spreadBack_57 (by decide) (fun hf => ?_) (fun hf => ?_)
  · exact hK x3 x6 w0 H locs ls hf hZ (lv_sub hl [0, 1, 2, 3, 4, 5, 6] rfl)
  refine lv_aload_n (pc := 60) hx hb dX1_spreadBack_60 rfl (lv_at hl 0 rfl) ?_
  refine gfX1_18 (pc := 61) hC hZ dX1_spreadBack_61 ?_
  refine lv_iload (pc := 64) hx hb dX1_spreadBack_64 (lv_at hl 6 rfl) ?_
  refine z_iald (pc := 66) hC hZ (by decide) rfl hf dX1_spreadBack_66 (fun v4 hf => ?_)
  refine z_ne0 (pc := 67) (tgt := 109) hC hf dX1_spreadBack_67 (by decide) (fun hf => ?_) (fun hf => ?_)
  · refine lv_aload_n (pc := 70) hx hb dX1_spreadBack_70 rfl (lv_at hl 0 rfl) ?_
    refine lv_iload_n (pc := 71) hx hb dX1_spreadBack_71 rfl (lv_at hl 1 rfl) ?_
    refine lv_iload (pc := 72) hx hb dX1_spreadBack_72 (lv_at hl 6 rfl) ?_
    refine lv_iload (pc := 74) hx hb dX1_spreadBack_74 (lv_at hl 5 rfl) ?_
    refine kX1_53 (pc := 76) hC hA hZ hf hl.1 (Nat.le_of_ble_eq_true rfl) ⟨Nat.le_of_ble_eq_true rfl, Nat.le_of_ble_eq_true rfl⟩ ⟨Nat.le_refl _, Nat.le_refl _⟩ dX1_spreadBack_76 (fun v6 w5 H locs hf hZ => ?_)
    refine z_le0 (pc := 79) (tgt := 109) hC hf dX1_spreadBack_79 (by decide) (fun hf => ?_) (fun hf => ?_)
    · refine lv_iinc (pc := 109) (v := (x6 + (1 : Int32))) (lv' := [(6, .int (x6 + (1 : Int32))), (0, .ref (a0 4)), (1, .int x1), (2, .int x2), (3, .int x3), (4, .int x4), (5, .int x5)]) hx hb dX1_spreadBack_109 hl (k := 6) rfl rfl (by decide) rfl (fun ls hl => ?_)
      refine lv_goto (pc := 112) (tgt := 47) hx hb dX1_spreadBack_112 (by decide) ?_
      exact ih (x3, (x6 + (1 : Int32)), w5) hf H locs ls hZ (lv_sub hl [1, 2, 3, 4, 5, 6, 0] rfl)
    refine lv_aload_n (pc := 82) hx hb dX1_spreadBack_82 rfl (lv_at hl 0 rfl) ?_
    refine gfX1_18 (pc := 83) hC hZ dX1_spreadBack_83 ?_
    refine lv_iload (pc := 86) hx hb dX1_spreadBack_86 (lv_at hl 6 rfl) ?_
    refine lv_aload_n (pc := 88) hx hb dX1_spreadBack_88 rfl (lv_at hl 0 rfl) ?_
    refine gfX1_18 (pc := 89) hC hZ dX1_spreadBack_89 ?_
    refine lv_iload (pc := 92) hx hb dX1_spreadBack_92 (lv_at hl 5 rfl) ?_
    refine z_iald (pc := 94) hC hZ (by decide) rfl hf dX1_spreadBack_94 (fun v7 hf => ?_)
    refine lv_iconst (pc := 95) (v := (1 : Int32)) hx hb dX1_spreadBack_95 (by decide) ?_
    refine lv_iadd (pc := 96) hx hb dX1_spreadBack_96 ?_
    refine z_iast (pc := 97) hC hZ (by decide) rfl hf dX1_spreadBack_97 (fun w8 H locs hf hZ => ?_)
    refine lv_aload_n (pc := 98) hx hb dX1_spreadBack_98 rfl (lv_at hl 0 rfl) ?_
    refine gfX1_21 (pc := 99) hC hZ dX1_spreadBack_99 ?_
    refine lv_iload_n (pc := 102) hx hb dX1_spreadBack_102 rfl (lv_at hl 3 rfl) ?_
    refine lv_iload (pc := 103) hx hb dX1_spreadBack_103 (lv_at hl 6 rfl) ?_
    refine z_iast (pc := 105) hC hZ (by decide) rfl hf dX1_spreadBack_105 (fun w9 H locs hf hZ => ?_)
    refine lv_iinc (pc := 106) (v := (x3 + (1 : Int32))) (lv' := [(3, .int (x3 + (1 : Int32))), (0, .ref (a0 4)), (1, .int x1), (2, .int x2), (4, .int x4), (5, .int x5), (6, .int x6)]) hx hb dX1_spreadBack_106 hl (k := 3) rfl rfl (by decide) rfl (fun ls hl => ?_)
    refine lv_iinc (pc := 109) (v := (x6 + (1 : Int32))) (lv' := [(6, .int (x6 + (1 : Int32))), (3, .int (x3 + (1 : Int32))), (0, .ref (a0 4)), (1, .int x1), (2, .int x2), (4, .int x4), (5, .int x5)]) hx hb dX1_spreadBack_109 hl (k := 6) rfl rfl (by decide) rfl (fun ls hl => ?_)
    refine lv_goto (pc := 112) (tgt := 47) hx hb dX1_spreadBack_112 (by decide) ?_
    exact ih ((x3 + (1 : Int32)), (x6 + (1 : Int32)), w9) hf H locs ls hZ (lv_sub hl [2, 3, 4, 1, 5, 6, 0] rfl)
  refine lv_iinc (pc := 109) (v := (x6 + (1 : Int32))) (lv' := [(6, .int (x6 + (1 : Int32))), (0, .ref (a0 4)), (1, .int x1), (2, .int x2), (3, .int x3), (4, .int x4), (5, .int x5)]) hx hb dX1_spreadBack_109 hl (k := 6) rfl rfl (by decide) rfl (fun ls hl => ?_)
  refine lv_goto (pc := 112) (tgt := 47) hx hb dX1_spreadBack_112 (by decide) ?_
  exact ih (x3, (x6 + (1 : Int32)), w0) hf H locs ls hZ (lv_sub hl [1, 2, 3, 4, 5, 6, 0] rfl)
set_option maxHeartbeats 4000000 in
set_option maxRecDepth 100000 in
theorem wX1_spreadBack_20 {p : Program} {l : Launch} {e : Env} {s : State} {m : MethodId} {args : Array Value} {below : List Frame} {meth : Method} {c : Code} {Q : State → Prop} {A : Nat → Prop} {H0 : Heap} {D : va_G} {cy : Nat → ClassId} {a0 aT aP : Nat → Nat} {res : zS} {K : Int32 → Int32 → zS → Option (zS)} (N : Nat) (x1 : Int32) (x2 : Int32) (hC : zC p s m args c RX1 cX1_spreadBack 7 D cy) (hA : ∀ q, H0.size ≤ q → A q) (hE : zEnd p l e rmX1_spreadBack s m args below meth c Q D cy shX 38 a0 A H0 res (fun u => u = (aT, aP)) cX1_spreadBack .return_ []) (n : Nat) (x3 : Int32) (x4 : Int32) (w0 : zS) {H : Heap} {locs : List Loc} {ls : Array Slot} (hf : lX1_spreadBack_20 N x1 x2 K n (x3, x4, w0) = some res) (hZ : zW D cy shX 38 a0 aT aP A H0 w0 H locs) (hl : lv_has ls 7 [(0, .ref (a0 4)), (1, .int x1), (2, .int x2), (3, .int x3), (4, .int x4)]) (hK : ∀ x3 : Int32, ∀ x4 : Int32, ∀ (w0 : zS) (H : Heap) (locs : List Loc) (ls : Array Slot), K x3 x4 w0 = some res → zW D cy shX 38 a0 aT aP A H0 w0 H locs → lv_has ls 7 [(0, .ref (a0 4)), (1, .int x1), (2, .int x2), (3, .int x3), (4, .int x4)] → W p l e rmX1_spreadBack s m args below meth c H locs 0 0 Q (F0 m 121 ls [])) : W p l e rmX1_spreadBack s m args below meth c H locs 0 0 Q (F0 m 20 ls []) := by
  have hx := hC.1.1
  have hb := hC.1.2.1
  have hf2 : zlp (fun rc s1 => bX1_spreadBack_20 N x1 x2 K rc s1.1 s1.2.1 s1.2.2) n (x3, x4, w0) = some res := hf
  have key := zloop (S := Int32 × Int32 × zS) (α := zS) (b := fun rc s1 => bX1_spreadBack_20 N x1 x2 K rc s1.1 s1.2.1 s1.2.2) (r := res) (Wd := fun s1 => ∀ (H : Heap) (locs : List Loc) (ls : Array Slot), zW D cy shX 38 a0 aT aP A H0 s1.2.2 H locs → lv_has ls 7 [(0, .ref (a0 4)), (1, .int x1), (2, .int x2), (3, .int s1.1), (4, .int s1.2.1)] → W p l e rmX1_spreadBack s m args below meth c H locs 0 0 Q (F0 m 20 ls []))
  refine key ?_ n (x3, x4, w0) hf2 H locs ls hZ hl
  clear hf hf2 hZ hl key
  rintro rc ⟨x3, x4, w0⟩ ih hf H locs ls hZ hl
  have hf : bX1_spreadBack_20 N x1 x2 K rc x3 x4 w0 = some res := hf
  have hl : lv_has ls 7 [(0, .ref (a0 4)), (1, .int x1), (2, .int x2), (3, .int x3), (4, .int x4)] := hl
  unfold bX1_spreadBack_20 at hf
  refine lv_iload (pc := 20) hx hb dX1_spreadBack_20 (lv_at hl 4 rfl) ?_
  refine lv_iload_n (pc := 22) hx hb dX1_spreadBack_22 rfl (lv_at hl 3 rfl) ?_
  refine z_ige (pc := 23) (tgt := 121) hC hf dX1_spreadBack_23 (by decide) (fun hf => ?_) (fun hf => ?_)
  · exact hK x3 x4 w0 H locs ls hf hZ (lv_sub hl [0, 1, 2, 3, 4] rfl)
  refine lv_iload (pc := 26) hx hb dX1_spreadBack_26 (lv_at hl 4 rfl) ?_
  refine lv_bipush (pc := 28) (v := (10 : Int32)) hx hb dX1_spreadBack_28 (by decide) ?_
  refine z_ige (pc := 30) (tgt := 121) hC hf dX1_spreadBack_30 (by decide) (fun hf => ?_) (fun hf => ?_)
  · exact hK x3 x4 w0 H locs ls hf hZ (lv_sub hl [0, 1, 2, 3, 4] rfl)
  refine lv_aload_n (pc := 33) hx hb dX1_spreadBack_33 rfl (lv_at hl 0 rfl) ?_
  refine gfX1_21 (pc := 34) hC hZ dX1_spreadBack_34 ?_
  refine lv_iload (pc := 37) hx hb dX1_spreadBack_37 (lv_at hl 4 rfl) ?_
  refine z_iald (pc := 39) hC hZ (by decide) rfl hf dX1_spreadBack_39 (fun v3 hf => ?_)
  refine lv_istore (pc := 40) (lv' := [(5, .int v3), (0, .ref (a0 4)), (1, .int x1), (2, .int x2), (3, .int x3), (4, .int x4)]) hx hb dX1_spreadBack_40 hl (by decide) rfl (fun ls hl => ?_)
  refine lv_iload_n (pc := 42) hx hb dX1_spreadBack_42 rfl (lv_at hl 3 rfl) ?_
  refine lv_iconst (pc := 43) (v := (1 : Int32)) hx hb dX1_spreadBack_43 (by decide) ?_
  refine lv_iadd (pc := 44) hx hb dX1_spreadBack_44 ?_
  refine lv_istore (pc := 45) (lv' := [(6, .int (x2 + (1 : Int32))), (5, .int v3), (0, .ref (a0 4)), (1, .int x1), (2, .int x2), (3, .int x3), (4, .int x4)]) hx hb dX1_spreadBack_45 hl (by decide) rfl (fun ls hl => ?_)
  refine wX1_spreadBack_47 (res := res) N x1 x2 x4 v3 hC hA hE N _ _ _ hf hZ (lv_sub hl [2, 3, 4, 5, 6, 1, 0] rfl) (fun y10 y11 w12 H locs ls hf hZ hl => ?_)
  refine lv_iinc (pc := 115) (v := (x4 + (1 : Int32))) (lv' := [(4, .int (x4 + (1 : Int32))), (0, .ref (a0 4)), (1, .int x1), (2, .int x2), (3, .int y10), (5, .int v3), (6, .int y11)]) hx hb dX1_spreadBack_115 hl (k := 4) rfl rfl (by decide) rfl (fun ls hl => ?_)
  refine lv_goto (pc := 118) (tgt := 20) hx hb dX1_spreadBack_118 (by decide) ?_
  exact ih (y10, (x4 + (1 : Int32)), w12) hf H locs ls hZ (lv_sub hl [1, 2, 3, 4, 0] rfl)
set_option maxHeartbeats 4000000 in
set_option maxRecDepth 100000 in
theorem cX1_spreadBack_ok (l : Launch) (D : va_G) (cy : Nat → ClassId) (a0 aT aP : Nat → Nat) (N : Nat) (x1 : Int32) (x2 : Int32) (w0 : zS) (τ : zS) (hf : fX1_spreadBack N x1 x2 w0 = some τ) : zMv l yX1_spreadBack cX1_spreadBack 7 none rmX1_spreadBack D cy shX 38 a0 aT aP w0 [.ref (a0 4), .int x1, .int x2] τ (fun u => u = (aT, aP)) := by
  refine zmet_v (by decide +kernel) rfl (Nat.le_of_ble_eq_true rfl) ?_
  intro p e s m below meth c A Q ls hC hA hZ hl hE
  have hx := hC.1.1
  have hb := hC.1.2.1
  have hl : lv_has ls 7 [(0, .ref (a0 4)), (1, .int x1), (2, .int x2)] := hl
  unfold fX1_spreadBack at hf
  refine lv_aload_n (pc := 0) hx hb dX1_spreadBack_0 rfl (lv_at hl 0 rfl) ?_
  refine gfX1_18 (pc := 1) hC hZ dX1_spreadBack_1 ?_
  refine lv_iconst (pc := 4) (v := (0 : Int32)) hx hb dX1_spreadBack_4 (by decide) ?_
  refine kX1_47_J7_fill_53178_c26 (pc := 5) hC hA hZ hf hl.1 (Nat.le_of_ble_eq_true rfl) ⟨Nat.le_of_ble_eq_true rfl, Nat.le_of_ble_eq_true rfl⟩ ⟨Nat.le_refl _, Nat.le_refl _⟩ dX1_spreadBack_5 (fun w1 H locs hf hZ => ?_)
  refine lv_aload_n (pc := 8) hx hb dX1_spreadBack_8 rfl (lv_at hl 0 rfl) ?_
  refine gfX1_21 (pc := 9) hC hZ dX1_spreadBack_9 ?_
  refine lv_iconst (pc := 12) (v := (0 : Int32)) hx hb dX1_spreadBack_12 (by decide) ?_
  refine lv_iload_n (pc := 13) hx hb dX1_spreadBack_13 rfl (lv_at hl 2 rfl) ?_
  refine z_iast (pc := 14) hC hZ (by decide) rfl hf dX1_spreadBack_14 (fun w2 H locs hf hZ => ?_)
  refine lv_iconst (pc := 15) (v := (1 : Int32)) hx hb dX1_spreadBack_15 (by decide) ?_
  refine lv_istore_n (pc := 16) (lv' := [(3, .int (1 : Int32)), (0, .ref (a0 4)), (1, .int x1), (2, .int x2)]) hx hb dX1_spreadBack_16 rfl hl (by decide) rfl (fun ls hl => ?_)
  refine lv_iconst (pc := 17) (v := (0 : Int32)) hx hb dX1_spreadBack_17 (by decide) ?_
  refine lv_istore (pc := 18) (lv' := [(4, .int (0 : Int32)), (3, .int (1 : Int32)), (0, .ref (a0 4)), (1, .int x1), (2, .int x2)]) hx hb dX1_spreadBack_18 hl (by decide) rfl (fun ls hl => ?_)
  refine wX1_spreadBack_20 (res := τ) N x1 x2 hC hA hE N _ _ _ hf hZ (lv_sub hl [2, 3, 4, 1, 0] rfl) (fun y13 y14 w15 H locs ls hf hZ hl => ?_)
  obtain rfl := Option.some.inj hf
  exact hE _ _ _ _ _ _ rfl hZ dX1_spreadBack_121
section ZK
variable {p : Program} {l : Launch} {e : Env} {R : Room} {s : State} {m : MethodId} {args : Array Value} {below : List Frame} {meth : Method} {c : Code} {H : Heap} {locs : List Loc} {cells slots : Nat} {Q : State → Prop}
variable {pc : Nat} {ls : Array Slot} {rest : List Value} {A : Nat → Prop} {H0 : Heap} {D : va_G} {cy : Nat → ClassId} {a0 aT aP : Nat → Nat} {σ : zS} {cc : ByteArray} {nL : Nat} {α : Type} {res : α}
theorem vkX1_35 : zVk RX1 35 yX1_spreadBack cX1_spreadBack 7 none 2 := ⟨by decide +kernel, by decide +kernel, by decide +kernel, by decide +kernel, by decide +kernel, by decide +kernel⟩
theorem kX1_35 (hC : zC p s m args c RX1 cc nL D cy) (hA : ∀ q, H0.size ≤ q → A q) (hZ : zW D cy shX 38 a0 aT aP A H0 σ H locs) {N : Nat} {x1 : Int32} {x2 : Int32} {k : zS → Option α} (hf : zbv (fX1_spreadBack N x1 x2 σ) k = some res) (hsz : ls.size = nL) (hW : (rest.map fun v => v.category).sum ≤ 8) (hR : rmX1_spreadBack.frames + 1 ≤ R.frames ∧ 8 + (7 + 11) + rmX1_spreadBack.locals ≤ R.locals) (hcs : cells ≤ R.cells ∧ slots ≤ R.slots) (hdg : decode cc pc = .ok (.invokevirtual 35, 3)) (kk : ∀ (τ : zS) (H1 : Heap) (locs1 : List Loc), k τ = some res → zW D cy shX 38 a0 aT aP A H0 τ H1 locs1 → W p l e R s m args below meth c H1 locs1 cells slots Q (F0 m (pc + 3) ls (rest))) : W p l e R s m args below meth c H locs cells slots Q (F0 m pc ls (.int x2 :: .int x1 :: .ref (a0 4) :: rest)) := by
  cases hq : fX1_spreadBack N x1 x2 σ with
  | none => rw [hq] at hf; cases hf
  | some q =>
    rw [hq] at hf
    exact zcallv hA hZ (zrun hC hZ vkX1_35 rfl (zw0 (by decide)) (cX1_spreadBack_ok l D cy a0 aT aP N x1 x2 σ q hq H.size) hR rfl hsz rfl hW hcs hdg) (fun u H1 locs1 hU hZ1 => by subst hU; exact kk q H1 locs1 hf hZ1)
end ZK
