set_option maxHeartbeats 4000000 in
set_option maxRecDepth 100000 in
theorem cX7_found_ok (l : Launch) (D : va_G) (cy : Nat → ClassId) (a0 aT aP : Nat → Nat) (N : Nat) (x1 : Int32) (x2 : Int32) (x3 : Int32) (w0 : zS) (rv : Int32) (τ : zS) (hf : fX7_found N x1 x2 x3 w0 = some (rv, τ)) : zMi l yX7_found cX7_found 5 (some .int) rmX7_found D cy shX 38 a0 aT aP w0 [.ref (a0 0), .int x1, .int x2, .int x3] rv τ (fun u => u = (aT, aP)) := by
  refine zmet_i (by decide +kernel) (Or.inl rfl) (Nat.le_of_ble_eq_true rfl) ?_
  intro p e s m below meth c A Q ls hC hA hZ hl hE
  have hx := hC.1.1
  have hb := hC.1.2.1
  have hl : lv_has ls 5 [(0, .ref (a0 0)), (1, .int x1), (2, .int x2), (3, .int x3)] := hl
  unfold fX7_found at hf
  refine lv_aload_n (pc := 0) hx hb dX7_found_0 rfl (lv_at hl 0 rfl) ?_
  refine lv_iload_n (pc := 1) hx hb dX7_found_1 rfl (lv_at hl 1 rfl) ?_
  refine kX7_77 (pc := 2) hC hA hZ hf hl.1 (Nat.le_of_ble_eq_true rfl) ⟨Nat.le_of_ble_eq_true rfl, Nat.le_of_ble_eq_true rfl⟩ ⟨Nat.le_refl _, Nat.le_refl _⟩ dX7_found_2 (fun v2 w1 H locs hf hZ => ?_)
  refine z_eq0 (pc := 5) (tgt := 16) hC hf dX7_found_5 (by decide) (fun hf => ?_) (fun hf => ?_)
  · refine lv_aload_n (pc := 16) hx hb dX7_found_16 rfl (lv_at hl 0 rfl) ?_
    refine lv_iconst (pc := 17) (v := (-1 : Int32)) hx hb dX7_found_17 (by decide) ?_
    refine kX7_84 (pc := 18) hC hA hZ hf hl.1 (Nat.le_of_ble_eq_true rfl) ⟨Nat.le_of_ble_eq_true rfl, Nat.le_of_ble_eq_true rfl⟩ ⟨Nat.le_refl _, Nat.le_refl _⟩ dX7_found_18 (fun v4 w3 H locs hf hZ => ?_)
    obtain ⟨rfl, rfl⟩ := zinj hf
    exact hE _ _ _ _ _ _ rfl hZ dX7_found_21
  refine lv_aload_n (pc := 8) hx hb dX7_found_8 rfl (lv_at hl 0 rfl) ?_
  refine lv_iload_n (pc := 9) hx hb dX7_found_9 rfl (lv_at hl 2 rfl) ?_
  refine kX7_81 (pc := 10) hC hA hZ hf hl.1 (Nat.le_of_ble_eq_true rfl) ⟨Nat.le_of_ble_eq_true rfl, Nat.le_of_ble_eq_true rfl⟩ ⟨Nat.le_refl _, Nat.le_refl _⟩ dX7_found_10 (fun v6 w5 H locs hf hZ => ?_)
  refine z_ne0 (pc := 13) (tgt := 22) hC hf dX7_found_13 (by decide) (fun hf => ?_) (fun hf => ?_)
  · refine lv_aload_n (pc := 16) hx hb dX7_found_16 rfl (lv_at hl 0 rfl) ?_
    refine lv_iconst (pc := 17) (v := (-1 : Int32)) hx hb dX7_found_17 (by decide) ?_
    refine kX7_84 (pc := 18) hC hA hZ hf hl.1 (Nat.le_of_ble_eq_true rfl) ⟨Nat.le_of_ble_eq_true rfl, Nat.le_of_ble_eq_true rfl⟩ ⟨Nat.le_refl _, Nat.le_refl _⟩ dX7_found_18 (fun v8 w7 H locs hf hZ => ?_)
    obtain ⟨rfl, rfl⟩ := zinj hf
    exact hE _ _ _ _ _ _ rfl hZ dX7_found_21
  refine lv_iload_n (pc := 22) hx hb dX7_found_22 rfl (lv_at hl 3 rfl) ?_
  refine z_ge0 (pc := 23) (tgt := 33) hC hf dX7_found_23 (by decide) (fun hf => ?_) (fun hf => ?_)
  · refine lv_iload_n (pc := 33) hx hb dX7_found_33 rfl (lv_at hl 3 rfl) ?_
    refine lv_ldc (pc := 34) (v := (100000 : Int32)) hx hb hC.1.2.2.2.1 (hC.1.2.2.2.2 _ kcX7_152) dX7_found_34 ?_
    refine z_igt (pc := 36) (tgt := 50) hC hf dX7_found_36 (by decide) (fun hf => ?_) (fun hf => ?_)
    · refine lv_aload_n (pc := 50) hx hb dX7_found_50 rfl (lv_at hl 0 rfl) ?_
      refine lv_bipush (pc := 51) (v := (-6 : Int32)) hx hb dX7_found_51 (by decide) ?_
      refine kX7_84 (pc := 53) hC hA hZ hf hl.1 (Nat.le_of_ble_eq_true rfl) ⟨Nat.le_of_ble_eq_true rfl, Nat.le_of_ble_eq_true rfl⟩ ⟨Nat.le_refl _, Nat.le_refl _⟩ dX7_found_53 (fun v10 w9 H locs hf hZ => ?_)
      obtain ⟨rfl, rfl⟩ := zinj hf
      exact hE _ _ _ _ _ _ rfl hZ dX7_found_56
    refine lv_aload_n (pc := 39) hx hb dX7_found_39 rfl (lv_at hl 0 rfl) ?_
    refine gfX7_35 (pc := 40) hC hZ dX7_found_40 ?_
    refine kX7_87 (pc := 43) hC hA hZ hf hl.1 (Nat.le_of_ble_eq_true rfl) ⟨Nat.le_of_ble_eq_true rfl, Nat.le_of_ble_eq_true rfl⟩ ⟨Nat.le_refl _, Nat.le_refl _⟩ dX7_found_43 (fun v12 w11 H locs hf hZ => ?_)
    refine lv_iconst (pc := 46) (v := (1 : Int32)) hx hb dX7_found_46 (by decide) ?_
    refine z_ige (pc := 47) (tgt := 57) hC hf dX7_found_47 (by decide) (fun hf => ?_) (fun hf => ?_)
    · refine lv_aload_n (pc := 57) hx hb dX7_found_57 rfl (lv_at hl 0 rfl) ?_
      refine gfX7_35 (pc := 58) hC hZ dX7_found_58 ?_
      refine lv_iload_n (pc := 61) hx hb dX7_found_61 rfl (lv_at hl 1 rfl) ?_
      refine lv_iload_n (pc := 62) hx hb dX7_found_62 rfl (lv_at hl 2 rfl) ?_
      refine lv_aload_n (pc := 63) hx hb dX7_found_63 rfl (lv_at hl 0 rfl) ?_
      refine gfX7_60 (pc := 64) hC hZ dX7_found_64 ?_
      refine kX7_95 (pc := 67) hC hA hZ hf hl.1 (Nat.le_of_ble_eq_true rfl) ⟨Nat.le_of_ble_eq_true rfl, Nat.le_of_ble_eq_true rfl⟩ ⟨Nat.le_refl _, Nat.le_refl _⟩ dX7_found_67 (fun v14 w13 H locs hf hZ => ?_)
      refine lv_istore (pc := 70) (lv' := [(4, .int v14), (0, .ref (a0 0)), (1, .int x1), (2, .int x2), (3, .int x3)]) hx hb dX7_found_70 hl (by decide) rfl (fun ls hl => ?_)
      refine lv_iload (pc := 72) hx hb dX7_found_72 (lv_at hl 0 rfl) ?_
      refine lv_iload_n (pc := 74) hx hb dX7_found_74 rfl (lv_at hl 4 rfl) ?_
      refine z_ieq (pc := 75) (tgt := 113) hC hf dX7_found_75 (by decide) (fun hf => ?_) (fun hf => ?_)
      · refine lv_iload (pc := 113) hx hb dX7_found_113 (lv_at hl 0 rfl) ?_
        obtain ⟨rfl, rfl⟩ := zinj hf
        exact hE _ _ _ _ _ _ rfl hZ dX7_found_115
      refine lv_aload_n (pc := 78) hx hb dX7_found_78 rfl (lv_at hl 1 rfl) ?_
      refine gfX7_35 (pc := 79) hC hZ dX7_found_79 ?_
      refine lv_iload_n (pc := 82) hx hb dX7_found_82 rfl (lv_at hl 2 rfl) ?_
      refine lv_iload_n (pc := 83) hx hb dX7_found_83 rfl (lv_at hl 3 rfl) ?_
      refine lv_aload_n (pc := 84) hx hb dX7_found_84 rfl (lv_at hl 1 rfl) ?_
      refine gfX7_60 (pc := 85) hC hZ dX7_found_85 ?_
      refine lv_iload_n (pc := 88) hx hb dX7_found_88 rfl (lv_at hl 4 rfl) ?_
      refine lv_iload (pc := 89) hx hb dX7_found_89 (lv_at hl 0 rfl) ?_
      refine lv_isub (pc := 91) hx hb dX7_found_91 ?_
      refine kX7_91 (pc := 92) hC hA hZ hf hl.1 (Nat.le_of_ble_eq_true rfl) ⟨Nat.le_of_ble_eq_true rfl, Nat.le_of_ble_eq_true rfl⟩ ⟨Nat.le_refl _, Nat.le_refl _⟩ dX7_found_92 (fun w15 H locs hf hZ => ?_)
      refine lv_aload_n (pc := 95) hx hb dX7_found_95 rfl (lv_at hl 1 rfl) ?_
      refine gfX7_22 (pc := 96) hC hZ dX7_found_96 ?_
      refine lv_iload_n (pc := 99) hx hb dX7_found_99 rfl (lv_at hl 2 rfl) ?_
      refine lv_bipush (pc := 100) (v := (6 : Int32)) hx hb dX7_found_100 (by decide) ?_
      refine lv_imul (pc := 102) hx hb dX7_found_102 ?_
      refine lv_iload_n (pc := 103) hx hb dX7_found_103 rfl (lv_at hl 3 rfl) ?_
      refine lv_iadd (pc := 104) hx hb dX7_found_104 ?_
      refine lv_dup2_11 (pc := 105) hx hb dX7_found_105 rfl rfl ?_
      refine z_iald (pc := 106) hC hZ (by decide) rfl hf dX7_found_106 (fun v16 hf => ?_)
      refine lv_iload (pc := 107) hx hb dX7_found_107 (lv_at hl 0 rfl) ?_
      refine lv_iload_n (pc := 109) hx hb dX7_found_109 rfl (lv_at hl 4 rfl) ?_
      refine lv_isub (pc := 110) hx hb dX7_found_110 ?_
      refine lv_iadd (pc := 111) hx hb dX7_found_111 ?_
      refine z_iast (pc := 112) hC hZ (by decide) rfl hf dX7_found_112 (fun w17 H locs hf hZ => ?_)
      refine lv_iload (pc := 113) hx hb dX7_found_113 (lv_at hl 0 rfl) ?_
      obtain ⟨rfl, rfl⟩ := zinj hf
      exact hE _ _ _ _ _ _ rfl hZ dX7_found_115
    refine lv_aload_n (pc := 50) hx hb dX7_found_50 rfl (lv_at hl 0 rfl) ?_
    refine lv_bipush (pc := 51) (v := (-6 : Int32)) hx hb dX7_found_51 (by decide) ?_
    refine kX7_84 (pc := 53) hC hA hZ hf hl.1 (Nat.le_of_ble_eq_true rfl) ⟨Nat.le_of_ble_eq_true rfl, Nat.le_of_ble_eq_true rfl⟩ ⟨Nat.le_refl _, Nat.le_refl _⟩ dX7_found_53 (fun v19 w18 H locs hf hZ => ?_)
    obtain ⟨rfl, rfl⟩ := zinj hf
    exact hE _ _ _ _ _ _ rfl hZ dX7_found_56
  refine lv_aload_n (pc := 26) hx hb dX7_found_26 rfl (lv_at hl 0 rfl) ?_
  refine lv_bipush (pc := 27) (v := (-4 : Int32)) hx hb dX7_found_27 (by decide) ?_
  refine kX7_84 (pc := 29) hC hA hZ hf hl.1 (Nat.le_of_ble_eq_true rfl) ⟨Nat.le_of_ble_eq_true rfl, Nat.le_of_ble_eq_true rfl⟩ ⟨Nat.le_refl _, Nat.le_refl _⟩ dX7_found_29 (fun v21 w20 H locs hf hZ => ?_)
  obtain ⟨rfl, rfl⟩ := zinj hf
  exact hE _ _ _ _ _ _ rfl hZ dX7_found_32
set_option maxHeartbeats 4000000 in
set_option maxRecDepth 100000 in
theorem cX7_account_ok (l : Launch) (D : va_G) (cy : Nat → ClassId) (a0 aT aP : Nat → Nat) (N : Nat) (x1 : Int32) (x2 : Int32) (x3 : Int32) (w0 : zS) (rv : Int32) (τ : zS) (hf : fX7_account N x1 x2 x3 w0 = some (rv, τ)) : zMi l yX7_account cX7_account 4 (some .int) rmX7_account D cy shX 38 a0 aT aP w0 [.ref (a0 0), .int x1, .int x2, .int x3] rv τ (fun u => u = (aT, aP)) := by
  refine zmet_i (by decide +kernel) (Or.inl rfl) (Nat.le_of_ble_eq_true rfl) ?_
  intro p e s m below meth c A Q ls hC hA hZ hl hE
  have hx := hC.1.1
  have hb := hC.1.2.1
  have hl : lv_has ls 4 [(0, .ref (a0 0)), (1, .int x1), (2, .int x2), (3, .int x3)] := hl
  unfold fX7_account at hf
  refine lv_aload_n (pc := 0) hx hb dX7_account_0 rfl (lv_at hl 0 rfl) ?_
  refine lv_iload_n (pc := 1) hx hb dX7_account_1 rfl (lv_at hl 1 rfl) ?_
  refine kX7_77 (pc := 2) hC hA hZ hf hl.1 (Nat.le_of_ble_eq_true rfl) ⟨Nat.le_of_ble_eq_true rfl, Nat.le_of_ble_eq_true rfl⟩ ⟨Nat.le_refl _, Nat.le_refl _⟩ dX7_account_2 (fun v2 w1 H locs hf hZ => ?_)
  refine z_eq0 (pc := 5) (tgt := 16) hC hf dX7_account_5 (by decide) (fun hf => ?_) (fun hf => ?_)
  · refine lv_aload_n (pc := 16) hx hb dX7_account_16 rfl (lv_at hl 0 rfl) ?_
    refine lv_iconst (pc := 17) (v := (-1 : Int32)) hx hb dX7_account_17 (by decide) ?_
    refine kX7_84 (pc := 18) hC hA hZ hf hl.1 (Nat.le_of_ble_eq_true rfl) ⟨Nat.le_of_ble_eq_true rfl, Nat.le_of_ble_eq_true rfl⟩ ⟨Nat.le_refl _, Nat.le_refl _⟩ dX7_account_18 (fun v4 w3 H locs hf hZ => ?_)
    obtain ⟨rfl, rfl⟩ := zinj hf
    exact hE _ _ _ _ _ _ rfl hZ dX7_account_21
  refine lv_aload_n (pc := 8) hx hb dX7_account_8 rfl (lv_at hl 0 rfl) ?_
  refine lv_iload_n (pc := 9) hx hb dX7_account_9 rfl (lv_at hl 2 rfl) ?_
  refine kX7_81 (pc := 10) hC hA hZ hf hl.1 (Nat.le_of_ble_eq_true rfl) ⟨Nat.le_of_ble_eq_true rfl, Nat.le_of_ble_eq_true rfl⟩ ⟨Nat.le_refl _, Nat.le_refl _⟩ dX7_account_10 (fun v6 w5 H locs hf hZ => ?_)
  refine z_ne0 (pc := 13) (tgt := 22) hC hf dX7_account_13 (by decide) (fun hf => ?_) (fun hf => ?_)
  · refine lv_aload_n (pc := 16) hx hb dX7_account_16 rfl (lv_at hl 0 rfl) ?_
    refine lv_iconst (pc := 17) (v := (-1 : Int32)) hx hb dX7_account_17 (by decide) ?_
    refine kX7_84 (pc := 18) hC hA hZ hf hl.1 (Nat.le_of_ble_eq_true rfl) ⟨Nat.le_of_ble_eq_true rfl, Nat.le_of_ble_eq_true rfl⟩ ⟨Nat.le_refl _, Nat.le_refl _⟩ dX7_account_18 (fun v8 w7 H locs hf hZ => ?_)
    obtain ⟨rfl, rfl⟩ := zinj hf
    exact hE _ _ _ _ _ _ rfl hZ dX7_account_21
  refine lv_iload_n (pc := 22) hx hb dX7_account_22 rfl (lv_at hl 3 rfl) ?_
  refine z_ge0 (pc := 23) (tgt := 33) hC hf dX7_account_23 (by decide) (fun hf => ?_) (fun hf => ?_)
  · refine lv_iload_n (pc := 33) hx hb dX7_account_33 rfl (lv_at hl 3 rfl) ?_
    refine lv_sipush (pc := 34) (v := (600 : Int32)) hx hb dX7_account_34 (by decide) ?_
    refine z_ilt (pc := 37) (tgt := 47) hC hf dX7_account_37 (by decide) (fun hf => ?_) (fun hf => ?_)
    · refine lv_aload_n (pc := 47) hx hb dX7_account_47 rfl (lv_at hl 0 rfl) ?_
      refine gfX7_35 (pc := 48) hC hZ dX7_account_48 ?_
      refine lv_iload_n (pc := 51) hx hb dX7_account_51 rfl (lv_at hl 1 rfl) ?_
      refine lv_iload_n (pc := 52) hx hb dX7_account_52 rfl (lv_at hl 2 rfl) ?_
      refine lv_iload_n (pc := 53) hx hb dX7_account_53 rfl (lv_at hl 3 rfl) ?_
      refine kX7_95 (pc := 54) hC hA hZ hf hl.1 (Nat.le_of_ble_eq_true rfl) ⟨Nat.le_of_ble_eq_true rfl, Nat.le_of_ble_eq_true rfl⟩ ⟨Nat.le_refl _, Nat.le_refl _⟩ dX7_account_54 (fun v10 w9 H locs hf hZ => ?_)
      obtain ⟨rfl, rfl⟩ := zinj hf
      exact hE _ _ _ _ _ _ rfl hZ dX7_account_57
    refine lv_aload_n (pc := 40) hx hb dX7_account_40 rfl (lv_at hl 0 rfl) ?_
    refine lv_bipush (pc := 41) (v := (-6 : Int32)) hx hb dX7_account_41 (by decide) ?_
    refine kX7_84 (pc := 43) hC hA hZ hf hl.1 (Nat.le_of_ble_eq_true rfl) ⟨Nat.le_of_ble_eq_true rfl, Nat.le_of_ble_eq_true rfl⟩ ⟨Nat.le_refl _, Nat.le_refl _⟩ dX7_account_43 (fun v12 w11 H locs hf hZ => ?_)
    obtain ⟨rfl, rfl⟩ := zinj hf
    exact hE _ _ _ _ _ _ rfl hZ dX7_account_46
  refine lv_aload_n (pc := 26) hx hb dX7_account_26 rfl (lv_at hl 0 rfl) ?_
  refine lv_bipush (pc := 27) (v := (-4 : Int32)) hx hb dX7_account_27 (by decide) ?_
  refine kX7_84 (pc := 29) hC hA hZ hf hl.1 (Nat.le_of_ble_eq_true rfl) ⟨Nat.le_of_ble_eq_true rfl, Nat.le_of_ble_eq_true rfl⟩ ⟨Nat.le_refl _, Nat.le_refl _⟩ dX7_account_29 (fun v14 w13 H locs hf hZ => ?_)
  obtain ⟨rfl, rfl⟩ := zinj hf
  exact hE _ _ _ _ _ _ rfl hZ dX7_account_32
set_option maxHeartbeats 4000000 in
set_option maxRecDepth 100000 in
theorem cX7_lost_ok (l : Launch) (D : va_G) (cy : Nat → ClassId) (a0 aT aP : Nat → Nat) (N : Nat) (x1 : Int32) (x2 : Int32) (w0 : zS) (rv : Int32) (τ : zS) (hf : fX7_lost N x1 x2 w0 = some (rv, τ)) : zMi l yX7_lost cX7_lost 3 (some .int) rmX7_lost D cy shX 38 a0 aT aP w0 [.ref (a0 0), .int x1, .int x2] rv τ (fun u => u = (aT, aP)) := by
  refine zmet_i (by decide +kernel) (Or.inl rfl) (Nat.le_of_ble_eq_true rfl) ?_
  intro p e s m below meth c A Q ls hC hA hZ hl hE
  have hx := hC.1.1
  have hb := hC.1.2.1
  have hl : lv_has ls 3 [(0, .ref (a0 0)), (1, .int x1), (2, .int x2)] := hl
  unfold fX7_lost at hf
  refine lv_aload_n (pc := 0) hx hb dX7_lost_0 rfl (lv_at hl 0 rfl) ?_
  refine lv_iload_n (pc := 1) hx hb dX7_lost_1 rfl (lv_at hl 1 rfl) ?_
  refine kX7_77 (pc := 2) hC hA hZ hf hl.1 (Nat.le_of_ble_eq_true rfl) ⟨Nat.le_of_ble_eq_true rfl, Nat.le_of_ble_eq_true rfl⟩ ⟨Nat.le_refl _, Nat.le_refl _⟩ dX7_lost_2 (fun v2 w1 H locs hf hZ => ?_)
  refine z_eq0 (pc := 5) (tgt := 16) hC hf dX7_lost_5 (by decide) (fun hf => ?_) (fun hf => ?_)
  · refine lv_aload_n (pc := 16) hx hb dX7_lost_16 rfl (lv_at hl 0 rfl) ?_
    refine lv_iconst (pc := 17) (v := (-1 : Int32)) hx hb dX7_lost_17 (by decide) ?_
    refine kX7_84 (pc := 18) hC hA hZ hf hl.1 (Nat.le_of_ble_eq_true rfl) ⟨Nat.le_of_ble_eq_true rfl, Nat.le_of_ble_eq_true rfl⟩ ⟨Nat.le_refl _, Nat.le_refl _⟩ dX7_lost_18 (fun v4 w3 H locs hf hZ => ?_)
    obtain ⟨rfl, rfl⟩ := zinj hf
    exact hE _ _ _ _ _ _ rfl hZ dX7_lost_21
  refine lv_aload_n (pc := 8) hx hb dX7_lost_8 rfl (lv_at hl 0 rfl) ?_
  refine lv_iload_n (pc := 9) hx hb dX7_lost_9 rfl (lv_at hl 2 rfl) ?_
  refine kX7_81 (pc := 10) hC hA hZ hf hl.1 (Nat.le_of_ble_eq_true rfl) ⟨Nat.le_of_ble_eq_true rfl, Nat.le_of_ble_eq_true rfl⟩ ⟨Nat.le_refl _, Nat.le_refl _⟩ dX7_lost_10 (fun v6 w5 H locs hf hZ => ?_)
  refine z_ne0 (pc := 13) (tgt := 22) hC hf dX7_lost_13 (by decide) (fun hf => ?_) (fun hf => ?_)
  · refine lv_aload_n (pc := 16) hx hb dX7_lost_16 rfl (lv_at hl 0 rfl) ?_
    refine lv_iconst (pc := 17) (v := (-1 : Int32)) hx hb dX7_lost_17 (by decide) ?_
    refine kX7_84 (pc := 18) hC hA hZ hf hl.1 (Nat.le_of_ble_eq_true rfl) ⟨Nat.le_of_ble_eq_true rfl, Nat.le_of_ble_eq_true rfl⟩ ⟨Nat.le_refl _, Nat.le_refl _⟩ dX7_lost_18 (fun v8 w7 H locs hf hZ => ?_)
    obtain ⟨rfl, rfl⟩ := zinj hf
    exact hE _ _ _ _ _ _ rfl hZ dX7_lost_21
  refine lv_aload_n (pc := 22) hx hb dX7_lost_22 rfl (lv_at hl 0 rfl) ?_
  refine gfX7_22 (pc := 23) hC hZ dX7_lost_23 ?_
  refine lv_iload_n (pc := 26) hx hb dX7_lost_26 rfl (lv_at hl 1 rfl) ?_
  refine lv_bipush (pc := 27) (v := (6 : Int32)) hx hb dX7_lost_27 (by decide) ?_
  refine lv_imul (pc := 29) hx hb dX7_lost_29 ?_
  refine lv_iload_n (pc := 30) hx hb dX7_lost_30 rfl (lv_at hl 2 rfl) ?_
  refine lv_iadd (pc := 31) hx hb dX7_lost_31 ?_
  refine z_iald (pc := 32) hC hZ (by decide) rfl hf dX7_lost_32 (fun v9 hf => ?_)
  obtain ⟨rfl, rfl⟩ := zinj hf
  exact hE _ _ _ _ _ _ rfl hZ dX7_lost_33
set_option maxHeartbeats 4000000 in
set_option maxRecDepth 100000 in
theorem wX2_cameTo_5 {p : Program} {l : Launch} {e : Env} {s : State} {m : MethodId} {args : Array Value} {below : List Frame} {meth : Method} {c : Code} {Q : State → Prop} {A : Nat → Prop} {H0 : Heap} {D : va_G} {cy : Nat → ClassId} {a0 aT aP : Nat → Nat} {res : Int32 × zS} {K : Int32 → Int32 → zS → Option (Int32 × zS)} (N : Nat) (x1 : Int32) (x2 : Int32) (hC : zC p s m args c RX2 cX2_cameTo 6 D cy) (hA : ∀ q, H0.size ≤ q → A q) (hE : zEnd p l e rmX2_cameTo s m args below meth c Q D cy shX 38 a0 A H0 res.2 (fun u => u = (aT, aP)) cX2_cameTo .ireturn [.int res.1]) (n : Nat) (x3 : Int32) (x4 : Int32) (w0 : zS) {H : Heap} {locs : List Loc} {ls : Array Slot} (hf : lX2_cameTo_5 N x1 x2 K n (x3, x4, w0) = some res) (hZ : zW D cy shX 38 a0 aT aP A H0 w0 H locs) (hl : lv_has ls 6 [(0, .ref (a0 2)), (1, .int x1), (2, .int x2), (3, .int x3), (4, .int x4)]) (hK : ∀ x3 : Int32, ∀ x4 : Int32, ∀ (w0 : zS) (H : Heap) (locs : List Loc) (ls : Array Slot), K x3 x4 w0 = some res → zW D cy shX 38 a0 aT aP A H0 w0 H locs → lv_has ls 6 [(0, .ref (a0 2)), (1, .int x1), (2, .int x2), (3, .int x3), (4, .int x4)] → W p l e rmX2_cameTo s m args below meth c H locs 0 0 Q (F0 m 66 ls [])) : W p l e rmX2_cameTo s m args below meth c H locs 0 0 Q (F0 m 5 ls []) := by
  have hx := hC.1.1
  have hb := hC.1.2.1
  have hf2 : zlp (fun rc s1 => bX2_cameTo_5 N x1 x2 K rc s1.1 s1.2.1 s1.2.2) n (x3, x4, w0) = some res := hf
  have key := zloop (S := Int32 × Int32 × zS) (α := Int32 × zS) (b := fun rc s1 => bX2_cameTo_5 N x1 x2 K rc s1.1 s1.2.1 s1.2.2) (r := res) (Wd := fun s1 => ∀ (H : Heap) (locs : List Loc) (ls : Array Slot), zW D cy shX 38 a0 aT aP A H0 s1.2.2 H locs → lv_has ls 6 [(0, .ref (a0 2)), (1, .int x1), (2, .int x2), (3, .int s1.1), (4, .int s1.2.1)] → W p l e rmX2_cameTo s m args below meth c H locs 0 0 Q (F0 m 5 ls []))
  refine key ?_ n (x3, x4, w0) hf2 H locs ls hZ hl
  clear hf hf2 hZ hl key
  rintro rc ⟨x3, x4, w0⟩ ih hf H locs ls hZ hl
  have hf : bX2_cameTo_5 N x1 x2 K rc x3 x4 w0 = some res := hf
  have hl : lv_has ls 6 [(0, .ref (a0 2)), (1, .int x1), (2, .int x2), (3, .int x3), (4, .int x4)] := hl
  unfold bX2_cameTo_5 at hf
  refine lv_iload (pc := 5) hx hb dX2_cameTo_5 (lv_at hl 4 rfl) ?_
  refine lv_aload_n (pc := 7) hx hb dX2_cameTo_7 rfl (lv_at hl 0 rfl) ?_
  refine gfX2_37 (pc := 8) hC hZ dX2_cameTo_8 ?_
  refine z_ige (pc := 11) (tgt := 66) hC hf dX2_cameTo_11 (by decide) (fun hf => ?_) (fun hf => ?_)
  · exact hK x3 x4 w0 H locs ls hf hZ (lv_sub hl [0, 1, 2, 3, 4] rfl)
  refine lv_aload_n (pc := 14) hx hb dX2_cameTo_14 rfl (lv_at hl 0 rfl) ?_
  refine gfX2_19 (pc := 15) hC hZ dX2_cameTo_15 ?_
  refine lv_iload (pc := 18) hx hb dX2_cameTo_18 (lv_at hl 4 rfl) ?_
  refine z_aaldP (pc := 20) hC hZ (by decide) rfl hf dX2_cameTo_20 (fun v1 hf => ?_)
  refine z_astore (pc := 21) (i := 5) (lv' := [(5, va_rf (v1.map aP)), (0, .ref (a0 2)), (1, .int x1), (2, .int x2), (3, .int x3), (4, .int x4)]) hC dX2_cameTo_21 hl (by decide) (zadj_cons (Or.inl (Nat.ne_of_beq_eq_false rfl)) (zadj_cons (Or.inl (Nat.ne_of_beq_eq_false rfl)) (zadj_cons (Or.inl (Nat.ne_of_beq_eq_false rfl)) (zadj_cons (Or.inl (Nat.ne_of_beq_eq_false rfl)) (zadj_cons (Or.inr rfl) zadj_nil))))) rfl (fun ls hl => ?_)
  refine z_aload (pc := 23) hC dX2_cameTo_23 (lv_at hl 0 rfl) ?_
  refine z_ifnull (pc := 25) (tgt := 60) hC hf dX2_cameTo_25 (by decide) (fun hf => ?_) (fun hf => ?_)
  · refine z_iinc (pc := 60) (i := 4) (v := (x4 + (1 : Int32))) (lv' := [(4, .int (x4 + (1 : Int32))), (5, va_rf (v1.map aP)), (0, .ref (a0 2)), (1, .int x1), (2, .int x2), (3, .int x3)]) hC dX2_cameTo_60 hl (k := 5) rfl rfl (by decide) (zadj_cons (Or.inl (Nat.ne_of_beq_eq_false rfl)) (zadj_cons (Or.inl (Nat.ne_of_beq_eq_false rfl)) (zadj_cons (Or.inl (Nat.ne_of_beq_eq_false rfl)) (zadj_cons (Or.inl (Nat.ne_of_beq_eq_false rfl)) (zadj_cons (Or.inr rfl) (zadj_cons (Or.inl (Nat.ne_of_beq_eq_false rfl)) zadj_nil)))))) rfl (fun ls hl => ?_)
    refine lv_goto (pc := 63) (tgt := 5) hx hb dX2_cameTo_63 (by decide) ?_
    exact ih (x3, (x4 + (1 : Int32)), w0) hf H locs ls hZ (lv_sub hl [2, 3, 4, 5, 0] rfl)
  refine z_aload (pc := 28) hC dX2_cameTo_28 (lv_at hl 0 rfl) ?_
  refine z_gPR (pc := 30) hC hZ fkX2_51 rfl hf dX2_cameTo_30 (fun v2 hf => ?_)
  refine z_gT (pc := 33) hC hZ fkX2_55 rfl hf dX2_cameTo_33 (fun v3 hf => ?_)
  refine lv_iload_n (pc := 36) hx hb dX2_cameTo_36 rfl (lv_at hl 2 rfl) ?_
  refine z_ine (pc := 37) (tgt := 60) hC hf dX2_cameTo_37 (by decide) (fun hf => ?_) (fun hf => ?_)
  · refine z_aload (pc := 40) hC dX2_cameTo_40 (lv_at hl 0 rfl) ?_
    refine z_gPR (pc := 42) hC hZ fkX2_51 rfl hf dX2_cameTo_42 (fun v4 hf => ?_)
    refine z_gT (pc := 45) hC hZ fkX2_58 rfl hf dX2_cameTo_45 (fun v5 hf => ?_)
    refine lv_iload_n (pc := 48) hx hb dX2_cameTo_48 rfl (lv_at hl 3 rfl) ?_
    refine z_ine (pc := 49) (tgt := 60) hC hf dX2_cameTo_49 (by decide) (fun hf => ?_) (fun hf => ?_)
    · refine lv_iload_n (pc := 52) hx hb dX2_cameTo_52 rfl (lv_at hl 4 rfl) ?_
      refine z_aload (pc := 53) hC dX2_cameTo_53 (lv_at hl 0 rfl) ?_
      refine z_gP (pc := 55) hC hZ fkX2_61 rfl hf dX2_cameTo_55 (fun v6 hf => ?_)
      refine lv_iadd (pc := 58) hx hb dX2_cameTo_58 ?_
      refine z_istore_n (pc := 59) (i := 3) (lv' := [(3, .int (x3 + v6)), (5, va_rf (v1.map aP)), (0, .ref (a0 2)), (1, .int x1), (2, .int x2), (4, .int x4)]) hC dX2_cameTo_59 rfl hl (by decide) (zadj_cons (Or.inl (Nat.ne_of_beq_eq_false rfl)) (zadj_cons (Or.inl (Nat.ne_of_beq_eq_false rfl)) (zadj_cons (Or.inl (Nat.ne_of_beq_eq_false rfl)) (zadj_cons (Or.inr rfl) (zadj_cons (Or.inl (Nat.ne_of_beq_eq_false rfl)) (zadj_cons (Or.inl (Nat.ne_of_beq_eq_false rfl)) zadj_nil)))))) rfl (fun ls hl => ?_)
      refine z_iinc (pc := 60) (i := 4) (v := (x4 + (1 : Int32))) (lv' := [(4, .int (x4 + (1 : Int32))), (3, .int (x3 + v6)), (5, va_rf (v1.map aP)), (0, .ref (a0 2)), (1, .int x1), (2, .int x2)]) hC dX2_cameTo_60 hl (k := 5) rfl rfl (by decide) (zadj_cons (Or.inr rfl) (zadj_cons (Or.inl (Nat.ne_of_beq_eq_false rfl)) (zadj_cons (Or.inl (Nat.ne_of_beq_eq_false rfl)) (zadj_cons (Or.inl (Nat.ne_of_beq_eq_false rfl)) (zadj_cons (Or.inl (Nat.ne_of_beq_eq_false rfl)) (zadj_cons (Or.inl (Nat.ne_of_beq_eq_false rfl)) zadj_nil)))))) rfl (fun ls hl => ?_)
      refine lv_goto (pc := 63) (tgt := 5) hx hb dX2_cameTo_63 (by decide) ?_
      exact ih ((x3 + v6), (x4 + (1 : Int32)), w0) hf H locs ls hZ (lv_sub hl [3, 4, 5, 1, 0] rfl)
    refine z_iinc (pc := 60) (i := 4) (v := (x4 + (1 : Int32))) (lv' := [(4, .int (x4 + (1 : Int32))), (5, va_rf (v1.map aP)), (0, .ref (a0 2)), (1, .int x1), (2, .int x2), (3, .int x3)]) hC dX2_cameTo_60 hl (k := 5) rfl rfl (by decide) (zadj_cons (Or.inl (Nat.ne_of_beq_eq_false rfl)) (zadj_cons (Or.inl (Nat.ne_of_beq_eq_false rfl)) (zadj_cons (Or.inl (Nat.ne_of_beq_eq_false rfl)) (zadj_cons (Or.inl (Nat.ne_of_beq_eq_false rfl)) (zadj_cons (Or.inr rfl) (zadj_cons (Or.inl (Nat.ne_of_beq_eq_false rfl)) zadj_nil)))))) rfl (fun ls hl => ?_)
    refine lv_goto (pc := 63) (tgt := 5) hx hb dX2_cameTo_63 (by decide) ?_
    exact ih (x3, (x4 + (1 : Int32)), w0) hf H locs ls hZ (lv_sub hl [2, 3, 4, 5, 0] rfl)
  refine z_iinc (pc := 60) (i := 4) (v := (x4 + (1 : Int32))) (lv' := [(4, .int (x4 + (1 : Int32))), (5, va_rf (v1.map aP)), (0, .ref (a0 2)), (1, .int x1), (2, .int x2), (3, .int x3)]) hC dX2_cameTo_60 hl (k := 5) rfl rfl (by decide) (zadj_cons (Or.inl (Nat.ne_of_beq_eq_false rfl)) (zadj_cons (Or.inl (Nat.ne_of_beq_eq_false rfl)) (zadj_cons (Or.inl (Nat.ne_of_beq_eq_false rfl)) (zadj_cons (Or.inl (Nat.ne_of_beq_eq_false rfl)) (zadj_cons (Or.inr rfl) (zadj_cons (Or.inl (Nat.ne_of_beq_eq_false rfl)) zadj_nil)))))) rfl (fun ls hl => ?_)
  refine lv_goto (pc := 63) (tgt := 5) hx hb dX2_cameTo_63 (by decide) ?_
  exact ih (x3, (x4 + (1 : Int32)), w0) hf H locs ls hZ (lv_sub hl [2, 3, 4, 5, 0] rfl)
set_option maxHeartbeats 4000000 in
set_option maxRecDepth 100000 in
theorem cX2_cameTo_ok (l : Launch) (D : va_G) (cy : Nat → ClassId) (a0 aT aP : Nat → Nat) (N : Nat) (x1 : Int32) (x2 : Int32) (w0 : zS) (rv : Int32) (τ : zS) (hf : fX2_cameTo N x1 x2 w0 = some (rv, τ)) : zMi l yX2_cameTo cX2_cameTo 6 (some .int) rmX2_cameTo D cy shX 38 a0 aT aP w0 [.ref (a0 2), .int x1, .int x2] rv τ (fun u => u = (aT, aP)) := by
  refine zmet_i (by decide +kernel) (Or.inl rfl) (Nat.le_of_ble_eq_true rfl) ?_
  intro p e s m below meth c A Q ls hC hA hZ hl hE
  have hx := hC.1.1
  have hb := hC.1.2.1
  have hl : lv_has ls 6 [(0, .ref (a0 2)), (1, .int x1), (2, .int x2)] := hl
  unfold fX2_cameTo at hf
  refine lv_iconst (pc := 0) (v := (0 : Int32)) hx hb dX2_cameTo_0 (by decide) ?_
  refine lv_istore_n (pc := 1) (lv' := [(3, .int (0 : Int32)), (0, .ref (a0 2)), (1, .int x1), (2, .int x2)]) hx hb dX2_cameTo_1 rfl hl (by decide) rfl (fun ls hl => ?_)
  refine lv_iconst (pc := 2) (v := (0 : Int32)) hx hb dX2_cameTo_2 (by decide) ?_
  refine lv_istore (pc := 3) (lv' := [(4, .int (0 : Int32)), (3, .int (0 : Int32)), (0, .ref (a0 2)), (1, .int x1), (2, .int x2)]) hx hb dX2_cameTo_3 hl (by decide) rfl (fun ls hl => ?_)
  refine wX2_cameTo_5 (res := (rv, τ)) N x1 x2 hC hA hE N _ _ _ hf hZ (lv_sub hl [2, 3, 4, 1, 0] rfl) (fun y7 y8 w9 H locs ls hf hZ hl => ?_)
  refine lv_iload_n (pc := 66) hx hb dX2_cameTo_66 rfl (lv_at hl 3 rfl) ?_
  obtain ⟨rfl, rfl⟩ := zinj hf
  exact hE _ _ _ _ _ _ rfl hZ dX2_cameTo_67
section ZK
variable {p : Program} {l : Launch} {e : Env} {R : Room} {s : State} {m : MethodId} {args : Array Value} {below : List Frame} {meth : Method} {c : Code} {H : Heap} {locs : List Loc} {cells slots : Nat} {Q : State → Prop}
variable {pc : Nat} {ls : Array Slot} {rest : List Value} {A : Nat → Prop} {H0 : Heap} {D : va_G} {cy : Nat → ClassId} {a0 aT aP : Nat → Nat} {σ : zS} {cc : ByteArray} {nL : Nat} {α : Type} {res : α}
theorem vkX7_153 : zVk RX7 153 yX2_cameTo cX2_cameTo 6 (some .int) 2 := ⟨by decide +kernel, by decide +kernel, by decide +kernel, by decide +kernel, by decide +kernel, by decide +kernel⟩
theorem kX7_153 (hC : zC p s m args c RX7 cc nL D cy) (hA : ∀ q, H0.size ≤ q → A q) (hZ : zW D cy shX 38 a0 aT aP A H0 σ H locs) {N : Nat} {x1 : Int32} {x2 : Int32} {k : Int32 → zS → Option α} (hf : zbi (fX2_cameTo N x1 x2 σ) k = some res) (hsz : ls.size = nL) (hW : (rest.map fun v => v.category).sum ≤ 8) (hR : rmX2_cameTo.frames + 1 ≤ R.frames ∧ 8 + (6 + 11) + rmX2_cameTo.locals ≤ R.locals) (hcs : cells ≤ R.cells ∧ slots ≤ R.slots) (hdg : decode cc pc = .ok (.invokevirtual 153, 3)) (kk : ∀ (v : Int32) (τ : zS) (H1 : Heap) (locs1 : List Loc), k v τ = some res → zW D cy shX 38 a0 aT aP A H0 τ H1 locs1 → W p l e R s m args below meth c H1 locs1 cells slots Q (F0 m (pc + 3) ls (.int v :: rest))) : W p l e R s m args below meth c H locs cells slots Q (F0 m pc ls (.int x2 :: .int x1 :: .ref (a0 2) :: rest)) := by
  cases hq : fX2_cameTo N x1 x2 σ with
  | none => rw [hq] at hf; cases hf
  | some q =>
    rw [hq] at hf
    exact zcalli hA hZ (zrun hC hZ vkX7_153 rfl (zw0 (by decide)) (cX2_cameTo_ok l D cy a0 aT aP N x1 x2 σ q.1 q.2 hq H.size) hR rfl hsz rfl hW hcs hdg) (fun u H1 locs1 hU hZ1 => by subst hU; exact kk q.1 q.2 H1 locs1 hf hZ1)
end ZK
