set_option maxHeartbeats 4000000 in
set_option maxRecDepth 100000 in
theorem cX8_scrap_ok (l : Launch) (D : va_G) (cy : Nat → ClassId) (a0 aT aP : Nat → Nat) (N : Nat) (x1 : Int32) (x2 : Int32) (x3 : Int32) (w0 : zS) (rv : Int32) (τ : zS) (hf : fX8_scrap N x1 x2 x3 w0 = some (rv, τ)) : zMi l yX8_scrap cX8_scrap 4 (some .int) rmX8_scrap D cy shM 35 a0 aT aP w0 [.ref (a0 0), .int x1, .int x2, .int x3] rv τ (fun u => u = (aT, aP)) := by
  refine zmet_i (by decide +kernel) (Or.inl rfl) (Nat.le_of_ble_eq_true rfl) ?_
  intro p e s m below meth c A Q ls hC hA hZ hl hE
  have hx := hC.1.1
  have hb := hC.1.2.1
  have hl : lv_has ls 4 [(0, .ref (a0 0)), (1, .int x1), (2, .int x2), (3, .int x3)] := hl
  unfold fX8_scrap at hf
  refine lv_aload_n (pc := 0) hx hb dX8_scrap_0 rfl (lv_at hl 0 rfl) ?_
  refine lv_iload_n (pc := 1) hx hb dX8_scrap_1 rfl (lv_at hl 1 rfl) ?_
  refine kX8_139 (pc := 2) hC hA hZ hf hl.1 (Nat.le_of_ble_eq_true rfl) ⟨Nat.le_of_ble_eq_true rfl, Nat.le_of_ble_eq_true rfl⟩ ⟨Nat.le_refl _, Nat.le_refl _⟩ dX8_scrap_2 (fun v2 w1 H locs hf hZ => ?_)
  refine z_eq0 (pc := 5) (tgt := 16) hC hf dX8_scrap_5 (by decide) (fun hf => ?_) (fun hf => ?_)
  · refine lv_aload_n (pc := 16) hx hb dX8_scrap_16 rfl (lv_at hl 0 rfl) ?_
    refine lv_iconst (pc := 17) (v := (-1 : Int32)) hx hb dX8_scrap_17 (by decide) ?_
    refine kX8_146 (pc := 18) hC hA hZ hf hl.1 (Nat.le_of_ble_eq_true rfl) ⟨Nat.le_of_ble_eq_true rfl, Nat.le_of_ble_eq_true rfl⟩ ⟨Nat.le_refl _, Nat.le_refl _⟩ dX8_scrap_18 (fun v4 w3 H locs hf hZ => ?_)
    obtain ⟨rfl, rfl⟩ := zinj hf
    exact hE _ _ _ _ _ _ rfl hZ dX8_scrap_21
  refine lv_aload_n (pc := 8) hx hb dX8_scrap_8 rfl (lv_at hl 0 rfl) ?_
  refine lv_iload_n (pc := 9) hx hb dX8_scrap_9 rfl (lv_at hl 2 rfl) ?_
  refine kX8_143 (pc := 10) hC hA hZ hf hl.1 (Nat.le_of_ble_eq_true rfl) ⟨Nat.le_of_ble_eq_true rfl, Nat.le_of_ble_eq_true rfl⟩ ⟨Nat.le_refl _, Nat.le_refl _⟩ dX8_scrap_10 (fun v6 w5 H locs hf hZ => ?_)
  refine z_ne0 (pc := 13) (tgt := 22) hC hf dX8_scrap_13 (by decide) (fun hf => ?_) (fun hf => ?_)
  · refine lv_aload_n (pc := 16) hx hb dX8_scrap_16 rfl (lv_at hl 0 rfl) ?_
    refine lv_iconst (pc := 17) (v := (-1 : Int32)) hx hb dX8_scrap_17 (by decide) ?_
    refine kX8_146 (pc := 18) hC hA hZ hf hl.1 (Nat.le_of_ble_eq_true rfl) ⟨Nat.le_of_ble_eq_true rfl, Nat.le_of_ble_eq_true rfl⟩ ⟨Nat.le_refl _, Nat.le_refl _⟩ dX8_scrap_18 (fun v8 w7 H locs hf hZ => ?_)
    obtain ⟨rfl, rfl⟩ := zinj hf
    exact hE _ _ _ _ _ _ rfl hZ dX8_scrap_21
  refine lv_iload_n (pc := 22) hx hb dX8_scrap_22 rfl (lv_at hl 3 rfl) ?_
  refine lv_iconst (pc := 23) (v := (1 : Int32)) hx hb dX8_scrap_23 (by decide) ?_
  refine z_ige (pc := 24) (tgt := 34) hC hf dX8_scrap_24 (by decide) (fun hf => ?_) (fun hf => ?_)
  · refine lv_iload_n (pc := 34) hx hb dX8_scrap_34 rfl (lv_at hl 3 rfl) ?_
    refine lv_aload_n (pc := 35) hx hb dX8_scrap_35 rfl (lv_at hl 0 rfl) ?_
    refine lv_iload_n (pc := 36) hx hb dX8_scrap_36 rfl (lv_at hl 1 rfl) ?_
    refine lv_iload_n (pc := 37) hx hb dX8_scrap_37 rfl (lv_at hl 2 rfl) ?_
    refine lv_aload_n (pc := 38) hx hb dX8_scrap_38 rfl (lv_at hl 0 rfl) ?_
    refine gfX8_130 (pc := 39) hC hZ dX8_scrap_39 ?_
    refine kX8_149 (pc := 42) hC hA hZ hf hl.1 (Nat.le_of_ble_eq_true rfl) ⟨Nat.le_of_ble_eq_true rfl, Nat.le_of_ble_eq_true rfl⟩ ⟨Nat.le_refl _, Nat.le_refl _⟩ dX8_scrap_42 (fun v10 w9 H locs hf hZ => ?_)
    refine z_ile (pc := 45) (tgt := 55) hC hf dX8_scrap_45 (by decide) (fun hf => ?_) (fun hf => ?_)
    · refine lv_aload_n (pc := 55) hx hb dX8_scrap_55 rfl (lv_at hl 0 rfl) ?_
      refine gfX8_133 (pc := 56) hC hZ dX8_scrap_56 ?_
      refine lv_sipush (pc := 59) (v := (2000 : Int32)) hx hb dX8_scrap_59 (by decide) ?_
      refine z_ine (pc := 62) (tgt := 72) hC hf dX8_scrap_62 (by decide) (fun hf => ?_) (fun hf => ?_)
      · refine lv_aload_n (pc := 65) hx hb dX8_scrap_65 rfl (lv_at hl 0 rfl) ?_
        refine lv_bipush (pc := 66) (v := (-6 : Int32)) hx hb dX8_scrap_66 (by decide) ?_
        refine kX8_146 (pc := 68) hC hA hZ hf hl.1 (Nat.le_of_ble_eq_true rfl) ⟨Nat.le_of_ble_eq_true rfl, Nat.le_of_ble_eq_true rfl⟩ ⟨Nat.le_refl _, Nat.le_refl _⟩ dX8_scrap_68 (fun v12 w11 H locs hf hZ => ?_)
        obtain ⟨rfl, rfl⟩ := zinj hf
        exact hE _ _ _ _ _ _ rfl hZ dX8_scrap_71
      refine lv_aload_n (pc := 72) hx hb dX8_scrap_72 rfl (lv_at hl 0 rfl) ?_
      refine lv_iload_n (pc := 73) hx hb dX8_scrap_73 rfl (lv_at hl 1 rfl) ?_
      refine lv_iload_n (pc := 74) hx hb dX8_scrap_74 rfl (lv_at hl 2 rfl) ?_
      refine lv_aload_n (pc := 75) hx hb dX8_scrap_75 rfl (lv_at hl 0 rfl) ?_
      refine gfX8_130 (pc := 76) hC hZ dX8_scrap_76 ?_
      refine lv_iload_n (pc := 79) hx hb dX8_scrap_79 rfl (lv_at hl 3 rfl) ?_
      refine lv_ineg (pc := 80) hx hb dX8_scrap_80 ?_
      refine kX8_153 (pc := 81) hC hA hZ hf hl.1 (Nat.le_of_ble_eq_true rfl) ⟨Nat.le_of_ble_eq_true rfl, Nat.le_of_ble_eq_true rfl⟩ ⟨Nat.le_refl _, Nat.le_refl _⟩ dX8_scrap_81 (fun w13 H locs hf hZ => ?_)
      refine lv_aload_n (pc := 84) hx hb dX8_scrap_84 rfl (lv_at hl 0 rfl) ?_
      refine gfX8_28 (pc := 85) hC hZ dX8_scrap_85 ?_
      refine lv_iload_n (pc := 88) hx hb dX8_scrap_88 rfl (lv_at hl 2 rfl) ?_
      refine lv_dup2_11 (pc := 89) hx hb dX8_scrap_89 rfl rfl ?_
      refine z_lald (pc := 90) hC hZ (by decide) rfl hf dX8_scrap_90 (fun v14 hf => ?_)
      refine lv_iload_n (pc := 91) hx hb dX8_scrap_91 rfl (lv_at hl 3 rfl) ?_
      refine lv_i2l (pc := 92) hx hb dX8_scrap_92 rfl ?_
      refine lv_lsub (pc := 93) hx hb dX8_scrap_93 ?_
      refine z_last (pc := 94) hC hZ (by decide) rfl hf dX8_scrap_94 (fun w15 H locs hf hZ => ?_)
      refine lv_aload_n (pc := 95) hx hb dX8_scrap_95 rfl (lv_at hl 0 rfl) ?_
      refine lv_iload_n (pc := 96) hx hb dX8_scrap_96 rfl (lv_at hl 1 rfl) ?_
      refine lv_iload_n (pc := 97) hx hb dX8_scrap_97 rfl (lv_at hl 2 rfl) ?_
      refine lv_aload_n (pc := 98) hx hb dX8_scrap_98 rfl (lv_at hl 0 rfl) ?_
      refine gfX8_130 (pc := 99) hC hZ dX8_scrap_99 ?_
      refine kX8_149 (pc := 102) hC hA hZ hf hl.1 (Nat.le_of_ble_eq_true rfl) ⟨Nat.le_of_ble_eq_true rfl, Nat.le_of_ble_eq_true rfl⟩ ⟨Nat.le_refl _, Nat.le_refl _⟩ dX8_scrap_102 (fun v17 w16 H locs hf hZ => ?_)
      obtain ⟨rfl, rfl⟩ := zinj hf
      exact hE _ _ _ _ _ _ rfl hZ dX8_scrap_105
    refine lv_aload_n (pc := 48) hx hb dX8_scrap_48 rfl (lv_at hl 0 rfl) ?_
    refine lv_bipush (pc := 49) (v := (-5 : Int32)) hx hb dX8_scrap_49 (by decide) ?_
    refine kX8_146 (pc := 51) hC hA hZ hf hl.1 (Nat.le_of_ble_eq_true rfl) ⟨Nat.le_of_ble_eq_true rfl, Nat.le_of_ble_eq_true rfl⟩ ⟨Nat.le_refl _, Nat.le_refl _⟩ dX8_scrap_51 (fun v19 w18 H locs hf hZ => ?_)
    obtain ⟨rfl, rfl⟩ := zinj hf
    exact hE _ _ _ _ _ _ rfl hZ dX8_scrap_54
  refine lv_aload_n (pc := 27) hx hb dX8_scrap_27 rfl (lv_at hl 0 rfl) ?_
  refine lv_bipush (pc := 28) (v := (-4 : Int32)) hx hb dX8_scrap_28 (by decide) ?_
  refine kX8_146 (pc := 30) hC hA hZ hf hl.1 (Nat.le_of_ble_eq_true rfl) ⟨Nat.le_of_ble_eq_true rfl, Nat.le_of_ble_eq_true rfl⟩ ⟨Nat.le_refl _, Nat.le_refl _⟩ dX8_scrap_30 (fun v21 w20 H locs hf hZ => ?_)
  obtain ⟨rfl, rfl⟩ := zinj hf
  exact hE _ _ _ _ _ _ rfl hZ dX8_scrap_33
set_option maxHeartbeats 4000000 in
set_option maxRecDepth 100000 in
theorem cX8_found_ok (l : Launch) (D : va_G) (cy : Nat → ClassId) (a0 aT aP : Nat → Nat) (N : Nat) (x1 : Int32) (x2 : Int32) (x3 : Int32) (w0 : zS) (rv : Int32) (τ : zS) (hf : fX8_found N x1 x2 x3 w0 = some (rv, τ)) : zMi l yX8_found cX8_found 5 (some .int) rmX8_found D cy shM 35 a0 aT aP w0 [.ref (a0 0), .int x1, .int x2, .int x3] rv τ (fun u => u = (aT, aP)) := by
  refine zmet_i (by decide +kernel) (Or.inl rfl) (Nat.le_of_ble_eq_true rfl) ?_
  intro p e s m below meth c A Q ls hC hA hZ hl hE
  have hx := hC.1.1
  have hb := hC.1.2.1
  have hl : lv_has ls 5 [(0, .ref (a0 0)), (1, .int x1), (2, .int x2), (3, .int x3)] := hl
  unfold fX8_found at hf
  refine lv_aload_n (pc := 0) hx hb dX8_found_0 rfl (lv_at hl 0 rfl) ?_
  refine lv_iload_n (pc := 1) hx hb dX8_found_1 rfl (lv_at hl 1 rfl) ?_
  refine kX8_139 (pc := 2) hC hA hZ hf hl.1 (Nat.le_of_ble_eq_true rfl) ⟨Nat.le_of_ble_eq_true rfl, Nat.le_of_ble_eq_true rfl⟩ ⟨Nat.le_refl _, Nat.le_refl _⟩ dX8_found_2 (fun v2 w1 H locs hf hZ => ?_)
  refine z_eq0 (pc := 5) (tgt := 16) hC hf dX8_found_5 (by decide) (fun hf => ?_) (fun hf => ?_)
  · refine lv_aload_n (pc := 16) hx hb dX8_found_16 rfl (lv_at hl 0 rfl) ?_
    refine lv_iconst (pc := 17) (v := (-1 : Int32)) hx hb dX8_found_17 (by decide) ?_
    refine kX8_146 (pc := 18) hC hA hZ hf hl.1 (Nat.le_of_ble_eq_true rfl) ⟨Nat.le_of_ble_eq_true rfl, Nat.le_of_ble_eq_true rfl⟩ ⟨Nat.le_refl _, Nat.le_refl _⟩ dX8_found_18 (fun v4 w3 H locs hf hZ => ?_)
    obtain ⟨rfl, rfl⟩ := zinj hf
    exact hE _ _ _ _ _ _ rfl hZ dX8_found_21
  refine lv_aload_n (pc := 8) hx hb dX8_found_8 rfl (lv_at hl 0 rfl) ?_
  refine lv_iload_n (pc := 9) hx hb dX8_found_9 rfl (lv_at hl 2 rfl) ?_
  refine kX8_143 (pc := 10) hC hA hZ hf hl.1 (Nat.le_of_ble_eq_true rfl) ⟨Nat.le_of_ble_eq_true rfl, Nat.le_of_ble_eq_true rfl⟩ ⟨Nat.le_refl _, Nat.le_refl _⟩ dX8_found_10 (fun v6 w5 H locs hf hZ => ?_)
  refine z_ne0 (pc := 13) (tgt := 22) hC hf dX8_found_13 (by decide) (fun hf => ?_) (fun hf => ?_)
  · refine lv_aload_n (pc := 16) hx hb dX8_found_16 rfl (lv_at hl 0 rfl) ?_
    refine lv_iconst (pc := 17) (v := (-1 : Int32)) hx hb dX8_found_17 (by decide) ?_
    refine kX8_146 (pc := 18) hC hA hZ hf hl.1 (Nat.le_of_ble_eq_true rfl) ⟨Nat.le_of_ble_eq_true rfl, Nat.le_of_ble_eq_true rfl⟩ ⟨Nat.le_refl _, Nat.le_refl _⟩ dX8_found_18 (fun v8 w7 H locs hf hZ => ?_)
    obtain ⟨rfl, rfl⟩ := zinj hf
    exact hE _ _ _ _ _ _ rfl hZ dX8_found_21
  refine lv_iload_n (pc := 22) hx hb dX8_found_22 rfl (lv_at hl 3 rfl) ?_
  refine z_ge0 (pc := 23) (tgt := 33) hC hf dX8_found_23 (by decide) (fun hf => ?_) (fun hf => ?_)
  · refine lv_iload_n (pc := 33) hx hb dX8_found_33 rfl (lv_at hl 3 rfl) ?_
    refine lv_ldc (pc := 34) (v := (100000 : Int32)) hx hb hC.1.2.2.2.1 (hC.1.2.2.2.2 _ kcX8_157) dX8_found_34 ?_
    refine z_igt (pc := 36) (tgt := 49) hC hf dX8_found_36 (by decide) (fun hf => ?_) (fun hf => ?_)
    · refine lv_aload_n (pc := 49) hx hb dX8_found_49 rfl (lv_at hl 0 rfl) ?_
      refine lv_bipush (pc := 50) (v := (-6 : Int32)) hx hb dX8_found_50 (by decide) ?_
      refine kX8_146 (pc := 52) hC hA hZ hf hl.1 (Nat.le_of_ble_eq_true rfl) ⟨Nat.le_of_ble_eq_true rfl, Nat.le_of_ble_eq_true rfl⟩ ⟨Nat.le_refl _, Nat.le_refl _⟩ dX8_found_52 (fun v10 w9 H locs hf hZ => ?_)
      obtain ⟨rfl, rfl⟩ := zinj hf
      exact hE _ _ _ _ _ _ rfl hZ dX8_found_55
    refine lv_aload_n (pc := 39) hx hb dX8_found_39 rfl (lv_at hl 0 rfl) ?_
    refine gfX8_133 (pc := 40) hC hZ dX8_found_40 ?_
    refine lv_sipush (pc := 43) (v := (2000 : Int32)) hx hb dX8_found_43 (by decide) ?_
    refine z_ine (pc := 46) (tgt := 56) hC hf dX8_found_46 (by decide) (fun hf => ?_) (fun hf => ?_)
    · refine lv_aload_n (pc := 49) hx hb dX8_found_49 rfl (lv_at hl 0 rfl) ?_
      refine lv_bipush (pc := 50) (v := (-6 : Int32)) hx hb dX8_found_50 (by decide) ?_
      refine kX8_146 (pc := 52) hC hA hZ hf hl.1 (Nat.le_of_ble_eq_true rfl) ⟨Nat.le_of_ble_eq_true rfl, Nat.le_of_ble_eq_true rfl⟩ ⟨Nat.le_refl _, Nat.le_refl _⟩ dX8_found_52 (fun v12 w11 H locs hf hZ => ?_)
      obtain ⟨rfl, rfl⟩ := zinj hf
      exact hE _ _ _ _ _ _ rfl hZ dX8_found_55
    refine lv_aload_n (pc := 56) hx hb dX8_found_56 rfl (lv_at hl 0 rfl) ?_
    refine lv_iload_n (pc := 57) hx hb dX8_found_57 rfl (lv_at hl 1 rfl) ?_
    refine lv_iload_n (pc := 58) hx hb dX8_found_58 rfl (lv_at hl 2 rfl) ?_
    refine lv_aload_n (pc := 59) hx hb dX8_found_59 rfl (lv_at hl 0 rfl) ?_
    refine gfX8_130 (pc := 60) hC hZ dX8_found_60 ?_
    refine kX8_149 (pc := 63) hC hA hZ hf hl.1 (Nat.le_of_ble_eq_true rfl) ⟨Nat.le_of_ble_eq_true rfl, Nat.le_of_ble_eq_true rfl⟩ ⟨Nat.le_refl _, Nat.le_refl _⟩ dX8_found_63 (fun v14 w13 H locs hf hZ => ?_)
    refine lv_istore (pc := 66) (lv' := [(4, .int v14), (0, .ref (a0 0)), (1, .int x1), (2, .int x2), (3, .int x3)]) hx hb dX8_found_66 hl (by decide) rfl (fun ls hl => ?_)
    refine lv_iload (pc := 68) hx hb dX8_found_68 (lv_at hl 0 rfl) ?_
    refine lv_iload_n (pc := 70) hx hb dX8_found_70 rfl (lv_at hl 4 rfl) ?_
    refine z_ieq (pc := 71) (tgt := 106) hC hf dX8_found_71 (by decide) (fun hf => ?_) (fun hf => ?_)
    · refine lv_iload (pc := 106) hx hb dX8_found_106 (lv_at hl 0 rfl) ?_
      obtain ⟨rfl, rfl⟩ := zinj hf
      exact hE _ _ _ _ _ _ rfl hZ dX8_found_108
    refine lv_aload_n (pc := 74) hx hb dX8_found_74 rfl (lv_at hl 1 rfl) ?_
    refine lv_iload_n (pc := 75) hx hb dX8_found_75 rfl (lv_at hl 2 rfl) ?_
    refine lv_iload_n (pc := 76) hx hb dX8_found_76 rfl (lv_at hl 3 rfl) ?_
    refine lv_aload_n (pc := 77) hx hb dX8_found_77 rfl (lv_at hl 1 rfl) ?_
    refine gfX8_130 (pc := 78) hC hZ dX8_found_78 ?_
    refine lv_iload_n (pc := 81) hx hb dX8_found_81 rfl (lv_at hl 4 rfl) ?_
    refine lv_iload (pc := 82) hx hb dX8_found_82 (lv_at hl 0 rfl) ?_
    refine lv_isub (pc := 84) hx hb dX8_found_84 ?_
    refine kX8_153 (pc := 85) hC hA hZ hf hl.1 (Nat.le_of_ble_eq_true rfl) ⟨Nat.le_of_ble_eq_true rfl, Nat.le_of_ble_eq_true rfl⟩ ⟨Nat.le_refl _, Nat.le_refl _⟩ dX8_found_85 (fun w15 H locs hf hZ => ?_)
    refine lv_aload_n (pc := 88) hx hb dX8_found_88 rfl (lv_at hl 1 rfl) ?_
    refine gfX8_72 (pc := 89) hC hZ dX8_found_89 ?_
    refine lv_bipush (pc := 92) (v := (6 : Int32)) hx hb dX8_found_92 (by decide) ?_
    refine lv_iload_n (pc := 94) hx hb dX8_found_94 rfl (lv_at hl 2 rfl) ?_
    refine lv_imul (pc := 95) hx hb dX8_found_95 ?_
    refine lv_iload_n (pc := 96) hx hb dX8_found_96 rfl (lv_at hl 3 rfl) ?_
    refine lv_iadd (pc := 97) hx hb dX8_found_97 ?_
    refine lv_dup2_11 (pc := 98) hx hb dX8_found_98 rfl rfl ?_
    refine z_iald (pc := 99) hC hZ (by decide) rfl hf dX8_found_99 (fun v16 hf => ?_)
    refine lv_iload (pc := 100) hx hb dX8_found_100 (lv_at hl 0 rfl) ?_
    refine lv_iload_n (pc := 102) hx hb dX8_found_102 rfl (lv_at hl 4 rfl) ?_
    refine lv_isub (pc := 103) hx hb dX8_found_103 ?_
    refine lv_iadd (pc := 104) hx hb dX8_found_104 ?_
    refine z_iast (pc := 105) hC hZ (by decide) rfl hf dX8_found_105 (fun w17 H locs hf hZ => ?_)
    refine lv_iload (pc := 106) hx hb dX8_found_106 (lv_at hl 0 rfl) ?_
    obtain ⟨rfl, rfl⟩ := zinj hf
    exact hE _ _ _ _ _ _ rfl hZ dX8_found_108
  refine lv_aload_n (pc := 26) hx hb dX8_found_26 rfl (lv_at hl 0 rfl) ?_
  refine lv_bipush (pc := 27) (v := (-4 : Int32)) hx hb dX8_found_27 (by decide) ?_
  refine kX8_146 (pc := 29) hC hA hZ hf hl.1 (Nat.le_of_ble_eq_true rfl) ⟨Nat.le_of_ble_eq_true rfl, Nat.le_of_ble_eq_true rfl⟩ ⟨Nat.le_refl _, Nat.le_refl _⟩ dX8_found_29 (fun v19 w18 H locs hf hZ => ?_)
  obtain ⟨rfl, rfl⟩ := zinj hf
  exact hE _ _ _ _ _ _ rfl hZ dX8_found_32
set_option maxHeartbeats 4000000 in
set_option maxRecDepth 100000 in
theorem cX8_lost_ok (l : Launch) (D : va_G) (cy : Nat → ClassId) (a0 aT aP : Nat → Nat) (N : Nat) (x1 : Int32) (x2 : Int32) (w0 : zS) (rv : Int32) (τ : zS) (hf : fX8_lost N x1 x2 w0 = some (rv, τ)) : zMi l yX8_lost cX8_lost 3 (some .int) rmX8_lost D cy shM 35 a0 aT aP w0 [.ref (a0 0), .int x1, .int x2] rv τ (fun u => u = (aT, aP)) := by
  refine zmet_i (by decide +kernel) (Or.inl rfl) (Nat.le_of_ble_eq_true rfl) ?_
  intro p e s m below meth c A Q ls hC hA hZ hl hE
  have hx := hC.1.1
  have hb := hC.1.2.1
  have hl : lv_has ls 3 [(0, .ref (a0 0)), (1, .int x1), (2, .int x2)] := hl
  unfold fX8_lost at hf
  refine lv_aload_n (pc := 0) hx hb dX8_lost_0 rfl (lv_at hl 0 rfl) ?_
  refine lv_iload_n (pc := 1) hx hb dX8_lost_1 rfl (lv_at hl 1 rfl) ?_
  refine kX8_139 (pc := 2) hC hA hZ hf hl.1 (Nat.le_of_ble_eq_true rfl) ⟨Nat.le_of_ble_eq_true rfl, Nat.le_of_ble_eq_true rfl⟩ ⟨Nat.le_refl _, Nat.le_refl _⟩ dX8_lost_2 (fun v2 w1 H locs hf hZ => ?_)
  refine z_eq0 (pc := 5) (tgt := 30) hC hf dX8_lost_5 (by decide) (fun hf => ?_) (fun hf => ?_)
  · refine lv_aload_n (pc := 30) hx hb dX8_lost_30 rfl (lv_at hl 0 rfl) ?_
    refine lv_iconst (pc := 31) (v := (-1 : Int32)) hx hb dX8_lost_31 (by decide) ?_
    refine kX8_146 (pc := 32) hC hA hZ hf hl.1 (Nat.le_of_ble_eq_true rfl) ⟨Nat.le_of_ble_eq_true rfl, Nat.le_of_ble_eq_true rfl⟩ ⟨Nat.le_refl _, Nat.le_refl _⟩ dX8_lost_32 (fun v4 w3 H locs hf hZ => ?_)
    obtain ⟨rfl, rfl⟩ := zinj hf
    exact hE _ _ _ _ _ _ rfl hZ dX8_lost_35
  refine lv_aload_n (pc := 8) hx hb dX8_lost_8 rfl (lv_at hl 0 rfl) ?_
  refine lv_iload_n (pc := 9) hx hb dX8_lost_9 rfl (lv_at hl 2 rfl) ?_
  refine kX8_143 (pc := 10) hC hA hZ hf hl.1 (Nat.le_of_ble_eq_true rfl) ⟨Nat.le_of_ble_eq_true rfl, Nat.le_of_ble_eq_true rfl⟩ ⟨Nat.le_refl _, Nat.le_refl _⟩ dX8_lost_10 (fun v6 w5 H locs hf hZ => ?_)
  refine z_eq0 (pc := 13) (tgt := 30) hC hf dX8_lost_13 (by decide) (fun hf => ?_) (fun hf => ?_)
  · refine lv_aload_n (pc := 30) hx hb dX8_lost_30 rfl (lv_at hl 0 rfl) ?_
    refine lv_iconst (pc := 31) (v := (-1 : Int32)) hx hb dX8_lost_31 (by decide) ?_
    refine kX8_146 (pc := 32) hC hA hZ hf hl.1 (Nat.le_of_ble_eq_true rfl) ⟨Nat.le_of_ble_eq_true rfl, Nat.le_of_ble_eq_true rfl⟩ ⟨Nat.le_refl _, Nat.le_refl _⟩ dX8_lost_32 (fun v8 w7 H locs hf hZ => ?_)
    obtain ⟨rfl, rfl⟩ := zinj hf
    exact hE _ _ _ _ _ _ rfl hZ dX8_lost_35
  refine lv_aload_n (pc := 16) hx hb dX8_lost_16 rfl (lv_at hl 0 rfl) ?_
  refine gfX8_72 (pc := 17) hC hZ dX8_lost_17 ?_
  refine lv_bipush (pc := 20) (v := (6 : Int32)) hx hb dX8_lost_20 (by decide) ?_
  refine lv_iload_n (pc := 22) hx hb dX8_lost_22 rfl (lv_at hl 1 rfl) ?_
  refine lv_imul (pc := 23) hx hb dX8_lost_23 ?_
  refine lv_iload_n (pc := 24) hx hb dX8_lost_24 rfl (lv_at hl 2 rfl) ?_
  refine lv_iadd (pc := 25) hx hb dX8_lost_25 ?_
  refine z_iald (pc := 26) hC hZ (by decide) rfl hf dX8_lost_26 (fun v9 hf => ?_)
  refine lv_goto (pc := 27) (tgt := 35) hx hb dX8_lost_27 (by decide) ?_
  obtain ⟨rfl, rfl⟩ := zinj hf
  exact hE _ _ _ _ _ _ rfl hZ dX8_lost_35
set_option maxHeartbeats 4000000 in
set_option maxRecDepth 100000 in
theorem cX8_tell_ok (l : Launch) (D : va_G) (cy : Nat → ClassId) (a0 aT aP : Nat → Nat) (N : Nat) (x1 : Int32) (x2 : Int32) (x3 : Int32) (x4 : Int32) (x5 : Int32) (w0 : zS) (rv : Int32) (τ : zS) (hf : fX8_tell N x1 x2 x3 x4 x5 w0 = some (rv, τ)) : zMi l yX8_tell cX8_tell 7 (some .int) rmX8_tell D cy shM 35 a0 aT aP w0 [.ref (a0 0), .int x1, .int x2, .int x3, .int x4, .int x5] rv τ (fun u => u = (aT, aP)) := by
  refine zmet_i (by decide +kernel) (Or.inl rfl) (Nat.le_of_ble_eq_true rfl) ?_
  intro p e s m below meth c A Q ls hC hA hZ hl hE
  have hx := hC.1.1
  have hb := hC.1.2.1
  have hl : lv_has ls 7 [(0, .ref (a0 0)), (1, .int x1), (2, .int x2), (3, .int x3), (4, .int x4), (5, .int x5)] := hl
  unfold fX8_tell at hf
  refine lv_aload_n (pc := 0) hx hb dX8_tell_0 rfl (lv_at hl 0 rfl) ?_
  refine lv_iload_n (pc := 1) hx hb dX8_tell_1 rfl (lv_at hl 2 rfl) ?_
  refine kX8_139 (pc := 2) hC hA hZ hf hl.1 (Nat.le_of_ble_eq_true rfl) ⟨Nat.le_of_ble_eq_true rfl, Nat.le_of_ble_eq_true rfl⟩ ⟨Nat.le_refl _, Nat.le_refl _⟩ dX8_tell_2 (fun v2 w1 H locs hf hZ => ?_)
  refine z_eq0 (pc := 5) (tgt := 30) hC hf dX8_tell_5 (by decide) (fun hf => ?_) (fun hf => ?_)
  · refine lv_aload_n (pc := 30) hx hb dX8_tell_30 rfl (lv_at hl 0 rfl) ?_
    refine lv_iconst (pc := 31) (v := (-1 : Int32)) hx hb dX8_tell_31 (by decide) ?_
    refine kX8_126 (pc := 32) hC hA hZ hf hl.1 (Nat.le_of_ble_eq_true rfl) ⟨Nat.le_of_ble_eq_true rfl, Nat.le_of_ble_eq_true rfl⟩ ⟨Nat.le_refl _, Nat.le_refl _⟩ dX8_tell_32 (fun v4 w3 H locs hf hZ => ?_)
    obtain ⟨rfl, rfl⟩ := zinj hf
    exact hE _ _ _ _ _ _ rfl hZ dX8_tell_35
  refine lv_aload_n (pc := 8) hx hb dX8_tell_8 rfl (lv_at hl 0 rfl) ?_
  refine lv_iload_n (pc := 9) hx hb dX8_tell_9 rfl (lv_at hl 3 rfl) ?_
  refine kX8_139 (pc := 10) hC hA hZ hf hl.1 (Nat.le_of_ble_eq_true rfl) ⟨Nat.le_of_ble_eq_true rfl, Nat.le_of_ble_eq_true rfl⟩ ⟨Nat.le_refl _, Nat.le_refl _⟩ dX8_tell_10 (fun v6 w5 H locs hf hZ => ?_)
  refine z_eq0 (pc := 13) (tgt := 30) hC hf dX8_tell_13 (by decide) (fun hf => ?_) (fun hf => ?_)
  · refine lv_aload_n (pc := 30) hx hb dX8_tell_30 rfl (lv_at hl 0 rfl) ?_
    refine lv_iconst (pc := 31) (v := (-1 : Int32)) hx hb dX8_tell_31 (by decide) ?_
    refine kX8_126 (pc := 32) hC hA hZ hf hl.1 (Nat.le_of_ble_eq_true rfl) ⟨Nat.le_of_ble_eq_true rfl, Nat.le_of_ble_eq_true rfl⟩ ⟨Nat.le_refl _, Nat.le_refl _⟩ dX8_tell_32 (fun v8 w7 H locs hf hZ => ?_)
    obtain ⟨rfl, rfl⟩ := zinj hf
    exact hE _ _ _ _ _ _ rfl hZ dX8_tell_35
  refine lv_iload_n (pc := 16) hx hb dX8_tell_16 rfl (lv_at hl 2 rfl) ?_
  refine lv_iload_n (pc := 17) hx hb dX8_tell_17 rfl (lv_at hl 3 rfl) ?_
  refine z_ieq (pc := 18) (tgt := 30) hC hf dX8_tell_18 (by decide) (fun hf => ?_) (fun hf => ?_)
  · refine lv_aload_n (pc := 30) hx hb dX8_tell_30 rfl (lv_at hl 0 rfl) ?_
    refine lv_iconst (pc := 31) (v := (-1 : Int32)) hx hb dX8_tell_31 (by decide) ?_
    refine kX8_126 (pc := 32) hC hA hZ hf hl.1 (Nat.le_of_ble_eq_true rfl) ⟨Nat.le_of_ble_eq_true rfl, Nat.le_of_ble_eq_true rfl⟩ ⟨Nat.le_refl _, Nat.le_refl _⟩ dX8_tell_32 (fun v10 w9 H locs hf hZ => ?_)
    obtain ⟨rfl, rfl⟩ := zinj hf
    exact hE _ _ _ _ _ _ rfl hZ dX8_tell_35
  refine lv_aload_n (pc := 21) hx hb dX8_tell_21 rfl (lv_at hl 0 rfl) ?_
  refine lv_iload (pc := 22) hx hb dX8_tell_22 (lv_at hl 4 rfl) ?_
  refine kX8_143 (pc := 24) hC hA hZ hf hl.1 (Nat.le_of_ble_eq_true rfl) ⟨Nat.le_of_ble_eq_true rfl, Nat.le_of_ble_eq_true rfl⟩ ⟨Nat.le_refl _, Nat.le_refl _⟩ dX8_tell_24 (fun v12 w11 H locs hf hZ => ?_)
  refine z_ne0 (pc := 27) (tgt := 36) hC hf dX8_tell_27 (by decide) (fun hf => ?_) (fun hf => ?_)
  · refine lv_aload_n (pc := 30) hx hb dX8_tell_30 rfl (lv_at hl 0 rfl) ?_
    refine lv_iconst (pc := 31) (v := (-1 : Int32)) hx hb dX8_tell_31 (by decide) ?_
    refine kX8_126 (pc := 32) hC hA hZ hf hl.1 (Nat.le_of_ble_eq_true rfl) ⟨Nat.le_of_ble_eq_true rfl, Nat.le_of_ble_eq_true rfl⟩ ⟨Nat.le_refl _, Nat.le_refl _⟩ dX8_tell_32 (fun v14 w13 H locs hf hZ => ?_)
    obtain ⟨rfl, rfl⟩ := zinj hf
    exact hE _ _ _ _ _ _ rfl hZ dX8_tell_35
  refine lv_iload (pc := 36) hx hb dX8_tell_36 (lv_at hl 5 rfl) ?_
  refine lv_iconst (pc := 38) (v := (1 : Int32)) hx hb dX8_tell_38 (by decide) ?_
  refine z_ige (pc := 39) (tgt := 49) hC hf dX8_tell_39 (by decide) (fun hf => ?_) (fun hf => ?_)
  · refine lv_iload (pc := 49) hx hb dX8_tell_49 (lv_at hl 5 rfl) ?_
    refine lv_sipush (pc := 51) (v := (1000 : Int32)) hx hb dX8_tell_51 (by decide) ?_
    refine z_igt (pc := 54) (tgt := 67) hC hf dX8_tell_54 (by decide) (fun hf => ?_) (fun hf => ?_)
    · refine lv_aload_n (pc := 67) hx hb dX8_tell_67 rfl (lv_at hl 0 rfl) ?_
      refine lv_bipush (pc := 68) (v := (-6 : Int32)) hx hb dX8_tell_68 (by decide) ?_
      refine kX8_126 (pc := 70) hC hA hZ hf hl.1 (Nat.le_of_ble_eq_true rfl) ⟨Nat.le_of_ble_eq_true rfl, Nat.le_of_ble_eq_true rfl⟩ ⟨Nat.le_refl _, Nat.le_refl _⟩ dX8_tell_70 (fun v16 w15 H locs hf hZ => ?_)
      obtain ⟨rfl, rfl⟩ := zinj hf
      exact hE _ _ _ _ _ _ rfl hZ dX8_tell_73
    refine lv_aload_n (pc := 57) hx hb dX8_tell_57 rfl (lv_at hl 0 rfl) ?_
    refine gfX8_158 (pc := 58) hC hZ dX8_tell_58 ?_
    refine lv_sipush (pc := 61) (v := (400 : Int32)) hx hb dX8_tell_61 (by decide) ?_
    refine z_ine (pc := 64) (tgt := 74) hC hf dX8_tell_64 (by decide) (fun hf => ?_) (fun hf => ?_)
    · refine lv_aload_n (pc := 67) hx hb dX8_tell_67 rfl (lv_at hl 0 rfl) ?_
      refine lv_bipush (pc := 68) (v := (-6 : Int32)) hx hb dX8_tell_68 (by decide) ?_
      refine kX8_126 (pc := 70) hC hA hZ hf hl.1 (Nat.le_of_ble_eq_true rfl) ⟨Nat.le_of_ble_eq_true rfl, Nat.le_of_ble_eq_true rfl⟩ ⟨Nat.le_refl _, Nat.le_refl _⟩ dX8_tell_70 (fun v18 w17 H locs hf hZ => ?_)
      obtain ⟨rfl, rfl⟩ := zinj hf
      exact hE _ _ _ _ _ _ rfl hZ dX8_tell_73
    refine lv_aload_n (pc := 74) hx hb dX8_tell_74 rfl (lv_at hl 0 rfl) ?_
    refine gfX8_158 (pc := 75) hC hZ dX8_tell_75 ?_
    refine lv_istore (pc := 78) (lv' := [(6, .int (w11.1 0 0 13)), (0, .ref (a0 0)), (1, .int x1), (2, .int x2), (3, .int x3), (4, .int x4), (5, .int x5)]) hx hb dX8_tell_78 hl (by decide) rfl (fun ls hl => ?_)
    refine lv_aload_n (pc := 80) hx hb dX8_tell_80 rfl (lv_at hl 1 rfl) ?_
    refine lv_dup (pc := 81) hx hb dX8_tell_81 rfl ?_
    refine gfX8_158 (pc := 82) hC hZ dX8_tell_82 ?_
    refine lv_iconst (pc := 85) (v := (1 : Int32)) hx hb dX8_tell_85 (by decide) ?_
    refine lv_iadd (pc := 86) hx hb dX8_tell_86 ?_
    refine pfX8_158 (pc := 87) hC hZ hf dX8_tell_87 (fun w19 H locs hf hZ => ?_)
    refine lv_aload_n (pc := 90) hx hb dX8_tell_90 rfl (lv_at hl 1 rfl) ?_
    refine gfX8_35 (pc := 91) hC hZ dX8_tell_91 ?_
    refine lv_iload (pc := 94) hx hb dX8_tell_94 (lv_at hl 0 rfl) ?_
    refine lv_iload_n (pc := 96) hx hb dX8_tell_96 rfl (lv_at hl 2 rfl) ?_
    refine z_zast (pc := 97) hC hZ (by decide) rfl hf dX8_tell_97 (fun w20 H locs hf hZ => ?_)
    refine lv_aload_n (pc := 98) hx hb dX8_tell_98 rfl (lv_at hl 1 rfl) ?_
    refine gfX8_39 (pc := 99) hC hZ dX8_tell_99 ?_
    refine lv_iload (pc := 102) hx hb dX8_tell_102 (lv_at hl 0 rfl) ?_
    refine lv_iload_n (pc := 104) hx hb dX8_tell_104 rfl (lv_at hl 3 rfl) ?_
    refine z_iast (pc := 105) hC hZ (by decide) rfl hf dX8_tell_105 (fun w21 H locs hf hZ => ?_)
    refine lv_aload_n (pc := 106) hx hb dX8_tell_106 rfl (lv_at hl 1 rfl) ?_
    refine gfX8_42 (pc := 107) hC hZ dX8_tell_107 ?_
    refine lv_iload (pc := 110) hx hb dX8_tell_110 (lv_at hl 0 rfl) ?_
    refine lv_iload_n (pc := 112) hx hb dX8_tell_112 rfl (lv_at hl 4 rfl) ?_
    refine z_iast (pc := 113) hC hZ (by decide) rfl hf dX8_tell_113 (fun w22 H locs hf hZ => ?_)
    refine lv_aload_n (pc := 114) hx hb dX8_tell_114 rfl (lv_at hl 1 rfl) ?_
    refine gfX8_45 (pc := 115) hC hZ dX8_tell_115 ?_
    refine lv_iload (pc := 118) hx hb dX8_tell_118 (lv_at hl 0 rfl) ?_
    refine lv_iload (pc := 120) hx hb dX8_tell_120 (lv_at hl 5 rfl) ?_
    refine z_iast (pc := 122) hC hZ (by decide) rfl hf dX8_tell_122 (fun w23 H locs hf hZ => ?_)
    refine lv_aload_n (pc := 123) hx hb dX8_tell_123 rfl (lv_at hl 1 rfl) ?_
    refine gfX8_48 (pc := 124) hC hZ dX8_tell_124 ?_
    refine lv_iload (pc := 127) hx hb dX8_tell_127 (lv_at hl 0 rfl) ?_
    refine lv_iload (pc := 129) hx hb dX8_tell_129 (lv_at hl 6 rfl) ?_
    refine z_iast (pc := 131) hC hZ (by decide) rfl hf dX8_tell_131 (fun w24 H locs hf hZ => ?_)
    refine lv_aload_n (pc := 132) hx hb dX8_tell_132 rfl (lv_at hl 1 rfl) ?_
    refine gfX8_51 (pc := 133) hC hZ dX8_tell_133 ?_
    refine lv_iload (pc := 136) hx hb dX8_tell_136 (lv_at hl 0 rfl) ?_
    refine lv_aload_n (pc := 138) hx hb dX8_tell_138 rfl (lv_at hl 1 rfl) ?_
    refine gfX8_130 (pc := 139) hC hZ dX8_tell_139 ?_
    refine z_iast (pc := 142) hC hZ (by decide) rfl hf dX8_tell_142 (fun w25 H locs hf hZ => ?_)
    refine lv_aload_n (pc := 143) hx hb dX8_tell_143 rfl (lv_at hl 1 rfl) ?_
    refine gfX8_57 (pc := 144) hC hZ dX8_tell_144 ?_
    refine lv_iload (pc := 147) hx hb dX8_tell_147 (lv_at hl 0 rfl) ?_
    refine lv_bipush (pc := 149) (v := (-9 : Int32)) hx hb dX8_tell_149 (by decide) ?_
    refine z_iast (pc := 151) hC hZ (by decide) rfl hf dX8_tell_151 (fun w26 H locs hf hZ => ?_)
    refine lv_iload (pc := 152) hx hb dX8_tell_152 (lv_at hl 0 rfl) ?_
    obtain ⟨rfl, rfl⟩ := zinj hf
    exact hE _ _ _ _ _ _ rfl hZ dX8_tell_154
  refine lv_aload_n (pc := 42) hx hb dX8_tell_42 rfl (lv_at hl 0 rfl) ?_
  refine lv_bipush (pc := 43) (v := (-4 : Int32)) hx hb dX8_tell_43 (by decide) ?_
  refine kX8_126 (pc := 45) hC hA hZ hf hl.1 (Nat.le_of_ble_eq_true rfl) ⟨Nat.le_of_ble_eq_true rfl, Nat.le_of_ble_eq_true rfl⟩ ⟨Nat.le_refl _, Nat.le_refl _⟩ dX8_tell_45 (fun v28 w27 H locs hf hZ => ?_)
  obtain ⟨rfl, rfl⟩ := zinj hf
  exact hE _ _ _ _ _ _ rfl hZ dX8_tell_48
