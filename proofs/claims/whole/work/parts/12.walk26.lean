set_option maxHeartbeats 4000000 in
set_option maxRecDepth 100000 in
theorem cX8_bill_ok (l : Launch) (D : va_G) (cy : Nat → ClassId) (a0 aT aP : Nat → Nat) (N : Nat) (x1 : Int32) (x2 : Int32) (w0 : zS) (rv : Int64) (τ : zS) (hf : fX8_bill N x1 x2 w0 = some (rv, τ)) : zMl l yX8_bill cX8_bill 4 (some .long) rmX8_bill D cy shM 35 a0 aT aP w0 [.ref (a0 0), .int x1, .int x2] rv τ (fun u => u = (aT, aP)) := by
  refine zmet_l (by decide +kernel) rfl (Nat.le_of_ble_eq_true rfl) ?_
  intro p e s m below meth c A Q ls hC hA hZ hl hE
  have hx := hC.1.1
  have hb := hC.1.2.1
  have hl : lv_has ls 4 [(0, .ref (a0 0)), (1, .int x1), (2, .int x2)] := hl
  unfold fX8_bill at hf
  refine lv_aload_n (pc := 0) hx hb dX8_bill_0 rfl (lv_at hl 0 rfl) ?_
  refine lv_iload_n (pc := 1) hx hb dX8_bill_1 rfl (lv_at hl 1 rfl) ?_
  refine lv_iload_n (pc := 2) hx hb dX8_bill_2 rfl (lv_at hl 2 rfl) ?_
  refine kX8_189 (pc := 3) hC hA hZ hf hl.1 (Nat.le_of_ble_eq_true rfl) ⟨Nat.le_of_ble_eq_true rfl, Nat.le_of_ble_eq_true rfl⟩ ⟨Nat.le_refl _, Nat.le_refl _⟩ dX8_bill_3 (fun v2 w1 H locs hf hZ => ?_)
  refine lv_istore_n (pc := 6) (lv' := [(3, .int v2), (0, .ref (a0 0)), (1, .int x1), (2, .int x2)]) hx hb dX8_bill_6 rfl hl (by decide) rfl (fun ls hl => ?_)
  refine lv_iload_n (pc := 7) hx hb dX8_bill_7 rfl (lv_at hl 0 rfl) ?_
  refine z_ne0 (pc := 8) (tgt := 24) hC hf dX8_bill_8 (by decide) (fun hf => ?_) (fun hf => ?_)
  · refine lv_iload_n (pc := 11) hx hb dX8_bill_11 rfl (lv_at hl 3 rfl) ?_
    refine lv_aload_n (pc := 12) hx hb dX8_bill_12 rfl (lv_at hl 1 rfl) ?_
    refine gfX8_136 (pc := 13) hC hZ dX8_bill_13 ?_
    refine z_ilt (pc := 16) (tgt := 24) hC hf dX8_bill_16 (by decide) (fun hf => ?_) (fun hf => ?_)
    · refine lv_iload_n (pc := 24) hx hb dX8_bill_24 rfl (lv_at hl 0 rfl) ?_
      refine lv_istore_n (pc := 25) (lv' := [(3, .int v2), (0, .ref (a0 0)), (1, .int x1), (2, .int x2)]) hx hb dX8_bill_25 rfl hl (by decide) rfl (fun ls hl => ?_)
      refine lv_iload_n (pc := 26) hx hb dX8_bill_26 rfl (lv_at hl 0 rfl) ?_
      refine z_ge0 (pc := 27) (tgt := 39) hC hf dX8_bill_27 (by decide) (fun hf => ?_) (fun hf => ?_)
      · refine lv_aload_n (pc := 39) hx hb dX8_bill_39 rfl (lv_at hl 1 rfl) ?_
        refine gfX8_32 (pc := 40) hC hZ dX8_bill_40 ?_
        refine lv_bipush (pc := 43) (v := (20 : Int32)) hx hb dX8_bill_43 (by decide) ?_
        refine lv_iload_n (pc := 45) hx hb dX8_bill_45 rfl (lv_at hl 2 rfl) ?_
        refine lv_imul (pc := 46) hx hb dX8_bill_46 ?_
        refine lv_iload_n (pc := 47) hx hb dX8_bill_47 rfl (lv_at hl 3 rfl) ?_
        refine lv_iadd (pc := 48) hx hb dX8_bill_48 ?_
        refine z_lald (pc := 49) hC hZ (by decide) rfl hf dX8_bill_49 (fun v3 hf => ?_)
        obtain ⟨rfl, rfl⟩ := zinj hf
        exact hE _ _ _ _ _ _ rfl hZ dX8_bill_50
      refine lv_aload_n (pc := 30) hx hb dX8_bill_30 rfl (lv_at hl 1 rfl) ?_
      refine lv_iload_n (pc := 31) hx hb dX8_bill_31 rfl (lv_at hl 0 rfl) ?_
      refine kX8_126 (pc := 32) hC hA hZ hf hl.1 (Nat.le_of_ble_eq_true rfl) ⟨Nat.le_of_ble_eq_true rfl, Nat.le_of_ble_eq_true rfl⟩ ⟨Nat.le_refl _, Nat.le_refl _⟩ dX8_bill_32 (fun v5 w4 H locs hf hZ => ?_)
      refine lv_i2l (pc := 35) hx hb dX8_bill_35 rfl ?_
      refine lv_goto (pc := 36) (tgt := 50) hx hb dX8_bill_36 (by decide) ?_
      obtain ⟨rfl, rfl⟩ := zinj hf
      exact hE _ _ _ _ _ _ rfl hZ dX8_bill_50
    refine lv_bipush (pc := 19) (v := (-3 : Int32)) hx hb dX8_bill_19 (by decide) ?_
    refine lv_goto (pc := 21) (tgt := 25) hx hb dX8_bill_21 (by decide) ?_
    refine lv_istore_n (pc := 25) (lv' := [(3, .int (-3 : Int32)), (0, .ref (a0 0)), (1, .int x1), (2, .int x2)]) hx hb dX8_bill_25 rfl hl (by decide) rfl (fun ls hl => ?_)
    refine lv_iload_n (pc := 26) hx hb dX8_bill_26 rfl (lv_at hl 0 rfl) ?_
    refine z_ge0 (pc := 27) (tgt := 39) hC hf dX8_bill_27 (by decide) (fun hf => ?_) (fun hf => ?_)
    · refine lv_aload_n (pc := 39) hx hb dX8_bill_39 rfl (lv_at hl 1 rfl) ?_
      refine gfX8_32 (pc := 40) hC hZ dX8_bill_40 ?_
      refine lv_bipush (pc := 43) (v := (20 : Int32)) hx hb dX8_bill_43 (by decide) ?_
      refine lv_iload_n (pc := 45) hx hb dX8_bill_45 rfl (lv_at hl 2 rfl) ?_
      refine lv_imul (pc := 46) hx hb dX8_bill_46 ?_
      refine lv_iload_n (pc := 47) hx hb dX8_bill_47 rfl (lv_at hl 3 rfl) ?_
      refine lv_iadd (pc := 48) hx hb dX8_bill_48 ?_
      refine z_lald (pc := 49) hC hZ (by decide) rfl hf dX8_bill_49 (fun v6 hf => ?_)
      obtain ⟨rfl, rfl⟩ := zinj hf
      exact hE _ _ _ _ _ _ rfl hZ dX8_bill_50
    refine lv_aload_n (pc := 30) hx hb dX8_bill_30 rfl (lv_at hl 1 rfl) ?_
    refine lv_iload_n (pc := 31) hx hb dX8_bill_31 rfl (lv_at hl 0 rfl) ?_
    refine kX8_126 (pc := 32) hC hA hZ hf hl.1 (Nat.le_of_ble_eq_true rfl) ⟨Nat.le_of_ble_eq_true rfl, Nat.le_of_ble_eq_true rfl⟩ ⟨Nat.le_refl _, Nat.le_refl _⟩ dX8_bill_32 (fun v8 w7 H locs hf hZ => ?_)
    refine lv_i2l (pc := 35) hx hb dX8_bill_35 rfl ?_
    refine lv_goto (pc := 36) (tgt := 50) hx hb dX8_bill_36 (by decide) ?_
    obtain ⟨rfl, rfl⟩ := zinj hf
    exact hE _ _ _ _ _ _ rfl hZ dX8_bill_50
  refine lv_iload_n (pc := 24) hx hb dX8_bill_24 rfl (lv_at hl 0 rfl) ?_
  refine lv_istore_n (pc := 25) (lv' := [(3, .int v2), (0, .ref (a0 0)), (1, .int x1), (2, .int x2)]) hx hb dX8_bill_25 rfl hl (by decide) rfl (fun ls hl => ?_)
  refine lv_iload_n (pc := 26) hx hb dX8_bill_26 rfl (lv_at hl 0 rfl) ?_
  refine z_ge0 (pc := 27) (tgt := 39) hC hf dX8_bill_27 (by decide) (fun hf => ?_) (fun hf => ?_)
  · refine lv_aload_n (pc := 39) hx hb dX8_bill_39 rfl (lv_at hl 1 rfl) ?_
    refine gfX8_32 (pc := 40) hC hZ dX8_bill_40 ?_
    refine lv_bipush (pc := 43) (v := (20 : Int32)) hx hb dX8_bill_43 (by decide) ?_
    refine lv_iload_n (pc := 45) hx hb dX8_bill_45 rfl (lv_at hl 2 rfl) ?_
    refine lv_imul (pc := 46) hx hb dX8_bill_46 ?_
    refine lv_iload_n (pc := 47) hx hb dX8_bill_47 rfl (lv_at hl 3 rfl) ?_
    refine lv_iadd (pc := 48) hx hb dX8_bill_48 ?_
    refine z_lald (pc := 49) hC hZ (by decide) rfl hf dX8_bill_49 (fun v9 hf => ?_)
    obtain ⟨rfl, rfl⟩ := zinj hf
    exact hE _ _ _ _ _ _ rfl hZ dX8_bill_50
  refine lv_aload_n (pc := 30) hx hb dX8_bill_30 rfl (lv_at hl 1 rfl) ?_
  refine lv_iload_n (pc := 31) hx hb dX8_bill_31 rfl (lv_at hl 0 rfl) ?_
  refine kX8_126 (pc := 32) hC hA hZ hf hl.1 (Nat.le_of_ble_eq_true rfl) ⟨Nat.le_of_ble_eq_true rfl, Nat.le_of_ble_eq_true rfl⟩ ⟨Nat.le_refl _, Nat.le_refl _⟩ dX8_bill_32 (fun v11 w10 H locs hf hZ => ?_)
  refine lv_i2l (pc := 35) hx hb dX8_bill_35 rfl ?_
  refine lv_goto (pc := 36) (tgt := 50) hx hb dX8_bill_36 (by decide) ?_
  obtain ⟨rfl, rfl⟩ := zinj hf
  exact hE _ _ _ _ _ _ rfl hZ dX8_bill_50
set_option maxHeartbeats 4000000 in
set_option maxRecDepth 100000 in
theorem cX8_telling_ok (l : Launch) (D : va_G) (cy : Nat → ClassId) (a0 aT aP : Nat → Nat) (N : Nat) (x1 : Int32) (x2 : Int32) (w0 : zS) (rv : Int32) (τ : zS) (hf : fX8_telling N x1 x2 w0 = some (rv, τ)) : zMi l yX8_telling cX8_telling 3 (some .int) rmX8_telling D cy shM 35 a0 aT aP w0 [.ref (a0 0), .int x1, .int x2] rv τ (fun u => u = (aT, aP)) := by
  refine zmet_i (by decide +kernel) (Or.inl rfl) (Nat.le_of_ble_eq_true rfl) ?_
  intro p e s m below meth c A Q ls hC hA hZ hl hE
  have hx := hC.1.1
  have hb := hC.1.2.1
  have hl : lv_has ls 3 [(0, .ref (a0 0)), (1, .int x1), (2, .int x2)] := hl
  unfold fX8_telling at hf
  refine lv_iload_n (pc := 0) hx hb dX8_telling_0 rfl (lv_at hl 1 rfl) ?_
  refine lv_iconst (pc := 1) (v := (0 : Int32)) hx hb dX8_telling_1 (by decide) ?_
  refine lv_aload_n (pc := 2) hx hb dX8_telling_2 rfl (lv_at hl 0 rfl) ?_
  refine gfX8_158 (pc := 3) hC hZ dX8_telling_3 ?_
  refine lv_iconst (pc := 6) (v := (1 : Int32)) hx hb dX8_telling_6 (by decide) ?_
  refine lv_isub (pc := 7) hx hb dX8_telling_7 ?_
  refine kX8_119 (pc := 8) hC hA hZ hf hl.1 (Nat.le_of_ble_eq_true rfl) ⟨Nat.le_of_ble_eq_true rfl, Nat.le_of_ble_eq_true rfl⟩ ⟨Nat.le_refl _, Nat.le_refl _⟩ dX8_telling_8 (fun v2 w1 H locs hf hZ => ?_)
  refine z_ne0 (pc := 11) (tgt := 17) hC hf dX8_telling_11 (by decide) (fun hf => ?_) (fun hf => ?_)
  · refine lv_bipush (pc := 14) (v := (-9 : Int32)) hx hb dX8_telling_14 (by decide) ?_
    obtain ⟨rfl, rfl⟩ := zinj hf
    exact hE _ _ _ _ _ _ rfl hZ dX8_telling_16
  refine lv_iload_n (pc := 17) hx hb dX8_telling_17 rfl (lv_at hl 2 rfl) ?_
  by_cases n0 : x2 = (0 : Int32)
  · rw [if_pos n0] at hf
    refine z_tabIn (pc := 18) (tgt := 60) hC n0 dX8_telling_18 (by decide) (by decide) rfl (by decide) ?_
    refine lv_aload_n (pc := 60) hx hb dX8_telling_60 rfl (lv_at hl 0 rfl) ?_
    refine gfX8_35 (pc := 61) hC hZ dX8_telling_61 ?_
    refine lv_iload_n (pc := 64) hx hb dX8_telling_64 rfl (lv_at hl 1 rfl) ?_
    refine z_zald (pc := 65) hC hZ (by decide) rfl hf dX8_telling_65 (fun v3 hf => ?_)
    refine z_eq0 (pc := 66) (tgt := 73) hC hf dX8_telling_66 (by decide) (fun hf => ?_) (fun hf => ?_)
    · refine lv_iconst (pc := 73) (v := (0 : Int32)) hx hb dX8_telling_73 (by decide) ?_
      obtain ⟨rfl, rfl⟩ := zinj hf
      exact hE _ _ _ _ _ _ rfl hZ dX8_telling_74
    refine lv_iconst (pc := 69) (v := (1 : Int32)) hx hb dX8_telling_69 (by decide) ?_
    refine lv_goto (pc := 70) (tgt := 74) hx hb dX8_telling_70 (by decide) ?_
    obtain ⟨rfl, rfl⟩ := zinj hf
    exact hE _ _ _ _ _ _ rfl hZ dX8_telling_74
  rw [if_neg n0] at hf
  by_cases n1 : x2 = (1 : Int32)
  · rw [if_pos n1] at hf
    refine z_tabIn (pc := 18) (tgt := 75) hC n1 dX8_telling_18 (by decide) (by decide) rfl (by decide) ?_
    refine lv_aload_n (pc := 75) hx hb dX8_telling_75 rfl (lv_at hl 0 rfl) ?_
    refine gfX8_39 (pc := 76) hC hZ dX8_telling_76 ?_
    refine lv_iload_n (pc := 79) hx hb dX8_telling_79 rfl (lv_at hl 1 rfl) ?_
    refine z_iald (pc := 80) hC hZ (by decide) rfl hf dX8_telling_80 (fun v4 hf => ?_)
    obtain ⟨rfl, rfl⟩ := zinj hf
    exact hE _ _ _ _ _ _ rfl hZ dX8_telling_81
  rw [if_neg n1] at hf
  by_cases n2 : x2 = (2 : Int32)
  · rw [if_pos n2] at hf
    refine z_tabIn (pc := 18) (tgt := 82) hC n2 dX8_telling_18 (by decide) (by decide) rfl (by decide) ?_
    refine lv_aload_n (pc := 82) hx hb dX8_telling_82 rfl (lv_at hl 0 rfl) ?_
    refine gfX8_42 (pc := 83) hC hZ dX8_telling_83 ?_
    refine lv_iload_n (pc := 86) hx hb dX8_telling_86 rfl (lv_at hl 1 rfl) ?_
    refine z_iald (pc := 87) hC hZ (by decide) rfl hf dX8_telling_87 (fun v5 hf => ?_)
    obtain ⟨rfl, rfl⟩ := zinj hf
    exact hE _ _ _ _ _ _ rfl hZ dX8_telling_88
  rw [if_neg n2] at hf
  by_cases n3 : x2 = (3 : Int32)
  · rw [if_pos n3] at hf
    refine z_tabIn (pc := 18) (tgt := 89) hC n3 dX8_telling_18 (by decide) (by decide) rfl (by decide) ?_
    refine lv_aload_n (pc := 89) hx hb dX8_telling_89 rfl (lv_at hl 0 rfl) ?_
    refine gfX8_45 (pc := 90) hC hZ dX8_telling_90 ?_
    refine lv_iload_n (pc := 93) hx hb dX8_telling_93 rfl (lv_at hl 1 rfl) ?_
    refine z_iald (pc := 94) hC hZ (by decide) rfl hf dX8_telling_94 (fun v6 hf => ?_)
    obtain ⟨rfl, rfl⟩ := zinj hf
    exact hE _ _ _ _ _ _ rfl hZ dX8_telling_95
  rw [if_neg n3] at hf
  by_cases n4 : x2 = (4 : Int32)
  · rw [if_pos n4] at hf
    refine z_tabIn (pc := 18) (tgt := 96) hC n4 dX8_telling_18 (by decide) (by decide) rfl (by decide) ?_
    refine lv_aload_n (pc := 96) hx hb dX8_telling_96 rfl (lv_at hl 0 rfl) ?_
    refine gfX8_48 (pc := 97) hC hZ dX8_telling_97 ?_
    refine lv_iload_n (pc := 100) hx hb dX8_telling_100 rfl (lv_at hl 1 rfl) ?_
    refine z_iald (pc := 101) hC hZ (by decide) rfl hf dX8_telling_101 (fun v7 hf => ?_)
    obtain ⟨rfl, rfl⟩ := zinj hf
    exact hE _ _ _ _ _ _ rfl hZ dX8_telling_102
  rw [if_neg n4] at hf
  by_cases n5 : x2 = (5 : Int32)
  · rw [if_pos n5] at hf
    refine z_tabIn (pc := 18) (tgt := 103) hC n5 dX8_telling_18 (by decide) (by decide) rfl (by decide) ?_
    refine lv_aload_n (pc := 103) hx hb dX8_telling_103 rfl (lv_at hl 0 rfl) ?_
    refine gfX8_51 (pc := 104) hC hZ dX8_telling_104 ?_
    refine lv_iload_n (pc := 107) hx hb dX8_telling_107 rfl (lv_at hl 1 rfl) ?_
    refine z_iald (pc := 108) hC hZ (by decide) rfl hf dX8_telling_108 (fun v8 hf => ?_)
    obtain ⟨rfl, rfl⟩ := zinj hf
    exact hE _ _ _ _ _ _ rfl hZ dX8_telling_109
  rw [if_neg n5] at hf
  by_cases n6 : x2 = (6 : Int32)
  · rw [if_pos n6] at hf
    refine z_tabIn (pc := 18) (tgt := 110) hC n6 dX8_telling_18 (by decide) (by decide) rfl (by decide) ?_
    refine lv_aload_n (pc := 110) hx hb dX8_telling_110 rfl (lv_at hl 0 rfl) ?_
    refine gfX8_54 (pc := 111) hC hZ dX8_telling_111 ?_
    refine lv_iload_n (pc := 114) hx hb dX8_telling_114 rfl (lv_at hl 1 rfl) ?_
    refine z_iald (pc := 115) hC hZ (by decide) rfl hf dX8_telling_115 (fun v9 hf => ?_)
    obtain ⟨rfl, rfl⟩ := zinj hf
    exact hE _ _ _ _ _ _ rfl hZ dX8_telling_116
  rw [if_neg n6] at hf
  refine lv_tableOut (pc := 18) (tgt := 117) hx hb dX8_telling_18 (zsw_out (fun k h1 h2 h3 => by rcases (show k = 0 ∨ k = 1 ∨ k = 2 ∨ k = 3 ∨ k = 4 ∨ k = 5 ∨ k = 6 by omega) with rfl | rfl | rfl | rfl | rfl | rfl | rfl <;> first | exact n0 h3 | exact n1 h3 | exact n2 h3 | exact n3 h3 | exact n4 h3 | exact n5 h3 | exact n6 h3)) (by decide) ?_
  refine lv_iload_n (pc := 117) hx hb dX8_telling_117 rfl (lv_at hl 2 rfl) ?_
  refine lv_bipush (pc := 118) (v := (7 : Int32)) hx hb dX8_telling_118 (by decide) ?_
  refine z_ine (pc := 120) (tgt := 132) hC hf dX8_telling_120 (by decide) (fun hf => ?_) (fun hf => ?_)
  · refine lv_aload_n (pc := 123) hx hb dX8_telling_123 rfl (lv_at hl 0 rfl) ?_
    refine gfX8_57 (pc := 124) hC hZ dX8_telling_124 ?_
    refine lv_iload_n (pc := 127) hx hb dX8_telling_127 rfl (lv_at hl 1 rfl) ?_
    refine z_iald (pc := 128) hC hZ (by decide) rfl hf dX8_telling_128 (fun v10 hf => ?_)
    refine lv_goto (pc := 129) (tgt := 134) hx hb dX8_telling_129 (by decide) ?_
    obtain ⟨rfl, rfl⟩ := zinj hf
    exact hE _ _ _ _ _ _ rfl hZ dX8_telling_134
  refine lv_bipush (pc := 132) (v := (-9 : Int32)) hx hb dX8_telling_132 (by decide) ?_
  obtain ⟨rfl, rfl⟩ := zinj hf
  exact hE _ _ _ _ _ _ rfl hZ dX8_telling_134
set_option maxHeartbeats 4000000 in
set_option maxRecDepth 100000 in
theorem cX8_pairOf_ok (l : Launch) (D : va_G) (cy : Nat → ClassId) (a0 aT aP : Nat → Nat) (N : Nat) (x1 : Int32) (x2 : Int32) (w0 : zS) (rv : Int32) (τ : zS) (hf : fX8_pairOf N x1 x2 w0 = some (rv, τ)) : zMi l yX8_pairOf cX8_pairOf 3 (some .int) rmX8_pairOf D cy shM 35 a0 aT aP w0 [.ref (a0 0), .int x1, .int x2] rv τ (fun u => u = (aT, aP)) := by
  refine zmet_i (by decide +kernel) (Or.inl rfl) (Nat.le_of_ble_eq_true rfl) ?_
  intro p e s m below meth c A Q ls hC hA hZ hl hE
  have hx := hC.1.1
  have hb := hC.1.2.1
  have hl : lv_has ls 3 [(0, .ref (a0 0)), (1, .int x1), (2, .int x2)] := hl
  unfold fX8_pairOf at hf
  refine lv_iload_n (pc := 0) hx hb dX8_pairOf_0 rfl (lv_at hl 1 rfl) ?_
  refine lv_iconst (pc := 1) (v := (0 : Int32)) hx hb dX8_pairOf_1 (by decide) ?_
  refine lv_aload_n (pc := 2) hx hb dX8_pairOf_2 rfl (lv_at hl 0 rfl) ?_
  refine gfX8_176 (pc := 3) hC hZ dX8_pairOf_3 ?_
  refine lv_iconst (pc := 6) (v := (1 : Int32)) hx hb dX8_pairOf_6 (by decide) ?_
  refine lv_isub (pc := 7) hx hb dX8_pairOf_7 ?_
  refine kX8_119 (pc := 8) hC hA hZ hf hl.1 (Nat.le_of_ble_eq_true rfl) ⟨Nat.le_of_ble_eq_true rfl, Nat.le_of_ble_eq_true rfl⟩ ⟨Nat.le_refl _, Nat.le_refl _⟩ dX8_pairOf_8 (fun v2 w1 H locs hf hZ => ?_)
  refine z_ne0 (pc := 11) (tgt := 17) hC hf dX8_pairOf_11 (by decide) (fun hf => ?_) (fun hf => ?_)
  · refine lv_bipush (pc := 14) (v := (-9 : Int32)) hx hb dX8_pairOf_14 (by decide) ?_
    obtain ⟨rfl, rfl⟩ := zinj hf
    exact hE _ _ _ _ _ _ rfl hZ dX8_pairOf_16
  refine lv_iload_n (pc := 17) hx hb dX8_pairOf_17 rfl (lv_at hl 2 rfl) ?_
  by_cases n0 : x2 = (0 : Int32)
  · rw [if_pos n0] at hf
    refine z_tabIn (pc := 18) (tgt := 52) hC n0 dX8_pairOf_18 (by decide) (by decide) rfl (by decide) ?_
    refine lv_aload_n (pc := 52) hx hb dX8_pairOf_52 rfl (lv_at hl 0 rfl) ?_
    refine gfX8_60 (pc := 53) hC hZ dX8_pairOf_53 ?_
    refine lv_iload_n (pc := 56) hx hb dX8_pairOf_56 rfl (lv_at hl 1 rfl) ?_
    refine z_iald (pc := 57) hC hZ (by decide) rfl hf dX8_pairOf_57 (fun v3 hf => ?_)
    obtain ⟨rfl, rfl⟩ := zinj hf
    exact hE _ _ _ _ _ _ rfl hZ dX8_pairOf_58
  rw [if_neg n0] at hf
  by_cases n1 : x2 = (1 : Int32)
  · rw [if_pos n1] at hf
    refine z_tabIn (pc := 18) (tgt := 59) hC n1 dX8_pairOf_18 (by decide) (by decide) rfl (by decide) ?_
    refine lv_aload_n (pc := 59) hx hb dX8_pairOf_59 rfl (lv_at hl 0 rfl) ?_
    refine gfX8_63 (pc := 60) hC hZ dX8_pairOf_60 ?_
    refine lv_iload_n (pc := 63) hx hb dX8_pairOf_63 rfl (lv_at hl 1 rfl) ?_
    refine z_iald (pc := 64) hC hZ (by decide) rfl hf dX8_pairOf_64 (fun v4 hf => ?_)
    obtain ⟨rfl, rfl⟩ := zinj hf
    exact hE _ _ _ _ _ _ rfl hZ dX8_pairOf_65
  rw [if_neg n1] at hf
  by_cases n2 : x2 = (2 : Int32)
  · rw [if_pos n2] at hf
    refine z_tabIn (pc := 18) (tgt := 66) hC n2 dX8_pairOf_18 (by decide) (by decide) rfl (by decide) ?_
    refine lv_aload_n (pc := 66) hx hb dX8_pairOf_66 rfl (lv_at hl 0 rfl) ?_
    refine gfX8_51 (pc := 67) hC hZ dX8_pairOf_67 ?_
    refine lv_aload_n (pc := 70) hx hb dX8_pairOf_70 rfl (lv_at hl 0 rfl) ?_
    refine gfX8_63 (pc := 71) hC hZ dX8_pairOf_71 ?_
    refine lv_iload_n (pc := 74) hx hb dX8_pairOf_74 rfl (lv_at hl 1 rfl) ?_
    refine z_iald (pc := 75) hC hZ (by decide) rfl hf dX8_pairOf_75 (fun v5 hf => ?_)
    refine z_iald (pc := 76) hC hZ (by decide) rfl hf dX8_pairOf_76 (fun v6 hf => ?_)
    obtain ⟨rfl, rfl⟩ := zinj hf
    exact hE _ _ _ _ _ _ rfl hZ dX8_pairOf_77
  rw [if_neg n2] at hf
  by_cases n3 : x2 = (3 : Int32)
  · rw [if_pos n3] at hf
    refine z_tabIn (pc := 18) (tgt := 78) hC n3 dX8_pairOf_18 (by decide) (by decide) rfl (by decide) ?_
    refine lv_aload_n (pc := 78) hx hb dX8_pairOf_78 rfl (lv_at hl 0 rfl) ?_
    refine lv_iload_n (pc := 79) hx hb dX8_pairOf_79 rfl (lv_at hl 1 rfl) ?_
    refine kX8_183 (pc := 80) hC hA hZ hf hl.1 (Nat.le_of_ble_eq_true rfl) ⟨Nat.le_of_ble_eq_true rfl, Nat.le_of_ble_eq_true rfl⟩ ⟨Nat.le_refl _, Nat.le_refl _⟩ dX8_pairOf_80 (fun v8 w7 H locs hf hZ => ?_)
    refine z_eq0 (pc := 83) (tgt := 90) hC hf dX8_pairOf_83 (by decide) (fun hf => ?_) (fun hf => ?_)
    · refine lv_iconst (pc := 90) (v := (0 : Int32)) hx hb dX8_pairOf_90 (by decide) ?_
      obtain ⟨rfl, rfl⟩ := zinj hf
      exact hE _ _ _ _ _ _ rfl hZ dX8_pairOf_91
    refine lv_iconst (pc := 86) (v := (1 : Int32)) hx hb dX8_pairOf_86 (by decide) ?_
    refine lv_goto (pc := 87) (tgt := 91) hx hb dX8_pairOf_87 (by decide) ?_
    obtain ⟨rfl, rfl⟩ := zinj hf
    exact hE _ _ _ _ _ _ rfl hZ dX8_pairOf_91
  rw [if_neg n3] at hf
  by_cases n4 : x2 = (4 : Int32)
  · rw [if_pos n4] at hf
    refine z_tabIn (pc := 18) (tgt := 92) hC n4 dX8_pairOf_18 (by decide) (by decide) rfl (by decide) ?_
    refine lv_aload_n (pc := 92) hx hb dX8_pairOf_92 rfl (lv_at hl 0 rfl) ?_
    refine gfX8_66 (pc := 93) hC hZ dX8_pairOf_93 ?_
    refine lv_iload_n (pc := 96) hx hb dX8_pairOf_96 rfl (lv_at hl 1 rfl) ?_
    refine z_iald (pc := 97) hC hZ (by decide) rfl hf dX8_pairOf_97 (fun v9 hf => ?_)
    obtain ⟨rfl, rfl⟩ := zinj hf
    exact hE _ _ _ _ _ _ rfl hZ dX8_pairOf_98
  rw [if_neg n4] at hf
  refine lv_tableOut (pc := 18) (tgt := 99) hx hb dX8_pairOf_18 (zsw_out (fun k h1 h2 h3 => by rcases (show k = 0 ∨ k = 1 ∨ k = 2 ∨ k = 3 ∨ k = 4 by omega) with rfl | rfl | rfl | rfl | rfl <;> first | exact n0 h3 | exact n1 h3 | exact n2 h3 | exact n3 h3 | exact n4 h3)) (by decide) ?_
  refine lv_iload_n (pc := 99) hx hb dX8_pairOf_99 rfl (lv_at hl 2 rfl) ?_
  refine lv_iconst (pc := 100) (v := (5 : Int32)) hx hb dX8_pairOf_100 (by decide) ?_
  refine z_ine (pc := 101) (tgt := 121) hC hf dX8_pairOf_101 (by decide) (fun hf => ?_) (fun hf => ?_)
  · refine lv_aload_n (pc := 104) hx hb dX8_pairOf_104 rfl (lv_at hl 0 rfl) ?_
    refine gfX8_69 (pc := 105) hC hZ dX8_pairOf_105 ?_
    refine lv_iload_n (pc := 108) hx hb dX8_pairOf_108 rfl (lv_at hl 1 rfl) ?_
    refine z_zald (pc := 109) hC hZ (by decide) rfl hf dX8_pairOf_109 (fun v10 hf => ?_)
    refine z_eq0 (pc := 110) (tgt := 117) hC hf dX8_pairOf_110 (by decide) (fun hf => ?_) (fun hf => ?_)
    · refine lv_iconst (pc := 117) (v := (0 : Int32)) hx hb dX8_pairOf_117 (by decide) ?_
      refine lv_goto (pc := 118) (tgt := 123) hx hb dX8_pairOf_118 (by decide) ?_
      obtain ⟨rfl, rfl⟩ := zinj hf
      exact hE _ _ _ _ _ _ rfl hZ dX8_pairOf_123
    refine lv_iconst (pc := 113) (v := (1 : Int32)) hx hb dX8_pairOf_113 (by decide) ?_
    refine lv_goto (pc := 114) (tgt := 123) hx hb dX8_pairOf_114 (by decide) ?_
    obtain ⟨rfl, rfl⟩ := zinj hf
    exact hE _ _ _ _ _ _ rfl hZ dX8_pairOf_123
  refine lv_bipush (pc := 121) (v := (-9 : Int32)) hx hb dX8_pairOf_121 (by decide) ?_
  obtain ⟨rfl, rfl⟩ := zinj hf
  exact hE _ _ _ _ _ _ rfl hZ dX8_pairOf_123
set_option maxHeartbeats 4000000 in
set_option maxRecDepth 100000 in
theorem cX8_debt_ok (l : Launch) (D : va_G) (cy : Nat → ClassId) (a0 aT aP : Nat → Nat) (N : Nat) (x1 : Int32) (x2 : Int32) (x3 : Int32) (w0 : zS) (rv : Int32) (τ : zS) (hf : fX8_debt N x1 x2 x3 w0 = some (rv, τ)) : zMi l yX8_debt cX8_debt 4 (some .int) rmX8_debt D cy shM 35 a0 aT aP w0 [.ref (a0 0), .int x1, .int x2, .int x3] rv τ (fun u => u = (aT, aP)) := by
  refine zmet_i (by decide +kernel) (Or.inl rfl) (Nat.le_of_ble_eq_true rfl) ?_
  intro p e s m below meth c A Q ls hC hA hZ hl hE
  have hx := hC.1.1
  have hb := hC.1.2.1
  have hl : lv_has ls 4 [(0, .ref (a0 0)), (1, .int x1), (2, .int x2), (3, .int x3)] := hl
  unfold fX8_debt at hf
  refine lv_aload_n (pc := 0) hx hb dX8_debt_0 rfl (lv_at hl 0 rfl) ?_
  refine gfX8_75 (pc := 1) hC hZ dX8_debt_1 ?_
  refine lv_bipush (pc := 4) (v := (100 : Int32)) hx hb dX8_debt_4 (by decide) ?_
  refine lv_iload_n (pc := 6) hx hb dX8_debt_6 rfl (lv_at hl 1 rfl) ?_
  refine lv_imul (pc := 7) hx hb dX8_debt_7 ?_
  refine lv_bipush (pc := 8) (v := (10 : Int32)) hx hb dX8_debt_8 (by decide) ?_
  refine lv_iload_n (pc := 10) hx hb dX8_debt_10 rfl (lv_at hl 2 rfl) ?_
  refine lv_imul (pc := 11) hx hb dX8_debt_11 ?_
  refine lv_iadd (pc := 12) hx hb dX8_debt_12 ?_
  refine lv_iload_n (pc := 13) hx hb dX8_debt_13 rfl (lv_at hl 3 rfl) ?_
  refine lv_iadd (pc := 14) hx hb dX8_debt_14 ?_
  refine z_iald (pc := 15) hC hZ (by decide) rfl hf dX8_debt_15 (fun v1 hf => ?_)
  obtain ⟨rfl, rfl⟩ := zinj hf
  exact hE _ _ _ _ _ _ rfl hZ dX8_debt_16
section ZK
variable {p : Program} {l : Launch} {e : Env} {R : Room} {s : State} {m : MethodId} {args : Array Value} {below : List Frame} {meth : Method} {c : Code} {H : Heap} {locs : List Loc} {cells slots : Nat} {Q : State → Prop}
variable {pc : Nat} {ls : Array Slot} {rest : List Value} {A : Nat → Prop} {H0 : Heap} {D : va_G} {cy : Nat → ClassId} {a0 aT aP : Nat → Nat} {σ : zS} {cc : ByteArray} {nL : Nat} {α : Type} {res : α}
theorem vkX8_196 : zVk RX8 196 yX8_debt cX8_debt 4 (some .int) 3 := ⟨by decide +kernel, by decide +kernel, by decide +kernel, by decide +kernel, by decide +kernel, by decide +kernel⟩
theorem kX8_196 (hC : zC p s m args c RX8 cc nL D cy) (hA : ∀ q, H0.size ≤ q → A q) (hZ : zW D cy shM 35 a0 aT aP A H0 σ H locs) {N : Nat} {x1 : Int32} {x2 : Int32} {x3 : Int32} {k : Int32 → zS → Option α} (hf : zbi (fX8_debt N x1 x2 x3 σ) k = some res) (hsz : ls.size = nL) (hW : (rest.map fun v => v.category).sum ≤ 8) (hR : rmX8_debt.frames + 1 ≤ R.frames ∧ 8 + (4 + 11) + rmX8_debt.locals ≤ R.locals) (hcs : cells ≤ R.cells ∧ slots ≤ R.slots) (hdg : decode cc pc = .ok (.invokevirtual 196, 3)) (kk : ∀ (v : Int32) (τ : zS) (H1 : Heap) (locs1 : List Loc), k v τ = some res → zW D cy shM 35 a0 aT aP A H0 τ H1 locs1 → W p l e R s m args below meth c H1 locs1 cells slots Q (F0 m (pc + 3) ls (.int v :: rest))) : W p l e R s m args below meth c H locs cells slots Q (F0 m pc ls (.int x3 :: .int x2 :: .int x1 :: .ref (a0 0) :: rest)) := by
  cases hq : fX8_debt N x1 x2 x3 σ with
  | none => rw [hq] at hf; cases hf
  | some q =>
    rw [hq] at hf
    exact zcalli hA hZ (zrun hC hZ vkX8_196 rfl (zw0 (by decide)) (cX8_debt_ok l D cy a0 aT aP N x1 x2 x3 σ q.1 q.2 hq H.size) hR rfl hsz rfl hW hcs hdg) (fun u H1 locs1 hU hZ1 => by subst hU; exact kk q.1 q.2 H1 locs1 hf hZ1)
end ZK
set_option maxHeartbeats 4000000 in
set_option maxRecDepth 100000 in
theorem cX8_owe_ok (l : Launch) (D : va_G) (cy : Nat → ClassId) (a0 aT aP : Nat → Nat) (N : Nat) (x1 : Int32) (x2 : Int32) (x3 : Int32) (x4 : Int32) (w0 : zS) (rv : Int32) (τ : zS) (hf : fX8_owe N x1 x2 x3 x4 w0 = some (rv, τ)) : zMi l yX8_owe cX8_owe 5 (some .int) rmX8_owe D cy shM 35 a0 aT aP w0 [.ref (a0 0), .int x1, .int x2, .int x3, .int x4] rv τ (fun u => u = (aT, aP)) := by
  refine zmet_i (by decide +kernel) (Or.inl rfl) (Nat.le_of_ble_eq_true rfl) ?_
  intro p e s m below meth c A Q ls hC hA hZ hl hE
  have hx := hC.1.1
  have hb := hC.1.2.1
  have hl : lv_has ls 5 [(0, .ref (a0 0)), (1, .int x1), (2, .int x2), (3, .int x3), (4, .int x4)] := hl
  unfold fX8_owe at hf
  refine lv_aload_n (pc := 0) hx hb dX8_owe_0 rfl (lv_at hl 0 rfl) ?_
  refine lv_iload_n (pc := 1) hx hb dX8_owe_1 rfl (lv_at hl 1 rfl) ?_
  refine kX8_139 (pc := 2) hC hA hZ hf hl.1 (Nat.le_of_ble_eq_true rfl) ⟨Nat.le_of_ble_eq_true rfl, Nat.le_of_ble_eq_true rfl⟩ ⟨Nat.le_refl _, Nat.le_refl _⟩ dX8_owe_2 (fun v2 w1 H locs hf hZ => ?_)
  refine z_eq0 (pc := 5) (tgt := 29) hC hf dX8_owe_5 (by decide) (fun hf => ?_) (fun hf => ?_)
  · refine lv_aload_n (pc := 29) hx hb dX8_owe_29 rfl (lv_at hl 0 rfl) ?_
    refine lv_iconst (pc := 30) (v := (-1 : Int32)) hx hb dX8_owe_30 (by decide) ?_
    refine kX8_126 (pc := 31) hC hA hZ hf hl.1 (Nat.le_of_ble_eq_true rfl) ⟨Nat.le_of_ble_eq_true rfl, Nat.le_of_ble_eq_true rfl⟩ ⟨Nat.le_refl _, Nat.le_refl _⟩ dX8_owe_31 (fun v4 w3 H locs hf hZ => ?_)
    obtain ⟨rfl, rfl⟩ := zinj hf
    exact hE _ _ _ _ _ _ rfl hZ dX8_owe_34
  refine lv_aload_n (pc := 8) hx hb dX8_owe_8 rfl (lv_at hl 0 rfl) ?_
  refine lv_iload_n (pc := 9) hx hb dX8_owe_9 rfl (lv_at hl 2 rfl) ?_
  refine kX8_139 (pc := 10) hC hA hZ hf hl.1 (Nat.le_of_ble_eq_true rfl) ⟨Nat.le_of_ble_eq_true rfl, Nat.le_of_ble_eq_true rfl⟩ ⟨Nat.le_refl _, Nat.le_refl _⟩ dX8_owe_10 (fun v6 w5 H locs hf hZ => ?_)
  refine z_eq0 (pc := 13) (tgt := 29) hC hf dX8_owe_13 (by decide) (fun hf => ?_) (fun hf => ?_)
  · refine lv_aload_n (pc := 29) hx hb dX8_owe_29 rfl (lv_at hl 0 rfl) ?_
    refine lv_iconst (pc := 30) (v := (-1 : Int32)) hx hb dX8_owe_30 (by decide) ?_
    refine kX8_126 (pc := 31) hC hA hZ hf hl.1 (Nat.le_of_ble_eq_true rfl) ⟨Nat.le_of_ble_eq_true rfl, Nat.le_of_ble_eq_true rfl⟩ ⟨Nat.le_refl _, Nat.le_refl _⟩ dX8_owe_31 (fun v8 w7 H locs hf hZ => ?_)
    obtain ⟨rfl, rfl⟩ := zinj hf
    exact hE _ _ _ _ _ _ rfl hZ dX8_owe_34
  refine lv_iload_n (pc := 16) hx hb dX8_owe_16 rfl (lv_at hl 1 rfl) ?_
  refine lv_iload_n (pc := 17) hx hb dX8_owe_17 rfl (lv_at hl 2 rfl) ?_
  refine z_ieq (pc := 18) (tgt := 29) hC hf dX8_owe_18 (by decide) (fun hf => ?_) (fun hf => ?_)
  · refine lv_aload_n (pc := 29) hx hb dX8_owe_29 rfl (lv_at hl 0 rfl) ?_
    refine lv_iconst (pc := 30) (v := (-1 : Int32)) hx hb dX8_owe_30 (by decide) ?_
    refine kX8_126 (pc := 31) hC hA hZ hf hl.1 (Nat.le_of_ble_eq_true rfl) ⟨Nat.le_of_ble_eq_true rfl, Nat.le_of_ble_eq_true rfl⟩ ⟨Nat.le_refl _, Nat.le_refl _⟩ dX8_owe_31 (fun v10 w9 H locs hf hZ => ?_)
    obtain ⟨rfl, rfl⟩ := zinj hf
    exact hE _ _ _ _ _ _ rfl hZ dX8_owe_34
  refine lv_aload_n (pc := 21) hx hb dX8_owe_21 rfl (lv_at hl 0 rfl) ?_
  refine lv_iload_n (pc := 22) hx hb dX8_owe_22 rfl (lv_at hl 3 rfl) ?_
  refine kX8_143 (pc := 23) hC hA hZ hf hl.1 (Nat.le_of_ble_eq_true rfl) ⟨Nat.le_of_ble_eq_true rfl, Nat.le_of_ble_eq_true rfl⟩ ⟨Nat.le_refl _, Nat.le_refl _⟩ dX8_owe_23 (fun v12 w11 H locs hf hZ => ?_)
  refine z_ne0 (pc := 26) (tgt := 35) hC hf dX8_owe_26 (by decide) (fun hf => ?_) (fun hf => ?_)
  · refine lv_aload_n (pc := 29) hx hb dX8_owe_29 rfl (lv_at hl 0 rfl) ?_
    refine lv_iconst (pc := 30) (v := (-1 : Int32)) hx hb dX8_owe_30 (by decide) ?_
    refine kX8_126 (pc := 31) hC hA hZ hf hl.1 (Nat.le_of_ble_eq_true rfl) ⟨Nat.le_of_ble_eq_true rfl, Nat.le_of_ble_eq_true rfl⟩ ⟨Nat.le_refl _, Nat.le_refl _⟩ dX8_owe_31 (fun v14 w13 H locs hf hZ => ?_)
    obtain ⟨rfl, rfl⟩ := zinj hf
    exact hE _ _ _ _ _ _ rfl hZ dX8_owe_34
  refine lv_iload (pc := 35) hx hb dX8_owe_35 (lv_at hl 4 rfl) ?_
  refine lv_iconst (pc := 37) (v := (1 : Int32)) hx hb dX8_owe_37 (by decide) ?_
  refine z_ige (pc := 38) (tgt := 48) hC hf dX8_owe_38 (by decide) (fun hf => ?_) (fun hf => ?_)
  · refine lv_iload (pc := 48) hx hb dX8_owe_48 (lv_at hl 4 rfl) ?_
    refine lv_ldc (pc := 50) (v := (100000 : Int32)) hx hb hC.1.2.2.2.1 (hC.1.2.2.2.2 _ kcX8_157) dX8_owe_50 ?_
    refine lv_aload_n (pc := 52) hx hb dX8_owe_52 rfl (lv_at hl 0 rfl) ?_
    refine lv_iload_n (pc := 53) hx hb dX8_owe_53 rfl (lv_at hl 3 rfl) ?_
    refine lv_iload_n (pc := 54) hx hb dX8_owe_54 rfl (lv_at hl 1 rfl) ?_
    refine lv_iload_n (pc := 55) hx hb dX8_owe_55 rfl (lv_at hl 2 rfl) ?_
    refine kX8_196 (pc := 56) hC hA hZ hf hl.1 (Nat.le_of_ble_eq_true rfl) ⟨Nat.le_of_ble_eq_true rfl, Nat.le_of_ble_eq_true rfl⟩ ⟨Nat.le_refl _, Nat.le_refl _⟩ dX8_owe_56 (fun v16 w15 H locs hf hZ => ?_)
    refine lv_isub (pc := 59) hx hb dX8_owe_59 ?_
    refine z_ile (pc := 60) (tgt := 70) hC hf dX8_owe_60 (by decide) (fun hf => ?_) (fun hf => ?_)
    · refine lv_aload_n (pc := 70) hx hb dX8_owe_70 rfl (lv_at hl 0 rfl) ?_
      refine gfX8_75 (pc := 71) hC hZ dX8_owe_71 ?_
      refine lv_bipush (pc := 74) (v := (100 : Int32)) hx hb dX8_owe_74 (by decide) ?_
      refine lv_iload_n (pc := 76) hx hb dX8_owe_76 rfl (lv_at hl 3 rfl) ?_
      refine lv_imul (pc := 77) hx hb dX8_owe_77 ?_
      refine lv_bipush (pc := 78) (v := (10 : Int32)) hx hb dX8_owe_78 (by decide) ?_
      refine lv_iload_n (pc := 80) hx hb dX8_owe_80 rfl (lv_at hl 1 rfl) ?_
      refine lv_imul (pc := 81) hx hb dX8_owe_81 ?_
      refine lv_iadd (pc := 82) hx hb dX8_owe_82 ?_
      refine lv_iload_n (pc := 83) hx hb dX8_owe_83 rfl (lv_at hl 2 rfl) ?_
      refine lv_iadd (pc := 84) hx hb dX8_owe_84 ?_
      refine lv_dup2_11 (pc := 85) hx hb dX8_owe_85 rfl rfl ?_
      refine z_iald (pc := 86) hC hZ (by decide) rfl hf dX8_owe_86 (fun v17 hf => ?_)
      refine lv_iload (pc := 87) hx hb dX8_owe_87 (lv_at hl 4 rfl) ?_
      refine lv_iadd (pc := 89) hx hb dX8_owe_89 ?_
      refine z_iast (pc := 90) hC hZ (by decide) rfl hf dX8_owe_90 (fun w18 H locs hf hZ => ?_)
      refine lv_aload_n (pc := 91) hx hb dX8_owe_91 rfl (lv_at hl 0 rfl) ?_
      refine lv_iload_n (pc := 92) hx hb dX8_owe_92 rfl (lv_at hl 3 rfl) ?_
      refine lv_iload_n (pc := 93) hx hb dX8_owe_93 rfl (lv_at hl 1 rfl) ?_
      refine lv_iload_n (pc := 94) hx hb dX8_owe_94 rfl (lv_at hl 2 rfl) ?_
      refine kX8_196 (pc := 95) hC hA hZ hf hl.1 (Nat.le_of_ble_eq_true rfl) ⟨Nat.le_of_ble_eq_true rfl, Nat.le_of_ble_eq_true rfl⟩ ⟨Nat.le_refl _, Nat.le_refl _⟩ dX8_owe_95 (fun v20 w19 H locs hf hZ => ?_)
      obtain ⟨rfl, rfl⟩ := zinj hf
      exact hE _ _ _ _ _ _ rfl hZ dX8_owe_98
    refine lv_aload_n (pc := 63) hx hb dX8_owe_63 rfl (lv_at hl 0 rfl) ?_
    refine lv_bipush (pc := 64) (v := (-6 : Int32)) hx hb dX8_owe_64 (by decide) ?_
    refine kX8_126 (pc := 66) hC hA hZ hf hl.1 (Nat.le_of_ble_eq_true rfl) ⟨Nat.le_of_ble_eq_true rfl, Nat.le_of_ble_eq_true rfl⟩ ⟨Nat.le_refl _, Nat.le_refl _⟩ dX8_owe_66 (fun v22 w21 H locs hf hZ => ?_)
    obtain ⟨rfl, rfl⟩ := zinj hf
    exact hE _ _ _ _ _ _ rfl hZ dX8_owe_69
  refine lv_aload_n (pc := 41) hx hb dX8_owe_41 rfl (lv_at hl 0 rfl) ?_
  refine lv_bipush (pc := 42) (v := (-4 : Int32)) hx hb dX8_owe_42 (by decide) ?_
  refine kX8_126 (pc := 44) hC hA hZ hf hl.1 (Nat.le_of_ble_eq_true rfl) ⟨Nat.le_of_ble_eq_true rfl, Nat.le_of_ble_eq_true rfl⟩ ⟨Nat.le_refl _, Nat.le_refl _⟩ dX8_owe_44 (fun v24 w23 H locs hf hZ => ?_)
  obtain ⟨rfl, rfl⟩ := zinj hf
  exact hE _ _ _ _ _ _ rfl hZ dX8_owe_47
