set_option maxHeartbeats 4000000 in
set_option maxRecDepth 100000 in
theorem cX7_bill_ok (l : Launch) (D : va_G) (cy : Nat → ClassId) (a0 aT aP : Nat → Nat) (N : Nat) (x1 : Int32) (x2 : Int32) (w0 : zS) (rv : Int64) (τ : zS) (hf : fX7_bill N x1 x2 w0 = some (rv, τ)) : zMl l yX7_bill cX7_bill 4 (some .long) rmX7_bill D cy shX 38 a0 aT aP w0 [.ref (a0 0), .int x1, .int x2] rv τ (fun u => u = (aT, aP)) := by
  refine zmet_l (by decide +kernel) rfl (Nat.le_of_ble_eq_true rfl) ?_
  intro p e s m below meth c A Q ls hC hA hZ hl hE
  have hx := hC.1.1
  have hb := hC.1.2.1
  have hl : lv_has ls 4 [(0, .ref (a0 0)), (1, .int x1), (2, .int x2)] := hl
  unfold fX7_bill at hf
  refine lv_aload_n (pc := 0) hx hb dX7_bill_0 rfl (lv_at hl 0 rfl) ?_
  refine lv_iload_n (pc := 1) hx hb dX7_bill_1 rfl (lv_at hl 1 rfl) ?_
  refine lv_iload_n (pc := 2) hx hb dX7_bill_2 rfl (lv_at hl 2 rfl) ?_
  refine kX7_164 (pc := 3) hC hA hZ hf hl.1 (Nat.le_of_ble_eq_true rfl) ⟨Nat.le_of_ble_eq_true rfl, Nat.le_of_ble_eq_true rfl⟩ ⟨Nat.le_refl _, Nat.le_refl _⟩ dX7_bill_3 (fun v2 w1 H locs hf hZ => ?_)
  refine lv_istore_n (pc := 6) (lv' := [(3, .int v2), (0, .ref (a0 0)), (1, .int x1), (2, .int x2)]) hx hb dX7_bill_6 rfl hl (by decide) rfl (fun ls hl => ?_)
  refine lv_iload_n (pc := 7) hx hb dX7_bill_7 rfl (lv_at hl 0 rfl) ?_
  refine z_eq0 (pc := 8) (tgt := 18) hC hf dX7_bill_8 (by decide) (fun hf => ?_) (fun hf => ?_)
  · refine lv_iload_n (pc := 18) hx hb dX7_bill_18 rfl (lv_at hl 3 rfl) ?_
    refine lv_aload_n (pc := 19) hx hb dX7_bill_19 rfl (lv_at hl 1 rfl) ?_
    refine gfX7_35 (pc := 20) hC hZ dX7_bill_20 ?_
    refine gfX7_171 (pc := 23) hC hZ dX7_bill_23 ?_
    refine z_ilt (pc := 26) (tgt := 37) hC hf dX7_bill_26 (by decide) (fun hf => ?_) (fun hf => ?_)
    · refine lv_aload_n (pc := 37) hx hb dX7_bill_37 rfl (lv_at hl 1 rfl) ?_
      refine gfX7_28 (pc := 38) hC hZ dX7_bill_38 ?_
      refine lv_iload_n (pc := 41) hx hb dX7_bill_41 rfl (lv_at hl 2 rfl) ?_
      refine lv_bipush (pc := 42) (v := (20 : Int32)) hx hb dX7_bill_42 (by decide) ?_
      refine lv_imul (pc := 44) hx hb dX7_bill_44 ?_
      refine lv_iload_n (pc := 45) hx hb dX7_bill_45 rfl (lv_at hl 3 rfl) ?_
      refine lv_iadd (pc := 46) hx hb dX7_bill_46 ?_
      refine z_lald (pc := 47) hC hZ (by decide) rfl hf dX7_bill_47 (fun v3 hf => ?_)
      obtain ⟨rfl, rfl⟩ := zinj hf
      exact hE _ _ _ _ _ _ rfl hZ dX7_bill_48
    refine lv_aload_n (pc := 29) hx hb dX7_bill_29 rfl (lv_at hl 1 rfl) ?_
    refine lv_bipush (pc := 30) (v := (-3 : Int32)) hx hb dX7_bill_30 (by decide) ?_
    refine kX7_73 (pc := 32) hC hA hZ hf hl.1 (Nat.le_of_ble_eq_true rfl) ⟨Nat.le_of_ble_eq_true rfl, Nat.le_of_ble_eq_true rfl⟩ ⟨Nat.le_refl _, Nat.le_refl _⟩ dX7_bill_32 (fun v5 w4 H locs hf hZ => ?_)
    refine lv_i2l (pc := 35) hx hb dX7_bill_35 rfl ?_
    obtain ⟨rfl, rfl⟩ := zinj hf
    exact hE _ _ _ _ _ _ rfl hZ dX7_bill_36
  refine lv_aload_n (pc := 11) hx hb dX7_bill_11 rfl (lv_at hl 1 rfl) ?_
  refine lv_iload_n (pc := 12) hx hb dX7_bill_12 rfl (lv_at hl 0 rfl) ?_
  refine kX7_73 (pc := 13) hC hA hZ hf hl.1 (Nat.le_of_ble_eq_true rfl) ⟨Nat.le_of_ble_eq_true rfl, Nat.le_of_ble_eq_true rfl⟩ ⟨Nat.le_refl _, Nat.le_refl _⟩ dX7_bill_13 (fun v7 w6 H locs hf hZ => ?_)
  refine lv_i2l (pc := 16) hx hb dX7_bill_16 rfl ?_
  obtain ⟨rfl, rfl⟩ := zinj hf
  exact hE _ _ _ _ _ _ rfl hZ dX7_bill_17
set_option maxHeartbeats 4000000 in
set_option maxRecDepth 100000 in
theorem cX7_telling_ok (l : Launch) (D : va_G) (cy : Nat → ClassId) (a0 aT aP : Nat → Nat) (N : Nat) (x1 : Int32) (x2 : Int32) (w0 : zS) (rv : Int32) (τ : zS) (hf : fX7_telling N x1 x2 w0 = some (rv, τ)) : zMi l yX7_telling cX7_telling 4 (some .int) rmX7_telling D cy shX 38 a0 aT aP w0 [.ref (a0 0), .int x1, .int x2] rv τ (fun u => u = (aT, aP)) := by
  refine zmet_i (by decide +kernel) (Or.inl rfl) (Nat.le_of_ble_eq_true rfl) ?_
  intro p e s m below meth c A Q ls hC hA hZ hl hE
  have hx := hC.1.1
  have hb := hC.1.2.1
  have hl : lv_has ls 4 [(0, .ref (a0 0)), (1, .int x1), (2, .int x2)] := hl
  unfold fX7_telling at hf
  refine lv_aload_n (pc := 0) hx hb dX7_telling_0 rfl (lv_at hl 0 rfl) ?_
  refine gfX7_42 (pc := 1) hC hZ dX7_telling_1 ?_
  refine lv_iload_n (pc := 4) hx hb dX7_telling_4 rfl (lv_at hl 1 rfl) ?_
  refine kX7_115 (pc := 5) hC hA hZ hf hl.1 (Nat.le_of_ble_eq_true rfl) ⟨Nat.le_of_ble_eq_true rfl, Nat.le_of_ble_eq_true rfl⟩ ⟨Nat.le_refl _, Nat.le_refl _⟩ dX7_telling_5 (fun v2 w1 H locs hf hZ => ?_)
  refine z_astore_n (pc := 8) (i := 3) (lv' := [(3, va_rf (v2.map aT)), (0, .ref (a0 0)), (1, .int x1), (2, .int x2)]) hC dX7_telling_8 rfl hl (by decide) (zadj_cons (Or.inl (Nat.ne_of_beq_eq_false rfl)) (zadj_cons (Or.inl (Nat.ne_of_beq_eq_false rfl)) (zadj_cons (Or.inr rfl) zadj_nil))) rfl (fun ls hl => ?_)
  refine z_aload_n (pc := 9) hC dX7_telling_9 rfl (lv_at hl 0 rfl) ?_
  refine z_ifnonnull (pc := 10) (tgt := 16) hC hf dX7_telling_10 (by decide) (fun hf => ?_) (fun hf => ?_)
  · refine lv_bipush (pc := 13) (v := (-9 : Int32)) hx hb dX7_telling_13 (by decide) ?_
    obtain ⟨rfl, rfl⟩ := zinj hf
    exact hE _ _ _ _ _ _ rfl hZ dX7_telling_15
  refine lv_iload_n (pc := 16) hx hb dX7_telling_16 rfl (lv_at hl 3 rfl) ?_
  by_cases n0 : x2 = (0 : Int32)
  · rw [if_pos n0] at hf
    refine z_tabIn (pc := 17) (tgt := 64) hC n0 dX7_telling_17 (by decide) (by decide) rfl (by decide) ?_
    refine z_aload_n (pc := 64) hC dX7_telling_64 rfl (lv_at hl 0 rfl) ?_
    refine z_gT (pc := 65) hC hZ fkX7_174 rfl hf dX7_telling_65 (fun v3 hf => ?_)
    refine z_eq0 (pc := 68) (tgt := 75) hC hf dX7_telling_68 (by decide) (fun hf => ?_) (fun hf => ?_)
    · refine lv_iconst (pc := 75) (v := (0 : Int32)) hx hb dX7_telling_75 (by decide) ?_
      obtain ⟨rfl, rfl⟩ := zinj hf
      exact hE _ _ _ _ _ _ rfl hZ dX7_telling_76
    refine lv_iconst (pc := 71) (v := (1 : Int32)) hx hb dX7_telling_71 (by decide) ?_
    refine lv_goto (pc := 72) (tgt := 76) hx hb dX7_telling_72 (by decide) ?_
    obtain ⟨rfl, rfl⟩ := zinj hf
    exact hE _ _ _ _ _ _ rfl hZ dX7_telling_76
  rw [if_neg n0] at hf
  by_cases n1 : x2 = (1 : Int32)
  · rw [if_pos n1] at hf
    refine z_tabIn (pc := 17) (tgt := 77) hC n1 dX7_telling_17 (by decide) (by decide) rfl (by decide) ?_
    refine z_aload_n (pc := 77) hC dX7_telling_77 rfl (lv_at hl 0 rfl) ?_
    refine z_gT (pc := 78) hC hZ fkX7_177 rfl hf dX7_telling_78 (fun v4 hf => ?_)
    obtain ⟨rfl, rfl⟩ := zinj hf
    exact hE _ _ _ _ _ _ rfl hZ dX7_telling_81
  rw [if_neg n1] at hf
  by_cases n2 : x2 = (2 : Int32)
  · rw [if_pos n2] at hf
    refine z_tabIn (pc := 17) (tgt := 82) hC n2 dX7_telling_17 (by decide) (by decide) rfl (by decide) ?_
    refine z_aload_n (pc := 82) hC dX7_telling_82 rfl (lv_at hl 0 rfl) ?_
    refine z_gT (pc := 83) hC hZ fkX7_180 rfl hf dX7_telling_83 (fun v5 hf => ?_)
    obtain ⟨rfl, rfl⟩ := zinj hf
    exact hE _ _ _ _ _ _ rfl hZ dX7_telling_86
  rw [if_neg n2] at hf
  by_cases n3 : x2 = (3 : Int32)
  · rw [if_pos n3] at hf
    refine z_tabIn (pc := 17) (tgt := 87) hC n3 dX7_telling_17 (by decide) (by decide) rfl (by decide) ?_
    refine z_aload_n (pc := 87) hC dX7_telling_87 rfl (lv_at hl 0 rfl) ?_
    refine z_gT (pc := 88) hC hZ fkX7_183 rfl hf dX7_telling_88 (fun v6 hf => ?_)
    obtain ⟨rfl, rfl⟩ := zinj hf
    exact hE _ _ _ _ _ _ rfl hZ dX7_telling_91
  rw [if_neg n3] at hf
  by_cases n4 : x2 = (4 : Int32)
  · rw [if_pos n4] at hf
    refine z_tabIn (pc := 17) (tgt := 92) hC n4 dX7_telling_17 (by decide) (by decide) rfl (by decide) ?_
    refine z_aload_n (pc := 92) hC dX7_telling_92 rfl (lv_at hl 0 rfl) ?_
    refine z_gT (pc := 93) hC hZ fkX7_186 rfl hf dX7_telling_93 (fun v7 hf => ?_)
    obtain ⟨rfl, rfl⟩ := zinj hf
    exact hE _ _ _ _ _ _ rfl hZ dX7_telling_96
  rw [if_neg n4] at hf
  by_cases n5 : x2 = (5 : Int32)
  · rw [if_pos n5] at hf
    refine z_tabIn (pc := 17) (tgt := 97) hC n5 dX7_telling_17 (by decide) (by decide) rfl (by decide) ?_
    refine z_aload_n (pc := 97) hC dX7_telling_97 rfl (lv_at hl 0 rfl) ?_
    refine z_gT (pc := 98) hC hZ fkX7_189 rfl hf dX7_telling_98 (fun v8 hf => ?_)
    obtain ⟨rfl, rfl⟩ := zinj hf
    exact hE _ _ _ _ _ _ rfl hZ dX7_telling_101
  rw [if_neg n5] at hf
  by_cases n6 : x2 = (6 : Int32)
  · rw [if_pos n6] at hf
    refine z_tabIn (pc := 17) (tgt := 102) hC n6 dX7_telling_17 (by decide) (by decide) rfl (by decide) ?_
    refine z_aload_n (pc := 102) hC dX7_telling_102 rfl (lv_at hl 0 rfl) ?_
    refine z_gT (pc := 103) hC hZ fkX7_119 rfl hf dX7_telling_103 (fun v9 hf => ?_)
    obtain ⟨rfl, rfl⟩ := zinj hf
    exact hE _ _ _ _ _ _ rfl hZ dX7_telling_106
  rw [if_neg n6] at hf
  by_cases n7 : x2 = (7 : Int32)
  · rw [if_pos n7] at hf
    refine z_tabIn (pc := 17) (tgt := 107) hC n7 dX7_telling_17 (by decide) (by decide) rfl (by decide) ?_
    refine z_aload_n (pc := 107) hC dX7_telling_107 rfl (lv_at hl 0 rfl) ?_
    refine z_gT (pc := 108) hC hZ fkX7_192 rfl hf dX7_telling_108 (fun v10 hf => ?_)
    obtain ⟨rfl, rfl⟩ := zinj hf
    exact hE _ _ _ _ _ _ rfl hZ dX7_telling_111
  rw [if_neg n7] at hf
  refine lv_tableOut (pc := 17) (tgt := 112) hx hb dX7_telling_17 (zsw_out (fun k h1 h2 h3 => by rcases (show k = 0 ∨ k = 1 ∨ k = 2 ∨ k = 3 ∨ k = 4 ∨ k = 5 ∨ k = 6 ∨ k = 7 by omega) with rfl | rfl | rfl | rfl | rfl | rfl | rfl | rfl <;> first | exact n0 h3 | exact n1 h3 | exact n2 h3 | exact n3 h3 | exact n4 h3 | exact n5 h3 | exact n6 h3 | exact n7 h3)) (by decide) ?_
  refine lv_bipush (pc := 112) (v := (-9 : Int32)) hx hb dX7_telling_112 (by decide) ?_
  obtain ⟨rfl, rfl⟩ := zinj hf
  exact hE _ _ _ _ _ _ rfl hZ dX7_telling_114
set_option maxHeartbeats 4000000 in
set_option maxRecDepth 100000 in
theorem cX7_pairOf_ok (l : Launch) (D : va_G) (cy : Nat → ClassId) (a0 aT aP : Nat → Nat) (N : Nat) (x1 : Int32) (x2 : Int32) (w0 : zS) (rv : Int32) (τ : zS) (hf : fX7_pairOf N x1 x2 w0 = some (rv, τ)) : zMi l yX7_pairOf cX7_pairOf 4 (some .int) rmX7_pairOf D cy shX 38 a0 aT aP w0 [.ref (a0 0), .int x1, .int x2] rv τ (fun u => u = (aT, aP)) := by
  refine zmet_i (by decide +kernel) (Or.inl rfl) (Nat.le_of_ble_eq_true rfl) ?_
  intro p e s m below meth c A Q ls hC hA hZ hl hE
  have hx := hC.1.1
  have hb := hC.1.2.1
  have hl : lv_has ls 4 [(0, .ref (a0 0)), (1, .int x1), (2, .int x2)] := hl
  unfold fX7_pairOf at hf
  refine lv_aload_n (pc := 0) hx hb dX7_pairOf_0 rfl (lv_at hl 0 rfl) ?_
  refine gfX7_42 (pc := 1) hC hZ dX7_pairOf_1 ?_
  refine lv_iload_n (pc := 4) hx hb dX7_pairOf_4 rfl (lv_at hl 1 rfl) ?_
  refine kX7_131 (pc := 5) hC hA hZ hf hl.1 (Nat.le_of_ble_eq_true rfl) ⟨Nat.le_of_ble_eq_true rfl, Nat.le_of_ble_eq_true rfl⟩ ⟨Nat.le_refl _, Nat.le_refl _⟩ dX7_pairOf_5 (fun v2 w1 H locs hf hZ => ?_)
  refine z_astore_n (pc := 8) (i := 3) (lv' := [(3, va_rf (v2.map aP)), (0, .ref (a0 0)), (1, .int x1), (2, .int x2)]) hC dX7_pairOf_8 rfl hl (by decide) (zadj_cons (Or.inl (Nat.ne_of_beq_eq_false rfl)) (zadj_cons (Or.inl (Nat.ne_of_beq_eq_false rfl)) (zadj_cons (Or.inr rfl) zadj_nil))) rfl (fun ls hl => ?_)
  refine z_aload_n (pc := 9) hC dX7_pairOf_9 rfl (lv_at hl 0 rfl) ?_
  refine z_ifnonnull (pc := 10) (tgt := 16) hC hf dX7_pairOf_10 (by decide) (fun hf => ?_) (fun hf => ?_)
  · refine lv_bipush (pc := 13) (v := (-9 : Int32)) hx hb dX7_pairOf_13 (by decide) ?_
    obtain ⟨rfl, rfl⟩ := zinj hf
    exact hE _ _ _ _ _ _ rfl hZ dX7_pairOf_15
  refine lv_iload_n (pc := 16) hx hb dX7_pairOf_16 rfl (lv_at hl 3 rfl) ?_
  by_cases n0 : x2 = (0 : Int32)
  · rw [if_pos n0] at hf
    refine z_tabIn (pc := 17) (tgt := 56) hC n0 dX7_pairOf_17 (by decide) (by decide) rfl (by decide) ?_
    refine z_aload_n (pc := 56) hC dX7_pairOf_56 rfl (lv_at hl 0 rfl) ?_
    refine z_gPR (pc := 57) hC hZ fkX7_195 rfl hf dX7_pairOf_57 (fun v3 hf => ?_)
    refine z_gT (pc := 60) hC hZ fkX7_198 rfl hf dX7_pairOf_60 (fun v4 hf => ?_)
    obtain ⟨rfl, rfl⟩ := zinj hf
    exact hE _ _ _ _ _ _ rfl hZ dX7_pairOf_63
  rw [if_neg n0] at hf
  by_cases n1 : x2 = (1 : Int32)
  · rw [if_pos n1] at hf
    refine z_tabIn (pc := 17) (tgt := 64) hC n1 dX7_pairOf_17 (by decide) (by decide) rfl (by decide) ?_
    refine z_aload_n (pc := 64) hC dX7_pairOf_64 rfl (lv_at hl 0 rfl) ?_
    refine z_gPR (pc := 65) hC hZ fkX7_201 rfl hf dX7_pairOf_65 (fun v5 hf => ?_)
    refine z_gT (pc := 68) hC hZ fkX7_198 rfl hf dX7_pairOf_68 (fun v6 hf => ?_)
    obtain ⟨rfl, rfl⟩ := zinj hf
    exact hE _ _ _ _ _ _ rfl hZ dX7_pairOf_71
  rw [if_neg n1] at hf
  by_cases n2 : x2 = (2 : Int32)
  · rw [if_pos n2] at hf
    refine z_tabIn (pc := 17) (tgt := 72) hC n2 dX7_pairOf_17 (by decide) (by decide) rfl (by decide) ?_
    refine z_aload_n (pc := 72) hC dX7_pairOf_72 rfl (lv_at hl 0 rfl) ?_
    refine z_gPR (pc := 73) hC hZ fkX7_201 rfl hf dX7_pairOf_73 (fun v7 hf => ?_)
    refine z_gT (pc := 76) hC hZ fkX7_189 rfl hf dX7_pairOf_76 (fun v8 hf => ?_)
    obtain ⟨rfl, rfl⟩ := zinj hf
    exact hE _ _ _ _ _ _ rfl hZ dX7_pairOf_79
  rw [if_neg n2] at hf
  by_cases n3 : x2 = (3 : Int32)
  · rw [if_pos n3] at hf
    refine z_tabIn (pc := 17) (tgt := 80) hC n3 dX7_pairOf_17 (by decide) (by decide) rfl (by decide) ?_
    refine z_aload_n (pc := 80) hC dX7_pairOf_80 rfl (lv_at hl 0 rfl) ?_
    refine kX7_144 (pc := 81) hC hA hZ hf hl.1 (Nat.le_of_ble_eq_true rfl) ⟨Nat.le_of_ble_eq_true rfl, Nat.le_of_ble_eq_true rfl⟩ ⟨Nat.le_refl _, Nat.le_refl _⟩ dX7_pairOf_81 (fun v10 w9 H locs hf hZ => ?_)
    refine z_eq0 (pc := 84) (tgt := 91) hC hf dX7_pairOf_84 (by decide) (fun hf => ?_) (fun hf => ?_)
    · refine lv_iconst (pc := 91) (v := (0 : Int32)) hx hb dX7_pairOf_91 (by decide) ?_
      obtain ⟨rfl, rfl⟩ := zinj hf
      exact hE _ _ _ _ _ _ rfl hZ dX7_pairOf_92
    refine lv_iconst (pc := 87) (v := (1 : Int32)) hx hb dX7_pairOf_87 (by decide) ?_
    refine lv_goto (pc := 88) (tgt := 92) hx hb dX7_pairOf_88 (by decide) ?_
    obtain ⟨rfl, rfl⟩ := zinj hf
    exact hE _ _ _ _ _ _ rfl hZ dX7_pairOf_92
  rw [if_neg n3] at hf
  by_cases n4 : x2 = (4 : Int32)
  · rw [if_pos n4] at hf
    refine z_tabIn (pc := 17) (tgt := 93) hC n4 dX7_pairOf_17 (by decide) (by decide) rfl (by decide) ?_
    refine z_aload_n (pc := 93) hC dX7_pairOf_93 rfl (lv_at hl 0 rfl) ?_
    refine z_gP (pc := 94) hC hZ fkX7_135 rfl hf dX7_pairOf_94 (fun v11 hf => ?_)
    obtain ⟨rfl, rfl⟩ := zinj hf
    exact hE _ _ _ _ _ _ rfl hZ dX7_pairOf_97
  rw [if_neg n4] at hf
  by_cases n5 : x2 = (5 : Int32)
  · rw [if_pos n5] at hf
    refine z_tabIn (pc := 17) (tgt := 98) hC n5 dX7_pairOf_17 (by decide) (by decide) rfl (by decide) ?_
    refine z_aload_n (pc := 98) hC dX7_pairOf_98 rfl (lv_at hl 0 rfl) ?_
    refine z_gP (pc := 99) hC hZ fkX7_148 rfl hf dX7_pairOf_99 (fun v12 hf => ?_)
    refine z_eq0 (pc := 102) (tgt := 109) hC hf dX7_pairOf_102 (by decide) (fun hf => ?_) (fun hf => ?_)
    · refine lv_iconst (pc := 109) (v := (0 : Int32)) hx hb dX7_pairOf_109 (by decide) ?_
      obtain ⟨rfl, rfl⟩ := zinj hf
      exact hE _ _ _ _ _ _ rfl hZ dX7_pairOf_110
    refine lv_iconst (pc := 105) (v := (1 : Int32)) hx hb dX7_pairOf_105 (by decide) ?_
    refine lv_goto (pc := 106) (tgt := 110) hx hb dX7_pairOf_106 (by decide) ?_
    obtain ⟨rfl, rfl⟩ := zinj hf
    exact hE _ _ _ _ _ _ rfl hZ dX7_pairOf_110
  rw [if_neg n5] at hf
  refine lv_tableOut (pc := 17) (tgt := 111) hx hb dX7_pairOf_17 (zsw_out (fun k h1 h2 h3 => by rcases (show k = 0 ∨ k = 1 ∨ k = 2 ∨ k = 3 ∨ k = 4 ∨ k = 5 by omega) with rfl | rfl | rfl | rfl | rfl | rfl <;> first | exact n0 h3 | exact n1 h3 | exact n2 h3 | exact n3 h3 | exact n4 h3 | exact n5 h3)) (by decide) ?_
  refine lv_bipush (pc := 111) (v := (-9 : Int32)) hx hb dX7_pairOf_111 (by decide) ?_
  obtain ⟨rfl, rfl⟩ := zinj hf
  exact hE _ _ _ _ _ _ rfl hZ dX7_pairOf_113
set_option maxHeartbeats 4000000 in
set_option maxRecDepth 100000 in
theorem cX7_areTwoHouses_ok (l : Launch) (D : va_G) (cy : Nat → ClassId) (a0 aT aP : Nat → Nat) (N : Nat) (x1 : Int32) (x2 : Int32) (w0 : zS) (rv : Int32) (τ : zS) (hf : fX7_areTwoHouses N x1 x2 w0 = some (rv, τ)) : zMi l yX7_areTwoHouses cX7_areTwoHouses 3 (some .boolean) rmX7_areTwoHouses D cy shX 38 a0 aT aP w0 [.ref (a0 0), .int x1, .int x2] rv τ (fun u => u = (aT, aP)) := by
  refine zmet_z (by decide +kernel) rfl (Nat.le_of_ble_eq_true rfl) ?_
  intro p e s m below meth c A Q ls hC hA hZ hl hE
  have hx := hC.1.1
  have hb := hC.1.2.1
  have hl : lv_has ls 3 [(0, .ref (a0 0)), (1, .int x1), (2, .int x2)] := hl
  unfold fX7_areTwoHouses at hf
  refine lv_aload_n (pc := 0) hx hb dX7_areTwoHouses_0 rfl (lv_at hl 0 rfl) ?_
  refine lv_iload_n (pc := 1) hx hb dX7_areTwoHouses_1 rfl (lv_at hl 1 rfl) ?_
  refine kX7_77 (pc := 2) hC hA hZ hf hl.1 (Nat.le_of_ble_eq_true rfl) ⟨Nat.le_of_ble_eq_true rfl, Nat.le_of_ble_eq_true rfl⟩ ⟨Nat.le_refl _, Nat.le_refl _⟩ dX7_areTwoHouses_2 (fun v2 w1 H locs hf hZ => ?_)
  refine z_eq0 (pc := 5) (tgt := 25) hC hf dX7_areTwoHouses_5 (by decide) (fun hf => ?_) (fun hf => ?_)
  · refine lv_iconst (pc := 25) (v := (0 : Int32)) hx hb dX7_areTwoHouses_25 (by decide) ?_
    obtain ⟨rfl, rfl⟩ := zinj hf
    exact hE (by decide) _ _ _ _ _ _ rfl hZ dX7_areTwoHouses_26
  refine lv_aload_n (pc := 8) hx hb dX7_areTwoHouses_8 rfl (lv_at hl 0 rfl) ?_
  refine lv_iload_n (pc := 9) hx hb dX7_areTwoHouses_9 rfl (lv_at hl 2 rfl) ?_
  refine kX7_77 (pc := 10) hC hA hZ hf hl.1 (Nat.le_of_ble_eq_true rfl) ⟨Nat.le_of_ble_eq_true rfl, Nat.le_of_ble_eq_true rfl⟩ ⟨Nat.le_refl _, Nat.le_refl _⟩ dX7_areTwoHouses_10 (fun v4 w3 H locs hf hZ => ?_)
  refine z_eq0 (pc := 13) (tgt := 25) hC hf dX7_areTwoHouses_13 (by decide) (fun hf => ?_) (fun hf => ?_)
  · refine lv_iconst (pc := 25) (v := (0 : Int32)) hx hb dX7_areTwoHouses_25 (by decide) ?_
    obtain ⟨rfl, rfl⟩ := zinj hf
    exact hE (by decide) _ _ _ _ _ _ rfl hZ dX7_areTwoHouses_26
  refine lv_iload_n (pc := 16) hx hb dX7_areTwoHouses_16 rfl (lv_at hl 1 rfl) ?_
  refine lv_iload_n (pc := 17) hx hb dX7_areTwoHouses_17 rfl (lv_at hl 2 rfl) ?_
  refine z_ieq (pc := 18) (tgt := 25) hC hf dX7_areTwoHouses_18 (by decide) (fun hf => ?_) (fun hf => ?_)
  · refine lv_iconst (pc := 25) (v := (0 : Int32)) hx hb dX7_areTwoHouses_25 (by decide) ?_
    obtain ⟨rfl, rfl⟩ := zinj hf
    exact hE (by decide) _ _ _ _ _ _ rfl hZ dX7_areTwoHouses_26
  refine lv_iconst (pc := 21) (v := (1 : Int32)) hx hb dX7_areTwoHouses_21 (by decide) ?_
  refine lv_goto (pc := 22) (tgt := 26) hx hb dX7_areTwoHouses_22 (by decide) ?_
  obtain ⟨rfl, rfl⟩ := zinj hf
  exact hE (by decide) _ _ _ _ _ _ rfl hZ dX7_areTwoHouses_26
section ZK
variable {p : Program} {l : Launch} {e : Env} {R : Room} {s : State} {m : MethodId} {args : Array Value} {below : List Frame} {meth : Method} {c : Code} {H : Heap} {locs : List Loc} {cells slots : Nat} {Q : State → Prop}
variable {pc : Nat} {ls : Array Slot} {rest : List Value} {A : Nat → Prop} {H0 : Heap} {D : va_G} {cy : Nat → ClassId} {a0 aT aP : Nat → Nat} {σ : zS} {cc : ByteArray} {nL : Nat} {α : Type} {res : α}
theorem vkX7_99 : zVk RX7 99 yX7_areTwoHouses cX7_areTwoHouses 3 (some .boolean) 2 := ⟨by decide +kernel, by decide +kernel, by decide +kernel, by decide +kernel, by decide +kernel, by decide +kernel⟩
theorem kX7_99 (hC : zC p s m args c RX7 cc nL D cy) (hA : ∀ q, H0.size ≤ q → A q) (hZ : zW D cy shX 38 a0 aT aP A H0 σ H locs) {N : Nat} {x1 : Int32} {x2 : Int32} {k : Int32 → zS → Option α} (hf : zbi (fX7_areTwoHouses N x1 x2 σ) k = some res) (hsz : ls.size = nL) (hW : (rest.map fun v => v.category).sum ≤ 8) (hR : rmX7_areTwoHouses.frames + 1 ≤ R.frames ∧ 8 + (3 + 11) + rmX7_areTwoHouses.locals ≤ R.locals) (hcs : cells ≤ R.cells ∧ slots ≤ R.slots) (hdg : decode cc pc = .ok (.invokevirtual 99, 3)) (kk : ∀ (v : Int32) (τ : zS) (H1 : Heap) (locs1 : List Loc), k v τ = some res → zW D cy shX 38 a0 aT aP A H0 τ H1 locs1 → W p l e R s m args below meth c H1 locs1 cells slots Q (F0 m (pc + 3) ls (.int v :: rest))) : W p l e R s m args below meth c H locs cells slots Q (F0 m pc ls (.int x2 :: .int x1 :: .ref (a0 0) :: rest)) := by
  cases hq : fX7_areTwoHouses N x1 x2 σ with
  | none => rw [hq] at hf; cases hf
  | some q =>
    rw [hq] at hf
    exact zcalli hA hZ (zrun hC hZ vkX7_99 rfl (zw0 (by decide)) (cX7_areTwoHouses_ok l D cy a0 aT aP N x1 x2 σ q.1 q.2 hq H.size) hR rfl hsz rfl hW hcs hdg) (fun u H1 locs1 hU hZ1 => by subst hU; exact kk q.1 q.2 H1 locs1 hf hZ1)
end ZK
set_option maxHeartbeats 4000000 in
set_option maxRecDepth 100000 in
theorem cX1_debt_ok (l : Launch) (D : va_G) (cy : Nat → ClassId) (a0 aT aP : Nat → Nat) (N : Nat) (x1 : Int32) (x2 : Int32) (x3 : Int32) (w0 : zS) (rv : Int32) (τ : zS) (hf : fX1_debt N x1 x2 x3 w0 = some (rv, τ)) : zMi l yX1_debt cX1_debt 4 (some .int) rmX1_debt D cy shX 38 a0 aT aP w0 [.ref (a0 4), .int x1, .int x2, .int x3] rv τ (fun u => u = (aT, aP)) := by
  refine zmet_i (by decide +kernel) (Or.inl rfl) (Nat.le_of_ble_eq_true rfl) ?_
  intro p e s m below meth c A Q ls hC hA hZ hl hE
  have hx := hC.1.1
  have hb := hC.1.2.1
  have hl : lv_has ls 4 [(0, .ref (a0 4)), (1, .int x1), (2, .int x2), (3, .int x3)] := hl
  unfold fX1_debt at hf
  refine lv_aload_n (pc := 0) hx hb dX1_debt_0 rfl (lv_at hl 0 rfl) ?_
  refine gfX1_9 (pc := 1) hC hZ dX1_debt_1 ?_
  refine lv_iload_n (pc := 4) hx hb dX1_debt_4 rfl (lv_at hl 1 rfl) ?_
  refine lv_bipush (pc := 5) (v := (10 : Int32)) hx hb dX1_debt_5 (by decide) ?_
  refine lv_imul (pc := 7) hx hb dX1_debt_7 ?_
  refine lv_iload_n (pc := 8) hx hb dX1_debt_8 rfl (lv_at hl 2 rfl) ?_
  refine lv_iadd (pc := 9) hx hb dX1_debt_9 ?_
  refine lv_bipush (pc := 10) (v := (10 : Int32)) hx hb dX1_debt_10 (by decide) ?_
  refine lv_imul (pc := 12) hx hb dX1_debt_12 ?_
  refine lv_iload_n (pc := 13) hx hb dX1_debt_13 rfl (lv_at hl 3 rfl) ?_
  refine lv_iadd (pc := 14) hx hb dX1_debt_14 ?_
  refine z_iald (pc := 15) hC hZ (by decide) rfl hf dX1_debt_15 (fun v1 hf => ?_)
  obtain ⟨rfl, rfl⟩ := zinj hf
  exact hE _ _ _ _ _ _ rfl hZ dX1_debt_16
section ZK
variable {p : Program} {l : Launch} {e : Env} {R : Room} {s : State} {m : MethodId} {args : Array Value} {below : List Frame} {meth : Method} {c : Code} {H : Heap} {locs : List Loc} {cells slots : Nat} {Q : State → Prop}
variable {pc : Nat} {ls : Array Slot} {rest : List Value} {A : Nat → Prop} {H0 : Heap} {D : va_G} {cy : Nat → ClassId} {a0 aT aP : Nat → Nat} {σ : zS} {cc : ByteArray} {nL : Nat} {α : Type} {res : α}
theorem vkX7_204 : zVk RX7 204 yX1_debt cX1_debt 4 (some .int) 3 := ⟨by decide +kernel, by decide +kernel, by decide +kernel, by decide +kernel, by decide +kernel, by decide +kernel⟩
theorem kX7_204 (hC : zC p s m args c RX7 cc nL D cy) (hA : ∀ q, H0.size ≤ q → A q) (hZ : zW D cy shX 38 a0 aT aP A H0 σ H locs) {N : Nat} {x1 : Int32} {x2 : Int32} {x3 : Int32} {k : Int32 → zS → Option α} (hf : zbi (fX1_debt N x1 x2 x3 σ) k = some res) (hsz : ls.size = nL) (hW : (rest.map fun v => v.category).sum ≤ 8) (hR : rmX1_debt.frames + 1 ≤ R.frames ∧ 8 + (4 + 11) + rmX1_debt.locals ≤ R.locals) (hcs : cells ≤ R.cells ∧ slots ≤ R.slots) (hdg : decode cc pc = .ok (.invokevirtual 204, 3)) (kk : ∀ (v : Int32) (τ : zS) (H1 : Heap) (locs1 : List Loc), k v τ = some res → zW D cy shX 38 a0 aT aP A H0 τ H1 locs1 → W p l e R s m args below meth c H1 locs1 cells slots Q (F0 m (pc + 3) ls (.int v :: rest))) : W p l e R s m args below meth c H locs cells slots Q (F0 m pc ls (.int x3 :: .int x2 :: .int x1 :: .ref (a0 4) :: rest)) := by
  cases hq : fX1_debt N x1 x2 x3 σ with
  | none => rw [hq] at hf; cases hf
  | some q =>
    rw [hq] at hf
    exact zcalli hA hZ (zrun hC hZ vkX7_204 rfl (zw0 (by decide)) (cX1_debt_ok l D cy a0 aT aP N x1 x2 x3 σ q.1 q.2 hq H.size) hR rfl hsz rfl hW hcs hdg) (fun u H1 locs1 hU hZ1 => by subst hU; exact kk q.1 q.2 H1 locs1 hf hZ1)
theorem vkX1_53 : zVk RX1 53 yX1_debt cX1_debt 4 (some .int) 3 := ⟨by decide +kernel, by decide +kernel, by decide +kernel, by decide +kernel, by decide +kernel, by decide +kernel⟩
theorem kX1_53 (hC : zC p s m args c RX1 cc nL D cy) (hA : ∀ q, H0.size ≤ q → A q) (hZ : zW D cy shX 38 a0 aT aP A H0 σ H locs) {N : Nat} {x1 : Int32} {x2 : Int32} {x3 : Int32} {k : Int32 → zS → Option α} (hf : zbi (fX1_debt N x1 x2 x3 σ) k = some res) (hsz : ls.size = nL) (hW : (rest.map fun v => v.category).sum ≤ 8) (hR : rmX1_debt.frames + 1 ≤ R.frames ∧ 8 + (4 + 11) + rmX1_debt.locals ≤ R.locals) (hcs : cells ≤ R.cells ∧ slots ≤ R.slots) (hdg : decode cc pc = .ok (.invokevirtual 53, 3)) (kk : ∀ (v : Int32) (τ : zS) (H1 : Heap) (locs1 : List Loc), k v τ = some res → zW D cy shX 38 a0 aT aP A H0 τ H1 locs1 → W p l e R s m args below meth c H1 locs1 cells slots Q (F0 m (pc + 3) ls (.int v :: rest))) : W p l e R s m args below meth c H locs cells slots Q (F0 m pc ls (.int x3 :: .int x2 :: .int x1 :: .ref (a0 4) :: rest)) := by
  cases hq : fX1_debt N x1 x2 x3 σ with
  | none => rw [hq] at hf; cases hf
  | some q =>
    rw [hq] at hf
    exact zcalli hA hZ (zrun hC hZ vkX1_53 rfl (zw0 (by decide)) (cX1_debt_ok l D cy a0 aT aP N x1 x2 x3 σ q.1 q.2 hq H.size) hR rfl hsz rfl hW hcs hdg) (fun u H1 locs1 hU hZ1 => by subst hU; exact kk q.1 q.2 H1 locs1 hf hZ1)
end ZK
set_option maxHeartbeats 4000000 in
set_option maxRecDepth 100000 in
theorem cX1_add_ok (l : Launch) (D : va_G) (cy : Nat → ClassId) (a0 aT aP : Nat → Nat) (N : Nat) (x1 : Int32) (x2 : Int32) (x3 : Int32) (x4 : Int32) (w0 : zS) (τ : zS) (hf : fX1_add N x1 x2 x3 x4 w0 = some τ) : zMv l yX1_add cX1_add 5 none rmX1_add D cy shX 38 a0 aT aP w0 [.ref (a0 4), .int x1, .int x2, .int x3, .int x4] τ (fun u => u = (aT, aP)) := by
  refine zmet_v (by decide +kernel) rfl (Nat.le_of_ble_eq_true rfl) ?_
  intro p e s m below meth c A Q ls hC hA hZ hl hE
  have hx := hC.1.1
  have hb := hC.1.2.1
  have hl : lv_has ls 5 [(0, .ref (a0 4)), (1, .int x1), (2, .int x2), (3, .int x3), (4, .int x4)] := hl
  unfold fX1_add at hf
  refine lv_aload_n (pc := 0) hx hb dX1_add_0 rfl (lv_at hl 0 rfl) ?_
  refine gfX1_9 (pc := 1) hC hZ dX1_add_1 ?_
  refine lv_iload_n (pc := 4) hx hb dX1_add_4 rfl (lv_at hl 1 rfl) ?_
  refine lv_bipush (pc := 5) (v := (10 : Int32)) hx hb dX1_add_5 (by decide) ?_
  refine lv_imul (pc := 7) hx hb dX1_add_7 ?_
  refine lv_iload_n (pc := 8) hx hb dX1_add_8 rfl (lv_at hl 2 rfl) ?_
  refine lv_iadd (pc := 9) hx hb dX1_add_9 ?_
  refine lv_bipush (pc := 10) (v := (10 : Int32)) hx hb dX1_add_10 (by decide) ?_
  refine lv_imul (pc := 12) hx hb dX1_add_12 ?_
  refine lv_iload_n (pc := 13) hx hb dX1_add_13 rfl (lv_at hl 3 rfl) ?_
  refine lv_iadd (pc := 14) hx hb dX1_add_14 ?_
  refine lv_dup2_11 (pc := 15) hx hb dX1_add_15 rfl rfl ?_
  refine z_iald (pc := 16) hC hZ (by decide) rfl hf dX1_add_16 (fun v1 hf => ?_)
  refine lv_iload (pc := 17) hx hb dX1_add_17 (lv_at hl 4 rfl) ?_
  refine lv_iadd (pc := 19) hx hb dX1_add_19 ?_
  refine z_iast (pc := 20) hC hZ (by decide) rfl hf dX1_add_20 (fun w2 H locs hf hZ => ?_)
  obtain rfl := Option.some.inj hf
  exact hE _ _ _ _ _ _ rfl hZ dX1_add_21
section ZK
variable {p : Program} {l : Launch} {e : Env} {R : Room} {s : State} {m : MethodId} {args : Array Value} {below : List Frame} {meth : Method} {c : Code} {H : Heap} {locs : List Loc} {cells slots : Nat} {Q : State → Prop}
variable {pc : Nat} {ls : Array Slot} {rest : List Value} {A : Nat → Prop} {H0 : Heap} {D : va_G} {cy : Nat → ClassId} {a0 aT aP : Nat → Nat} {σ : zS} {cc : ByteArray} {nL : Nat} {α : Type} {res : α}
theorem vkX7_207 : zVk RX7 207 yX1_add cX1_add 5 none 4 := ⟨by decide +kernel, by decide +kernel, by decide +kernel, by decide +kernel, by decide +kernel, by decide +kernel⟩
theorem kX7_207 (hC : zC p s m args c RX7 cc nL D cy) (hA : ∀ q, H0.size ≤ q → A q) (hZ : zW D cy shX 38 a0 aT aP A H0 σ H locs) {N : Nat} {x1 : Int32} {x2 : Int32} {x3 : Int32} {x4 : Int32} {k : zS → Option α} (hf : zbv (fX1_add N x1 x2 x3 x4 σ) k = some res) (hsz : ls.size = nL) (hW : (rest.map fun v => v.category).sum ≤ 8) (hR : rmX1_add.frames + 1 ≤ R.frames ∧ 8 + (5 + 11) + rmX1_add.locals ≤ R.locals) (hcs : cells ≤ R.cells ∧ slots ≤ R.slots) (hdg : decode cc pc = .ok (.invokevirtual 207, 3)) (kk : ∀ (τ : zS) (H1 : Heap) (locs1 : List Loc), k τ = some res → zW D cy shX 38 a0 aT aP A H0 τ H1 locs1 → W p l e R s m args below meth c H1 locs1 cells slots Q (F0 m (pc + 3) ls (rest))) : W p l e R s m args below meth c H locs cells slots Q (F0 m pc ls (.int x4 :: .int x3 :: .int x2 :: .int x1 :: .ref (a0 4) :: rest)) := by
  cases hq : fX1_add N x1 x2 x3 x4 σ with
  | none => rw [hq] at hf; cases hf
  | some q =>
    rw [hq] at hf
    exact zcallv hA hZ (zrun hC hZ vkX7_207 rfl (zw0 (by decide)) (cX1_add_ok l D cy a0 aT aP N x1 x2 x3 x4 σ q hq H.size) hR rfl hsz rfl hW hcs hdg) (fun u H1 locs1 hU hZ1 => by subst hU; exact kk q H1 locs1 hf hZ1)
theorem vkX1_70 : zVk RX1 70 yX1_add cX1_add 5 none 4 := ⟨by decide +kernel, by decide +kernel, by decide +kernel, by decide +kernel, by decide +kernel, by decide +kernel⟩
theorem kX1_70 (hC : zC p s m args c RX1 cc nL D cy) (hA : ∀ q, H0.size ≤ q → A q) (hZ : zW D cy shX 38 a0 aT aP A H0 σ H locs) {N : Nat} {x1 : Int32} {x2 : Int32} {x3 : Int32} {x4 : Int32} {k : zS → Option α} (hf : zbv (fX1_add N x1 x2 x3 x4 σ) k = some res) (hsz : ls.size = nL) (hW : (rest.map fun v => v.category).sum ≤ 8) (hR : rmX1_add.frames + 1 ≤ R.frames ∧ 8 + (5 + 11) + rmX1_add.locals ≤ R.locals) (hcs : cells ≤ R.cells ∧ slots ≤ R.slots) (hdg : decode cc pc = .ok (.invokevirtual 70, 3)) (kk : ∀ (τ : zS) (H1 : Heap) (locs1 : List Loc), k τ = some res → zW D cy shX 38 a0 aT aP A H0 τ H1 locs1 → W p l e R s m args below meth c H1 locs1 cells slots Q (F0 m (pc + 3) ls (rest))) : W p l e R s m args below meth c H locs cells slots Q (F0 m pc ls (.int x4 :: .int x3 :: .int x2 :: .int x1 :: .ref (a0 4) :: rest)) := by
  cases hq : fX1_add N x1 x2 x3 x4 σ with
  | none => rw [hq] at hf; cases hf
  | some q =>
    rw [hq] at hf
    exact zcallv hA hZ (zrun hC hZ vkX1_70 rfl (zw0 (by decide)) (cX1_add_ok l D cy a0 aT aP N x1 x2 x3 x4 σ q hq H.size) hR rfl hsz rfl hW hcs hdg) (fun u H1 locs1 hU hZ1 => by subst hU; exact kk q H1 locs1 hf hZ1)
end ZK
