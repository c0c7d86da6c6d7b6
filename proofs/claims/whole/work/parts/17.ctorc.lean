abbrev rmX8_init : Room := { frames := 1, cells := 34, slots := 15485, locals := 20 }
set_option maxHeartbeats 8000000 in
set_option maxRecDepth 100000 in
theorem cX8_init_ok (l : Launch) (D : va_G) (cy : Nat → ClassId) (h0 : Nat) : zMk l yX8_init cX8_init rmX8_init D cy [.ref h0] [(h0, .inr (8, [.int 0, .int 0, .int 0, .null, .null, .int 0, .null, .null, .null, .null, .null, .int 0, .null, .int 0, .null, .null, .null, .null, .null, .null, .null, .null, .int 0, .int 0, .null, .null, .null, .null, .null, .null, .null, .null, .null, .null, .null, .null, .null, .null, .int 0, .null, .null, .null, .null]))] (fun u => zw cy shM 35 (fun c => if c = 0 then h0 else u c) (fun _ => 0) (fun _ => 0) zσ0) := by
  refine zmet_k (by decide +kernel) rfl ?_
  intro p e s m below meth c A Q ls hin hNN hC hA hP hD hS hl hE
  have hx := hC.1.1
  have hb := hC.1.2.1
  obtain ⟨g0, eg0⟩ : ∃ Z : List Value, Z = [.int 0, .int 0, .int 0, .null, .null, .int 0, .null, .null, .null, .null, .null, .int 0, .null, .int 0, .null, .null, .null, .null, .null, .null, .null, .null, .int 0, .int 0, .null, .null, .null, .null, .null, .null, .null, .null, .null, .null, .null, .null, .null, .null, .int 0, .null, .null, .null, .null] := ⟨_, rfl⟩
  have n0 : g0.length = 43 := by rw [eg0]; rfl
  obtain ⟨L0, eL0⟩ : ∃ Z : va_W, Z = [] := ⟨_, rfl⟩
  have hP : va_P D vwCl ((h0, .inr (8, g0)) :: L0) s.heap := by rw [eg0, eL0]; exact hP
  have hD : va_D A ((h0, .inr (8, g0)) :: L0) := by rw [eg0, eL0]; exact hD
  refine lv_aload_n (pc := 0) hx hb dX8_init_0 rfl (lv_at hl 0 rfl) ?_
  refine zk_obj (pc := 1) hC oiX8_1 hl.1 (Nat.le_of_ble_eq_true rfl) (Nat.le_of_ble_eq_true rfl) dX8_init_1 ?_
  refine lv_aload_n (pc := 4) hx hb dX8_init_4 rfl (lv_at hl 0 rfl) ?_
  refine lv_bipush (pc := 5) (v := (6 : Int32)) hx hb dX8_init_5 (by decide) ?_
  refine zk_newa (pc := 7) (atype := .int) (ty := .int) (N' := 6) (a0 := (6, .inl (fun _ => 0))) hC hA hP hD hS 0 rfl rfl ac_0 (fun _ => rfl) (by decide) (by decide) (by decide) (Nat.le_of_ble_eq_true rfl) (Nat.le_of_ble_eq_true rfl) dX8_init_7 (fun q1 H hP hD hS => ?_)
  obtain ⟨L1, eL1⟩ : ∃ Z : va_W, Z = L0 ++ [(q1, .inl (cy 0, 6, .inl (fun _ => 0)))] := ⟨_, rfl⟩
  have hP : va_P D vwCl ((h0, .inr (8, g0)) :: L1) H := by rw [eL1]; exact hP
  have hD : va_D A ((h0, .inr (8, g0)) :: L1) := by rw [eL1]; exact hD
  refine W.widen (k := 1) (n := 6) (by decide) (by decide) ?_
  refine zk_putF (pc := 9) hC hin hP hD hS fqX8_7 0 rfl rfl rfl (by rw [n0]; decide) dX8_init_9 (fun H locs hP hD hS => ?_)
  obtain ⟨g1, eg1⟩ : ∃ Z : List Value, Z = g0.set 3 (.ref q1) := ⟨_, rfl⟩
  have n1 : g1.length = 43 := by rw [eg1, List.length_set, n0]
  have hP : va_P D vwCl ((h0, .inr (8, g1)) :: L1) H := by rw [eg1]; exact hP
  have hD : va_D A ((h0, .inr (8, g1)) :: L1) := by rw [eg1]; exact hD
  refine lv_aload_n (pc := 12) hx hb dX8_init_12 rfl (lv_at hl 0 rfl) ?_
  refine lv_bipush (pc := 13) (v := (6 : Int32)) hx hb dX8_init_13 (by decide) ?_
  refine zk_newa (pc := 15) (atype := .int) (ty := .int) (N' := 6) (a0 := (6, .inl (fun _ => 0))) hC hA hP hD hS 0 rfl rfl ac_0 (fun _ => rfl) (by decide) (by decide) (by decide) (Nat.le_of_ble_eq_true rfl) (Nat.le_of_ble_eq_true rfl) dX8_init_15 (fun q2 H hP hD hS => ?_)
  obtain ⟨L2, eL2⟩ : ∃ Z : va_W, Z = L1 ++ [(q2, .inl (cy 0, 6, .inl (fun _ => 0)))] := ⟨_, rfl⟩
  have hP : va_P D vwCl ((h0, .inr (8, g1)) :: L2) H := by rw [eL2]; exact hP
  have hD : va_D A ((h0, .inr (8, g1)) :: L2) := by rw [eL2]; exact hD
  refine W.widen (k := 2) (n := 12) (by decide) (by decide) ?_
  refine zk_putF (pc := 17) hC hin hP hD hS fqX8_13 0 rfl rfl rfl (by rw [n1]; decide) dX8_init_17 (fun H locs hP hD hS => ?_)
  obtain ⟨g2, eg2⟩ : ∃ Z : List Value, Z = g1.set 4 (.ref q2) := ⟨_, rfl⟩
  have n2 : g2.length = 43 := by rw [eg2, List.length_set, n1]
  have hP : va_P D vwCl ((h0, .inr (8, g2)) :: L2) H := by rw [eg2]; exact hP
  have hD : va_D A ((h0, .inr (8, g2)) :: L2) := by rw [eg2]; exact hD
  refine lv_aload_n (pc := 20) hx hb dX8_init_20 rfl (lv_at hl 0 rfl) ?_
  refine lv_sipush (pc := 21) (v := (2000 : Int32)) hx hb dX8_init_21 (by decide) ?_
  refine zk_newa (pc := 24) (atype := .int) (ty := .int) (N' := 2000) (a0 := (2000, .inl (fun _ => 0))) hC hA hP hD hS 0 rfl rfl ac_0 (fun _ => rfl) (by decide) (by decide) (by decide) (Nat.le_of_ble_eq_true rfl) (Nat.le_of_ble_eq_true rfl) dX8_init_24 (fun q3 H hP hD hS => ?_)
  obtain ⟨L3, eL3⟩ : ∃ Z : va_W, Z = L2 ++ [(q3, .inl (cy 0, 2000, .inl (fun _ => 0)))] := ⟨_, rfl⟩
  have hP : va_P D vwCl ((h0, .inr (8, g2)) :: L3) H := by rw [eL3]; exact hP
  have hD : va_D A ((h0, .inr (8, g2)) :: L3) := by rw [eL3]; exact hD
  refine W.widen (k := 3) (n := 2012) (by decide) (by decide) ?_
  refine zk_putF (pc := 26) hC hin hP hD hS fqX8_16 0 rfl rfl rfl (by rw [n2]; decide) dX8_init_26 (fun H locs hP hD hS => ?_)
  obtain ⟨g3, eg3⟩ : ∃ Z : List Value, Z = g2.set 6 (.ref q3) := ⟨_, rfl⟩
  have n3 : g3.length = 43 := by rw [eg3, List.length_set, n2]
  have hP : va_P D vwCl ((h0, .inr (8, g3)) :: L3) H := by rw [eg3]; exact hP
  have hD : va_D A ((h0, .inr (8, g3)) :: L3) := by rw [eg3]; exact hD
  refine lv_aload_n (pc := 29) hx hb dX8_init_29 rfl (lv_at hl 0 rfl) ?_
  refine lv_sipush (pc := 30) (v := (2000 : Int32)) hx hb dX8_init_30 (by decide) ?_
  refine zk_newa (pc := 33) (atype := .int) (ty := .int) (N' := 2000) (a0 := (2000, .inl (fun _ => 0))) hC hA hP hD hS 0 rfl rfl ac_0 (fun _ => rfl) (by decide) (by decide) (by decide) (Nat.le_of_ble_eq_true rfl) (Nat.le_of_ble_eq_true rfl) dX8_init_33 (fun q4 H hP hD hS => ?_)
  obtain ⟨L4, eL4⟩ : ∃ Z : va_W, Z = L3 ++ [(q4, .inl (cy 0, 2000, .inl (fun _ => 0)))] := ⟨_, rfl⟩
  have hP : va_P D vwCl ((h0, .inr (8, g3)) :: L4) H := by rw [eL4]; exact hP
  have hD : va_D A ((h0, .inr (8, g3)) :: L4) := by rw [eL4]; exact hD
  refine W.widen (k := 4) (n := 4012) (by decide) (by decide) ?_
  refine zk_putF (pc := 35) hC hin hP hD hS fqX8_19 0 rfl rfl rfl (by rw [n3]; decide) dX8_init_35 (fun H locs hP hD hS => ?_)
  obtain ⟨g4, eg4⟩ : ∃ Z : List Value, Z = g3.set 7 (.ref q4) := ⟨_, rfl⟩
  have n4 : g4.length = 43 := by rw [eg4, List.length_set, n3]
  have hP : va_P D vwCl ((h0, .inr (8, g4)) :: L4) H := by rw [eg4]; exact hP
  have hD : va_D A ((h0, .inr (8, g4)) :: L4) := by rw [eg4]; exact hD
  refine lv_aload_n (pc := 38) hx hb dX8_init_38 rfl (lv_at hl 0 rfl) ?_
  refine lv_sipush (pc := 39) (v := (2000 : Int32)) hx hb dX8_init_39 (by decide) ?_
  refine zk_newa (pc := 42) (atype := .int) (ty := .int) (N' := 2000) (a0 := (2000, .inl (fun _ => 0))) hC hA hP hD hS 0 rfl rfl ac_0 (fun _ => rfl) (by decide) (by decide) (by decide) (Nat.le_of_ble_eq_true rfl) (Nat.le_of_ble_eq_true rfl) dX8_init_42 (fun q5 H hP hD hS => ?_)
  obtain ⟨L5, eL5⟩ : ∃ Z : va_W, Z = L4 ++ [(q5, .inl (cy 0, 2000, .inl (fun _ => 0)))] := ⟨_, rfl⟩
  have hP : va_P D vwCl ((h0, .inr (8, g4)) :: L5) H := by rw [eL5]; exact hP
  have hD : va_D A ((h0, .inr (8, g4)) :: L5) := by rw [eL5]; exact hD
  refine W.widen (k := 5) (n := 6012) (by decide) (by decide) ?_
  refine zk_putF (pc := 44) hC hin hP hD hS fqX8_22 0 rfl rfl rfl (by rw [n4]; decide) dX8_init_44 (fun H locs hP hD hS => ?_)
  obtain ⟨g5, eg5⟩ : ∃ Z : List Value, Z = g4.set 8 (.ref q5) := ⟨_, rfl⟩
  have n5 : g5.length = 43 := by rw [eg5, List.length_set, n4]
  have hP : va_P D vwCl ((h0, .inr (8, g5)) :: L5) H := by rw [eg5]; exact hP
  have hD : va_D A ((h0, .inr (8, g5)) :: L5) := by rw [eg5]; exact hD
  refine lv_aload_n (pc := 47) hx hb dX8_init_47 rfl (lv_at hl 0 rfl) ?_
  refine lv_sipush (pc := 48) (v := (2000 : Int32)) hx hb dX8_init_48 (by decide) ?_
  refine zk_newa (pc := 51) (atype := .int) (ty := .int) (N' := 2000) (a0 := (2000, .inl (fun _ => 0))) hC hA hP hD hS 0 rfl rfl ac_0 (fun _ => rfl) (by decide) (by decide) (by decide) (Nat.le_of_ble_eq_true rfl) (Nat.le_of_ble_eq_true rfl) dX8_init_51 (fun q6 H hP hD hS => ?_)
  obtain ⟨L6, eL6⟩ : ∃ Z : va_W, Z = L5 ++ [(q6, .inl (cy 0, 2000, .inl (fun _ => 0)))] := ⟨_, rfl⟩
  have hP : va_P D vwCl ((h0, .inr (8, g5)) :: L6) H := by rw [eL6]; exact hP
  have hD : va_D A ((h0, .inr (8, g5)) :: L6) := by rw [eL6]; exact hD
  refine W.widen (k := 6) (n := 8012) (by decide) (by decide) ?_
  refine zk_putF (pc := 53) hC hin hP hD hS fqX8_25 0 rfl rfl rfl (by rw [n5]; decide) dX8_init_53 (fun H locs hP hD hS => ?_)
  obtain ⟨g6, eg6⟩ : ∃ Z : List Value, Z = g5.set 9 (.ref q6) := ⟨_, rfl⟩
  have n6 : g6.length = 43 := by rw [eg6, List.length_set, n5]
  have hP : va_P D vwCl ((h0, .inr (8, g6)) :: L6) H := by rw [eg6]; exact hP
  have hD : va_D A ((h0, .inr (8, g6)) :: L6) := by rw [eg6]; exact hD
  refine lv_aload_n (pc := 56) hx hb dX8_init_56 rfl (lv_at hl 0 rfl) ?_
  refine lv_bipush (pc := 57) (v := (6 : Int32)) hx hb dX8_init_57 (by decide) ?_
  refine zk_newa (pc := 59) (atype := .long) (ty := .long) (N' := 6) (a0 := (6, .inr (.inl (fun _ => 0)))) hC hA hP hD hS 1 rfl rfl ac_1 (fun _ => rfl) (by decide) (by decide) (by decide) (Nat.le_of_ble_eq_true rfl) (Nat.le_of_ble_eq_true rfl) dX8_init_59 (fun q7 H hP hD hS => ?_)
  obtain ⟨L7, eL7⟩ : ∃ Z : va_W, Z = L6 ++ [(q7, .inl (cy 1, 6, .inr (.inl (fun _ => 0))))] := ⟨_, rfl⟩
  have hP : va_P D vwCl ((h0, .inr (8, g6)) :: L7) H := by rw [eL7]; exact hP
  have hD : va_D A ((h0, .inr (8, g6)) :: L7) := by rw [eL7]; exact hD
  refine W.widen (k := 7) (n := 8018) (by decide) (by decide) ?_
  refine zk_putF (pc := 61) hC hin hP hD hS fqX8_28 0 rfl rfl rfl (by rw [n6]; decide) dX8_init_61 (fun H locs hP hD hS => ?_)
  obtain ⟨g7, eg7⟩ : ∃ Z : List Value, Z = g6.set 10 (.ref q7) := ⟨_, rfl⟩
  have n7 : g7.length = 43 := by rw [eg7, List.length_set, n6]
  have hP : va_P D vwCl ((h0, .inr (8, g7)) :: L7) H := by rw [eg7]; exact hP
  have hD : va_D A ((h0, .inr (8, g7)) :: L7) := by rw [eg7]; exact hD
  refine lv_aload_n (pc := 64) hx hb dX8_init_64 rfl (lv_at hl 0 rfl) ?_
  refine lv_sipush (pc := 65) (v := (200 : Int32)) hx hb dX8_init_65 (by decide) ?_
  refine zk_newa (pc := 68) (atype := .long) (ty := .long) (N' := 200) (a0 := (200, .inr (.inl (fun _ => 0)))) hC hA hP hD hS 1 rfl rfl ac_1 (fun _ => rfl) (by decide) (by decide) (by decide) (Nat.le_of_ble_eq_true rfl) (Nat.le_of_ble_eq_true rfl) dX8_init_68 (fun q8 H hP hD hS => ?_)
  obtain ⟨L8, eL8⟩ : ∃ Z : va_W, Z = L7 ++ [(q8, .inl (cy 1, 200, .inr (.inl (fun _ => 0))))] := ⟨_, rfl⟩
  have hP : va_P D vwCl ((h0, .inr (8, g7)) :: L8) H := by rw [eL8]; exact hP
  have hD : va_D A ((h0, .inr (8, g7)) :: L8) := by rw [eL8]; exact hD
  refine W.widen (k := 8) (n := 8218) (by decide) (by decide) ?_
  refine zk_putF (pc := 70) hC hin hP hD hS fqX8_32 0 rfl rfl rfl (by rw [n7]; decide) dX8_init_70 (fun H locs hP hD hS => ?_)
  obtain ⟨g8, eg8⟩ : ∃ Z : List Value, Z = g7.set 12 (.ref q8) := ⟨_, rfl⟩
  have n8 : g8.length = 43 := by rw [eg8, List.length_set, n7]
  have hP : va_P D vwCl ((h0, .inr (8, g8)) :: L8) H := by rw [eg8]; exact hP
  have hD : va_D A ((h0, .inr (8, g8)) :: L8) := by rw [eg8]; exact hD
  refine lv_aload_n (pc := 73) hx hb dX8_init_73 rfl (lv_at hl 0 rfl) ?_
  refine lv_sipush (pc := 74) (v := (400 : Int32)) hx hb dX8_init_74 (by decide) ?_
  refine zk_newa (pc := 77) (atype := .boolean) (ty := .boolean) (N' := 400) (a0 := (400, .inl (fun _ => 0))) hC hA hP hD hS 2 rfl rfl ac_2 (fun _ => rfl) (by decide) (by decide) (by decide) (Nat.le_of_ble_eq_true rfl) (Nat.le_of_ble_eq_true rfl) dX8_init_77 (fun q9 H hP hD hS => ?_)
  obtain ⟨L9, eL9⟩ : ∃ Z : va_W, Z = L8 ++ [(q9, .inl (cy 2, 400, .inl (fun _ => 0)))] := ⟨_, rfl⟩
  have hP : va_P D vwCl ((h0, .inr (8, g8)) :: L9) H := by rw [eL9]; exact hP
  have hD : va_D A ((h0, .inr (8, g8)) :: L9) := by rw [eL9]; exact hD
  refine W.widen (k := 9) (n := 8618) (by decide) (by decide) ?_
  refine zk_putF (pc := 79) hC hin hP hD hS fqX8_35 0 rfl rfl rfl (by rw [n8]; decide) dX8_init_79 (fun H locs hP hD hS => ?_)
  obtain ⟨g9, eg9⟩ : ∃ Z : List Value, Z = g8.set 14 (.ref q9) := ⟨_, rfl⟩
  have n9 : g9.length = 43 := by rw [eg9, List.length_set, n8]
  have hP : va_P D vwCl ((h0, .inr (8, g9)) :: L9) H := by rw [eg9]; exact hP
  have hD : va_D A ((h0, .inr (8, g9)) :: L9) := by rw [eg9]; exact hD
  refine lv_aload_n (pc := 82) hx hb dX8_init_82 rfl (lv_at hl 0 rfl) ?_
  refine lv_sipush (pc := 83) (v := (400 : Int32)) hx hb dX8_init_83 (by decide) ?_
  refine zk_newa (pc := 86) (atype := .int) (ty := .int) (N' := 400) (a0 := (400, .inl (fun _ => 0))) hC hA hP hD hS 0 rfl rfl ac_0 (fun _ => rfl) (by decide) (by decide) (by decide) (Nat.le_of_ble_eq_true rfl) (Nat.le_of_ble_eq_true rfl) dX8_init_86 (fun q10 H hP hD hS => ?_)
  obtain ⟨L10, eL10⟩ : ∃ Z : va_W, Z = L9 ++ [(q10, .inl (cy 0, 400, .inl (fun _ => 0)))] := ⟨_, rfl⟩
  have hP : va_P D vwCl ((h0, .inr (8, g9)) :: L10) H := by rw [eL10]; exact hP
  have hD : va_D A ((h0, .inr (8, g9)) :: L10) := by rw [eL10]; exact hD
  refine W.widen (k := 10) (n := 9018) (by decide) (by decide) ?_
  refine zk_putF (pc := 88) hC hin hP hD hS fqX8_39 0 rfl rfl rfl (by rw [n9]; decide) dX8_init_88 (fun H locs hP hD hS => ?_)
  obtain ⟨g10, eg10⟩ : ∃ Z : List Value, Z = g9.set 15 (.ref q10) := ⟨_, rfl⟩
  have n10 : g10.length = 43 := by rw [eg10, List.length_set, n9]
  have hP : va_P D vwCl ((h0, .inr (8, g10)) :: L10) H := by rw [eg10]; exact hP
  have hD : va_D A ((h0, .inr (8, g10)) :: L10) := by rw [eg10]; exact hD
  refine lv_aload_n (pc := 91) hx hb dX8_init_91 rfl (lv_at hl 0 rfl) ?_
  refine lv_sipush (pc := 92) (v := (400 : Int32)) hx hb dX8_init_92 (by decide) ?_
  refine zk_newa (pc := 95) (atype := .int) (ty := .int) (N' := 400) (a0 := (400, .inl (fun _ => 0))) hC hA hP hD hS 0 rfl rfl ac_0 (fun _ => rfl) (by decide) (by decide) (by decide) (Nat.le_of_ble_eq_true rfl) (Nat.le_of_ble_eq_true rfl) dX8_init_95 (fun q11 H hP hD hS => ?_)
  obtain ⟨L11, eL11⟩ : ∃ Z : va_W, Z = L10 ++ [(q11, .inl (cy 0, 400, .inl (fun _ => 0)))] := ⟨_, rfl⟩
  have hP : va_P D vwCl ((h0, .inr (8, g10)) :: L11) H := by rw [eL11]; exact hP
  have hD : va_D A ((h0, .inr (8, g10)) :: L11) := by rw [eL11]; exact hD
  refine W.widen (k := 11) (n := 9418) (by decide) (by decide) ?_
  refine zk_putF (pc := 97) hC hin hP hD hS fqX8_42 0 rfl rfl rfl (by rw [n10]; decide) dX8_init_97 (fun H locs hP hD hS => ?_)
  obtain ⟨g11, eg11⟩ : ∃ Z : List Value, Z = g10.set 16 (.ref q11) := ⟨_, rfl⟩
  have n11 : g11.length = 43 := by rw [eg11, List.length_set, n10]
  have hP : va_P D vwCl ((h0, .inr (8, g11)) :: L11) H := by rw [eg11]; exact hP
  have hD : va_D A ((h0, .inr (8, g11)) :: L11) := by rw [eg11]; exact hD
  refine lv_aload_n (pc := 100) hx hb dX8_init_100 rfl (lv_at hl 0 rfl) ?_
  refine lv_sipush (pc := 101) (v := (400 : Int32)) hx hb dX8_init_101 (by decide) ?_
  refine zk_newa (pc := 104) (atype := .int) (ty := .int) (N' := 400) (a0 := (400, .inl (fun _ => 0))) hC hA hP hD hS 0 rfl rfl ac_0 (fun _ => rfl) (by decide) (by decide) (by decide) (Nat.le_of_ble_eq_true rfl) (Nat.le_of_ble_eq_true rfl) dX8_init_104 (fun q12 H hP hD hS => ?_)
  obtain ⟨L12, eL12⟩ : ∃ Z : va_W, Z = L11 ++ [(q12, .inl (cy 0, 400, .inl (fun _ => 0)))] := ⟨_, rfl⟩
  have hP : va_P D vwCl ((h0, .inr (8, g11)) :: L12) H := by rw [eL12]; exact hP
  have hD : va_D A ((h0, .inr (8, g11)) :: L12) := by rw [eL12]; exact hD
  refine W.widen (k := 12) (n := 9818) (by decide) (by decide) ?_
  refine zk_putF (pc := 106) hC hin hP hD hS fqX8_45 0 rfl rfl rfl (by rw [n11]; decide) dX8_init_106 (fun H locs hP hD hS => ?_)
  obtain ⟨g12, eg12⟩ : ∃ Z : List Value, Z = g11.set 17 (.ref q12) := ⟨_, rfl⟩
  have n12 : g12.length = 43 := by rw [eg12, List.length_set, n11]
  have hP : va_P D vwCl ((h0, .inr (8, g12)) :: L12) H := by rw [eg12]; exact hP
  have hD : va_D A ((h0, .inr (8, g12)) :: L12) := by rw [eg12]; exact hD
  refine lv_aload_n (pc := 109) hx hb dX8_init_109 rfl (lv_at hl 0 rfl) ?_
  refine lv_sipush (pc := 110) (v := (400 : Int32)) hx hb dX8_init_110 (by decide) ?_
  refine zk_newa (pc := 113) (atype := .int) (ty := .int) (N' := 400) (a0 := (400, .inl (fun _ => 0))) hC hA hP hD hS 0 rfl rfl ac_0 (fun _ => rfl) (by decide) (by decide) (by decide) (Nat.le_of_ble_eq_true rfl) (Nat.le_of_ble_eq_true rfl) dX8_init_113 (fun q13 H hP hD hS => ?_)
  obtain ⟨L13, eL13⟩ : ∃ Z : va_W, Z = L12 ++ [(q13, .inl (cy 0, 400, .inl (fun _ => 0)))] := ⟨_, rfl⟩
  have hP : va_P D vwCl ((h0, .inr (8, g12)) :: L13) H := by rw [eL13]; exact hP
  have hD : va_D A ((h0, .inr (8, g12)) :: L13) := by rw [eL13]; exact hD
  refine W.widen (k := 13) (n := 10218) (by decide) (by decide) ?_
  refine zk_putF (pc := 115) hC hin hP hD hS fqX8_48 0 rfl rfl rfl (by rw [n12]; decide) dX8_init_115 (fun H locs hP hD hS => ?_)
  obtain ⟨g13, eg13⟩ : ∃ Z : List Value, Z = g12.set 18 (.ref q13) := ⟨_, rfl⟩
  have n13 : g13.length = 43 := by rw [eg13, List.length_set, n12]
  have hP : va_P D vwCl ((h0, .inr (8, g13)) :: L13) H := by rw [eg13]; exact hP
  have hD : va_D A ((h0, .inr (8, g13)) :: L13) := by rw [eg13]; exact hD
  refine lv_aload_n (pc := 118) hx hb dX8_init_118 rfl (lv_at hl 0 rfl) ?_
  refine lv_sipush (pc := 119) (v := (400 : Int32)) hx hb dX8_init_119 (by decide) ?_
  refine zk_newa (pc := 122) (atype := .int) (ty := .int) (N' := 400) (a0 := (400, .inl (fun _ => 0))) hC hA hP hD hS 0 rfl rfl ac_0 (fun _ => rfl) (by decide) (by decide) (by decide) (Nat.le_of_ble_eq_true rfl) (Nat.le_of_ble_eq_true rfl) dX8_init_122 (fun q14 H hP hD hS => ?_)
  obtain ⟨L14, eL14⟩ : ∃ Z : va_W, Z = L13 ++ [(q14, .inl (cy 0, 400, .inl (fun _ => 0)))] := ⟨_, rfl⟩
  have hP : va_P D vwCl ((h0, .inr (8, g13)) :: L14) H := by rw [eL14]; exact hP
  have hD : va_D A ((h0, .inr (8, g13)) :: L14) := by rw [eL14]; exact hD
  refine W.widen (k := 14) (n := 10618) (by decide) (by decide) ?_
  refine zk_putF (pc := 124) hC hin hP hD hS fqX8_51 0 rfl rfl rfl (by rw [n13]; decide) dX8_init_124 (fun H locs hP hD hS => ?_)
  obtain ⟨g14, eg14⟩ : ∃ Z : List Value, Z = g13.set 19 (.ref q14) := ⟨_, rfl⟩
  have n14 : g14.length = 43 := by rw [eg14, List.length_set, n13]
  have hP : va_P D vwCl ((h0, .inr (8, g14)) :: L14) H := by rw [eg14]; exact hP
  have hD : va_D A ((h0, .inr (8, g14)) :: L14) := by rw [eg14]; exact hD
  refine lv_aload_n (pc := 127) hx hb dX8_init_127 rfl (lv_at hl 0 rfl) ?_
  refine lv_sipush (pc := 128) (v := (400 : Int32)) hx hb dX8_init_128 (by decide) ?_
  refine zk_newa (pc := 131) (atype := .int) (ty := .int) (N' := 400) (a0 := (400, .inl (fun _ => 0))) hC hA hP hD hS 0 rfl rfl ac_0 (fun _ => rfl) (by decide) (by decide) (by decide) (Nat.le_of_ble_eq_true rfl) (Nat.le_of_ble_eq_true rfl) dX8_init_131 (fun q15 H hP hD hS => ?_)
  obtain ⟨L15, eL15⟩ : ∃ Z : va_W, Z = L14 ++ [(q15, .inl (cy 0, 400, .inl (fun _ => 0)))] := ⟨_, rfl⟩
  have hP : va_P D vwCl ((h0, .inr (8, g14)) :: L15) H := by rw [eL15]; exact hP
  have hD : va_D A ((h0, .inr (8, g14)) :: L15) := by rw [eL15]; exact hD
  refine W.widen (k := 15) (n := 11018) (by decide) (by decide) ?_
  refine zk_putF (pc := 133) hC hin hP hD hS fqX8_54 0 rfl rfl rfl (by rw [n14]; decide) dX8_init_133 (fun H locs hP hD hS => ?_)
  obtain ⟨g15, eg15⟩ : ∃ Z : List Value, Z = g14.set 20 (.ref q15) := ⟨_, rfl⟩
  have n15 : g15.length = 43 := by rw [eg15, List.length_set, n14]
  have hP : va_P D vwCl ((h0, .inr (8, g15)) :: L15) H := by rw [eg15]; exact hP
  have hD : va_D A ((h0, .inr (8, g15)) :: L15) := by rw [eg15]; exact hD
  refine lv_aload_n (pc := 136) hx hb dX8_init_136 rfl (lv_at hl 0 rfl) ?_
  refine lv_sipush (pc := 137) (v := (400 : Int32)) hx hb dX8_init_137 (by decide) ?_
  refine zk_newa (pc := 140) (atype := .int) (ty := .int) (N' := 400) (a0 := (400, .inl (fun _ => 0))) hC hA hP hD hS 0 rfl rfl ac_0 (fun _ => rfl) (by decide) (by decide) (by decide) (Nat.le_of_ble_eq_true rfl) (Nat.le_of_ble_eq_true rfl) dX8_init_140 (fun q16 H hP hD hS => ?_)
  obtain ⟨L16, eL16⟩ : ∃ Z : va_W, Z = L15 ++ [(q16, .inl (cy 0, 400, .inl (fun _ => 0)))] := ⟨_, rfl⟩
  have hP : va_P D vwCl ((h0, .inr (8, g15)) :: L16) H := by rw [eL16]; exact hP
  have hD : va_D A ((h0, .inr (8, g15)) :: L16) := by rw [eL16]; exact hD
  refine W.widen (k := 16) (n := 11418) (by decide) (by decide) ?_
  refine zk_putF (pc := 142) hC hin hP hD hS fqX8_57 0 rfl rfl rfl (by rw [n15]; decide) dX8_init_142 (fun H locs hP hD hS => ?_)
  obtain ⟨g16, eg16⟩ : ∃ Z : List Value, Z = g15.set 21 (.ref q16) := ⟨_, rfl⟩
  have n16 : g16.length = 43 := by rw [eg16, List.length_set, n15]
  have hP : va_P D vwCl ((h0, .inr (8, g16)) :: L16) H := by rw [eg16]; exact hP
  have hD : va_D A ((h0, .inr (8, g16)) :: L16) := by rw [eg16]; exact hD
  refine lv_aload_n (pc := 145) hx hb dX8_init_145 rfl (lv_at hl 0 rfl) ?_
  refine lv_sipush (pc := 146) (v := (200 : Int32)) hx hb dX8_init_146 (by decide) ?_
  refine zk_newa (pc := 149) (atype := .int) (ty := .int) (N' := 200) (a0 := (200, .inl (fun _ => 0))) hC hA hP hD hS 0 rfl rfl ac_0 (fun _ => rfl) (by decide) (by decide) (by decide) (Nat.le_of_ble_eq_true rfl) (Nat.le_of_ble_eq_true rfl) dX8_init_149 (fun q17 H hP hD hS => ?_)
  obtain ⟨L17, eL17⟩ : ∃ Z : va_W, Z = L16 ++ [(q17, .inl (cy 0, 200, .inl (fun _ => 0)))] := ⟨_, rfl⟩
  have hP : va_P D vwCl ((h0, .inr (8, g16)) :: L17) H := by rw [eL17]; exact hP
  have hD : va_D A ((h0, .inr (8, g16)) :: L17) := by rw [eL17]; exact hD
  refine W.widen (k := 17) (n := 11618) (by decide) (by decide) ?_
  refine zk_putF (pc := 151) hC hin hP hD hS fqX8_60 0 rfl rfl rfl (by rw [n16]; decide) dX8_init_151 (fun H locs hP hD hS => ?_)
  obtain ⟨g17, eg17⟩ : ∃ Z : List Value, Z = g16.set 24 (.ref q17) := ⟨_, rfl⟩
  have n17 : g17.length = 43 := by rw [eg17, List.length_set, n16]
  have hP : va_P D vwCl ((h0, .inr (8, g17)) :: L17) H := by rw [eg17]; exact hP
  have hD : va_D A ((h0, .inr (8, g17)) :: L17) := by rw [eg17]; exact hD
  refine lv_aload_n (pc := 154) hx hb dX8_init_154 rfl (lv_at hl 0 rfl) ?_
  refine lv_sipush (pc := 155) (v := (200 : Int32)) hx hb dX8_init_155 (by decide) ?_
  refine zk_newa (pc := 158) (atype := .int) (ty := .int) (N' := 200) (a0 := (200, .inl (fun _ => 0))) hC hA hP hD hS 0 rfl rfl ac_0 (fun _ => rfl) (by decide) (by decide) (by decide) (Nat.le_of_ble_eq_true rfl) (Nat.le_of_ble_eq_true rfl) dX8_init_158 (fun q18 H hP hD hS => ?_)
  obtain ⟨L18, eL18⟩ : ∃ Z : va_W, Z = L17 ++ [(q18, .inl (cy 0, 200, .inl (fun _ => 0)))] := ⟨_, rfl⟩
  have hP : va_P D vwCl ((h0, .inr (8, g17)) :: L18) H := by rw [eL18]; exact hP
  have hD : va_D A ((h0, .inr (8, g17)) :: L18) := by rw [eL18]; exact hD
  refine W.widen (k := 18) (n := 11818) (by decide) (by decide) ?_
  refine zk_putF (pc := 160) hC hin hP hD hS fqX8_63 0 rfl rfl rfl (by rw [n17]; decide) dX8_init_160 (fun H locs hP hD hS => ?_)
  obtain ⟨g18, eg18⟩ : ∃ Z : List Value, Z = g17.set 25 (.ref q18) := ⟨_, rfl⟩
  have n18 : g18.length = 43 := by rw [eg18, List.length_set, n17]
  have hP : va_P D vwCl ((h0, .inr (8, g18)) :: L18) H := by rw [eg18]; exact hP
  have hD : va_D A ((h0, .inr (8, g18)) :: L18) := by rw [eg18]; exact hD
  refine lv_aload_n (pc := 163) hx hb dX8_init_163 rfl (lv_at hl 0 rfl) ?_
  refine lv_sipush (pc := 164) (v := (200 : Int32)) hx hb dX8_init_164 (by decide) ?_
  refine zk_newa (pc := 167) (atype := .int) (ty := .int) (N' := 200) (a0 := (200, .inl (fun _ => 0))) hC hA hP hD hS 0 rfl rfl ac_0 (fun _ => rfl) (by decide) (by decide) (by decide) (Nat.le_of_ble_eq_true rfl) (Nat.le_of_ble_eq_true rfl) dX8_init_167 (fun q19 H hP hD hS => ?_)
  obtain ⟨L19, eL19⟩ : ∃ Z : va_W, Z = L18 ++ [(q19, .inl (cy 0, 200, .inl (fun _ => 0)))] := ⟨_, rfl⟩
  have hP : va_P D vwCl ((h0, .inr (8, g18)) :: L19) H := by rw [eL19]; exact hP
  have hD : va_D A ((h0, .inr (8, g18)) :: L19) := by rw [eL19]; exact hD
  refine W.widen (k := 19) (n := 12018) (by decide) (by decide) ?_
  refine zk_putF (pc := 169) hC hin hP hD hS fqX8_66 0 rfl rfl rfl (by rw [n18]; decide) dX8_init_169 (fun H locs hP hD hS => ?_)
  obtain ⟨g19, eg19⟩ : ∃ Z : List Value, Z = g18.set 26 (.ref q19) := ⟨_, rfl⟩
  have n19 : g19.length = 43 := by rw [eg19, List.length_set, n18]
  have hP : va_P D vwCl ((h0, .inr (8, g19)) :: L19) H := by rw [eg19]; exact hP
  have hD : va_D A ((h0, .inr (8, g19)) :: L19) := by rw [eg19]; exact hD
  refine lv_aload_n (pc := 172) hx hb dX8_init_172 rfl (lv_at hl 0 rfl) ?_
  refine lv_sipush (pc := 173) (v := (200 : Int32)) hx hb dX8_init_173 (by decide) ?_
  refine zk_newa (pc := 176) (atype := .boolean) (ty := .boolean) (N' := 200) (a0 := (200, .inl (fun _ => 0))) hC hA hP hD hS 2 rfl rfl ac_2 (fun _ => rfl) (by decide) (by decide) (by decide) (Nat.le_of_ble_eq_true rfl) (Nat.le_of_ble_eq_true rfl) dX8_init_176 (fun q20 H hP hD hS => ?_)
  obtain ⟨L20, eL20⟩ : ∃ Z : va_W, Z = L19 ++ [(q20, .inl (cy 2, 200, .inl (fun _ => 0)))] := ⟨_, rfl⟩
  have hP : va_P D vwCl ((h0, .inr (8, g19)) :: L20) H := by rw [eL20]; exact hP
  have hD : va_D A ((h0, .inr (8, g19)) :: L20) := by rw [eL20]; exact hD
  refine W.widen (k := 20) (n := 12218) (by decide) (by decide) ?_
  refine zk_putF (pc := 178) hC hin hP hD hS fqX8_69 0 rfl rfl rfl (by rw [n19]; decide) dX8_init_178 (fun H locs hP hD hS => ?_)
  obtain ⟨g20, eg20⟩ : ∃ Z : List Value, Z = g19.set 27 (.ref q20) := ⟨_, rfl⟩
  have n20 : g20.length = 43 := by rw [eg20, List.length_set, n19]
  have hP : va_P D vwCl ((h0, .inr (8, g20)) :: L20) H := by rw [eg20]; exact hP
  have hD : va_D A ((h0, .inr (8, g20)) :: L20) := by rw [eg20]; exact hD
  refine lv_aload_n (pc := 181) hx hb dX8_init_181 rfl (lv_at hl 0 rfl) ?_
  refine lv_bipush (pc := 182) (v := (60 : Int32)) hx hb dX8_init_182 (by decide) ?_
  refine zk_newa (pc := 184) (atype := .int) (ty := .int) (N' := 60) (a0 := (60, .inl (fun _ => 0))) hC hA hP hD hS 0 rfl rfl ac_0 (fun _ => rfl) (by decide) (by decide) (by decide) (Nat.le_of_ble_eq_true rfl) (Nat.le_of_ble_eq_true rfl) dX8_init_184 (fun q21 H hP hD hS => ?_)
  obtain ⟨L21, eL21⟩ : ∃ Z : va_W, Z = L20 ++ [(q21, .inl (cy 0, 60, .inl (fun _ => 0)))] := ⟨_, rfl⟩
  have hP : va_P D vwCl ((h0, .inr (8, g20)) :: L21) H := by rw [eL21]; exact hP
  have hD : va_D A ((h0, .inr (8, g20)) :: L21) := by rw [eL21]; exact hD
  refine W.widen (k := 21) (n := 12278) (by decide) (by decide) ?_
  refine zk_putF (pc := 186) hC hin hP hD hS fqX8_72 0 rfl rfl rfl (by rw [n20]; decide) dX8_init_186 (fun H locs hP hD hS => ?_)
  obtain ⟨g21, eg21⟩ : ∃ Z : List Value, Z = g20.set 28 (.ref q21) := ⟨_, rfl⟩
  have n21 : g21.length = 43 := by rw [eg21, List.length_set, n20]
  have hP : va_P D vwCl ((h0, .inr (8, g21)) :: L21) H := by rw [eg21]; exact hP
  have hD : va_D A ((h0, .inr (8, g21)) :: L21) := by rw [eg21]; exact hD
  refine lv_aload_n (pc := 189) hx hb dX8_init_189 rfl (lv_at hl 0 rfl) ?_
  refine lv_sipush (pc := 190) (v := (600 : Int32)) hx hb dX8_init_190 (by decide) ?_
  refine zk_newa (pc := 193) (atype := .int) (ty := .int) (N' := 600) (a0 := (600, .inl (fun _ => 0))) hC hA hP hD hS 0 rfl rfl ac_0 (fun _ => rfl) (by decide) (by decide) (by decide) (Nat.le_of_ble_eq_true rfl) (Nat.le_of_ble_eq_true rfl) dX8_init_193 (fun q22 H hP hD hS => ?_)
  obtain ⟨L22, eL22⟩ : ∃ Z : va_W, Z = L21 ++ [(q22, .inl (cy 0, 600, .inl (fun _ => 0)))] := ⟨_, rfl⟩
  have hP : va_P D vwCl ((h0, .inr (8, g21)) :: L22) H := by rw [eL22]; exact hP
  have hD : va_D A ((h0, .inr (8, g21)) :: L22) := by rw [eL22]; exact hD
  refine W.widen (k := 22) (n := 12878) (by decide) (by decide) ?_
  refine zk_putF (pc := 195) hC hin hP hD hS fqX8_75 0 rfl rfl rfl (by rw [n21]; decide) dX8_init_195 (fun H locs hP hD hS => ?_)
  obtain ⟨g22, eg22⟩ : ∃ Z : List Value, Z = g21.set 29 (.ref q22) := ⟨_, rfl⟩
  have n22 : g22.length = 43 := by rw [eg22, List.length_set, n21]
  have hP : va_P D vwCl ((h0, .inr (8, g22)) :: L22) H := by rw [eg22]; exact hP
  have hD : va_D A ((h0, .inr (8, g22)) :: L22) := by rw [eg22]; exact hD
  refine lv_aload_n (pc := 198) hx hb dX8_init_198 rfl (lv_at hl 0 rfl) ?_
  refine lv_bipush (pc := 199) (v := (10 : Int32)) hx hb dX8_init_199 (by decide) ?_
  refine zk_newa (pc := 201) (atype := .int) (ty := .int) (N' := 10) (a0 := (10, .inl (fun _ => 0))) hC hA hP hD hS 0 rfl rfl ac_0 (fun _ => rfl) (by decide) (by decide) (by decide) (Nat.le_of_ble_eq_true rfl) (Nat.le_of_ble_eq_true rfl) dX8_init_201 (fun q23 H hP hD hS => ?_)
  obtain ⟨L23, eL23⟩ : ∃ Z : va_W, Z = L22 ++ [(q23, .inl (cy 0, 10, .inl (fun _ => 0)))] := ⟨_, rfl⟩
  have hP : va_P D vwCl ((h0, .inr (8, g22)) :: L23) H := by rw [eL23]; exact hP
  have hD : va_D A ((h0, .inr (8, g22)) :: L23) := by rw [eL23]; exact hD
  refine W.widen (k := 23) (n := 12888) (by decide) (by decide) ?_
  refine zk_putF (pc := 203) hC hin hP hD hS fqX8_78 0 rfl rfl rfl (by rw [n22]; decide) dX8_init_203 (fun H locs hP hD hS => ?_)
  obtain ⟨g23, eg23⟩ : ∃ Z : List Value, Z = g22.set 30 (.ref q23) := ⟨_, rfl⟩
  have n23 : g23.length = 43 := by rw [eg23, List.length_set, n22]
  have hP : va_P D vwCl ((h0, .inr (8, g23)) :: L23) H := by rw [eg23]; exact hP
  have hD : va_D A ((h0, .inr (8, g23)) :: L23) := by rw [eg23]; exact hD
  refine lv_aload_n (pc := 206) hx hb dX8_init_206 rfl (lv_at hl 0 rfl) ?_
  refine lv_bipush (pc := 207) (v := (10 : Int32)) hx hb dX8_init_207 (by decide) ?_
  refine zk_newa (pc := 209) (atype := .int) (ty := .int) (N' := 10) (a0 := (10, .inl (fun _ => 0))) hC hA hP hD hS 0 rfl rfl ac_0 (fun _ => rfl) (by decide) (by decide) (by decide) (Nat.le_of_ble_eq_true rfl) (Nat.le_of_ble_eq_true rfl) dX8_init_209 (fun q24 H hP hD hS => ?_)
  obtain ⟨L24, eL24⟩ : ∃ Z : va_W, Z = L23 ++ [(q24, .inl (cy 0, 10, .inl (fun _ => 0)))] := ⟨_, rfl⟩
  have hP : va_P D vwCl ((h0, .inr (8, g23)) :: L24) H := by rw [eL24]; exact hP
  have hD : va_D A ((h0, .inr (8, g23)) :: L24) := by rw [eL24]; exact hD
  refine W.widen (k := 24) (n := 12898) (by decide) (by decide) ?_
  refine zk_putF (pc := 211) hC hin hP hD hS fqX8_81 0 rfl rfl rfl (by rw [n23]; decide) dX8_init_211 (fun H locs hP hD hS => ?_)
  obtain ⟨g24, eg24⟩ : ∃ Z : List Value, Z = g23.set 31 (.ref q24) := ⟨_, rfl⟩
  have n24 : g24.length = 43 := by rw [eg24, List.length_set, n23]
  have hP : va_P D vwCl ((h0, .inr (8, g24)) :: L24) H := by rw [eg24]; exact hP
  have hD : va_D A ((h0, .inr (8, g24)) :: L24) := by rw [eg24]; exact hD
  refine lv_aload_n (pc := 214) hx hb dX8_init_214 rfl (lv_at hl 0 rfl) ?_
  refine lv_bipush (pc := 215) (v := (100 : Int32)) hx hb dX8_init_215 (by decide) ?_
  refine zk_newa (pc := 217) (atype := .int) (ty := .int) (N' := 100) (a0 := (100, .inl (fun _ => 0))) hC hA hP hD hS 0 rfl rfl ac_0 (fun _ => rfl) (by decide) (by decide) (by decide) (Nat.le_of_ble_eq_true rfl) (Nat.le_of_ble_eq_true rfl) dX8_init_217 (fun q25 H hP hD hS => ?_)
  obtain ⟨L25, eL25⟩ : ∃ Z : va_W, Z = L24 ++ [(q25, .inl (cy 0, 100, .inl (fun _ => 0)))] := ⟨_, rfl⟩
  have hP : va_P D vwCl ((h0, .inr (8, g24)) :: L25) H := by rw [eL25]; exact hP
  have hD : va_D A ((h0, .inr (8, g24)) :: L25) := by rw [eL25]; exact hD
  refine W.widen (k := 25) (n := 12998) (by decide) (by decide) ?_
  refine zk_putF (pc := 219) hC hin hP hD hS fqX8_84 0 rfl rfl rfl (by rw [n24]; decide) dX8_init_219 (fun H locs hP hD hS => ?_)
  obtain ⟨g25, eg25⟩ : ∃ Z : List Value, Z = g24.set 32 (.ref q25) := ⟨_, rfl⟩
  have n25 : g25.length = 43 := by rw [eg25, List.length_set, n24]
  have hP : va_P D vwCl ((h0, .inr (8, g25)) :: L25) H := by rw [eg25]; exact hP
  have hD : va_D A ((h0, .inr (8, g25)) :: L25) := by rw [eg25]; exact hD
  refine lv_aload_n (pc := 222) hx hb dX8_init_222 rfl (lv_at hl 0 rfl) ?_
  refine lv_bipush (pc := 223) (v := (7 : Int32)) hx hb dX8_init_223 (by decide) ?_
  refine zk_newa (pc := 225) (atype := .int) (ty := .int) (N' := 7) (a0 := (7, .inl (fun _ => 0))) hC hA hP hD hS 0 rfl rfl ac_0 (fun _ => rfl) (by decide) (by decide) (by decide) (Nat.le_of_ble_eq_true rfl) (Nat.le_of_ble_eq_true rfl) dX8_init_225 (fun q26 H hP hD hS => ?_)
  obtain ⟨L26, eL26⟩ : ∃ Z : va_W, Z = L25 ++ [(q26, .inl (cy 0, 7, .inl (fun _ => 0)))] := ⟨_, rfl⟩
  have hP : va_P D vwCl ((h0, .inr (8, g25)) :: L26) H := by rw [eL26]; exact hP
  have hD : va_D A ((h0, .inr (8, g25)) :: L26) := by rw [eL26]; exact hD
  refine W.widen (k := 26) (n := 13005) (by decide) (by decide) ?_
  refine zk_putF (pc := 227) hC hin hP hD hS fqX8_87 0 rfl rfl rfl (by rw [n25]; decide) dX8_init_227 (fun H locs hP hD hS => ?_)
  obtain ⟨g26, eg26⟩ : ∃ Z : List Value, Z = g25.set 33 (.ref q26) := ⟨_, rfl⟩
  have n26 : g26.length = 43 := by rw [eg26, List.length_set, n25]
  have hP : va_P D vwCl ((h0, .inr (8, g26)) :: L26) H := by rw [eg26]; exact hP
  have hD : va_D A ((h0, .inr (8, g26)) :: L26) := by rw [eg26]; exact hD
  refine lv_aload_n (pc := 230) hx hb dX8_init_230 rfl (lv_at hl 0 rfl) ?_
  refine lv_bipush (pc := 231) (v := (8 : Int32)) hx hb dX8_init_231 (by decide) ?_
  refine zk_newa (pc := 233) (atype := .int) (ty := .int) (N' := 8) (a0 := (8, .inl (fun _ => 0))) hC hA hP hD hS 0 rfl rfl ac_0 (fun _ => rfl) (by decide) (by decide) (by decide) (Nat.le_of_ble_eq_true rfl) (Nat.le_of_ble_eq_true rfl) dX8_init_233 (fun q27 H hP hD hS => ?_)
  obtain ⟨L27, eL27⟩ : ∃ Z : va_W, Z = L26 ++ [(q27, .inl (cy 0, 8, .inl (fun _ => 0)))] := ⟨_, rfl⟩
  have hP : va_P D vwCl ((h0, .inr (8, g26)) :: L27) H := by rw [eL27]; exact hP
  have hD : va_D A ((h0, .inr (8, g26)) :: L27) := by rw [eL27]; exact hD
  refine W.widen (k := 27) (n := 13013) (by decide) (by decide) ?_
  refine zk_putF (pc := 235) hC hin hP hD hS fqX8_90 0 rfl rfl rfl (by rw [n26]; decide) dX8_init_235 (fun H locs hP hD hS => ?_)
  obtain ⟨g27, eg27⟩ : ∃ Z : List Value, Z = g26.set 34 (.ref q27) := ⟨_, rfl⟩
  have n27 : g27.length = 43 := by rw [eg27, List.length_set, n26]
  have hP : va_P D vwCl ((h0, .inr (8, g27)) :: L27) H := by rw [eg27]; exact hP
  have hD : va_D A ((h0, .inr (8, g27)) :: L27) := by rw [eg27]; exact hD
  refine lv_aload_n (pc := 238) hx hb dX8_init_238 rfl (lv_at hl 0 rfl) ?_
  refine lv_bipush (pc := 239) (v := (8 : Int32)) hx hb dX8_init_239 (by decide) ?_
  refine zk_newa (pc := 241) (atype := .int) (ty := .int) (N' := 8) (a0 := (8, .inl (fun _ => 0))) hC hA hP hD hS 0 rfl rfl ac_0 (fun _ => rfl) (by decide) (by decide) (by decide) (Nat.le_of_ble_eq_true rfl) (Nat.le_of_ble_eq_true rfl) dX8_init_241 (fun q28 H hP hD hS => ?_)
  obtain ⟨L28, eL28⟩ : ∃ Z : va_W, Z = L27 ++ [(q28, .inl (cy 0, 8, .inl (fun _ => 0)))] := ⟨_, rfl⟩
  have hP : va_P D vwCl ((h0, .inr (8, g27)) :: L28) H := by rw [eL28]; exact hP
  have hD : va_D A ((h0, .inr (8, g27)) :: L28) := by rw [eL28]; exact hD
  refine W.widen (k := 28) (n := 13021) (by decide) (by decide) ?_
  refine zk_putF (pc := 243) hC hin hP hD hS fqX8_93 0 rfl rfl rfl (by rw [n27]; decide) dX8_init_243 (fun H locs hP hD hS => ?_)
  obtain ⟨g28, eg28⟩ : ∃ Z : List Value, Z = g27.set 35 (.ref q28) := ⟨_, rfl⟩
  have n28 : g28.length = 43 := by rw [eg28, List.length_set, n27]
  have hP : va_P D vwCl ((h0, .inr (8, g28)) :: L28) H := by rw [eg28]; exact hP
  have hD : va_D A ((h0, .inr (8, g28)) :: L28) := by rw [eg28]; exact hD
  refine lv_aload_n (pc := 246) hx hb dX8_init_246 rfl (lv_at hl 0 rfl) ?_
  refine lv_sipush (pc := 247) (v := (2304 : Int32)) hx hb dX8_init_247 (by decide) ?_
  refine zk_newa (pc := 250) (atype := .int) (ty := .int) (N' := 2304) (a0 := (2304, .inl (fun _ => 0))) hC hA hP hD hS 0 rfl rfl ac_0 (fun _ => rfl) (by decide) (by decide) (by decide) (Nat.le_of_ble_eq_true rfl) (Nat.le_of_ble_eq_true rfl) dX8_init_250 (fun q29 H hP hD hS => ?_)
  obtain ⟨L29, eL29⟩ : ∃ Z : va_W, Z = L28 ++ [(q29, .inl (cy 0, 2304, .inl (fun _ => 0)))] := ⟨_, rfl⟩
  have hP : va_P D vwCl ((h0, .inr (8, g28)) :: L29) H := by rw [eL29]; exact hP
  have hD : va_D A ((h0, .inr (8, g28)) :: L29) := by rw [eL29]; exact hD
  refine W.widen (k := 29) (n := 15325) (by decide) (by decide) ?_
  refine zk_putF (pc := 252) hC hin hP hD hS fqX8_96 0 rfl rfl rfl (by rw [n28]; decide) dX8_init_252 (fun H locs hP hD hS => ?_)
  obtain ⟨g29, eg29⟩ : ∃ Z : List Value, Z = g28.set 36 (.ref q29) := ⟨_, rfl⟩
  have n29 : g29.length = 43 := by rw [eg29, List.length_set, n28]
  have hP : va_P D vwCl ((h0, .inr (8, g29)) :: L29) H := by rw [eg29]; exact hP
  have hD : va_D A ((h0, .inr (8, g29)) :: L29) := by rw [eg29]; exact hD
  refine lv_aload_n (pc := 255) hx hb dX8_init_255 rfl (lv_at hl 0 rfl) ?_
  refine lv_bipush (pc := 256) (v := (10 : Int32)) hx hb dX8_init_256 (by decide) ?_
  refine zk_newa (pc := 258) (atype := .int) (ty := .int) (N' := 10) (a0 := (10, .inl (fun _ => 0))) hC hA hP hD hS 0 rfl rfl ac_0 (fun _ => rfl) (by decide) (by decide) (by decide) (Nat.le_of_ble_eq_true rfl) (Nat.le_of_ble_eq_true rfl) dX8_init_258 (fun q30 H hP hD hS => ?_)
  obtain ⟨L30, eL30⟩ : ∃ Z : va_W, Z = L29 ++ [(q30, .inl (cy 0, 10, .inl (fun _ => 0)))] := ⟨_, rfl⟩
  have hP : va_P D vwCl ((h0, .inr (8, g29)) :: L30) H := by rw [eL30]; exact hP
  have hD : va_D A ((h0, .inr (8, g29)) :: L30) := by rw [eL30]; exact hD
  refine W.widen (k := 30) (n := 15335) (by decide) (by decide) ?_
  refine zk_putF (pc := 260) hC hin hP hD hS fqX8_99 0 rfl rfl rfl (by rw [n29]; decide) dX8_init_260 (fun H locs hP hD hS => ?_)
  obtain ⟨g30, eg30⟩ : ∃ Z : List Value, Z = g29.set 37 (.ref q30) := ⟨_, rfl⟩
  have n30 : g30.length = 43 := by rw [eg30, List.length_set, n29]
  have hP : va_P D vwCl ((h0, .inr (8, g30)) :: L30) H := by rw [eg30]; exact hP
  have hD : va_D A ((h0, .inr (8, g30)) :: L30) := by rw [eg30]; exact hD
  refine lv_aload_n (pc := 263) hx hb dX8_init_263 rfl (lv_at hl 0 rfl) ?_
  refine lv_bipush (pc := 264) (v := (10 : Int32)) hx hb dX8_init_264 (by decide) ?_
  refine zk_newa (pc := 266) (atype := .int) (ty := .int) (N' := 10) (a0 := (10, .inl (fun _ => 0))) hC hA hP hD hS 0 rfl rfl ac_0 (fun _ => rfl) (by decide) (by decide) (by decide) (Nat.le_of_ble_eq_true rfl) (Nat.le_of_ble_eq_true rfl) dX8_init_266 (fun q31 H hP hD hS => ?_)
  obtain ⟨L31, eL31⟩ : ∃ Z : va_W, Z = L30 ++ [(q31, .inl (cy 0, 10, .inl (fun _ => 0)))] := ⟨_, rfl⟩
  have hP : va_P D vwCl ((h0, .inr (8, g30)) :: L31) H := by rw [eL31]; exact hP
  have hD : va_D A ((h0, .inr (8, g30)) :: L31) := by rw [eL31]; exact hD
  refine W.widen (k := 31) (n := 15345) (by decide) (by decide) ?_
  refine zk_putF (pc := 268) hC hin hP hD hS fqX8_102 0 rfl rfl rfl (by rw [n30]; decide) dX8_init_268 (fun H locs hP hD hS => ?_)
  obtain ⟨g31, eg31⟩ : ∃ Z : List Value, Z = g30.set 39 (.ref q31) := ⟨_, rfl⟩
  have n31 : g31.length = 43 := by rw [eg31, List.length_set, n30]
  have hP : va_P D vwCl ((h0, .inr (8, g31)) :: L31) H := by rw [eg31]; exact hP
  have hD : va_D A ((h0, .inr (8, g31)) :: L31) := by rw [eg31]; exact hD
  refine lv_aload_n (pc := 271) hx hb dX8_init_271 rfl (lv_at hl 0 rfl) ?_
  refine lv_bipush (pc := 272) (v := (100 : Int32)) hx hb dX8_init_272 (by decide) ?_
  refine zk_newa (pc := 274) (atype := .int) (ty := .int) (N' := 100) (a0 := (100, .inl (fun _ => 0))) hC hA hP hD hS 0 rfl rfl ac_0 (fun _ => rfl) (by decide) (by decide) (by decide) (Nat.le_of_ble_eq_true rfl) (Nat.le_of_ble_eq_true rfl) dX8_init_274 (fun q32 H hP hD hS => ?_)
  obtain ⟨L32, eL32⟩ : ∃ Z : va_W, Z = L31 ++ [(q32, .inl (cy 0, 100, .inl (fun _ => 0)))] := ⟨_, rfl⟩
  have hP : va_P D vwCl ((h0, .inr (8, g31)) :: L32) H := by rw [eL32]; exact hP
  have hD : va_D A ((h0, .inr (8, g31)) :: L32) := by rw [eL32]; exact hD
  refine W.widen (k := 32) (n := 15445) (by decide) (by decide) ?_
  refine zk_putF (pc := 276) hC hin hP hD hS fqX8_105 0 rfl rfl rfl (by rw [n31]; decide) dX8_init_276 (fun H locs hP hD hS => ?_)
  obtain ⟨g32, eg32⟩ : ∃ Z : List Value, Z = g31.set 40 (.ref q32) := ⟨_, rfl⟩
  have n32 : g32.length = 43 := by rw [eg32, List.length_set, n31]
  have hP : va_P D vwCl ((h0, .inr (8, g32)) :: L32) H := by rw [eg32]; exact hP
  have hD : va_D A ((h0, .inr (8, g32)) :: L32) := by rw [eg32]; exact hD
  refine lv_aload_n (pc := 279) hx hb dX8_init_279 rfl (lv_at hl 0 rfl) ?_
  refine lv_bipush (pc := 280) (v := (20 : Int32)) hx hb dX8_init_280 (by decide) ?_
  refine zk_newa (pc := 282) (atype := .int) (ty := .int) (N' := 20) (a0 := (20, .inl (fun _ => 0))) hC hA hP hD hS 0 rfl rfl ac_0 (fun _ => rfl) (by decide) (by decide) (by decide) (Nat.le_of_ble_eq_true rfl) (Nat.le_of_ble_eq_true rfl) dX8_init_282 (fun q33 H hP hD hS => ?_)
  obtain ⟨L33, eL33⟩ : ∃ Z : va_W, Z = L32 ++ [(q33, .inl (cy 0, 20, .inl (fun _ => 0)))] := ⟨_, rfl⟩
  have hP : va_P D vwCl ((h0, .inr (8, g32)) :: L33) H := by rw [eL33]; exact hP
  have hD : va_D A ((h0, .inr (8, g32)) :: L33) := by rw [eL33]; exact hD
  refine W.widen (k := 33) (n := 15465) (by decide) (by decide) ?_
  refine zk_putF (pc := 284) hC hin hP hD hS fqX8_108 0 rfl rfl rfl (by rw [n32]; decide) dX8_init_284 (fun H locs hP hD hS => ?_)
  obtain ⟨g33, eg33⟩ : ∃ Z : List Value, Z = g32.set 41 (.ref q33) := ⟨_, rfl⟩
  have n33 : g33.length = 43 := by rw [eg33, List.length_set, n32]
  have hP : va_P D vwCl ((h0, .inr (8, g33)) :: L33) H := by rw [eg33]; exact hP
  have hD : va_D A ((h0, .inr (8, g33)) :: L33) := by rw [eg33]; exact hD
  refine lv_aload_n (pc := 287) hx hb dX8_init_287 rfl (lv_at hl 0 rfl) ?_
  refine lv_bipush (pc := 288) (v := (20 : Int32)) hx hb dX8_init_288 (by decide) ?_
  refine zk_newa (pc := 290) (atype := .int) (ty := .int) (N' := 20) (a0 := (20, .inl (fun _ => 0))) hC hA hP hD hS 0 rfl rfl ac_0 (fun _ => rfl) (by decide) (by decide) (by decide) (Nat.le_of_ble_eq_true rfl) (Nat.le_of_ble_eq_true rfl) dX8_init_290 (fun q34 H hP hD hS => ?_)
  obtain ⟨L34, eL34⟩ : ∃ Z : va_W, Z = L33 ++ [(q34, .inl (cy 0, 20, .inl (fun _ => 0)))] := ⟨_, rfl⟩
  have hP : va_P D vwCl ((h0, .inr (8, g33)) :: L34) H := by rw [eL34]; exact hP
  have hD : va_D A ((h0, .inr (8, g33)) :: L34) := by rw [eL34]; exact hD
  refine W.widen (k := 34) (n := 15485) (by decide) (by decide) ?_
  refine zk_putF (pc := 292) hC hin hP hD hS fqX8_111 0 rfl rfl rfl (by rw [n33]; decide) dX8_init_292 (fun H locs hP hD hS => ?_)
  obtain ⟨g34, eg34⟩ : ∃ Z : List Value, Z = g33.set 42 (.ref q34) := ⟨_, rfl⟩
  have n34 : g34.length = 43 := by rw [eg34, List.length_set, n33]
  have hP : va_P D vwCl ((h0, .inr (8, g34)) :: L34) H := by rw [eg34]; exact hP
  have hD : va_D A ((h0, .inr (8, g34)) :: L34) := by rw [eg34]; exact hD
  have h0f : g0 = [.int 0, .int 0, .int 0, .null, .null, .int 0, .null, .null, .null, .null, .null, .int 0, .null, .int 0, .null, .null, .null, .null, .null, .null, .null, .null, .int 0, .int 0, .null, .null, .null, .null, .null, .null, .null, .null, .null, .null, .null, .null, .null, .null, .int 0, .null, .null, .null, .null] := eg0
  have h1f : g1 = [.int 0, .int 0, .int 0, .ref q1, .null, .int 0, .null, .null, .null, .null, .null, .int 0, .null, .int 0, .null, .null, .null, .null, .null, .null, .null, .null, .int 0, .int 0, .null, .null, .null, .null, .null, .null, .null, .null, .null, .null, .null, .null, .null, .null, .int 0, .null, .null, .null, .null] := by rw [eg1, h0f]; rfl
  have h2f : g2 = [.int 0, .int 0, .int 0, .ref q1, .ref q2, .int 0, .null, .null, .null, .null, .null, .int 0, .null, .int 0, .null, .null, .null, .null, .null, .null, .null, .null, .int 0, .int 0, .null, .null, .null, .null, .null, .null, .null, .null, .null, .null, .null, .null, .null, .null, .int 0, .null, .null, .null, .null] := by rw [eg2, h1f]; rfl
  have h3f : g3 = [.int 0, .int 0, .int 0, .ref q1, .ref q2, .int 0, .ref q3, .null, .null, .null, .null, .int 0, .null, .int 0, .null, .null, .null, .null, .null, .null, .null, .null, .int 0, .int 0, .null, .null, .null, .null, .null, .null, .null, .null, .null, .null, .null, .null, .null, .null, .int 0, .null, .null, .null, .null] := by rw [eg3, h2f]; rfl
  have h4f : g4 = [.int 0, .int 0, .int 0, .ref q1, .ref q2, .int 0, .ref q3, .ref q4, .null, .null, .null, .int 0, .null, .int 0, .null, .null, .null, .null, .null, .null, .null, .null, .int 0, .int 0, .null, .null, .null, .null, .null, .null, .null, .null, .null, .null, .null, .null, .null, .null, .int 0, .null, .null, .null, .null] := by rw [eg4, h3f]; rfl
  have h5f : g5 = [.int 0, .int 0, .int 0, .ref q1, .ref q2, .int 0, .ref q3, .ref q4, .ref q5, .null, .null, .int 0, .null, .int 0, .null, .null, .null, .null, .null, .null, .null, .null, .int 0, .int 0, .null, .null, .null, .null, .null, .null, .null, .null, .null, .null, .null, .null, .null, .null, .int 0, .null, .null, .null, .null] := by rw [eg5, h4f]; rfl
  have h6f : g6 = [.int 0, .int 0, .int 0, .ref q1, .ref q2, .int 0, .ref q3, .ref q4, .ref q5, .ref q6, .null, .int 0, .null, .int 0, .null, .null, .null, .null, .null, .null, .null, .null, .int 0, .int 0, .null, .null, .null, .null, .null, .null, .null, .null, .null, .null, .null, .null, .null, .null, .int 0, .null, .null, .null, .null] := by rw [eg6, h5f]; rfl
  have h7f : g7 = [.int 0, .int 0, .int 0, .ref q1, .ref q2, .int 0, .ref q3, .ref q4, .ref q5, .ref q6, .ref q7, .int 0, .null, .int 0, .null, .null, .null, .null, .null, .null, .null, .null, .int 0, .int 0, .null, .null, .null, .null, .null, .null, .null, .null, .null, .null, .null, .null, .null, .null, .int 0, .null, .null, .null, .null] := by rw [eg7, h6f]; rfl
  have h8f : g8 = [.int 0, .int 0, .int 0, .ref q1, .ref q2, .int 0, .ref q3, .ref q4, .ref q5, .ref q6, .ref q7, .int 0, .ref q8, .int 0, .null, .null, .null, .null, .null, .null, .null, .null, .int 0, .int 0, .null, .null, .null, .null, .null, .null, .null, .null, .null, .null, .null, .null, .null, .null, .int 0, .null, .null, .null, .null] := by rw [eg8, h7f]; rfl
  have h9f : g9 = [.int 0, .int 0, .int 0, .ref q1, .ref q2, .int 0, .ref q3, .ref q4, .ref q5, .ref q6, .ref q7, .int 0, .ref q8, .int 0, .ref q9, .null, .null, .null, .null, .null, .null, .null, .int 0, .int 0, .null, .null, .null, .null, .null, .null, .null, .null, .null, .null, .null, .null, .null, .null, .int 0, .null, .null, .null, .null] := by rw [eg9, h8f]; rfl
  have h10f : g10 = [.int 0, .int 0, .int 0, .ref q1, .ref q2, .int 0, .ref q3, .ref q4, .ref q5, .ref q6, .ref q7, .int 0, .ref q8, .int 0, .ref q9, .ref q10, .null, .null, .null, .null, .null, .null, .int 0, .int 0, .null, .null, .null, .null, .null, .null, .null, .null, .null, .null, .null, .null, .null, .null, .int 0, .null, .null, .null, .null] := by rw [eg10, h9f]; rfl
  have h11f : g11 = [.int 0, .int 0, .int 0, .ref q1, .ref q2, .int 0, .ref q3, .ref q4, .ref q5, .ref q6, .ref q7, .int 0, .ref q8, .int 0, .ref q9, .ref q10, .ref q11, .null, .null, .null, .null, .null, .int 0, .int 0, .null, .null, .null, .null, .null, .null, .null, .null, .null, .null, .null, .null, .null, .null, .int 0, .null, .null, .null, .null] := by rw [eg11, h10f]; rfl
  have h12f : g12 = [.int 0, .int 0, .int 0, .ref q1, .ref q2, .int 0, .ref q3, .ref q4, .ref q5, .ref q6, .ref q7, .int 0, .ref q8, .int 0, .ref q9, .ref q10, .ref q11, .ref q12, .null, .null, .null, .null, .int 0, .int 0, .null, .null, .null, .null, .null, .null, .null, .null, .null, .null, .null, .null, .null, .null, .int 0, .null, .null, .null, .null] := by rw [eg12, h11f]; rfl
  have h13f : g13 = [.int 0, .int 0, .int 0, .ref q1, .ref q2, .int 0, .ref q3, .ref q4, .ref q5, .ref q6, .ref q7, .int 0, .ref q8, .int 0, .ref q9, .ref q10, .ref q11, .ref q12, .ref q13, .null, .null, .null, .int 0, .int 0, .null, .null, .null, .null, .null, .null, .null, .null, .null, .null, .null, .null, .null, .null, .int 0, .null, .null, .null, .null] := by rw [eg13, h12f]; rfl
  have h14f : g14 = [.int 0, .int 0, .int 0, .ref q1, .ref q2, .int 0, .ref q3, .ref q4, .ref q5, .ref q6, .ref q7, .int 0, .ref q8, .int 0, .ref q9, .ref q10, .ref q11, .ref q12, .ref q13, .ref q14, .null, .null, .int 0, .int 0, .null, .null, .null, .null, .null, .null, .null, .null, .null, .null, .null, .null, .null, .null, .int 0, .null, .null, .null, .null] := by rw [eg14, h13f]; rfl
  have h15f : g15 = [.int 0, .int 0, .int 0, .ref q1, .ref q2, .int 0, .ref q3, .ref q4, .ref q5, .ref q6, .ref q7, .int 0, .ref q8, .int 0, .ref q9, .ref q10, .ref q11, .ref q12, .ref q13, .ref q14, .ref q15, .null, .int 0, .int 0, .null, .null, .null, .null, .null, .null, .null, .null, .null, .null, .null, .null, .null, .null, .int 0, .null, .null, .null, .null] := by rw [eg15, h14f]; rfl
  have h16f : g16 = [.int 0, .int 0, .int 0, .ref q1, .ref q2, .int 0, .ref q3, .ref q4, .ref q5, .ref q6, .ref q7, .int 0, .ref q8, .int 0, .ref q9, .ref q10, .ref q11, .ref q12, .ref q13, .ref q14, .ref q15, .ref q16, .int 0, .int 0, .null, .null, .null, .null, .null, .null, .null, .null, .null, .null, .null, .null, .null, .null, .int 0, .null, .null, .null, .null] := by rw [eg16, h15f]; rfl
  have h17f : g17 = [.int 0, .int 0, .int 0, .ref q1, .ref q2, .int 0, .ref q3, .ref q4, .ref q5, .ref q6, .ref q7, .int 0, .ref q8, .int 0, .ref q9, .ref q10, .ref q11, .ref q12, .ref q13, .ref q14, .ref q15, .ref q16, .int 0, .int 0, .ref q17, .null, .null, .null, .null, .null, .null, .null, .null, .null, .null, .null, .null, .null, .int 0, .null, .null, .null, .null] := by rw [eg17, h16f]; rfl
  have h18f : g18 = [.int 0, .int 0, .int 0, .ref q1, .ref q2, .int 0, .ref q3, .ref q4, .ref q5, .ref q6, .ref q7, .int 0, .ref q8, .int 0, .ref q9, .ref q10, .ref q11, .ref q12, .ref q13, .ref q14, .ref q15, .ref q16, .int 0, .int 0, .ref q17, .ref q18, .null, .null, .null, .null, .null, .null, .null, .null, .null, .null, .null, .null, .int 0, .null, .null, .null, .null] := by rw [eg18, h17f]; rfl
  have h19f : g19 = [.int 0, .int 0, .int 0, .ref q1, .ref q2, .int 0, .ref q3, .ref q4, .ref q5, .ref q6, .ref q7, .int 0, .ref q8, .int 0, .ref q9, .ref q10, .ref q11, .ref q12, .ref q13, .ref q14, .ref q15, .ref q16, .int 0, .int 0, .ref q17, .ref q18, .ref q19, .null, .null, .null, .null, .null, .null, .null, .null, .null, .null, .null, .int 0, .null, .null, .null, .null] := by rw [eg19, h18f]; rfl
  have h20f : g20 = [.int 0, .int 0, .int 0, .ref q1, .ref q2, .int 0, .ref q3, .ref q4, .ref q5, .ref q6, .ref q7, .int 0, .ref q8, .int 0, .ref q9, .ref q10, .ref q11, .ref q12, .ref q13, .ref q14, .ref q15, .ref q16, .int 0, .int 0, .ref q17, .ref q18, .ref q19, .ref q20, .null, .null, .null, .null, .null, .null, .null, .null, .null, .null, .int 0, .null, .null, .null, .null] := by rw [eg20, h19f]; rfl
  have h21f : g21 = [.int 0, .int 0, .int 0, .ref q1, .ref q2, .int 0, .ref q3, .ref q4, .ref q5, .ref q6, .ref q7, .int 0, .ref q8, .int 0, .ref q9, .ref q10, .ref q11, .ref q12, .ref q13, .ref q14, .ref q15, .ref q16, .int 0, .int 0, .ref q17, .ref q18, .ref q19, .ref q20, .ref q21, .null, .null, .null, .null, .null, .null, .null, .null, .null, .int 0, .null, .null, .null, .null] := by rw [eg21, h20f]; rfl
  have h22f : g22 = [.int 0, .int 0, .int 0, .ref q1, .ref q2, .int 0, .ref q3, .ref q4, .ref q5, .ref q6, .ref q7, .int 0, .ref q8, .int 0, .ref q9, .ref q10, .ref q11, .ref q12, .ref q13, .ref q14, .ref q15, .ref q16, .int 0, .int 0, .ref q17, .ref q18, .ref q19, .ref q20, .ref q21, .ref q22, .null, .null, .null, .null, .null, .null, .null, .null, .int 0, .null, .null, .null, .null] := by rw [eg22, h21f]; rfl
  have h23f : g23 = [.int 0, .int 0, .int 0, .ref q1, .ref q2, .int 0, .ref q3, .ref q4, .ref q5, .ref q6, .ref q7, .int 0, .ref q8, .int 0, .ref q9, .ref q10, .ref q11, .ref q12, .ref q13, .ref q14, .ref q15, .ref q16, .int 0, .int 0, .ref q17, .ref q18, .ref q19, .ref q20, .ref q21, .ref q22, .ref q23, .null, .null, .null, .null, .null, .null, .null, .int 0, .null, .null, .null, .null] := by rw [eg23, h22f]; rfl
  have h24f : g24 = [.int 0, .int 0, .int 0, .ref q1, .ref q2, .int 0, .ref q3, .ref q4, .ref q5, .ref q6, .ref q7, .int 0, .ref q8, .int 0, .ref q9, .ref q10, .ref q11, .ref q12, .ref q13, .ref q14, .ref q15, .ref q16, .int 0, .int 0, .ref q17, .ref q18, .ref q19, .ref q20, .ref q21, .ref q22, .ref q23, .ref q24, .null, .null, .null, .null, .null, .null, .int 0, .null, .null, .null, .null] := by rw [eg24, h23f]; rfl
  have h25f : g25 = [.int 0, .int 0, .int 0, .ref q1, .ref q2, .int 0, .ref q3, .ref q4, .ref q5, .ref q6, .ref q7, .int 0, .ref q8, .int 0, .ref q9, .ref q10, .ref q11, .ref q12, .ref q13, .ref q14, .ref q15, .ref q16, .int 0, .int 0, .ref q17, .ref q18, .ref q19, .ref q20, .ref q21, .ref q22, .ref q23, .ref q24, .ref q25, .null, .null, .null, .null, .null, .int 0, .null, .null, .null, .null] := by rw [eg25, h24f]; rfl
  have h26f : g26 = [.int 0, .int 0, .int 0, .ref q1, .ref q2, .int 0, .ref q3, .ref q4, .ref q5, .ref q6, .ref q7, .int 0, .ref q8, .int 0, .ref q9, .ref q10, .ref q11, .ref q12, .ref q13, .ref q14, .ref q15, .ref q16, .int 0, .int 0, .ref q17, .ref q18, .ref q19, .ref q20, .ref q21, .ref q22, .ref q23, .ref q24, .ref q25, .ref q26, .null, .null, .null, .null, .int 0, .null, .null, .null, .null] := by rw [eg26, h25f]; rfl
  have h27f : g27 = [.int 0, .int 0, .int 0, .ref q1, .ref q2, .int 0, .ref q3, .ref q4, .ref q5, .ref q6, .ref q7, .int 0, .ref q8, .int 0, .ref q9, .ref q10, .ref q11, .ref q12, .ref q13, .ref q14, .ref q15, .ref q16, .int 0, .int 0, .ref q17, .ref q18, .ref q19, .ref q20, .ref q21, .ref q22, .ref q23, .ref q24, .ref q25, .ref q26, .ref q27, .null, .null, .null, .int 0, .null, .null, .null, .null] := by rw [eg27, h26f]; rfl
  have h28f : g28 = [.int 0, .int 0, .int 0, .ref q1, .ref q2, .int 0, .ref q3, .ref q4, .ref q5, .ref q6, .ref q7, .int 0, .ref q8, .int 0, .ref q9, .ref q10, .ref q11, .ref q12, .ref q13, .ref q14, .ref q15, .ref q16, .int 0, .int 0, .ref q17, .ref q18, .ref q19, .ref q20, .ref q21, .ref q22, .ref q23, .ref q24, .ref q25, .ref q26, .ref q27, .ref q28, .null, .null, .int 0, .null, .null, .null, .null] := by rw [eg28, h27f]; rfl
  have h29f : g29 = [.int 0, .int 0, .int 0, .ref q1, .ref q2, .int 0, .ref q3, .ref q4, .ref q5, .ref q6, .ref q7, .int 0, .ref q8, .int 0, .ref q9, .ref q10, .ref q11, .ref q12, .ref q13, .ref q14, .ref q15, .ref q16, .int 0, .int 0, .ref q17, .ref q18, .ref q19, .ref q20, .ref q21, .ref q22, .ref q23, .ref q24, .ref q25, .ref q26, .ref q27, .ref q28, .ref q29, .null, .int 0, .null, .null, .null, .null] := by rw [eg29, h28f]; rfl
  have h30f : g30 = [.int 0, .int 0, .int 0, .ref q1, .ref q2, .int 0, .ref q3, .ref q4, .ref q5, .ref q6, .ref q7, .int 0, .ref q8, .int 0, .ref q9, .ref q10, .ref q11, .ref q12, .ref q13, .ref q14, .ref q15, .ref q16, .int 0, .int 0, .ref q17, .ref q18, .ref q19, .ref q20, .ref q21, .ref q22, .ref q23, .ref q24, .ref q25, .ref q26, .ref q27, .ref q28, .ref q29, .ref q30, .int 0, .null, .null, .null, .null] := by rw [eg30, h29f]; rfl
  have h31f : g31 = [.int 0, .int 0, .int 0, .ref q1, .ref q2, .int 0, .ref q3, .ref q4, .ref q5, .ref q6, .ref q7, .int 0, .ref q8, .int 0, .ref q9, .ref q10, .ref q11, .ref q12, .ref q13, .ref q14, .ref q15, .ref q16, .int 0, .int 0, .ref q17, .ref q18, .ref q19, .ref q20, .ref q21, .ref q22, .ref q23, .ref q24, .ref q25, .ref q26, .ref q27, .ref q28, .ref q29, .ref q30, .int 0, .ref q31, .null, .null, .null] := by rw [eg31, h30f]; rfl
  have h32f : g32 = [.int 0, .int 0, .int 0, .ref q1, .ref q2, .int 0, .ref q3, .ref q4, .ref q5, .ref q6, .ref q7, .int 0, .ref q8, .int 0, .ref q9, .ref q10, .ref q11, .ref q12, .ref q13, .ref q14, .ref q15, .ref q16, .int 0, .int 0, .ref q17, .ref q18, .ref q19, .ref q20, .ref q21, .ref q22, .ref q23, .ref q24, .ref q25, .ref q26, .ref q27, .ref q28, .ref q29, .ref q30, .int 0, .ref q31, .ref q32, .null, .null] := by rw [eg32, h31f]; rfl
  have h33f : g33 = [.int 0, .int 0, .int 0, .ref q1, .ref q2, .int 0, .ref q3, .ref q4, .ref q5, .ref q6, .ref q7, .int 0, .ref q8, .int 0, .ref q9, .ref q10, .ref q11, .ref q12, .ref q13, .ref q14, .ref q15, .ref q16, .int 0, .int 0, .ref q17, .ref q18, .ref q19, .ref q20, .ref q21, .ref q22, .ref q23, .ref q24, .ref q25, .ref q26, .ref q27, .ref q28, .ref q29, .ref q30, .int 0, .ref q31, .ref q32, .ref q33, .null] := by rw [eg33, h32f]; rfl
  have h34f : g34 = [.int 0, .int 0, .int 0, .ref q1, .ref q2, .int 0, .ref q3, .ref q4, .ref q5, .ref q6, .ref q7, .int 0, .ref q8, .int 0, .ref q9, .ref q10, .ref q11, .ref q12, .ref q13, .ref q14, .ref q15, .ref q16, .int 0, .int 0, .ref q17, .ref q18, .ref q19, .ref q20, .ref q21, .ref q22, .ref q23, .ref q24, .ref q25, .ref q26, .ref q27, .ref q28, .ref q29, .ref q30, .int 0, .ref q31, .ref q32, .ref q33, .ref q34] := by rw [eg34, h33f]; rfl
  have k1f : L1 = ([(q1, .inl (cy 0, 6, .inl (fun _ => 0)))] : va_W) := by rw [eL1, eL0]; rfl
  have k2f : L2 = ([(q1, .inl (cy 0, 6, .inl (fun _ => 0))), (q2, .inl (cy 0, 6, .inl (fun _ => 0)))] : va_W) := by rw [eL2, k1f]; rfl
  have k3f : L3 = ([(q1, .inl (cy 0, 6, .inl (fun _ => 0))), (q2, .inl (cy 0, 6, .inl (fun _ => 0))), (q3, .inl (cy 0, 2000, .inl (fun _ => 0)))] : va_W) := by rw [eL3, k2f]; rfl
  have k4f : L4 = ([(q1, .inl (cy 0, 6, .inl (fun _ => 0))), (q2, .inl (cy 0, 6, .inl (fun _ => 0))), (q3, .inl (cy 0, 2000, .inl (fun _ => 0))), (q4, .inl (cy 0, 2000, .inl (fun _ => 0)))] : va_W) := by rw [eL4, k3f]; rfl
  have k5f : L5 = ([(q1, .inl (cy 0, 6, .inl (fun _ => 0))), (q2, .inl (cy 0, 6, .inl (fun _ => 0))), (q3, .inl (cy 0, 2000, .inl (fun _ => 0))), (q4, .inl (cy 0, 2000, .inl (fun _ => 0))), (q5, .inl (cy 0, 2000, .inl (fun _ => 0)))] : va_W) := by rw [eL5, k4f]; rfl
  have k6f : L6 = ([(q1, .inl (cy 0, 6, .inl (fun _ => 0))), (q2, .inl (cy 0, 6, .inl (fun _ => 0))), (q3, .inl (cy 0, 2000, .inl (fun _ => 0))), (q4, .inl (cy 0, 2000, .inl (fun _ => 0))), (q5, .inl (cy 0, 2000, .inl (fun _ => 0))), (q6, .inl (cy 0, 2000, .inl (fun _ => 0)))] : va_W) := by rw [eL6, k5f]; rfl
  have k7f : L7 = ([(q1, .inl (cy 0, 6, .inl (fun _ => 0))), (q2, .inl (cy 0, 6, .inl (fun _ => 0))), (q3, .inl (cy 0, 2000, .inl (fun _ => 0))), (q4, .inl (cy 0, 2000, .inl (fun _ => 0))), (q5, .inl (cy 0, 2000, .inl (fun _ => 0))), (q6, .inl (cy 0, 2000, .inl (fun _ => 0))), (q7, .inl (cy 1, 6, .inr (.inl (fun _ => 0))))] : va_W) := by rw [eL7, k6f]; rfl
  have k8f : L8 = ([(q1, .inl (cy 0, 6, .inl (fun _ => 0))), (q2, .inl (cy 0, 6, .inl (fun _ => 0))), (q3, .inl (cy 0, 2000, .inl (fun _ => 0))), (q4, .inl (cy 0, 2000, .inl (fun _ => 0))), (q5, .inl (cy 0, 2000, .inl (fun _ => 0))), (q6, .inl (cy 0, 2000, .inl (fun _ => 0))), (q7, .inl (cy 1, 6, .inr (.inl (fun _ => 0)))), (q8, .inl (cy 1, 200, .inr (.inl (fun _ => 0))))] : va_W) := by rw [eL8, k7f]; rfl
  have k9f : L9 = ([(q1, .inl (cy 0, 6, .inl (fun _ => 0))), (q2, .inl (cy 0, 6, .inl (fun _ => 0))), (q3, .inl (cy 0, 2000, .inl (fun _ => 0))), (q4, .inl (cy 0, 2000, .inl (fun _ => 0))), (q5, .inl (cy 0, 2000, .inl (fun _ => 0))), (q6, .inl (cy 0, 2000, .inl (fun _ => 0))), (q7, .inl (cy 1, 6, .inr (.inl (fun _ => 0)))), (q8, .inl (cy 1, 200, .inr (.inl (fun _ => 0)))), (q9, .inl (cy 2, 400, .inl (fun _ => 0)))] : va_W) := by rw [eL9, k8f]; rfl
  have k10f : L10 = ([(q1, .inl (cy 0, 6, .inl (fun _ => 0))), (q2, .inl (cy 0, 6, .inl (fun _ => 0))), (q3, .inl (cy 0, 2000, .inl (fun _ => 0))), (q4, .inl (cy 0, 2000, .inl (fun _ => 0))), (q5, .inl (cy 0, 2000, .inl (fun _ => 0))), (q6, .inl (cy 0, 2000, .inl (fun _ => 0))), (q7, .inl (cy 1, 6, .inr (.inl (fun _ => 0)))), (q8, .inl (cy 1, 200, .inr (.inl (fun _ => 0)))), (q9, .inl (cy 2, 400, .inl (fun _ => 0))), (q10, .inl (cy 0, 400, .inl (fun _ => 0)))] : va_W) := by rw [eL10, k9f]; rfl
  have k11f : L11 = ([(q1, .inl (cy 0, 6, .inl (fun _ => 0))), (q2, .inl (cy 0, 6, .inl (fun _ => 0))), (q3, .inl (cy 0, 2000, .inl (fun _ => 0))), (q4, .inl (cy 0, 2000, .inl (fun _ => 0))), (q5, .inl (cy 0, 2000, .inl (fun _ => 0))), (q6, .inl (cy 0, 2000, .inl (fun _ => 0))), (q7, .inl (cy 1, 6, .inr (.inl (fun _ => 0)))), (q8, .inl (cy 1, 200, .inr (.inl (fun _ => 0)))), (q9, .inl (cy 2, 400, .inl (fun _ => 0))), (q10, .inl (cy 0, 400, .inl (fun _ => 0))), (q11, .inl (cy 0, 400, .inl (fun _ => 0)))] : va_W) := by rw [eL11, k10f]; rfl
  have k12f : L12 = ([(q1, .inl (cy 0, 6, .inl (fun _ => 0))), (q2, .inl (cy 0, 6, .inl (fun _ => 0))), (q3, .inl (cy 0, 2000, .inl (fun _ => 0))), (q4, .inl (cy 0, 2000, .inl (fun _ => 0))), (q5, .inl (cy 0, 2000, .inl (fun _ => 0))), (q6, .inl (cy 0, 2000, .inl (fun _ => 0))), (q7, .inl (cy 1, 6, .inr (.inl (fun _ => 0)))), (q8, .inl (cy 1, 200, .inr (.inl (fun _ => 0)))), (q9, .inl (cy 2, 400, .inl (fun _ => 0))), (q10, .inl (cy 0, 400, .inl (fun _ => 0))), (q11, .inl (cy 0, 400, .inl (fun _ => 0))), (q12, .inl (cy 0, 400, .inl (fun _ => 0)))] : va_W) := by rw [eL12, k11f]; rfl
  have k13f : L13 = ([(q1, .inl (cy 0, 6, .inl (fun _ => 0))), (q2, .inl (cy 0, 6, .inl (fun _ => 0))), (q3, .inl (cy 0, 2000, .inl (fun _ => 0))), (q4, .inl (cy 0, 2000, .inl (fun _ => 0))), (q5, .inl (cy 0, 2000, .inl (fun _ => 0))), (q6, .inl (cy 0, 2000, .inl (fun _ => 0))), (q7, .inl (cy 1, 6, .inr (.inl (fun _ => 0)))), (q8, .inl (cy 1, 200, .inr (.inl (fun _ => 0)))), (q9, .inl (cy 2, 400, .inl (fun _ => 0))), (q10, .inl (cy 0, 400, .inl (fun _ => 0))), (q11, .inl (cy 0, 400, .inl (fun _ => 0))), (q12, .inl (cy 0, 400, .inl (fun _ => 0))), (q13, .inl (cy 0, 400, .inl (fun _ => 0)))] : va_W) := by rw [eL13, k12f]; rfl
  have k14f : L14 = ([(q1, .inl (cy 0, 6, .inl (fun _ => 0))), (q2, .inl (cy 0, 6, .inl (fun _ => 0))), (q3, .inl (cy 0, 2000, .inl (fun _ => 0))), (q4, .inl (cy 0, 2000, .inl (fun _ => 0))), (q5, .inl (cy 0, 2000, .inl (fun _ => 0))), (q6, .inl (cy 0, 2000, .inl (fun _ => 0))), (q7, .inl (cy 1, 6, .inr (.inl (fun _ => 0)))), (q8, .inl (cy 1, 200, .inr (.inl (fun _ => 0)))), (q9, .inl (cy 2, 400, .inl (fun _ => 0))), (q10, .inl (cy 0, 400, .inl (fun _ => 0))), (q11, .inl (cy 0, 400, .inl (fun _ => 0))), (q12, .inl (cy 0, 400, .inl (fun _ => 0))), (q13, .inl (cy 0, 400, .inl (fun _ => 0))), (q14, .inl (cy 0, 400, .inl (fun _ => 0)))] : va_W) := by rw [eL14, k13f]; rfl
  have k15f : L15 = ([(q1, .inl (cy 0, 6, .inl (fun _ => 0))), (q2, .inl (cy 0, 6, .inl (fun _ => 0))), (q3, .inl (cy 0, 2000, .inl (fun _ => 0))), (q4, .inl (cy 0, 2000, .inl (fun _ => 0))), (q5, .inl (cy 0, 2000, .inl (fun _ => 0))), (q6, .inl (cy 0, 2000, .inl (fun _ => 0))), (q7, .inl (cy 1, 6, .inr (.inl (fun _ => 0)))), (q8, .inl (cy 1, 200, .inr (.inl (fun _ => 0)))), (q9, .inl (cy 2, 400, .inl (fun _ => 0))), (q10, .inl (cy 0, 400, .inl (fun _ => 0))), (q11, .inl (cy 0, 400, .inl (fun _ => 0))), (q12, .inl (cy 0, 400, .inl (fun _ => 0))), (q13, .inl (cy 0, 400, .inl (fun _ => 0))), (q14, .inl (cy 0, 400, .inl (fun _ => 0))), (q15, .inl (cy 0, 400, .inl (fun _ => 0)))] : va_W) := by rw [eL15, k14f]; rfl
  have k16f : L16 = ([(q1, .inl (cy 0, 6, .inl (fun _ => 0))), (q2, .inl (cy 0, 6, .inl (fun _ => 0))), (q3, .inl (cy 0, 2000, .inl (fun _ => 0))), (q4, .inl (cy 0, 2000, .inl (fun _ => 0))), (q5, .inl (cy 0, 2000, .inl (fun _ => 0))), (q6, .inl (cy 0, 2000, .inl (fun _ => 0))), (q7, .inl (cy 1, 6, .inr (.inl (fun _ => 0)))), (q8, .inl (cy 1, 200, .inr (.inl (fun _ => 0)))), (q9, .inl (cy 2, 400, .inl (fun _ => 0))), (q10, .inl (cy 0, 400, .inl (fun _ => 0))), (q11, .inl (cy 0, 400, .inl (fun _ => 0))), (q12, .inl (cy 0, 400, .inl (fun _ => 0))), (q13, .inl (cy 0, 400, .inl (fun _ => 0))), (q14, .inl (cy 0, 400, .inl (fun _ => 0))), (q15, .inl (cy 0, 400, .inl (fun _ => 0))), (q16, .inl (cy 0, 400, .inl (fun _ => 0)))] : va_W) := by rw [eL16, k15f]; rfl
  have k17f : L17 = ([(q1, .inl (cy 0, 6, .inl (fun _ => 0))), (q2, .inl (cy 0, 6, .inl (fun _ => 0))), (q3, .inl (cy 0, 2000, .inl (fun _ => 0))), (q4, .inl (cy 0, 2000, .inl (fun _ => 0))), (q5, .inl (cy 0, 2000, .inl (fun _ => 0))), (q6, .inl (cy 0, 2000, .inl (fun _ => 0))), (q7, .inl (cy 1, 6, .inr (.inl (fun _ => 0)))), (q8, .inl (cy 1, 200, .inr (.inl (fun _ => 0)))), (q9, .inl (cy 2, 400, .inl (fun _ => 0))), (q10, .inl (cy 0, 400, .inl (fun _ => 0))), (q11, .inl (cy 0, 400, .inl (fun _ => 0))), (q12, .inl (cy 0, 400, .inl (fun _ => 0))), (q13, .inl (cy 0, 400, .inl (fun _ => 0))), (q14, .inl (cy 0, 400, .inl (fun _ => 0))), (q15, .inl (cy 0, 400, .inl (fun _ => 0))), (q16, .inl (cy 0, 400, .inl (fun _ => 0))), (q17, .inl (cy 0, 200, .inl (fun _ => 0)))] : va_W) := by rw [eL17, k16f]; rfl
  have k18f : L18 = ([(q1, .inl (cy 0, 6, .inl (fun _ => 0))), (q2, .inl (cy 0, 6, .inl (fun _ => 0))), (q3, .inl (cy 0, 2000, .inl (fun _ => 0))), (q4, .inl (cy 0, 2000, .inl (fun _ => 0))), (q5, .inl (cy 0, 2000, .inl (fun _ => 0))), (q6, .inl (cy 0, 2000, .inl (fun _ => 0))), (q7, .inl (cy 1, 6, .inr (.inl (fun _ => 0)))), (q8, .inl (cy 1, 200, .inr (.inl (fun _ => 0)))), (q9, .inl (cy 2, 400, .inl (fun _ => 0))), (q10, .inl (cy 0, 400, .inl (fun _ => 0))), (q11, .inl (cy 0, 400, .inl (fun _ => 0))), (q12, .inl (cy 0, 400, .inl (fun _ => 0))), (q13, .inl (cy 0, 400, .inl (fun _ => 0))), (q14, .inl (cy 0, 400, .inl (fun _ => 0))), (q15, .inl (cy 0, 400, .inl (fun _ => 0))), (q16, .inl (cy 0, 400, .inl (fun _ => 0))), (q17, .inl (cy 0, 200, .inl (fun _ => 0))), (q18, .inl (cy 0, 200, .inl (fun _ => 0)))] : va_W) := by rw [eL18, k17f]; rfl
  have k19f : L19 = ([(q1, .inl (cy 0, 6, .inl (fun _ => 0))), (q2, .inl (cy 0, 6, .inl (fun _ => 0))), (q3, .inl (cy 0, 2000, .inl (fun _ => 0))), (q4, .inl (cy 0, 2000, .inl (fun _ => 0))), (q5, .inl (cy 0, 2000, .inl (fun _ => 0))), (q6, .inl (cy 0, 2000, .inl (fun _ => 0))), (q7, .inl (cy 1, 6, .inr (.inl (fun _ => 0)))), (q8, .inl (cy 1, 200, .inr (.inl (fun _ => 0)))), (q9, .inl (cy 2, 400, .inl (fun _ => 0))), (q10, .inl (cy 0, 400, .inl (fun _ => 0))), (q11, .inl (cy 0, 400, .inl (fun _ => 0))), (q12, .inl (cy 0, 400, .inl (fun _ => 0))), (q13, .inl (cy 0, 400, .inl (fun _ => 0))), (q14, .inl (cy 0, 400, .inl (fun _ => 0))), (q15, .inl (cy 0, 400, .inl (fun _ => 0))), (q16, .inl (cy 0, 400, .inl (fun _ => 0))), (q17, .inl (cy 0, 200, .inl (fun _ => 0))), (q18, .inl (cy 0, 200, .inl (fun _ => 0))), (q19, .inl (cy 0, 200, .inl (fun _ => 0)))] : va_W) := by rw [eL19, k18f]; rfl
  have k20f : L20 = ([(q1, .inl (cy 0, 6, .inl (fun _ => 0))), (q2, .inl (cy 0, 6, .inl (fun _ => 0))), (q3, .inl (cy 0, 2000, .inl (fun _ => 0))), (q4, .inl (cy 0, 2000, .inl (fun _ => 0))), (q5, .inl (cy 0, 2000, .inl (fun _ => 0))), (q6, .inl (cy 0, 2000, .inl (fun _ => 0))), (q7, .inl (cy 1, 6, .inr (.inl (fun _ => 0)))), (q8, .inl (cy 1, 200, .inr (.inl (fun _ => 0)))), (q9, .inl (cy 2, 400, .inl (fun _ => 0))), (q10, .inl (cy 0, 400, .inl (fun _ => 0))), (q11, .inl (cy 0, 400, .inl (fun _ => 0))), (q12, .inl (cy 0, 400, .inl (fun _ => 0))), (q13, .inl (cy 0, 400, .inl (fun _ => 0))), (q14, .inl (cy 0, 400, .inl (fun _ => 0))), (q15, .inl (cy 0, 400, .inl (fun _ => 0))), (q16, .inl (cy 0, 400, .inl (fun _ => 0))), (q17, .inl (cy 0, 200, .inl (fun _ => 0))), (q18, .inl (cy 0, 200, .inl (fun _ => 0))), (q19, .inl (cy 0, 200, .inl (fun _ => 0))), (q20, .inl (cy 2, 200, .inl (fun _ => 0)))] : va_W) := by rw [eL20, k19f]; rfl
  have k21f : L21 = ([(q1, .inl (cy 0, 6, .inl (fun _ => 0))), (q2, .inl (cy 0, 6, .inl (fun _ => 0))), (q3, .inl (cy 0, 2000, .inl (fun _ => 0))), (q4, .inl (cy 0, 2000, .inl (fun _ => 0))), (q5, .inl (cy 0, 2000, .inl (fun _ => 0))), (q6, .inl (cy 0, 2000, .inl (fun _ => 0))), (q7, .inl (cy 1, 6, .inr (.inl (fun _ => 0)))), (q8, .inl (cy 1, 200, .inr (.inl (fun _ => 0)))), (q9, .inl (cy 2, 400, .inl (fun _ => 0))), (q10, .inl (cy 0, 400, .inl (fun _ => 0))), (q11, .inl (cy 0, 400, .inl (fun _ => 0))), (q12, .inl (cy 0, 400, .inl (fun _ => 0))), (q13, .inl (cy 0, 400, .inl (fun _ => 0))), (q14, .inl (cy 0, 400, .inl (fun _ => 0))), (q15, .inl (cy 0, 400, .inl (fun _ => 0))), (q16, .inl (cy 0, 400, .inl (fun _ => 0))), (q17, .inl (cy 0, 200, .inl (fun _ => 0))), (q18, .inl (cy 0, 200, .inl (fun _ => 0))), (q19, .inl (cy 0, 200, .inl (fun _ => 0))), (q20, .inl (cy 2, 200, .inl (fun _ => 0))), (q21, .inl (cy 0, 60, .inl (fun _ => 0)))] : va_W) := by rw [eL21, k20f]; rfl
  have k22f : L22 = ([(q1, .inl (cy 0, 6, .inl (fun _ => 0))), (q2, .inl (cy 0, 6, .inl (fun _ => 0))), (q3, .inl (cy 0, 2000, .inl (fun _ => 0))), (q4, .inl (cy 0, 2000, .inl (fun _ => 0))), (q5, .inl (cy 0, 2000, .inl (fun _ => 0))), (q6, .inl (cy 0, 2000, .inl (fun _ => 0))), (q7, .inl (cy 1, 6, .inr (.inl (fun _ => 0)))), (q8, .inl (cy 1, 200, .inr (.inl (fun _ => 0)))), (q9, .inl (cy 2, 400, .inl (fun _ => 0))), (q10, .inl (cy 0, 400, .inl (fun _ => 0))), (q11, .inl (cy 0, 400, .inl (fun _ => 0))), (q12, .inl (cy 0, 400, .inl (fun _ => 0))), (q13, .inl (cy 0, 400, .inl (fun _ => 0))), (q14, .inl (cy 0, 400, .inl (fun _ => 0))), (q15, .inl (cy 0, 400, .inl (fun _ => 0))), (q16, .inl (cy 0, 400, .inl (fun _ => 0))), (q17, .inl (cy 0, 200, .inl (fun _ => 0))), (q18, .inl (cy 0, 200, .inl (fun _ => 0))), (q19, .inl (cy 0, 200, .inl (fun _ => 0))), (q20, .inl (cy 2, 200, .inl (fun _ => 0))), (q21, .inl (cy 0, 60, .inl (fun _ => 0))), (q22, .inl (cy 0, 600, .inl (fun _ => 0)))] : va_W) := by rw [eL22, k21f]; rfl
  have k23f : L23 = ([(q1, .inl (cy 0, 6, .inl (fun _ => 0))), (q2, .inl (cy 0, 6, .inl (fun _ => 0))), (q3, .inl (cy 0, 2000, .inl (fun _ => 0))), (q4, .inl (cy 0, 2000, .inl (fun _ => 0))), (q5, .inl (cy 0, 2000, .inl (fun _ => 0))), (q6, .inl (cy 0, 2000, .inl (fun _ => 0))), (q7, .inl (cy 1, 6, .inr (.inl (fun _ => 0)))), (q8, .inl (cy 1, 200, .inr (.inl (fun _ => 0)))), (q9, .inl (cy 2, 400, .inl (fun _ => 0))), (q10, .inl (cy 0, 400, .inl (fun _ => 0))), (q11, .inl (cy 0, 400, .inl (fun _ => 0))), (q12, .inl (cy 0, 400, .inl (fun _ => 0))), (q13, .inl (cy 0, 400, .inl (fun _ => 0))), (q14, .inl (cy 0, 400, .inl (fun _ => 0))), (q15, .inl (cy 0, 400, .inl (fun _ => 0))), (q16, .inl (cy 0, 400, .inl (fun _ => 0))), (q17, .inl (cy 0, 200, .inl (fun _ => 0))), (q18, .inl (cy 0, 200, .inl (fun _ => 0))), (q19, .inl (cy 0, 200, .inl (fun _ => 0))), (q20, .inl (cy 2, 200, .inl (fun _ => 0))), (q21, .inl (cy 0, 60, .inl (fun _ => 0))), (q22, .inl (cy 0, 600, .inl (fun _ => 0))), (q23, .inl (cy 0, 10, .inl (fun _ => 0)))] : va_W) := by rw [eL23, k22f]; rfl
  have k24f : L24 = ([(q1, .inl (cy 0, 6, .inl (fun _ => 0))), (q2, .inl (cy 0, 6, .inl (fun _ => 0))), (q3, .inl (cy 0, 2000, .inl (fun _ => 0))), (q4, .inl (cy 0, 2000, .inl (fun _ => 0))), (q5, .inl (cy 0, 2000, .inl (fun _ => 0))), (q6, .inl (cy 0, 2000, .inl (fun _ => 0))), (q7, .inl (cy 1, 6, .inr (.inl (fun _ => 0)))), (q8, .inl (cy 1, 200, .inr (.inl (fun _ => 0)))), (q9, .inl (cy 2, 400, .inl (fun _ => 0))), (q10, .inl (cy 0, 400, .inl (fun _ => 0))), (q11, .inl (cy 0, 400, .inl (fun _ => 0))), (q12, .inl (cy 0, 400, .inl (fun _ => 0))), (q13, .inl (cy 0, 400, .inl (fun _ => 0))), (q14, .inl (cy 0, 400, .inl (fun _ => 0))), (q15, .inl (cy 0, 400, .inl (fun _ => 0))), (q16, .inl (cy 0, 400, .inl (fun _ => 0))), (q17, .inl (cy 0, 200, .inl (fun _ => 0))), (q18, .inl (cy 0, 200, .inl (fun _ => 0))), (q19, .inl (cy 0, 200, .inl (fun _ => 0))), (q20, .inl (cy 2, 200, .inl (fun _ => 0))), (q21, .inl (cy 0, 60, .inl (fun _ => 0))), (q22, .inl (cy 0, 600, .inl (fun _ => 0))), (q23, .inl (cy 0, 10, .inl (fun _ => 0))), (q24, .inl (cy 0, 10, .inl (fun _ => 0)))] : va_W) := by rw [eL24, k23f]; rfl
  have k25f : L25 = ([(q1, .inl (cy 0, 6, .inl (fun _ => 0))), (q2, .inl (cy 0, 6, .inl (fun _ => 0))), (q3, .inl (cy 0, 2000, .inl (fun _ => 0))), (q4, .inl (cy 0, 2000, .inl (fun _ => 0))), (q5, .inl (cy 0, 2000, .inl (fun _ => 0))), (q6, .inl (cy 0, 2000, .inl (fun _ => 0))), (q7, .inl (cy 1, 6, .inr (.inl (fun _ => 0)))), (q8, .inl (cy 1, 200, .inr (.inl (fun _ => 0)))), (q9, .inl (cy 2, 400, .inl (fun _ => 0))), (q10, .inl (cy 0, 400, .inl (fun _ => 0))), (q11, .inl (cy 0, 400, .inl (fun _ => 0))), (q12, .inl (cy 0, 400, .inl (fun _ => 0))), (q13, .inl (cy 0, 400, .inl (fun _ => 0))), (q14, .inl (cy 0, 400, .inl (fun _ => 0))), (q15, .inl (cy 0, 400, .inl (fun _ => 0))), (q16, .inl (cy 0, 400, .inl (fun _ => 0))), (q17, .inl (cy 0, 200, .inl (fun _ => 0))), (q18, .inl (cy 0, 200, .inl (fun _ => 0))), (q19, .inl (cy 0, 200, .inl (fun _ => 0))), (q20, .inl (cy 2, 200, .inl (fun _ => 0))), (q21, .inl (cy 0, 60, .inl (fun _ => 0))), (q22, .inl (cy 0, 600, .inl (fun _ => 0))), (q23, .inl (cy 0, 10, .inl (fun _ => 0))), (q24, .inl (cy 0, 10, .inl (fun _ => 0))), (q25, .inl (cy 0, 100, .inl (fun _ => 0)))] : va_W) := by rw [eL25, k24f]; rfl
  have k26f : L26 = ([(q1, .inl (cy 0, 6, .inl (fun _ => 0))), (q2, .inl (cy 0, 6, .inl (fun _ => 0))), (q3, .inl (cy 0, 2000, .inl (fun _ => 0))), (q4, .inl (cy 0, 2000, .inl (fun _ => 0))), (q5, .inl (cy 0, 2000, .inl (fun _ => 0))), (q6, .inl (cy 0, 2000, .inl (fun _ => 0))), (q7, .inl (cy 1, 6, .inr (.inl (fun _ => 0)))), (q8, .inl (cy 1, 200, .inr (.inl (fun _ => 0)))), (q9, .inl (cy 2, 400, .inl (fun _ => 0))), (q10, .inl (cy 0, 400, .inl (fun _ => 0))), (q11, .inl (cy 0, 400, .inl (fun _ => 0))), (q12, .inl (cy 0, 400, .inl (fun _ => 0))), (q13, .inl (cy 0, 400, .inl (fun _ => 0))), (q14, .inl (cy 0, 400, .inl (fun _ => 0))), (q15, .inl (cy 0, 400, .inl (fun _ => 0))), (q16, .inl (cy 0, 400, .inl (fun _ => 0))), (q17, .inl (cy 0, 200, .inl (fun _ => 0))), (q18, .inl (cy 0, 200, .inl (fun _ => 0))), (q19, .inl (cy 0, 200, .inl (fun _ => 0))), (q20, .inl (cy 2, 200, .inl (fun _ => 0))), (q21, .inl (cy 0, 60, .inl (fun _ => 0))), (q22, .inl (cy 0, 600, .inl (fun _ => 0))), (q23, .inl (cy 0, 10, .inl (fun _ => 0))), (q24, .inl (cy 0, 10, .inl (fun _ => 0))), (q25, .inl (cy 0, 100, .inl (fun _ => 0))), (q26, .inl (cy 0, 7, .inl (fun _ => 0)))] : va_W) := by rw [eL26, k25f]; rfl
  have k27f : L27 = ([(q1, .inl (cy 0, 6, .inl (fun _ => 0))), (q2, .inl (cy 0, 6, .inl (fun _ => 0))), (q3, .inl (cy 0, 2000, .inl (fun _ => 0))), (q4, .inl (cy 0, 2000, .inl (fun _ => 0))), (q5, .inl (cy 0, 2000, .inl (fun _ => 0))), (q6, .inl (cy 0, 2000, .inl (fun _ => 0))), (q7, .inl (cy 1, 6, .inr (.inl (fun _ => 0)))), (q8, .inl (cy 1, 200, .inr (.inl (fun _ => 0)))), (q9, .inl (cy 2, 400, .inl (fun _ => 0))), (q10, .inl (cy 0, 400, .inl (fun _ => 0))), (q11, .inl (cy 0, 400, .inl (fun _ => 0))), (q12, .inl (cy 0, 400, .inl (fun _ => 0))), (q13, .inl (cy 0, 400, .inl (fun _ => 0))), (q14, .inl (cy 0, 400, .inl (fun _ => 0))), (q15, .inl (cy 0, 400, .inl (fun _ => 0))), (q16, .inl (cy 0, 400, .inl (fun _ => 0))), (q17, .inl (cy 0, 200, .inl (fun _ => 0))), (q18, .inl (cy 0, 200, .inl (fun _ => 0))), (q19, .inl (cy 0, 200, .inl (fun _ => 0))), (q20, .inl (cy 2, 200, .inl (fun _ => 0))), (q21, .inl (cy 0, 60, .inl (fun _ => 0))), (q22, .inl (cy 0, 600, .inl (fun _ => 0))), (q23, .inl (cy 0, 10, .inl (fun _ => 0))), (q24, .inl (cy 0, 10, .inl (fun _ => 0))), (q25, .inl (cy 0, 100, .inl (fun _ => 0))), (q26, .inl (cy 0, 7, .inl (fun _ => 0))), (q27, .inl (cy 0, 8, .inl (fun _ => 0)))] : va_W) := by rw [eL27, k26f]; rfl
  have k28f : L28 = ([(q1, .inl (cy 0, 6, .inl (fun _ => 0))), (q2, .inl (cy 0, 6, .inl (fun _ => 0))), (q3, .inl (cy 0, 2000, .inl (fun _ => 0))), (q4, .inl (cy 0, 2000, .inl (fun _ => 0))), (q5, .inl (cy 0, 2000, .inl (fun _ => 0))), (q6, .inl (cy 0, 2000, .inl (fun _ => 0))), (q7, .inl (cy 1, 6, .inr (.inl (fun _ => 0)))), (q8, .inl (cy 1, 200, .inr (.inl (fun _ => 0)))), (q9, .inl (cy 2, 400, .inl (fun _ => 0))), (q10, .inl (cy 0, 400, .inl (fun _ => 0))), (q11, .inl (cy 0, 400, .inl (fun _ => 0))), (q12, .inl (cy 0, 400, .inl (fun _ => 0))), (q13, .inl (cy 0, 400, .inl (fun _ => 0))), (q14, .inl (cy 0, 400, .inl (fun _ => 0))), (q15, .inl (cy 0, 400, .inl (fun _ => 0))), (q16, .inl (cy 0, 400, .inl (fun _ => 0))), (q17, .inl (cy 0, 200, .inl (fun _ => 0))), (q18, .inl (cy 0, 200, .inl (fun _ => 0))), (q19, .inl (cy 0, 200, .inl (fun _ => 0))), (q20, .inl (cy 2, 200, .inl (fun _ => 0))), (q21, .inl (cy 0, 60, .inl (fun _ => 0))), (q22, .inl (cy 0, 600, .inl (fun _ => 0))), (q23, .inl (cy 0, 10, .inl (fun _ => 0))), (q24, .inl (cy 0, 10, .inl (fun _ => 0))), (q25, .inl (cy 0, 100, .inl (fun _ => 0))), (q26, .inl (cy 0, 7, .inl (fun _ => 0))), (q27, .inl (cy 0, 8, .inl (fun _ => 0))), (q28, .inl (cy 0, 8, .inl (fun _ => 0)))] : va_W) := by rw [eL28, k27f]; rfl
  have k29f : L29 = ([(q1, .inl (cy 0, 6, .inl (fun _ => 0))), (q2, .inl (cy 0, 6, .inl (fun _ => 0))), (q3, .inl (cy 0, 2000, .inl (fun _ => 0))), (q4, .inl (cy 0, 2000, .inl (fun _ => 0))), (q5, .inl (cy 0, 2000, .inl (fun _ => 0))), (q6, .inl (cy 0, 2000, .inl (fun _ => 0))), (q7, .inl (cy 1, 6, .inr (.inl (fun _ => 0)))), (q8, .inl (cy 1, 200, .inr (.inl (fun _ => 0)))), (q9, .inl (cy 2, 400, .inl (fun _ => 0))), (q10, .inl (cy 0, 400, .inl (fun _ => 0))), (q11, .inl (cy 0, 400, .inl (fun _ => 0))), (q12, .inl (cy 0, 400, .inl (fun _ => 0))), (q13, .inl (cy 0, 400, .inl (fun _ => 0))), (q14, .inl (cy 0, 400, .inl (fun _ => 0))), (q15, .inl (cy 0, 400, .inl (fun _ => 0))), (q16, .inl (cy 0, 400, .inl (fun _ => 0))), (q17, .inl (cy 0, 200, .inl (fun _ => 0))), (q18, .inl (cy 0, 200, .inl (fun _ => 0))), (q19, .inl (cy 0, 200, .inl (fun _ => 0))), (q20, .inl (cy 2, 200, .inl (fun _ => 0))), (q21, .inl (cy 0, 60, .inl (fun _ => 0))), (q22, .inl (cy 0, 600, .inl (fun _ => 0))), (q23, .inl (cy 0, 10, .inl (fun _ => 0))), (q24, .inl (cy 0, 10, .inl (fun _ => 0))), (q25, .inl (cy 0, 100, .inl (fun _ => 0))), (q26, .inl (cy 0, 7, .inl (fun _ => 0))), (q27, .inl (cy 0, 8, .inl (fun _ => 0))), (q28, .inl (cy 0, 8, .inl (fun _ => 0))), (q29, .inl (cy 0, 2304, .inl (fun _ => 0)))] : va_W) := by rw [eL29, k28f]; rfl
  have k30f : L30 = ([(q1, .inl (cy 0, 6, .inl (fun _ => 0))), (q2, .inl (cy 0, 6, .inl (fun _ => 0))), (q3, .inl (cy 0, 2000, .inl (fun _ => 0))), (q4, .inl (cy 0, 2000, .inl (fun _ => 0))), (q5, .inl (cy 0, 2000, .inl (fun _ => 0))), (q6, .inl (cy 0, 2000, .inl (fun _ => 0))), (q7, .inl (cy 1, 6, .inr (.inl (fun _ => 0)))), (q8, .inl (cy 1, 200, .inr (.inl (fun _ => 0)))), (q9, .inl (cy 2, 400, .inl (fun _ => 0))), (q10, .inl (cy 0, 400, .inl (fun _ => 0))), (q11, .inl (cy 0, 400, .inl (fun _ => 0))), (q12, .inl (cy 0, 400, .inl (fun _ => 0))), (q13, .inl (cy 0, 400, .inl (fun _ => 0))), (q14, .inl (cy 0, 400, .inl (fun _ => 0))), (q15, .inl (cy 0, 400, .inl (fun _ => 0))), (q16, .inl (cy 0, 400, .inl (fun _ => 0))), (q17, .inl (cy 0, 200, .inl (fun _ => 0))), (q18, .inl (cy 0, 200, .inl (fun _ => 0))), (q19, .inl (cy 0, 200, .inl (fun _ => 0))), (q20, .inl (cy 2, 200, .inl (fun _ => 0))), (q21, .inl (cy 0, 60, .inl (fun _ => 0))), (q22, .inl (cy 0, 600, .inl (fun _ => 0))), (q23, .inl (cy 0, 10, .inl (fun _ => 0))), (q24, .inl (cy 0, 10, .inl (fun _ => 0))), (q25, .inl (cy 0, 100, .inl (fun _ => 0))), (q26, .inl (cy 0, 7, .inl (fun _ => 0))), (q27, .inl (cy 0, 8, .inl (fun _ => 0))), (q28, .inl (cy 0, 8, .inl (fun _ => 0))), (q29, .inl (cy 0, 2304, .inl (fun _ => 0))), (q30, .inl (cy 0, 10, .inl (fun _ => 0)))] : va_W) := by rw [eL30, k29f]; rfl
  have k31f : L31 = ([(q1, .inl (cy 0, 6, .inl (fun _ => 0))), (q2, .inl (cy 0, 6, .inl (fun _ => 0))), (q3, .inl (cy 0, 2000, .inl (fun _ => 0))), (q4, .inl (cy 0, 2000, .inl (fun _ => 0))), (q5, .inl (cy 0, 2000, .inl (fun _ => 0))), (q6, .inl (cy 0, 2000, .inl (fun _ => 0))), (q7, .inl (cy 1, 6, .inr (.inl (fun _ => 0)))), (q8, .inl (cy 1, 200, .inr (.inl (fun _ => 0)))), (q9, .inl (cy 2, 400, .inl (fun _ => 0))), (q10, .inl (cy 0, 400, .inl (fun _ => 0))), (q11, .inl (cy 0, 400, .inl (fun _ => 0))), (q12, .inl (cy 0, 400, .inl (fun _ => 0))), (q13, .inl (cy 0, 400, .inl (fun _ => 0))), (q14, .inl (cy 0, 400, .inl (fun _ => 0))), (q15, .inl (cy 0, 400, .inl (fun _ => 0))), (q16, .inl (cy 0, 400, .inl (fun _ => 0))), (q17, .inl (cy 0, 200, .inl (fun _ => 0))), (q18, .inl (cy 0, 200, .inl (fun _ => 0))), (q19, .inl (cy 0, 200, .inl (fun _ => 0))), (q20, .inl (cy 2, 200, .inl (fun _ => 0))), (q21, .inl (cy 0, 60, .inl (fun _ => 0))), (q22, .inl (cy 0, 600, .inl (fun _ => 0))), (q23, .inl (cy 0, 10, .inl (fun _ => 0))), (q24, .inl (cy 0, 10, .inl (fun _ => 0))), (q25, .inl (cy 0, 100, .inl (fun _ => 0))), (q26, .inl (cy 0, 7, .inl (fun _ => 0))), (q27, .inl (cy 0, 8, .inl (fun _ => 0))), (q28, .inl (cy 0, 8, .inl (fun _ => 0))), (q29, .inl (cy 0, 2304, .inl (fun _ => 0))), (q30, .inl (cy 0, 10, .inl (fun _ => 0))), (q31, .inl (cy 0, 10, .inl (fun _ => 0)))] : va_W) := by rw [eL31, k30f]; rfl
  have k32f : L32 = ([(q1, .inl (cy 0, 6, .inl (fun _ => 0))), (q2, .inl (cy 0, 6, .inl (fun _ => 0))), (q3, .inl (cy 0, 2000, .inl (fun _ => 0))), (q4, .inl (cy 0, 2000, .inl (fun _ => 0))), (q5, .inl (cy 0, 2000, .inl (fun _ => 0))), (q6, .inl (cy 0, 2000, .inl (fun _ => 0))), (q7, .inl (cy 1, 6, .inr (.inl (fun _ => 0)))), (q8, .inl (cy 1, 200, .inr (.inl (fun _ => 0)))), (q9, .inl (cy 2, 400, .inl (fun _ => 0))), (q10, .inl (cy 0, 400, .inl (fun _ => 0))), (q11, .inl (cy 0, 400, .inl (fun _ => 0))), (q12, .inl (cy 0, 400, .inl (fun _ => 0))), (q13, .inl (cy 0, 400, .inl (fun _ => 0))), (q14, .inl (cy 0, 400, .inl (fun _ => 0))), (q15, .inl (cy 0, 400, .inl (fun _ => 0))), (q16, .inl (cy 0, 400, .inl (fun _ => 0))), (q17, .inl (cy 0, 200, .inl (fun _ => 0))), (q18, .inl (cy 0, 200, .inl (fun _ => 0))), (q19, .inl (cy 0, 200, .inl (fun _ => 0))), (q20, .inl (cy 2, 200, .inl (fun _ => 0))), (q21, .inl (cy 0, 60, .inl (fun _ => 0))), (q22, .inl (cy 0, 600, .inl (fun _ => 0))), (q23, .inl (cy 0, 10, .inl (fun _ => 0))), (q24, .inl (cy 0, 10, .inl (fun _ => 0))), (q25, .inl (cy 0, 100, .inl (fun _ => 0))), (q26, .inl (cy 0, 7, .inl (fun _ => 0))), (q27, .inl (cy 0, 8, .inl (fun _ => 0))), (q28, .inl (cy 0, 8, .inl (fun _ => 0))), (q29, .inl (cy 0, 2304, .inl (fun _ => 0))), (q30, .inl (cy 0, 10, .inl (fun _ => 0))), (q31, .inl (cy 0, 10, .inl (fun _ => 0))), (q32, .inl (cy 0, 100, .inl (fun _ => 0)))] : va_W) := by rw [eL32, k31f]; rfl
  have k33f : L33 = ([(q1, .inl (cy 0, 6, .inl (fun _ => 0))), (q2, .inl (cy 0, 6, .inl (fun _ => 0))), (q3, .inl (cy 0, 2000, .inl (fun _ => 0))), (q4, .inl (cy 0, 2000, .inl (fun _ => 0))), (q5, .inl (cy 0, 2000, .inl (fun _ => 0))), (q6, .inl (cy 0, 2000, .inl (fun _ => 0))), (q7, .inl (cy 1, 6, .inr (.inl (fun _ => 0)))), (q8, .inl (cy 1, 200, .inr (.inl (fun _ => 0)))), (q9, .inl (cy 2, 400, .inl (fun _ => 0))), (q10, .inl (cy 0, 400, .inl (fun _ => 0))), (q11, .inl (cy 0, 400, .inl (fun _ => 0))), (q12, .inl (cy 0, 400, .inl (fun _ => 0))), (q13, .inl (cy 0, 400, .inl (fun _ => 0))), (q14, .inl (cy 0, 400, .inl (fun _ => 0))), (q15, .inl (cy 0, 400, .inl (fun _ => 0))), (q16, .inl (cy 0, 400, .inl (fun _ => 0))), (q17, .inl (cy 0, 200, .inl (fun _ => 0))), (q18, .inl (cy 0, 200, .inl (fun _ => 0))), (q19, .inl (cy 0, 200, .inl (fun _ => 0))), (q20, .inl (cy 2, 200, .inl (fun _ => 0))), (q21, .inl (cy 0, 60, .inl (fun _ => 0))), (q22, .inl (cy 0, 600, .inl (fun _ => 0))), (q23, .inl (cy 0, 10, .inl (fun _ => 0))), (q24, .inl (cy 0, 10, .inl (fun _ => 0))), (q25, .inl (cy 0, 100, .inl (fun _ => 0))), (q26, .inl (cy 0, 7, .inl (fun _ => 0))), (q27, .inl (cy 0, 8, .inl (fun _ => 0))), (q28, .inl (cy 0, 8, .inl (fun _ => 0))), (q29, .inl (cy 0, 2304, .inl (fun _ => 0))), (q30, .inl (cy 0, 10, .inl (fun _ => 0))), (q31, .inl (cy 0, 10, .inl (fun _ => 0))), (q32, .inl (cy 0, 100, .inl (fun _ => 0))), (q33, .inl (cy 0, 20, .inl (fun _ => 0)))] : va_W) := by rw [eL33, k32f]; rfl
  have k34f : L34 = ([(q1, .inl (cy 0, 6, .inl (fun _ => 0))), (q2, .inl (cy 0, 6, .inl (fun _ => 0))), (q3, .inl (cy 0, 2000, .inl (fun _ => 0))), (q4, .inl (cy 0, 2000, .inl (fun _ => 0))), (q5, .inl (cy 0, 2000, .inl (fun _ => 0))), (q6, .inl (cy 0, 2000, .inl (fun _ => 0))), (q7, .inl (cy 1, 6, .inr (.inl (fun _ => 0)))), (q8, .inl (cy 1, 200, .inr (.inl (fun _ => 0)))), (q9, .inl (cy 2, 400, .inl (fun _ => 0))), (q10, .inl (cy 0, 400, .inl (fun _ => 0))), (q11, .inl (cy 0, 400, .inl (fun _ => 0))), (q12, .inl (cy 0, 400, .inl (fun _ => 0))), (q13, .inl (cy 0, 400, .inl (fun _ => 0))), (q14, .inl (cy 0, 400, .inl (fun _ => 0))), (q15, .inl (cy 0, 400, .inl (fun _ => 0))), (q16, .inl (cy 0, 400, .inl (fun _ => 0))), (q17, .inl (cy 0, 200, .inl (fun _ => 0))), (q18, .inl (cy 0, 200, .inl (fun _ => 0))), (q19, .inl (cy 0, 200, .inl (fun _ => 0))), (q20, .inl (cy 2, 200, .inl (fun _ => 0))), (q21, .inl (cy 0, 60, .inl (fun _ => 0))), (q22, .inl (cy 0, 600, .inl (fun _ => 0))), (q23, .inl (cy 0, 10, .inl (fun _ => 0))), (q24, .inl (cy 0, 10, .inl (fun _ => 0))), (q25, .inl (cy 0, 100, .inl (fun _ => 0))), (q26, .inl (cy 0, 7, .inl (fun _ => 0))), (q27, .inl (cy 0, 8, .inl (fun _ => 0))), (q28, .inl (cy 0, 8, .inl (fun _ => 0))), (q29, .inl (cy 0, 2304, .inl (fun _ => 0))), (q30, .inl (cy 0, 10, .inl (fun _ => 0))), (q31, .inl (cy 0, 10, .inl (fun _ => 0))), (q32, .inl (cy 0, 100, .inl (fun _ => 0))), (q33, .inl (cy 0, 20, .inl (fun _ => 0))), (q34, .inl (cy 0, 20, .inl (fun _ => 0)))] : va_W) := by rw [eL34, k33f]; rfl
  have e1 : zfl (fun c => if c = 0 then h0 else ([h0, q1, q2, q3, q4, q5, q6, q7, q8, q9, q10, q11, q12, q13, q14, q15, q16, q17, q18, q19, q20, q21, q22, q23, q24, q25, q26, q27, q28, q29, q30, q31, q32, q33, q34] : List Nat).getD c 0) (fun _ => 0) (fun _ => 0) zσ0 0 0 [0, 0, 0, 5, 6, 0, 7, 8, 9, 10, 11, 0, 12, 0, 13, 14, 15, 16, 17, 18, 19, 20, 0, 0, 21, 22, 23, 24, 25, 26, 27, 28, 29, 30, 31, 32, 33, 34, 0, 35, 36, 37, 38] = [.int 0, .int 0, .int 0, .ref q1, .ref q2, .int 0, .ref q3, .ref q4, .ref q5, .ref q6, .ref q7, .int 0, .ref q8, .int 0, .ref q9, .ref q10, .ref q11, .ref q12, .ref q13, .ref q14, .ref q15, .ref q16, .int 0, .int 0, .ref q17, .ref q18, .ref q19, .ref q20, .ref q21, .ref q22, .ref q23, .ref q24, .ref q25, .ref q26, .ref q27, .ref q28, .ref q29, .ref q30, .int 0, .ref q31, .ref q32, .ref q33, .ref q34] := by
    simp only [zfl, List.mapIdx_cons, List.mapIdx_nil]
    rfl
  have e2 : zEk cy (fun c => if c = 0 then h0 else ([h0, q1, q2, q3, q4, q5, q6, q7, q8, q9, q10, q11, q12, q13, q14, q15, q16, q17, q18, q19, q20, q21, q22, q23, q24, q25, q26, q27, q28, q29, q30, q31, q32, q33, q34] : List Nat).getD c 0) (fun _ => 0) (fun _ => 0) zσ0 0 (shM 0) = .inr (8, [.int 0, .int 0, .int 0, .ref q1, .ref q2, .int 0, .ref q3, .ref q4, .ref q5, .ref q6, .ref q7, .int 0, .ref q8, .int 0, .ref q9, .ref q10, .ref q11, .ref q12, .ref q13, .ref q14, .ref q15, .ref q16, .int 0, .int 0, .ref q17, .ref q18, .ref q19, .ref q20, .ref q21, .ref q22, .ref q23, .ref q24, .ref q25, .ref q26, .ref q27, .ref q28, .ref q29, .ref q30, .int 0, .ref q31, .ref q32, .ref q33, .ref q34]) := congrArg (fun z => (Sum.inr (8, z) : va_E)) e1
  have key : ∀ (k : Nat) (q : Nat × va_E), (zw cy shM 35 (fun c => if c = 0 then h0 else ([h0, q1, q2, q3, q4, q5, q6, q7, q8, q9, q10, q11, q12, q13, q14, q15, q16, q17, q18, q19, q20, q21, q22, q23, q24, q25, q26, q27, q28, q29, q30, q31, q32, q33, q34] : List Nat).getD c 0) (fun _ => 0) (fun _ => 0) zσ0)[k]? = some q → (((h0, (Sum.inr (8, g34) : va_E)) :: L34) : va_W)[k]? = some q := by
    rw [h34f, k34f]
    clear hP hD h0f h1f h2f h3f h4f h5f h6f h7f h8f h9f h10f h11f h12f h13f h14f h15f h16f h17f h18f h19f h20f h21f h22f h23f h24f h25f h26f h27f h28f h29f h30f h31f h32f h33f h34f k1f k2f k3f k4f k5f k6f k7f k8f k9f k10f k11f k12f k13f k14f k15f k16f k17f k18f k19f k20f k21f k22f k23f k24f k25f k26f k27f k28f k29f k30f k31f k32f k33f k34f
    intro k q hk
    have hkl : k < 35 := by have h := (List.getElem?_eq_some_iff.mp hk).1; rw [zw_len] at h; exact h
    rw [zw0 hkl] at hk
    rw [← hk]
    match k, hkl with
    | 0, _ => rw [e2]; rfl
    | 1, _ => rfl
    | 2, _ => rfl
    | 3, _ => rfl
    | 4, _ => rfl
    | 5, _ => rfl
    | 6, _ => rfl
    | 7, _ => rfl
    | 8, _ => rfl
    | 9, _ => rfl
    | 10, _ => rfl
    | 11, _ => rfl
    | 12, _ => rfl
    | 13, _ => rfl
    | 14, _ => rfl
    | 15, _ => rfl
    | 16, _ => rfl
    | 17, _ => rfl
    | 18, _ => rfl
    | 19, _ => rfl
    | 20, _ => rfl
    | 21, _ => rfl
    | 22, _ => rfl
    | 23, _ => rfl
    | 24, _ => rfl
    | 25, _ => rfl
    | 26, _ => rfl
    | 27, _ => rfl
    | 28, _ => rfl
    | 29, _ => rfl
    | 30, _ => rfl
    | 31, _ => rfl
    | 32, _ => rfl
    | 33, _ => rfl
    | 34, _ => rfl
    | k + 35, h => exact absurd h (by omega)
  exact hE (fun i => ([h0, q1, q2, q3, q4, q5, q6, q7, q8, q9, q10, q11, q12, q13, q14, q15, q16, q17, q18, q19, q20, q21, q22, q23, q24, q25, q26, q27, q28, q29, q30, q31, q32, q33, q34] : List Nat).getD i 0) H locs 295 ls (zpermP (fun k => k) key hP) (zpermD (fun k => k) key (fun i j _ _ h => h) hD) hS dX8_init_295
