set_option maxHeartbeats 4000000 in
set_option maxRecDepth 100000 in
theorem cX4_takeFor_ok (l : Launch) (D : va_G) (cy : Nat → ClassId) (a0 aT aP : Nat → Nat) (N : Nat) (x1 : Int32) (w0 : zS) (rv : Option Nat) (τ : zS) (hf : fX4_takeFor N x1 w0 = some (rv, τ)) : zMq l yX4_takeFor cX4_takeFor 3 (some (.object "CarrierPool$Telling")) rmX4_takeFor D cy shX 38 a0 aT aP w0 [.ref (a0 3), .int x1] (rv.map aT) τ (fun u => u = (aT, aP)) := by
  refine zmet_q (by decide +kernel) rfl (Nat.le_of_ble_eq_true rfl) ?_
  intro p e s m below meth c A Q ls hC hA hZ hl hE
  have hx := hC.1.1
  have hb := hC.1.2.1
  have hl : lv_has ls 3 [(0, .ref (a0 3)), (1, .int x1)] := hl
  unfold fX4_takeFor at hf
  refine lv_iload_n (pc := 0) hx hb dX4_takeFor_0 rfl (lv_at hl 1 rfl) ?_
  refine z_lt0 (pc := 1) (tgt := 12) hC hf dX4_takeFor_1 (by decide) (fun hf => ?_) (fun hf => ?_)
  · refine lv_null (pc := 12) hx hb dX4_takeFor_12 ?_
    refine W.eq (g2 := F0 m 13 ls [va_rf ((none : Option Nat).map aT)]) rfl ?_
    obtain ⟨rfl, rfl⟩ := zinj hf
    exact hE _ _ _ _ _ _ rfl hZ dX4_takeFor_13
  refine lv_iload_n (pc := 4) hx hb dX4_takeFor_4 rfl (lv_at hl 1 rfl) ?_
  refine lv_aload_n (pc := 5) hx hb dX4_takeFor_5 rfl (lv_at hl 0 rfl) ?_
  refine gfX4_25 (pc := 6) hC hZ dX4_takeFor_6 ?_
  refine z_ilt (pc := 9) (tgt := 14) hC hf dX4_takeFor_9 (by decide) (fun hf => ?_) (fun hf => ?_)
  · refine lv_aload_n (pc := 14) hx hb dX4_takeFor_14 rfl (lv_at hl 0 rfl) ?_
    refine gfX4_32 (pc := 15) hC hZ dX4_takeFor_15 ?_
    refine lv_iload_n (pc := 18) hx hb dX4_takeFor_18 rfl (lv_at hl 1 rfl) ?_
    refine kX4_78 (pc := 19) hC hA hZ hf hl.1 (Nat.le_of_ble_eq_true rfl) ⟨Nat.le_of_ble_eq_true rfl, Nat.le_of_ble_eq_true rfl⟩ ⟨Nat.le_refl _, Nat.le_refl _⟩ dX4_takeFor_19 (fun v2 w1 H locs hf hZ => ?_)
    refine lv_lshr (pc := 22) hx hb dX4_takeFor_22 rfl ?_
    refine lv_l2i (pc := 23) hx hb dX4_takeFor_23 rfl ?_
    refine lv_bipush (pc := 24) (v := (15 : Int32)) hx hb dX4_takeFor_24 (by decide) ?_
    refine lv_iand (pc := 26) hx hb dX4_takeFor_26 ?_
    refine lv_istore_n (pc := 27) (lv' := [(2, .int (((w0.2.1 0 3 6) >>> (v2.toInt64 &&& 63)).toInt32 &&& (15 : Int32))), (0, .ref (a0 3)), (1, .int x1)]) hx hb dX4_takeFor_27 rfl hl (by decide) rfl (fun ls hl => ?_)
    refine lv_iload_n (pc := 28) hx hb dX4_takeFor_28 rfl (lv_at hl 0 rfl) ?_
    refine z_ne0 (pc := 29) (tgt := 36) hC hf dX4_takeFor_29 (by decide) (fun hf => ?_) (fun hf => ?_)
    · refine lv_null (pc := 32) hx hb dX4_takeFor_32 ?_
      refine W.eq (g2 := F0 m 33 ls [va_rf ((none : Option Nat).map aT)]) rfl ?_
      refine lv_goto (pc := 33) (tgt := 44) hx hb dX4_takeFor_33 (by decide) ?_
      obtain ⟨rfl, rfl⟩ := zinj hf
      exact hE _ _ _ _ _ _ rfl hZ dX4_takeFor_44
    refine lv_aload_n (pc := 36) hx hb dX4_takeFor_36 rfl (lv_at hl 1 rfl) ?_
    refine lv_bipush (pc := 37) (v := (8 : Int32)) hx hb dX4_takeFor_37 (by decide) ?_
    refine lv_iload_n (pc := 39) hx hb dX4_takeFor_39 rfl (lv_at hl 0 rfl) ?_
    refine lv_isub (pc := 40) hx hb dX4_takeFor_40 ?_
    refine kX4_44 (pc := 41) hC hA hZ hf hl.1 (Nat.le_of_ble_eq_true rfl) ⟨Nat.le_of_ble_eq_true rfl, Nat.le_of_ble_eq_true rfl⟩ ⟨Nat.le_refl _, Nat.le_refl _⟩ dX4_takeFor_41 (fun v4 w3 H locs hf hZ => ?_)
    obtain ⟨rfl, rfl⟩ := zinj hf
    exact hE _ _ _ _ _ _ rfl hZ dX4_takeFor_44
  refine lv_null (pc := 12) hx hb dX4_takeFor_12 ?_
  refine W.eq (g2 := F0 m 13 ls [va_rf ((none : Option Nat).map aT)]) rfl ?_
  obtain ⟨rfl, rfl⟩ := zinj hf
  exact hE _ _ _ _ _ _ rfl hZ dX4_takeFor_13
