set_option maxHeartbeats 4000000 in
set_option maxRecDepth 100000 in
theorem wX3_daySums_8 {p : Program} {l : Launch} {e : Env} {s : State} {m : MethodId} {args : Array Value} {below : List Frame} {meth : Method} {c : Code} {Q : State → Prop} {A : Nat → Prop} {H0 : Heap} {D : va_G} {cy : Nat → ClassId} {a0 aT aP : Nat → Nat} {res : Int64 × zS} {K : Int64 → Int32 → Int32 → zS → Option (Int64 × zS)} (N : Nat) (x1 : Int32) (hC : zC p s m args c RX3 cX3_daySums 6 D cy) (hA : ∀ q, H0.size ≤ q → A q) (hE : zEnd p l e rmX3_daySums s m args below meth c Q D cy shX 38 a0 A H0 res.2 (fun u => u = (aT, aP)) cX3_daySums .lreturn [.long res.1]) (n : Nat) (x2 : Int64) (x4 : Int32) (x5 : Int32) (w0 : zS) {H : Heap} {locs : List Loc} {ls : Array Slot} (hf : lX3_daySums_8 N x1 K n (x2, x4, x5, w0) = some res) (hZ : zW D cy shX 38 a0 aT aP A H0 w0 H locs) (hl : lv_has ls 6 [(0, .ref (a0 1)), (1, .int x1), (2, .long x2), (4, .int x4), (5, .int x5)]) (hK : ∀ x2 : Int64, ∀ x4 : Int32, ∀ x5 : Int32, ∀ (w0 : zS) (H : Heap) (locs : List Loc) (ls : Array Slot), K x2 x4 x5 w0 = some res → zW D cy shX 38 a0 aT aP A H0 w0 H locs → lv_has ls 6 [(0, .ref (a0 1)), (1, .int x1), (2, .long x2), (4, .int x4), (5, .int x5)] → W p l e rmX3_daySums s m args below meth c H locs 0 0 Q (F0 m 48 ls [])) : W p l e rmX3_daySums s m args below meth c H locs 0 0 Q (F0 m 8 ls []) := by
  have hx := hC.1.1
  have hb := hC.1.2.1
  have hf2 : zlp (fun rc s1 => bX3_daySums_8 N x1 K rc s1.1 s1.2.1 s1.2.2.1 s1.2.2.2) n (x2, x4, x5, w0) = some res := hf
  have key := zloop (S := Int64 × Int32 × Int32 × zS) (α := Int64 × zS) (b := fun rc s1 => bX3_daySums_8 N x1 K rc s1.1 s1.2.1 s1.2.2.1 s1.2.2.2) (r := res) (Wd := fun s1 => ∀ (H : Heap) (locs : List Loc) (ls : Array Slot), zW D cy shX 38 a0 aT aP A H0 s1.2.2.2 H locs → lv_has ls 6 [(0, .ref (a0 1)), (1, .int x1), (2, .long s1.1), (4, .int s1.2.1), (5, .int s1.2.2.1)] → W p l e rmX3_daySums s m args below meth c H locs 0 0 Q (F0 m 8 ls []))
  refine key ?_ n (x2, x4, x5, w0) hf2 H locs ls hZ hl
  clear hf hf2 hZ hl key
  rintro rc ⟨x2, x4, x5, w0⟩ ih hf H locs ls hZ hl
  have hf : bX3_daySums_8 N x1 K rc x2 x4 x5 w0 = some res := hf
  have hl : lv_has ls 6 [(0, .ref (a0 1)), (1, .int x1), (2, .long x2), (4, .int x4), (5, .int x5)] := hl
  unfold bX3_daySums_8 at hf
  refine lv_iload (pc := 8) hx hb dX3_daySums_8 (lv_at hl 4 rfl) ?_
  refine lv_bipush (pc := 10) (v := (30 : Int32)) hx hb dX3_daySums_10 (by decide) ?_
  refine z_ige (pc := 12) (tgt := 48) hC hf dX3_daySums_12 (by decide) (fun hf => ?_) (fun hf => ?_)
  · exact hK x2 x4 x5 w0 H locs ls hf hZ (lv_sub hl [0, 1, 2, 3, 4] rfl)
  refine lv_iload (pc := 15) hx hb dX3_daySums_15 (lv_at hl 3 rfl) ?_
  refine lv_aload_n (pc := 17) hx hb dX3_daySums_17 rfl (lv_at hl 0 rfl) ?_
  refine gfX3_21 (pc := 18) hC hZ dX3_daySums_18 ?_
  refine lv_iload_n (pc := 21) hx hb dX3_daySums_21 rfl (lv_at hl 1 rfl) ?_
  refine lv_bipush (pc := 22) (v := (30 : Int32)) hx hb dX3_daySums_22 (by decide) ?_
  refine lv_imul (pc := 24) hx hb dX3_daySums_24 ?_
  refine lv_iload (pc := 25) hx hb dX3_daySums_25 (lv_at hl 4 rfl) ?_
  refine lv_iadd (pc := 27) hx hb dX3_daySums_27 ?_
  refine z_iald (pc := 28) hC hZ (by decide) rfl hf dX3_daySums_28 (fun v1 hf => ?_)
  refine lv_iadd (pc := 29) hx hb dX3_daySums_29 ?_
  refine lv_istore (pc := 30) (lv' := [(4, .int (x4 + v1)), (0, .ref (a0 1)), (1, .int x1), (2, .long x2), (5, .int x5)]) hx hb dX3_daySums_30 hl (by decide) rfl (fun ls hl => ?_)
  refine lv_lload_n (pc := 32) hx hb dX3_daySums_32 rfl (lv_at hl 3 rfl) ?_
  refine lv_iload (pc := 33) hx hb dX3_daySums_33 (lv_at hl 0 rfl) ?_
  refine lv_iconst (pc := 35) (v := (0 : Int32)) hx hb dX3_daySums_35 (by decide) ?_
  refine z_max (pc := 36) hC mkX3_31 hl.1 (Nat.le_of_ble_eq_true rfl) (Nat.le_of_ble_eq_true rfl) ⟨Nat.le_refl _, Nat.le_refl _⟩ dX3_daySums_36 ?_
  refine lv_i2l (pc := 39) hx hb dX3_daySums_39 rfl ?_
  refine lv_ladd (pc := 40) hx hb dX3_daySums_40 ?_
  refine lv_lstore_n (pc := 41) (lv' := [(2, .long (x2 + (if (x4 + v1) < (0 : Int32) then (0 : Int32) else (x4 + v1)).toInt64)), (4, .int (x4 + v1)), (0, .ref (a0 1)), (1, .int x1), (5, .int x5)]) hx hb dX3_daySums_41 rfl hl (by decide) rfl (fun ls hl => ?_)
  refine lv_iinc (pc := 42) (v := (x5 + (1 : Int32))) (lv' := [(5, .int (x5 + (1 : Int32))), (2, .long (x2 + (if (x4 + v1) < (0 : Int32) then (0 : Int32) else (x4 + v1)).toInt64)), (4, .int (x4 + v1)), (0, .ref (a0 1)), (1, .int x1)]) hx hb dX3_daySums_42 hl (k := 4) rfl rfl (by decide) rfl (fun ls hl => ?_)
  refine lv_goto (pc := 45) (tgt := 8) hx hb dX3_daySums_45 (by decide) ?_
  exact ih ((x2 + (if (x4 + v1) < (0 : Int32) then (0 : Int32) else (x4 + v1)).toInt64), (x4 + v1), (x5 + (1 : Int32)), w0) hf H locs ls hZ (lv_sub hl [3, 4, 1, 2, 0] rfl)
set_option maxHeartbeats 4000000 in
set_option maxRecDepth 100000 in
theorem cX3_daySums_ok (l : Launch) (D : va_G) (cy : Nat → ClassId) (a0 aT aP : Nat → Nat) (N : Nat) (x1 : Int32) (w0 : zS) (rv : Int64) (τ : zS) (hf : fX3_daySums N x1 w0 = some (rv, τ)) : zMl l yX3_daySums cX3_daySums 6 (some .long) rmX3_daySums D cy shX 38 a0 aT aP w0 [.ref (a0 1), .int x1] rv τ (fun u => u = (aT, aP)) := by
  refine zmet_l (by decide +kernel) rfl (Nat.le_of_ble_eq_true rfl) ?_
  intro p e s m below meth c A Q ls hC hA hZ hl hE
  have hx := hC.1.1
  have hb := hC.1.2.1
  have hl : lv_has ls 6 [(0, .ref (a0 1)), (1, .int x1)] := hl
  unfold fX3_daySums at hf
  refine lv_lconst (pc := 0) (v := (0 : Int64)) hx hb dX3_daySums_0 (by decide) ?_
  refine lv_lstore_n (pc := 1) (lv' := [(2, .long (0 : Int64)), (0, .ref (a0 1)), (1, .int x1)]) hx hb dX3_daySums_1 rfl hl (by decide) rfl (fun ls hl => ?_)
  refine lv_iconst (pc := 2) (v := (0 : Int32)) hx hb dX3_daySums_2 (by decide) ?_
  refine lv_istore (pc := 3) (lv' := [(4, .int (0 : Int32)), (2, .long (0 : Int64)), (0, .ref (a0 1)), (1, .int x1)]) hx hb dX3_daySums_3 hl (by decide) rfl (fun ls hl => ?_)
  refine lv_iconst (pc := 5) (v := (0 : Int32)) hx hb dX3_daySums_5 (by decide) ?_
  refine lv_istore (pc := 6) (lv' := [(5, .int (0 : Int32)), (4, .int (0 : Int32)), (2, .long (0 : Int64)), (0, .ref (a0 1)), (1, .int x1)]) hx hb dX3_daySums_6 hl (by decide) rfl (fun ls hl => ?_)
  refine wX3_daySums_8 (res := (rv, τ)) N x1 hC hA hE N _ _ _ _ hf hZ (lv_sub hl [3, 4, 2, 1, 0] rfl) (fun y2 y3 y4 w5 H locs ls hf hZ hl => ?_)
  refine lv_lload_n (pc := 48) hx hb dX3_daySums_48 rfl (lv_at hl 2 rfl) ?_
  obtain ⟨rfl, rfl⟩ := zinj hf
  exact hE _ _ _ _ _ _ rfl hZ dX3_daySums_49
section ZK
variable {p : Program} {l : Launch} {e : Env} {R : Room} {s : State} {m : MethodId} {args : Array Value} {below : List Frame} {meth : Method} {c : Code} {H : Heap} {locs : List Loc} {cells slots : Nat} {Q : State → Prop}
variable {pc : Nat} {ls : Array Slot} {rest : List Value} {A : Nat → Prop} {H0 : Heap} {D : va_G} {cy : Nat → ClassId} {a0 aT aP : Nat → Nat} {σ : zS} {cc : ByteArray} {nL : Nat} {α : Type} {res : α}
theorem vkX3_41 : zVk RX3 41 yX3_daySums cX3_daySums 6 (some .long) 1 := ⟨by decide +kernel, by decide +kernel, by decide +kernel, by decide +kernel, by decide +kernel, by decide +kernel⟩
theorem kX3_41 (hC : zC p s m args c RX3 cc nL D cy) (hA : ∀ q, H0.size ≤ q → A q) (hZ : zW D cy shX 38 a0 aT aP A H0 σ H locs) {N : Nat} {x1 : Int32} {k : Int64 → zS → Option α} (hf : zbi (fX3_daySums N x1 σ) k = some res) (hsz : ls.size = nL) (hW : (rest.map fun v => v.category).sum ≤ 8) (hR : rmX3_daySums.frames + 1 ≤ R.frames ∧ 8 + (6 + 11) + rmX3_daySums.locals ≤ R.locals) (hcs : cells ≤ R.cells ∧ slots ≤ R.slots) (hdg : decode cc pc = .ok (.invokevirtual 41, 3)) (kk : ∀ (v : Int64) (τ : zS) (H1 : Heap) (locs1 : List Loc), k v τ = some res → zW D cy shX 38 a0 aT aP A H0 τ H1 locs1 → W p l e R s m args below meth c H1 locs1 cells slots Q (F0 m (pc + 3) ls (.long v :: rest))) : W p l e R s m args below meth c H locs cells slots Q (F0 m pc ls (.int x1 :: .ref (a0 1) :: rest)) := by
  cases hq : fX3_daySums N x1 σ with
  | none => rw [hq] at hf; cases hf
  | some q =>
    rw [hq] at hf
    exact zcalll hA hZ (zrun hC hZ vkX3_41 rfl (zw0 (by decide)) (cX3_daySums_ok l D cy a0 aT aP N x1 σ q.1 q.2 hq H.size) hR rfl hsz rfl hW hcs hdg) (fun u H1 locs1 hU hZ1 => by subst hU; exact kk q.1 q.2 H1 locs1 hf hZ1)
end ZK
set_option maxHeartbeats 4000000 in
set_option maxRecDepth 100000 in
theorem wX3_feesOfMonth_c7_15 {p : Program} {l : Launch} {e : Env} {s : State} {m : MethodId} {args : Array Value} {below : List Frame} {meth : Method} {c : Code} {Q : State → Prop} {A : Nat → Prop} {H0 : Heap} {D : va_G} {cy : Nat → ClassId} {a0 aT aP : Nat → Nat} {res : Int64 × zS} {K : Int64 → Int32 → zS → Option (Int64 × zS)} (N : Nat) (x1 : Int32) (x2 : Int32) (hC : zC p s m args c RX3 cX3_feesOfMonth 7 D cy) (hA : ∀ q, H0.size ≤ q → A q) (hE : zEnd p l e rmX3_feesOfMonth_c7 s m args below meth c Q D cy shX 38 a0 A H0 res.2 (fun u => u = (aT, aP)) cX3_feesOfMonth .lreturn [.long res.1]) (n : Nat) (x4 : Int64) (x6 : Int32) (w0 : zS) {H : Heap} {locs : List Loc} {ls : Array Slot} (hf : lX3_feesOfMonth_c7_15 N x1 x2 K n (x4, x6, w0) = some res) (hZ : zW D cy shX 38 a0 aT aP A H0 w0 H locs) (hl : lv_has ls 7 [(0, .ref (a0 1)), (1, .int x1), (2, .int x2), (3, .ref (a0 7)), (4, .long x4), (6, .int x6)]) (hK : ∀ x4 : Int64, ∀ x6 : Int32, ∀ (w0 : zS) (H : Heap) (locs : List Loc) (ls : Array Slot), K x4 x6 w0 = some res → zW D cy shX 38 a0 aT aP A H0 w0 H locs → lv_has ls 7 [(0, .ref (a0 1)), (1, .int x1), (2, .int x2), (3, .ref (a0 7)), (4, .long x4), (6, .int x6)] → W p l e rmX3_feesOfMonth_c7 s m args below meth c H locs 0 0 Q (F0 m 52 ls [])) : W p l e rmX3_feesOfMonth_c7 s m args below meth c H locs 0 0 Q (F0 m 15 ls []) := by
  have hx := hC.1.1
  have hb := hC.1.2.1
  have hf2 : zlp (fun rc s1 => bX3_feesOfMonth_c7_15 N x1 x2 K rc s1.1 s1.2.1 s1.2.2) n (x4, x6, w0) = some res := hf
  have key := zloop (S := Int64 × Int32 × zS) (α := Int64 × zS) (b := fun rc s1 => bX3_feesOfMonth_c7_15 N x1 x2 K rc s1.1 s1.2.1 s1.2.2) (r := res) (Wd := fun s1 => ∀ (H : Heap) (locs : List Loc) (ls : Array Slot), zW D cy shX 38 a0 aT aP A H0 s1.2.2 H locs → lv_has ls 7 [(0, .ref (a0 1)), (1, .int x1), (2, .int x2), (3, .ref (a0 7)), (4, .long s1.1), (6, .int s1.2.1)] → W p l e rmX3_feesOfMonth_c7 s m args below meth c H locs 0 0 Q (F0 m 15 ls []))
  refine key ?_ n (x4, x6, w0) hf2 H locs ls hZ hl
  clear hf hf2 hZ hl key
  rintro rc ⟨x4, x6, w0⟩ ih hf H locs ls hZ hl
  have hf : bX3_feesOfMonth_c7_15 N x1 x2 K rc x4 x6 w0 = some res := hf
  have hl : lv_has ls 7 [(0, .ref (a0 1)), (1, .int x1), (2, .int x2), (3, .ref (a0 7)), (4, .long x4), (6, .int x6)] := hl
  unfold bX3_feesOfMonth_c7_15 at hf
  refine lv_iload (pc := 15) hx hb dX3_feesOfMonth_15 (lv_at hl 5 rfl) ?_
  refine lv_bipush (pc := 17) (v := (6 : Int32)) hx hb dX3_feesOfMonth_17 (by decide) ?_
  refine z_ige (pc := 19) (tgt := 52) hC hf dX3_feesOfMonth_19 (by decide) (fun hf => ?_) (fun hf => ?_)
  · exact hK x4 x6 w0 H locs ls hf hZ (lv_sub hl [0, 1, 2, 3, 4, 5] rfl)
  refine lv_iload (pc := 22) hx hb dX3_feesOfMonth_22 (lv_at hl 5 rfl) ?_
  refine lv_aload_n (pc := 24) hx hb dX3_feesOfMonth_24 rfl (lv_at hl 3 rfl) ?_
  refine z_alen (pc := 25) (v := (6 : Int32)) hC hZ (by decide) rfl rfl (by decide) dX3_feesOfMonth_25 ?_
  refine z_ige (pc := 26) (tgt := 52) hC hf dX3_feesOfMonth_26 (by decide) (fun hf => ?_) (fun hf => ?_)
  · exact hK x4 x6 w0 H locs ls hf hZ (lv_sub hl [0, 1, 2, 3, 4, 5] rfl)
  refine lv_lload (pc := 29) hx hb dX3_feesOfMonth_29 (lv_at hl 4 rfl) ?_
  refine lv_aload_n (pc := 31) hx hb dX3_feesOfMonth_31 rfl (lv_at hl 0 rfl) ?_
  refine lv_iload (pc := 32) hx hb dX3_feesOfMonth_32 (lv_at hl 5 rfl) ?_
  refine kX3_41 (pc := 34) hC hA hZ hf hl.1 (Nat.le_of_ble_eq_true rfl) ⟨Nat.le_of_ble_eq_true rfl, Nat.le_of_ble_eq_true rfl⟩ ⟨Nat.le_refl _, Nat.le_refl _⟩ dX3_feesOfMonth_34 (fun v3 w2 H locs hf hZ => ?_)
  refine lv_aload_n (pc := 37) hx hb dX3_feesOfMonth_37 rfl (lv_at hl 3 rfl) ?_
  refine lv_iload (pc := 38) hx hb dX3_feesOfMonth_38 (lv_at hl 5 rfl) ?_
  refine z_iald (pc := 40) hC hZ (by decide) rfl hf dX3_feesOfMonth_40 (fun v4 hf => ?_)
  refine lv_i2l (pc := 41) hx hb dX3_feesOfMonth_41 rfl ?_
  refine lv_lmul (pc := 42) hx hb dX3_feesOfMonth_42 ?_
  refine lv_ladd (pc := 43) hx hb dX3_feesOfMonth_43 ?_
  refine lv_lstore (pc := 44) (lv' := [(4, .long (x4 + (v3 * v4.toInt64))), (0, .ref (a0 1)), (1, .int x1), (2, .int x2), (3, .ref (a0 7)), (6, .int x6)]) hx hb dX3_feesOfMonth_44 hl (by decide) rfl (fun ls hl => ?_)
  refine lv_iinc (pc := 46) (v := (x6 + (1 : Int32))) (lv' := [(6, .int (x6 + (1 : Int32))), (4, .long (x4 + (v3 * v4.toInt64))), (0, .ref (a0 1)), (1, .int x1), (2, .int x2), (3, .ref (a0 7))]) hx hb dX3_feesOfMonth_46 hl (k := 5) rfl rfl (by decide) rfl (fun ls hl => ?_)
  refine lv_goto (pc := 49) (tgt := 15) hx hb dX3_feesOfMonth_49 (by decide) ?_
  exact ih ((x4 + (v3 * v4.toInt64)), (x6 + (1 : Int32)), w2) hf H locs ls hZ (lv_sub hl [2, 3, 4, 5, 1, 0] rfl)
set_option maxHeartbeats 4000000 in
set_option maxRecDepth 100000 in
theorem cX3_feesOfMonth_c7_ok (l : Launch) (D : va_G) (cy : Nat → ClassId) (a0 aT aP : Nat → Nat) (N : Nat) (x1 : Int32) (x2 : Int32) (w0 : zS) (rv : Int64) (τ : zS) (hf : fX3_feesOfMonth_c7 N x1 x2 w0 = some (rv, τ)) : zMl l yX3_feesOfMonth cX3_feesOfMonth 7 (some .long) rmX3_feesOfMonth_c7 D cy shX 38 a0 aT aP w0 [.ref (a0 1), .int x1, .int x2, .ref (a0 7)] rv τ (fun u => u = (aT, aP)) := by
  refine zmet_l (by decide +kernel) rfl (Nat.le_of_ble_eq_true rfl) ?_
  intro p e s m below meth c A Q ls hC hA hZ hl hE
  have hx := hC.1.1
  have hb := hC.1.2.1
  have hl : lv_has ls 7 [(0, .ref (a0 1)), (1, .int x1), (2, .int x2), (3, .ref (a0 7))] := hl
  unfold fX3_feesOfMonth_c7 at hf
  refine lv_aload_n (pc := 0) hx hb dX3_feesOfMonth_0 rfl (lv_at hl 0 rfl) ?_
  refine lv_iload_n (pc := 1) hx hb dX3_feesOfMonth_1 rfl (lv_at hl 1 rfl) ?_
  refine lv_iload_n (pc := 2) hx hb dX3_feesOfMonth_2 rfl (lv_at hl 2 rfl) ?_
  refine lv_bipush (pc := 3) (v := (30 : Int32)) hx hb dX3_feesOfMonth_3 (by decide) ?_
  refine lv_imul (pc := 5) hx hb dX3_feesOfMonth_5 ?_
  refine kX3_37 (pc := 6) hC hA hZ hf hl.1 (Nat.le_of_ble_eq_true rfl) ⟨Nat.le_of_ble_eq_true rfl, Nat.le_of_ble_eq_true rfl⟩ ⟨Nat.le_refl _, Nat.le_refl _⟩ dX3_feesOfMonth_6 (fun w1 H locs hf hZ => ?_)
  refine lv_lconst (pc := 9) (v := (0 : Int64)) hx hb dX3_feesOfMonth_9 (by decide) ?_
  refine lv_lstore (pc := 10) (lv' := [(4, .long (0 : Int64)), (0, .ref (a0 1)), (1, .int x1), (2, .int x2), (3, .ref (a0 7))]) hx hb dX3_feesOfMonth_10 hl (by decide) rfl (fun ls hl => ?_)
  refine lv_iconst (pc := 12) (v := (0 : Int32)) hx hb dX3_feesOfMonth_12 (by decide) ?_
  refine lv_istore (pc := 13) (lv' := [(6, .int (0 : Int32)), (4, .long (0 : Int64)), (0, .ref (a0 1)), (1, .int x1), (2, .int x2), (3, .ref (a0 7))]) hx hb dX3_feesOfMonth_13 hl (by decide) rfl (fun ls hl => ?_)
  refine wX3_feesOfMonth_c7_15 (res := (rv, τ)) N x1 x2 hC hA hE N _ _ _ hf hZ (lv_sub hl [2, 3, 4, 5, 1, 0] rfl) (fun y5 y6 w7 H locs ls hf hZ hl => ?_)
  refine lv_lload (pc := 52) hx hb dX3_feesOfMonth_52 (lv_at hl 4 rfl) ?_
  obtain ⟨rfl, rfl⟩ := zinj hf
  exact hE _ _ _ _ _ _ rfl hZ dX3_feesOfMonth_54
section ZK
variable {p : Program} {l : Launch} {e : Env} {R : Room} {s : State} {m : MethodId} {args : Array Value} {below : List Frame} {meth : Method} {c : Code} {H : Heap} {locs : List Loc} {cells slots : Nat} {Q : State → Prop}
variable {pc : Nat} {ls : Array Slot} {rest : List Value} {A : Nat → Prop} {H0 : Heap} {D : va_G} {cy : Nat → ClassId} {a0 aT aP : Nat → Nat} {σ : zS} {cc : ByteArray} {nL : Nat} {α : Type} {res : α}
theorem vkX7_167 : zVk RX7 167 yX3_feesOfMonth cX3_feesOfMonth 7 (some .long) 3 := ⟨by decide +kernel, by decide +kernel, by decide +kernel, by decide +kernel, by decide +kernel, by decide +kernel⟩
theorem kX7_167_X3_feesOfMonth_c7 (hC : zC p s m args c RX7 cc nL D cy) (hA : ∀ q, H0.size ≤ q → A q) (hZ : zW D cy shX 38 a0 aT aP A H0 σ H locs) {N : Nat} {x1 : Int32} {x2 : Int32} {k : Int64 → zS → Option α} (hf : zbi (fX3_feesOfMonth_c7 N x1 x2 σ) k = some res) (hsz : ls.size = nL) (hW : (rest.map fun v => v.category).sum ≤ 8) (hR : rmX3_feesOfMonth_c7.frames + 1 ≤ R.frames ∧ 8 + (7 + 11) + rmX3_feesOfMonth_c7.locals ≤ R.locals) (hcs : cells ≤ R.cells ∧ slots ≤ R.slots) (hdg : decode cc pc = .ok (.invokevirtual 167, 3)) (kk : ∀ (v : Int64) (τ : zS) (H1 : Heap) (locs1 : List Loc), k v τ = some res → zW D cy shX 38 a0 aT aP A H0 τ H1 locs1 → W p l e R s m args below meth c H1 locs1 cells slots Q (F0 m (pc + 3) ls (.long v :: rest))) : W p l e R s m args below meth c H locs cells slots Q (F0 m pc ls (.ref (a0 7) :: .int x2 :: .int x1 :: .ref (a0 1) :: rest)) := by
  cases hq : fX3_feesOfMonth_c7 N x1 x2 σ with
  | none => rw [hq] at hf; cases hf
  | some q =>
    rw [hq] at hf
    exact zcalll hA hZ (zrun hC hZ vkX7_167 rfl (zw0 (by decide)) (cX3_feesOfMonth_c7_ok l D cy a0 aT aP N x1 x2 σ q.1 q.2 hq H.size) hR rfl hsz rfl hW hcs hdg) (fun u H1 locs1 hU hZ1 => by subst hU; exact kk q.1 q.2 H1 locs1 hf hZ1)
end ZK
set_option maxHeartbeats 4000000 in
set_option maxRecDepth 100000 in
theorem cX7_fees_ok (l : Launch) (D : va_G) (cy : Nat → ClassId) (a0 aT aP : Nat → Nat) (N : Nat) (x1 : Int32) (x2 : Int32) (w0 : zS) (rv : Int64) (τ : zS) (hf : fX7_fees N x1 x2 w0 = some (rv, τ)) : zMl l yX7_fees cX7_fees 4 (some .long) rmX7_fees D cy shX 38 a0 aT aP w0 [.ref (a0 0), .int x1, .int x2] rv τ (fun u => u = (aT, aP)) := by
  refine zmet_l (by decide +kernel) rfl (Nat.le_of_ble_eq_true rfl) ?_
  intro p e s m below meth c A Q ls hC hA hZ hl hE
  have hx := hC.1.1
  have hb := hC.1.2.1
  have hl : lv_has ls 4 [(0, .ref (a0 0)), (1, .int x1), (2, .int x2)] := hl
  unfold fX7_fees at hf
  refine lv_aload_n (pc := 0) hx hb dX7_fees_0 rfl (lv_at hl 0 rfl) ?_
  refine lv_iload_n (pc := 1) hx hb dX7_fees_1 rfl (lv_at hl 1 rfl) ?_
  refine lv_iload_n (pc := 2) hx hb dX7_fees_2 rfl (lv_at hl 2 rfl) ?_
  refine kX7_164 (pc := 3) hC hA hZ hf hl.1 (Nat.le_of_ble_eq_true rfl) ⟨Nat.le_of_ble_eq_true rfl, Nat.le_of_ble_eq_true rfl⟩ ⟨Nat.le_refl _, Nat.le_refl _⟩ dX7_fees_3 (fun v2 w1 H locs hf hZ => ?_)
  refine lv_istore_n (pc := 6) (lv' := [(3, .int v2), (0, .ref (a0 0)), (1, .int x1), (2, .int x2)]) hx hb dX7_fees_6 rfl hl (by decide) rfl (fun ls hl => ?_)
  refine lv_iload_n (pc := 7) hx hb dX7_fees_7 rfl (lv_at hl 0 rfl) ?_
  refine z_eq0 (pc := 8) (tgt := 18) hC hf dX7_fees_8 (by decide) (fun hf => ?_) (fun hf => ?_)
  · refine lv_aload_n (pc := 18) hx hb dX7_fees_18 rfl (lv_at hl 1 rfl) ?_
    refine gfX7_35 (pc := 19) hC hZ dX7_fees_19 ?_
    refine lv_iload_n (pc := 22) hx hb dX7_fees_22 rfl (lv_at hl 2 rfl) ?_
    refine lv_iload_n (pc := 23) hx hb dX7_fees_23 rfl (lv_at hl 3 rfl) ?_
    refine lv_aload_n (pc := 24) hx hb dX7_fees_24 rfl (lv_at hl 1 rfl) ?_
    refine gfX7_13 (pc := 25) hC hZ dX7_fees_25 ?_
    refine kX7_167_X3_feesOfMonth_c7 (pc := 28) hC hA hZ hf hl.1 (Nat.le_of_ble_eq_true rfl) ⟨Nat.le_of_ble_eq_true rfl, Nat.le_of_ble_eq_true rfl⟩ ⟨Nat.le_refl _, Nat.le_refl _⟩ dX7_fees_28 (fun v4 w3 H locs hf hZ => ?_)
    obtain ⟨rfl, rfl⟩ := zinj hf
    exact hE _ _ _ _ _ _ rfl hZ dX7_fees_31
  refine lv_aload_n (pc := 11) hx hb dX7_fees_11 rfl (lv_at hl 1 rfl) ?_
  refine lv_iload_n (pc := 12) hx hb dX7_fees_12 rfl (lv_at hl 0 rfl) ?_
  refine kX7_73 (pc := 13) hC hA hZ hf hl.1 (Nat.le_of_ble_eq_true rfl) ⟨Nat.le_of_ble_eq_true rfl, Nat.le_of_ble_eq_true rfl⟩ ⟨Nat.le_refl _, Nat.le_refl _⟩ dX7_fees_13 (fun v6 w5 H locs hf hZ => ?_)
  refine lv_i2l (pc := 16) hx hb dX7_fees_16 rfl ?_
  obtain ⟨rfl, rfl⟩ := zinj hf
  exact hE _ _ _ _ _ _ rfl hZ dX7_fees_17
set_option maxHeartbeats 4000000 in
set_option maxRecDepth 100000 in
theorem wX7_close_43 {p : Program} {l : Launch} {e : Env} {s : State} {m : MethodId} {args : Array Value} {below : List Frame} {meth : Method} {c : Code} {Q : State → Prop} {A : Nat → Prop} {H0 : Heap} {D : va_G} {cy : Nat → ClassId} {a0 aT aP : Nat → Nat} {res : Int32 × zS} {K : Int32 → zS → Option (Int32 × zS)} (N : Nat) (x1 : Int32) (hC : zC p s m args c RX7 cX7_close 3 D cy) (hA : ∀ q, H0.size ≤ q → A q) (hE : zEnd p l e rmX7_close s m args below meth c Q D cy shX 38 a0 A H0 res.2 (fun u => u = (aT, aP)) cX7_close .ireturn [.int res.1]) (n : Nat) (x2 : Int32) (w0 : zS) {H : Heap} {locs : List Loc} {ls : Array Slot} (hf : lX7_close_43 N x1 K n (x2, w0) = some res) (hZ : zW D cy shX 38 a0 aT aP A H0 w0 H locs) (hl : lv_has ls 3 [(0, .ref (a0 0)), (1, .int x1), (2, .int x2)]) (hK : ∀ x2 : Int32, ∀ (w0 : zS) (H : Heap) (locs : List Loc) (ls : Array Slot), K x2 w0 = some res → zW D cy shX 38 a0 aT aP A H0 w0 H locs → lv_has ls 3 [(0, .ref (a0 0)), (1, .int x1), (2, .int x2)] → W p l e rmX7_close s m args below meth c H locs 0 0 Q (F0 m 81 ls [])) : W p l e rmX7_close s m args below meth c H locs 0 0 Q (F0 m 43 ls []) := by
  have hx := hC.1.1
  have hb := hC.1.2.1
  have hf2 : zlp (fun rc s1 => bX7_close_43 N x1 K rc s1.1 s1.2) n (x2, w0) = some res := hf
  have key := zloop (S := Int32 × zS) (α := Int32 × zS) (b := fun rc s1 => bX7_close_43 N x1 K rc s1.1 s1.2) (r := res) (Wd := fun s1 => ∀ (H : Heap) (locs : List Loc) (ls : Array Slot), zW D cy shX 38 a0 aT aP A H0 s1.2 H locs → lv_has ls 3 [(0, .ref (a0 0)), (1, .int x1), (2, .int s1.1)] → W p l e rmX7_close s m args below meth c H locs 0 0 Q (F0 m 43 ls []))
  refine key ?_ n (x2, w0) hf2 H locs ls hZ hl
  clear hf hf2 hZ hl key
  rintro rc ⟨x2, w0⟩ ih hf H locs ls hZ hl
  have hf : bX7_close_43 N x1 K rc x2 w0 = some res := hf
  have hl : lv_has ls 3 [(0, .ref (a0 0)), (1, .int x1), (2, .int x2)] := hl
  unfold bX7_close_43 at hf
  refine lv_iload_n (pc := 43) hx hb dX7_close_43 rfl (lv_at hl 2 rfl) ?_
  refine lv_aload_n (pc := 44) hx hb dX7_close_44 rfl (lv_at hl 0 rfl) ?_
  refine gfX7_64 (pc := 45) hC hZ dX7_close_45 ?_
  refine z_ige (pc := 48) (tgt := 81) hC hf dX7_close_48 (by decide) (fun hf => ?_) (fun hf => ?_)
  · exact hK x2 w0 H locs ls hf hZ (lv_sub hl [0, 1, 2] rfl)
  refine lv_aload_n (pc := 51) hx hb dX7_close_51 rfl (lv_at hl 0 rfl) ?_
  refine gfX7_28 (pc := 52) hC hZ dX7_close_52 ?_
  refine lv_iload_n (pc := 55) hx hb dX7_close_55 rfl (lv_at hl 2 rfl) ?_
  refine lv_bipush (pc := 56) (v := (20 : Int32)) hx hb dX7_close_56 (by decide) ?_
  refine lv_imul (pc := 58) hx hb dX7_close_58 ?_
  refine lv_iload_n (pc := 59) hx hb dX7_close_59 rfl (lv_at hl 1 rfl) ?_
  refine lv_iadd (pc := 60) hx hb dX7_close_60 ?_
  refine lv_aload_n (pc := 61) hx hb dX7_close_61 rfl (lv_at hl 0 rfl) ?_
  refine gfX7_35 (pc := 62) hC hZ dX7_close_62 ?_
  refine lv_iload_n (pc := 65) hx hb dX7_close_65 rfl (lv_at hl 2 rfl) ?_
  refine lv_iload_n (pc := 66) hx hb dX7_close_66 rfl (lv_at hl 1 rfl) ?_
  refine lv_aload_n (pc := 67) hx hb dX7_close_67 rfl (lv_at hl 0 rfl) ?_
  refine gfX7_13 (pc := 68) hC hZ dX7_close_68 ?_
  refine kX7_167_X3_feesOfMonth_c7 (pc := 71) hC hA hZ hf hl.1 (Nat.le_of_ble_eq_true rfl) ⟨Nat.le_of_ble_eq_true rfl, Nat.le_of_ble_eq_true rfl⟩ ⟨Nat.le_refl _, Nat.le_refl _⟩ dX7_close_71 (fun v2 w1 H locs hf hZ => ?_)
  refine z_last (pc := 74) hC hZ (by decide) rfl hf dX7_close_74 (fun w3 H locs hf hZ => ?_)
  refine lv_iinc (pc := 75) (v := (x2 + (1 : Int32))) (lv' := [(2, .int (x2 + (1 : Int32))), (0, .ref (a0 0)), (1, .int x1)]) hx hb dX7_close_75 hl (k := 2) rfl rfl (by decide) rfl (fun ls hl => ?_)
  refine lv_goto (pc := 78) (tgt := 43) hx hb dX7_close_78 (by decide) ?_
  exact ih ((x2 + (1 : Int32)), w3) hf H locs ls hZ (lv_sub hl [1, 2, 0] rfl)
set_option maxHeartbeats 4000000 in
set_option maxRecDepth 100000 in
theorem cX7_close_ok (l : Launch) (D : va_G) (cy : Nat → ClassId) (a0 aT aP : Nat → Nat) (N : Nat)  (w0 : zS) (rv : Int32) (τ : zS) (hf : fX7_close N  w0 = some (rv, τ)) : zMi l yX7_close cX7_close 3 (some .int) rmX7_close D cy shX 38 a0 aT aP w0 [.ref (a0 0)] rv τ (fun u => u = (aT, aP)) := by
  refine zmet_i (by decide +kernel) (Or.inl rfl) (Nat.le_of_ble_eq_true rfl) ?_
  intro p e s m below meth c A Q ls hC hA hZ hl hE
  have hx := hC.1.1
  have hb := hC.1.2.1
  have hl : lv_has ls 3 [(0, .ref (a0 0))] := hl
  unfold fX7_close at hf
  refine lv_aload_n (pc := 0) hx hb dX7_close_0 rfl (lv_at hl 0 rfl) ?_
  refine gfX7_35 (pc := 1) hC hZ dX7_close_1 ?_
  refine gfX7_171 (pc := 4) hC hZ dX7_close_4 ?_
  refine lv_istore_n (pc := 7) (lv' := [(1, .int (w0.1 0 1 5)), (0, .ref (a0 0))]) hx hb dX7_close_7 rfl hl (by decide) rfl (fun ls hl => ?_)
  refine lv_iload_n (pc := 8) hx hb dX7_close_8 rfl (lv_at hl 0 rfl) ?_
  refine lv_bipush (pc := 9) (v := (20 : Int32)) hx hb dX7_close_9 (by decide) ?_
  refine z_ilt (pc := 11) (tgt := 21) hC hf dX7_close_11 (by decide) (fun hf => ?_) (fun hf => ?_)
  · refine lv_iload_n (pc := 21) hx hb dX7_close_21 rfl (lv_at hl 0 rfl) ?_
    refine lv_iconst (pc := 22) (v := (1 : Int32)) hx hb dX7_close_22 (by decide) ?_
    refine lv_iadd (pc := 23) hx hb dX7_close_23 ?_
    refine lv_bipush (pc := 24) (v := (30 : Int32)) hx hb dX7_close_24 (by decide) ?_
    refine lv_imul (pc := 26) hx hb dX7_close_26 ?_
    refine lv_aload_n (pc := 27) hx hb dX7_close_27 rfl (lv_at hl 1 rfl) ?_
    refine gfX7_60 (pc := 28) hC hZ dX7_close_28 ?_
    refine z_ile (pc := 31) (tgt := 41) hC hf dX7_close_31 (by decide) (fun hf => ?_) (fun hf => ?_)
    · refine lv_iconst (pc := 41) (v := (0 : Int32)) hx hb dX7_close_41 (by decide) ?_
      refine lv_istore_n (pc := 42) (lv' := [(2, .int (0 : Int32)), (1, .int (w0.1 0 1 5)), (0, .ref (a0 0))]) hx hb dX7_close_42 rfl hl (by decide) rfl (fun ls hl => ?_)
      refine wX7_close_43 (res := (rv, τ)) N (w0.1 0 1 5) hC hA hE N _ _ hf hZ (lv_sub hl [2, 1, 0] rfl) (fun y4 w5 H locs ls hf hZ hl => ?_)
      refine lv_aload_n (pc := 81) hx hb dX7_close_81 rfl (lv_at hl 0 rfl) ?_
      refine gfX7_35 (pc := 82) hC hZ dX7_close_82 ?_
      refine lv_dup (pc := 85) hx hb dX7_close_85 rfl ?_
      refine gfX7_171 (pc := 86) hC hZ dX7_close_86 ?_
      refine lv_iconst (pc := 89) (v := (1 : Int32)) hx hb dX7_close_89 (by decide) ?_
      refine lv_iadd (pc := 90) hx hb dX7_close_90 ?_
      refine pfX7_171 (pc := 91) hC hZ hf dX7_close_91 (fun w6 H locs hf hZ => ?_)
      refine lv_iload_n (pc := 94) hx hb dX7_close_94 rfl (lv_at hl 1 rfl) ?_
      obtain ⟨rfl, rfl⟩ := zinj hf
      exact hE _ _ _ _ _ _ rfl hZ dX7_close_95
    refine lv_aload_n (pc := 34) hx hb dX7_close_34 rfl (lv_at hl 1 rfl) ?_
    refine lv_bipush (pc := 35) (v := (-3 : Int32)) hx hb dX7_close_35 (by decide) ?_
    refine kX7_73 (pc := 37) hC hA hZ hf hl.1 (Nat.le_of_ble_eq_true rfl) ⟨Nat.le_of_ble_eq_true rfl, Nat.le_of_ble_eq_true rfl⟩ ⟨Nat.le_refl _, Nat.le_refl _⟩ dX7_close_37 (fun v8 w7 H locs hf hZ => ?_)
    obtain ⟨rfl, rfl⟩ := zinj hf
    exact hE _ _ _ _ _ _ rfl hZ dX7_close_40
  refine lv_aload_n (pc := 14) hx hb dX7_close_14 rfl (lv_at hl 1 rfl) ?_
  refine lv_bipush (pc := 15) (v := (-6 : Int32)) hx hb dX7_close_15 (by decide) ?_
  refine kX7_73 (pc := 17) hC hA hZ hf hl.1 (Nat.le_of_ble_eq_true rfl) ⟨Nat.le_of_ble_eq_true rfl, Nat.le_of_ble_eq_true rfl⟩ ⟨Nat.le_refl _, Nat.le_refl _⟩ dX7_close_17 (fun v10 w9 H locs hf hZ => ?_)
  obtain ⟨rfl, rfl⟩ := zinj hf
  exact hE _ _ _ _ _ _ rfl hZ dX7_close_20
