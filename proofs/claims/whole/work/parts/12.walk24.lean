set_option maxHeartbeats 4000000 in
set_option maxRecDepth 100000 in
theorem wX8_turnsOf_5 {p : Program} {l : Launch} {e : Env} {s : State} {m : MethodId} {args : Array Value} {below : List Frame} {meth : Method} {c : Code} {Q : State → Prop} {A : Nat → Prop} {H0 : Heap} {D : va_G} {cy : Nat → ClassId} {a0 aT aP : Nat → Nat} {res : Int32 × zS} {K : Int32 → Int32 → zS → Option (Int32 × zS)} (N : Nat) (x1 : Int32) (x2 : Int32) (hC : zC p s m args c RX8 cX8_turnsOf 5 D cy) (hA : ∀ q, H0.size ≤ q → A q) (hE : zEnd p l e rmX8_turnsOf s m args below meth c Q D cy shM 35 a0 A H0 res.2 (fun u => u = (aT, aP)) cX8_turnsOf .ireturn [.int res.1]) (n : Nat) (x3 : Int32) (x4 : Int32) (w0 : zS) {H : Heap} {locs : List Loc} {ls : Array Slot} (hf : lX8_turnsOf_5 N x1 x2 K n (x3, x4, w0) = some res) (hZ : zW D cy shM 35 a0 aT aP A H0 w0 H locs) (hl : lv_has ls 5 [(0, .ref (a0 0)), (1, .int x1), (2, .int x2), (3, .int x3), (4, .int x4)]) (hK : ∀ x3 : Int32, ∀ x4 : Int32, ∀ (w0 : zS) (H : Heap) (locs : List Loc) (ls : Array Slot), K x3 x4 w0 = some res → zW D cy shM 35 a0 aT aP A H0 w0 H locs → lv_has ls 5 [(0, .ref (a0 0)), (1, .int x1), (2, .int x2), (3, .int x3), (4, .int x4)] → W p l e rmX8_turnsOf s m args below meth c H locs 0 0 Q (F0 m 66 ls [])) : W p l e rmX8_turnsOf s m args below meth c H locs 0 0 Q (F0 m 5 ls []) := by
  have hx := hC.1.1
  have hb := hC.1.2.1
  have hf2 : zlp (fun rc s1 => bX8_turnsOf_5 N x1 x2 K rc s1.1 s1.2.1 s1.2.2) n (x3, x4, w0) = some res := hf
  have key := zloop (S := Int32 × Int32 × zS) (α := Int32 × zS) (b := fun rc s1 => bX8_turnsOf_5 N x1 x2 K rc s1.1 s1.2.1 s1.2.2) (r := res) (Wd := fun s1 => ∀ (H : Heap) (locs : List Loc) (ls : Array Slot), zW D cy shM 35 a0 aT aP A H0 s1.2.2 H locs → lv_has ls 5 [(0, .ref (a0 0)), (1, .int x1), (2, .int x2), (3, .int s1.1), (4, .int s1.2.1)] → W p l e rmX8_turnsOf s m args below meth c H locs 0 0 Q (F0 m 5 ls []))
  refine key ?_ n (x3, x4, w0) hf2 H locs ls hZ hl
  clear hf hf2 hZ hl key
  rintro rc ⟨x3, x4, w0⟩ ih hf H locs ls hZ hl
  have hf : bX8_turnsOf_5 N x1 x2 K rc x3 x4 w0 = some res := hf
  have hl : lv_has ls 5 [(0, .ref (a0 0)), (1, .int x1), (2, .int x2), (3, .int x3), (4, .int x4)] := hl
  unfold bX8_turnsOf_5 at hf
  refine lv_iload (pc := 5) hx hb dX8_turnsOf_5 (lv_at hl 4 rfl) ?_
  refine lv_aload_n (pc := 7) hx hb dX8_turnsOf_7 rfl (lv_at hl 0 rfl) ?_
  refine gfX8_176 (pc := 8) hC hZ dX8_turnsOf_8 ?_
  refine z_ige (pc := 11) (tgt := 66) hC hf dX8_turnsOf_11 (by decide) (fun hf => ?_) (fun hf => ?_)
  · exact hK x3 x4 w0 H locs ls hf hZ (lv_sub hl [0, 1, 2, 3, 4] rfl)
  refine lv_iload_n (pc := 14) hx hb dX8_turnsOf_14 rfl (lv_at hl 3 rfl) ?_
  refine lv_aload_n (pc := 15) hx hb dX8_turnsOf_15 rfl (lv_at hl 0 rfl) ?_
  refine gfX8_42 (pc := 16) hC hZ dX8_turnsOf_16 ?_
  refine lv_aload_n (pc := 19) hx hb dX8_turnsOf_19 rfl (lv_at hl 0 rfl) ?_
  refine gfX8_60 (pc := 20) hC hZ dX8_turnsOf_20 ?_
  refine lv_iload (pc := 23) hx hb dX8_turnsOf_23 (lv_at hl 4 rfl) ?_
  refine z_iald (pc := 25) hC hZ (by decide) rfl hf dX8_turnsOf_25 (fun v1 hf => ?_)
  refine z_iald (pc := 26) hC hZ (by decide) rfl hf dX8_turnsOf_26 (fun v2 hf => ?_)
  refine lv_iload_n (pc := 27) hx hb dX8_turnsOf_27 rfl (lv_at hl 1 rfl) ?_
  refine z_ine (pc := 28) (tgt := 57) hC hf dX8_turnsOf_28 (by decide) (fun hf => ?_) (fun hf => ?_)
  · refine lv_aload_n (pc := 31) hx hb dX8_turnsOf_31 rfl (lv_at hl 0 rfl) ?_
    refine gfX8_45 (pc := 32) hC hZ dX8_turnsOf_32 ?_
    refine lv_aload_n (pc := 35) hx hb dX8_turnsOf_35 rfl (lv_at hl 0 rfl) ?_
    refine gfX8_60 (pc := 36) hC hZ dX8_turnsOf_36 ?_
    refine lv_iload (pc := 39) hx hb dX8_turnsOf_39 (lv_at hl 4 rfl) ?_
    refine z_iald (pc := 41) hC hZ (by decide) rfl hf dX8_turnsOf_41 (fun v3 hf => ?_)
    refine z_iald (pc := 42) hC hZ (by decide) rfl hf dX8_turnsOf_42 (fun v4 hf => ?_)
    refine lv_iload_n (pc := 43) hx hb dX8_turnsOf_43 rfl (lv_at hl 2 rfl) ?_
    refine z_ine (pc := 44) (tgt := 57) hC hf dX8_turnsOf_44 (by decide) (fun hf => ?_) (fun hf => ?_)
    · refine lv_aload_n (pc := 47) hx hb dX8_turnsOf_47 rfl (lv_at hl 0 rfl) ?_
      refine gfX8_66 (pc := 48) hC hZ dX8_turnsOf_48 ?_
      refine lv_iload (pc := 51) hx hb dX8_turnsOf_51 (lv_at hl 4 rfl) ?_
      refine z_iald (pc := 53) hC hZ (by decide) rfl hf dX8_turnsOf_53 (fun v5 hf => ?_)
      refine lv_goto (pc := 54) (tgt := 58) hx hb dX8_turnsOf_54 (by decide) ?_
      refine lv_iadd (pc := 58) hx hb dX8_turnsOf_58 ?_
      refine lv_istore_n (pc := 59) (lv' := [(3, .int (x3 + v5)), (0, .ref (a0 0)), (1, .int x1), (2, .int x2), (4, .int x4)]) hx hb dX8_turnsOf_59 rfl hl (by decide) rfl (fun ls hl => ?_)
      refine lv_iinc (pc := 60) (v := (x4 + (1 : Int32))) (lv' := [(4, .int (x4 + (1 : Int32))), (3, .int (x3 + v5)), (0, .ref (a0 0)), (1, .int x1), (2, .int x2)]) hx hb dX8_turnsOf_60 hl (k := 4) rfl rfl (by decide) rfl (fun ls hl => ?_)
      refine lv_goto (pc := 63) (tgt := 5) hx hb dX8_turnsOf_63 (by decide) ?_
      exact ih ((x3 + v5), (x4 + (1 : Int32)), w0) hf H locs ls hZ (lv_sub hl [2, 3, 4, 1, 0] rfl)
    refine lv_iconst (pc := 57) (v := (0 : Int32)) hx hb dX8_turnsOf_57 (by decide) ?_
    refine lv_iadd (pc := 58) hx hb dX8_turnsOf_58 ?_
    refine lv_istore_n (pc := 59) (lv' := [(3, .int (x3 + (0 : Int32))), (0, .ref (a0 0)), (1, .int x1), (2, .int x2), (4, .int x4)]) hx hb dX8_turnsOf_59 rfl hl (by decide) rfl (fun ls hl => ?_)
    refine lv_iinc (pc := 60) (v := (x4 + (1 : Int32))) (lv' := [(4, .int (x4 + (1 : Int32))), (3, .int (x3 + (0 : Int32))), (0, .ref (a0 0)), (1, .int x1), (2, .int x2)]) hx hb dX8_turnsOf_60 hl (k := 4) rfl rfl (by decide) rfl (fun ls hl => ?_)
    refine lv_goto (pc := 63) (tgt := 5) hx hb dX8_turnsOf_63 (by decide) ?_
    exact ih ((x3 + (0 : Int32)), (x4 + (1 : Int32)), w0) hf H locs ls hZ (lv_sub hl [2, 3, 4, 1, 0] rfl)
  refine lv_iconst (pc := 57) (v := (0 : Int32)) hx hb dX8_turnsOf_57 (by decide) ?_
  refine lv_iadd (pc := 58) hx hb dX8_turnsOf_58 ?_
  refine lv_istore_n (pc := 59) (lv' := [(3, .int (x3 + (0 : Int32))), (0, .ref (a0 0)), (1, .int x1), (2, .int x2), (4, .int x4)]) hx hb dX8_turnsOf_59 rfl hl (by decide) rfl (fun ls hl => ?_)
  refine lv_iinc (pc := 60) (v := (x4 + (1 : Int32))) (lv' := [(4, .int (x4 + (1 : Int32))), (3, .int (x3 + (0 : Int32))), (0, .ref (a0 0)), (1, .int x1), (2, .int x2)]) hx hb dX8_turnsOf_60 hl (k := 4) rfl rfl (by decide) rfl (fun ls hl => ?_)
  refine lv_goto (pc := 63) (tgt := 5) hx hb dX8_turnsOf_63 (by decide) ?_
  exact ih ((x3 + (0 : Int32)), (x4 + (1 : Int32)), w0) hf H locs ls hZ (lv_sub hl [2, 3, 4, 1, 0] rfl)
set_option maxHeartbeats 4000000 in
set_option maxRecDepth 100000 in
theorem cX8_turnsOf_ok (l : Launch) (D : va_G) (cy : Nat → ClassId) (a0 aT aP : Nat → Nat) (N : Nat) (x1 : Int32) (x2 : Int32) (w0 : zS) (rv : Int32) (τ : zS) (hf : fX8_turnsOf N x1 x2 w0 = some (rv, τ)) : zMi l yX8_turnsOf cX8_turnsOf 5 (some .int) rmX8_turnsOf D cy shM 35 a0 aT aP w0 [.ref (a0 0), .int x1, .int x2] rv τ (fun u => u = (aT, aP)) := by
  refine zmet_i (by decide +kernel) (Or.inl rfl) (Nat.le_of_ble_eq_true rfl) ?_
  intro p e s m below meth c A Q ls hC hA hZ hl hE
  have hx := hC.1.1
  have hb := hC.1.2.1
  have hl : lv_has ls 5 [(0, .ref (a0 0)), (1, .int x1), (2, .int x2)] := hl
  unfold fX8_turnsOf at hf
  refine lv_iconst (pc := 0) (v := (0 : Int32)) hx hb dX8_turnsOf_0 (by decide) ?_
  refine lv_istore_n (pc := 1) (lv' := [(3, .int (0 : Int32)), (0, .ref (a0 0)), (1, .int x1), (2, .int x2)]) hx hb dX8_turnsOf_1 rfl hl (by decide) rfl (fun ls hl => ?_)
  refine lv_iconst (pc := 2) (v := (0 : Int32)) hx hb dX8_turnsOf_2 (by decide) ?_
  refine lv_istore (pc := 3) (lv' := [(4, .int (0 : Int32)), (3, .int (0 : Int32)), (0, .ref (a0 0)), (1, .int x1), (2, .int x2)]) hx hb dX8_turnsOf_3 hl (by decide) rfl (fun ls hl => ?_)
  refine wX8_turnsOf_5 (res := (rv, τ)) N x1 x2 hC hA hE N _ _ _ hf hZ (lv_sub hl [2, 3, 4, 1, 0] rfl) (fun y6 y7 w8 H locs ls hf hZ hl => ?_)
  refine lv_iload_n (pc := 66) hx hb dX8_turnsOf_66 rfl (lv_at hl 3 rfl) ?_
  obtain ⟨rfl, rfl⟩ := zinj hf
  exact hE _ _ _ _ _ _ rfl hZ dX8_turnsOf_67
section ZK
variable {p : Program} {l : Launch} {e : Env} {R : Room} {s : State} {m : MethodId} {args : Array Value} {below : List Frame} {meth : Method} {c : Code} {H : Heap} {locs : List Loc} {cells slots : Nat} {Q : State → Prop}
variable {pc : Nat} {ls : Array Slot} {rest : List Value} {A : Nat → Prop} {H0 : Heap} {D : va_G} {cy : Nat → ClassId} {a0 aT aP : Nat → Nat} {σ : zS} {cc : ByteArray} {nL : Nat} {α : Type} {res : α}
theorem vkX8_186 : zVk RX8 186 yX8_turnsOf cX8_turnsOf 5 (some .int) 2 := ⟨by decide +kernel, by decide +kernel, by decide +kernel, by decide +kernel, by decide +kernel, by decide +kernel⟩
theorem kX8_186 (hC : zC p s m args c RX8 cc nL D cy) (hA : ∀ q, H0.size ≤ q → A q) (hZ : zW D cy shM 35 a0 aT aP A H0 σ H locs) {N : Nat} {x1 : Int32} {x2 : Int32} {k : Int32 → zS → Option α} (hf : zbi (fX8_turnsOf N x1 x2 σ) k = some res) (hsz : ls.size = nL) (hW : (rest.map fun v => v.category).sum ≤ 8) (hR : rmX8_turnsOf.frames + 1 ≤ R.frames ∧ 8 + (5 + 11) + rmX8_turnsOf.locals ≤ R.locals) (hcs : cells ≤ R.cells ∧ slots ≤ R.slots) (hdg : decode cc pc = .ok (.invokevirtual 186, 3)) (kk : ∀ (v : Int32) (τ : zS) (H1 : Heap) (locs1 : List Loc), k v τ = some res → zW D cy shM 35 a0 aT aP A H0 τ H1 locs1 → W p l e R s m args below meth c H1 locs1 cells slots Q (F0 m (pc + 3) ls (.int v :: rest))) : W p l e R s m args below meth c H locs cells slots Q (F0 m pc ls (.int x2 :: .int x1 :: .ref (a0 0) :: rest)) := by
  cases hq : fX8_turnsOf N x1 x2 σ with
  | none => rw [hq] at hf; cases hf
  | some q =>
    rw [hq] at hf
    exact zcalli hA hZ (zrun hC hZ vkX8_186 rfl (zw0 (by decide)) (cX8_turnsOf_ok l D cy a0 aT aP N x1 x2 σ q.1 q.2 hq H.size) hR rfl hsz rfl hW hcs hdg) (fun u H1 locs1 hU hZ1 => by subst hU; exact kk q.1 q.2 H1 locs1 hf hZ1)
end ZK
set_option maxHeartbeats 4000000 in
set_option maxRecDepth 100000 in
theorem cX8_turns_ok (l : Launch) (D : va_G) (cy : Nat → ClassId) (a0 aT aP : Nat → Nat) (N : Nat) (x1 : Int32) (x2 : Int32) (w0 : zS) (rv : Int32) (τ : zS) (hf : fX8_turns N x1 x2 w0 = some (rv, τ)) : zMi l yX8_turns cX8_turns 3 (some .int) rmX8_turns D cy shM 35 a0 aT aP w0 [.ref (a0 0), .int x1, .int x2] rv τ (fun u => u = (aT, aP)) := by
  refine zmet_i (by decide +kernel) (Or.inl rfl) (Nat.le_of_ble_eq_true rfl) ?_
  intro p e s m below meth c A Q ls hC hA hZ hl hE
  have hx := hC.1.1
  have hb := hC.1.2.1
  have hl : lv_has ls 3 [(0, .ref (a0 0)), (1, .int x1), (2, .int x2)] := hl
  unfold fX8_turns at hf
  refine lv_aload_n (pc := 0) hx hb dX8_turns_0 rfl (lv_at hl 0 rfl) ?_
  refine lv_iload_n (pc := 1) hx hb dX8_turns_1 rfl (lv_at hl 1 rfl) ?_
  refine kX8_139 (pc := 2) hC hA hZ hf hl.1 (Nat.le_of_ble_eq_true rfl) ⟨Nat.le_of_ble_eq_true rfl, Nat.le_of_ble_eq_true rfl⟩ ⟨Nat.le_refl _, Nat.le_refl _⟩ dX8_turns_2 (fun v2 w1 H locs hf hZ => ?_)
  refine z_eq0 (pc := 5) (tgt := 25) hC hf dX8_turns_5 (by decide) (fun hf => ?_) (fun hf => ?_)
  · refine lv_aload_n (pc := 25) hx hb dX8_turns_25 rfl (lv_at hl 0 rfl) ?_
    refine lv_iconst (pc := 26) (v := (-1 : Int32)) hx hb dX8_turns_26 (by decide) ?_
    refine kX8_126 (pc := 27) hC hA hZ hf hl.1 (Nat.le_of_ble_eq_true rfl) ⟨Nat.le_of_ble_eq_true rfl, Nat.le_of_ble_eq_true rfl⟩ ⟨Nat.le_refl _, Nat.le_refl _⟩ dX8_turns_27 (fun v4 w3 H locs hf hZ => ?_)
    obtain ⟨rfl, rfl⟩ := zinj hf
    exact hE _ _ _ _ _ _ rfl hZ dX8_turns_30
  refine lv_aload_n (pc := 8) hx hb dX8_turns_8 rfl (lv_at hl 0 rfl) ?_
  refine lv_iload_n (pc := 9) hx hb dX8_turns_9 rfl (lv_at hl 2 rfl) ?_
  refine kX8_143 (pc := 10) hC hA hZ hf hl.1 (Nat.le_of_ble_eq_true rfl) ⟨Nat.le_of_ble_eq_true rfl, Nat.le_of_ble_eq_true rfl⟩ ⟨Nat.le_refl _, Nat.le_refl _⟩ dX8_turns_10 (fun v6 w5 H locs hf hZ => ?_)
  refine z_eq0 (pc := 13) (tgt := 25) hC hf dX8_turns_13 (by decide) (fun hf => ?_) (fun hf => ?_)
  · refine lv_aload_n (pc := 25) hx hb dX8_turns_25 rfl (lv_at hl 0 rfl) ?_
    refine lv_iconst (pc := 26) (v := (-1 : Int32)) hx hb dX8_turns_26 (by decide) ?_
    refine kX8_126 (pc := 27) hC hA hZ hf hl.1 (Nat.le_of_ble_eq_true rfl) ⟨Nat.le_of_ble_eq_true rfl, Nat.le_of_ble_eq_true rfl⟩ ⟨Nat.le_refl _, Nat.le_refl _⟩ dX8_turns_27 (fun v8 w7 H locs hf hZ => ?_)
    obtain ⟨rfl, rfl⟩ := zinj hf
    exact hE _ _ _ _ _ _ rfl hZ dX8_turns_30
  refine lv_aload_n (pc := 16) hx hb dX8_turns_16 rfl (lv_at hl 0 rfl) ?_
  refine lv_iload_n (pc := 17) hx hb dX8_turns_17 rfl (lv_at hl 1 rfl) ?_
  refine lv_iload_n (pc := 18) hx hb dX8_turns_18 rfl (lv_at hl 2 rfl) ?_
  refine kX8_186 (pc := 19) hC hA hZ hf hl.1 (Nat.le_of_ble_eq_true rfl) ⟨Nat.le_of_ble_eq_true rfl, Nat.le_of_ble_eq_true rfl⟩ ⟨Nat.le_refl _, Nat.le_refl _⟩ dX8_turns_19 (fun v10 w9 H locs hf hZ => ?_)
  refine lv_goto (pc := 22) (tgt := 30) hx hb dX8_turns_22 (by decide) ?_
  obtain ⟨rfl, rfl⟩ := zinj hf
  exact hE _ _ _ _ _ _ rfl hZ dX8_turns_30
set_option maxHeartbeats 4000000 in
set_option maxRecDepth 100000 in
theorem wX8_share_30 {p : Program} {l : Launch} {e : Env} {s : State} {m : MethodId} {args : Array Value} {below : List Frame} {meth : Method} {c : Code} {Q : State → Prop} {A : Nat → Prop} {H0 : Heap} {D : va_G} {cy : Nat → ClassId} {a0 aT aP : Nat → Nat} {res : Int32 × zS} {K : Int64 → Int64 → Int32 → zS → Option (Int32 × zS)} (N : Nat) (x1 : Int32) (x2 : Int32) (hC : zC p s m args c RX8 cX8_share 15 D cy) (hA : ∀ q, H0.size ≤ q → A q) (hE : zEnd p l e rmX8_share s m args below meth c Q D cy shM 35 a0 A H0 res.2 (fun u => u = (aT, aP)) cX8_share .ireturn [.int res.1]) (n : Nat) (x3 : Int64) (x5 : Int64) (x7 : Int32) (w0 : zS) {H : Heap} {locs : List Loc} {ls : Array Slot} (hf : lX8_share_30 N x1 x2 K n (x3, x5, x7, w0) = some res) (hZ : zW D cy shM 35 a0 aT aP A H0 w0 H locs) (hl : lv_has ls 15 [(0, .ref (a0 0)), (1, .int x1), (2, .int x2), (3, .long x3), (5, .long x5), (7, .int x7)]) (hK : ∀ x3 : Int64, ∀ x5 : Int64, ∀ x7 : Int32, ∀ (w0 : zS) (H : Heap) (locs : List Loc) (ls : Array Slot), K x3 x5 x7 w0 = some res → zW D cy shM 35 a0 aT aP A H0 w0 H locs → lv_has ls 15 [(0, .ref (a0 0)), (1, .int x1), (2, .int x2), (3, .long x3), (5, .long x5), (7, .int x7)] → W p l e rmX8_share s m args below meth c H locs 0 0 Q (F0 m 74 ls [])) : W p l e rmX8_share s m args below meth c H locs 0 0 Q (F0 m 30 ls []) := by
  have hx := hC.1.1
  have hb := hC.1.2.1
  have hf2 : zlp (fun rc s1 => bX8_share_30 N x1 x2 K rc s1.1 s1.2.1 s1.2.2.1 s1.2.2.2) n (x3, x5, x7, w0) = some res := hf
  have key := zloop (S := Int64 × Int64 × Int32 × zS) (α := Int32 × zS) (b := fun rc s1 => bX8_share_30 N x1 x2 K rc s1.1 s1.2.1 s1.2.2.1 s1.2.2.2) (r := res) (Wd := fun s1 => ∀ (H : Heap) (locs : List Loc) (ls : Array Slot), zW D cy shM 35 a0 aT aP A H0 s1.2.2.2 H locs → lv_has ls 15 [(0, .ref (a0 0)), (1, .int x1), (2, .int x2), (3, .long s1.1), (5, .long s1.2.1), (7, .int s1.2.2.1)] → W p l e rmX8_share s m args below meth c H locs 0 0 Q (F0 m 30 ls []))
  refine key ?_ n (x3, x5, x7, w0) hf2 H locs ls hZ hl
  clear hf hf2 hZ hl key
  rintro rc ⟨x3, x5, x7, w0⟩ ih hf H locs ls hZ hl
  have hf : bX8_share_30 N x1 x2 K rc x3 x5 x7 w0 = some res := hf
  have hl : lv_has ls 15 [(0, .ref (a0 0)), (1, .int x1), (2, .int x2), (3, .long x3), (5, .long x5), (7, .int x7)] := hl
  unfold bX8_share_30 at hf
  refine lv_iload (pc := 30) hx hb dX8_share_30 (lv_at hl 5 rfl) ?_
  refine lv_aload_n (pc := 32) hx hb dX8_share_32 rfl (lv_at hl 0 rfl) ?_
  refine gfX8_115 (pc := 33) hC hZ dX8_share_33 ?_
  refine z_ige (pc := 36) (tgt := 74) hC hf dX8_share_36 (by decide) (fun hf => ?_) (fun hf => ?_)
  · exact hK x3 x5 x7 w0 H locs ls hf hZ (lv_sub hl [0, 1, 2, 3, 4, 5] rfl)
  refine lv_lload_n (pc := 39) hx hb dX8_share_39 rfl (lv_at hl 3 rfl) ?_
  refine lv_aload_n (pc := 40) hx hb dX8_share_40 rfl (lv_at hl 0 rfl) ?_
  refine gfX8_72 (pc := 41) hC hZ dX8_share_41 ?_
  refine lv_bipush (pc := 44) (v := (6 : Int32)) hx hb dX8_share_44 (by decide) ?_
  refine lv_iload (pc := 46) hx hb dX8_share_46 (lv_at hl 5 rfl) ?_
  refine lv_imul (pc := 48) hx hb dX8_share_48 ?_
  refine lv_iload_n (pc := 49) hx hb dX8_share_49 rfl (lv_at hl 2 rfl) ?_
  refine lv_iadd (pc := 50) hx hb dX8_share_50 ?_
  refine z_iald (pc := 51) hC hZ (by decide) rfl hf dX8_share_51 (fun v9 hf => ?_)
  refine lv_i2l (pc := 52) hx hb dX8_share_52 rfl ?_
  refine lv_ladd (pc := 53) hx hb dX8_share_53 ?_
  refine lv_lstore_n (pc := 54) (lv' := [(3, .long (x3 + v9.toInt64)), (0, .ref (a0 0)), (1, .int x1), (2, .int x2), (5, .long x5), (7, .int x7)]) hx hb dX8_share_54 rfl hl (by decide) rfl (fun ls hl => ?_)
  refine lv_lload (pc := 55) hx hb dX8_share_55 (lv_at hl 4 rfl) ?_
  refine lv_aload_n (pc := 57) hx hb dX8_share_57 rfl (lv_at hl 1 rfl) ?_
  refine lv_iload (pc := 58) hx hb dX8_share_58 (lv_at hl 5 rfl) ?_
  refine lv_iload_n (pc := 60) hx hb dX8_share_60 rfl (lv_at hl 3 rfl) ?_
  refine kX8_186 (pc := 61) hC hA hZ hf hl.1 (Nat.le_of_ble_eq_true rfl) ⟨Nat.le_of_ble_eq_true rfl, Nat.le_of_ble_eq_true rfl⟩ ⟨Nat.le_refl _, Nat.le_refl _⟩ dX8_share_61 (fun v11 w10 H locs hf hZ => ?_)
  refine lv_i2l (pc := 64) hx hb dX8_share_64 rfl ?_
  refine lv_ladd (pc := 65) hx hb dX8_share_65 ?_
  refine lv_lstore (pc := 66) (lv' := [(5, .long (x5 + v11.toInt64)), (3, .long (x3 + v9.toInt64)), (0, .ref (a0 0)), (1, .int x1), (2, .int x2), (7, .int x7)]) hx hb dX8_share_66 hl (by decide) rfl (fun ls hl => ?_)
  refine lv_iinc (pc := 68) (v := (x7 + (1 : Int32))) (lv' := [(7, .int (x7 + (1 : Int32))), (5, .long (x5 + v11.toInt64)), (3, .long (x3 + v9.toInt64)), (0, .ref (a0 0)), (1, .int x1), (2, .int x2)]) hx hb dX8_share_68 hl (k := 5) rfl rfl (by decide) rfl (fun ls hl => ?_)
  refine lv_goto (pc := 71) (tgt := 30) hx hb dX8_share_71 (by decide) ?_
  exact ih ((x3 + v9.toInt64), (x5 + v11.toInt64), (x7 + (1 : Int32)), w10) hf H locs ls hZ (lv_sub hl [3, 4, 5, 2, 1, 0] rfl)
set_option maxHeartbeats 4000000 in
set_option maxRecDepth 100000 in
theorem wX8_share_115 {p : Program} {l : Launch} {e : Env} {s : State} {m : MethodId} {args : Array Value} {below : List Frame} {meth : Method} {c : Code} {Q : State → Prop} {A : Nat → Prop} {H0 : Heap} {D : va_G} {cy : Nat → ClassId} {a0 aT aP : Nat → Nat} {res : Int32 × zS} {K : Int64 → Int32 → zS → Option (Int32 × zS)} (N : Nat) (x1 : Int32) (x2 : Int32) (x3 : Int64) (x5 : Int64) (hC : zC p s m args c RX8 cX8_share 15 D cy) (hA : ∀ q, H0.size ≤ q → A q) (hE : zEnd p l e rmX8_share s m args below meth c Q D cy shM 35 a0 A H0 res.2 (fun u => u = (aT, aP)) cX8_share .ireturn [.int res.1]) (n : Nat) (x7 : Int64) (x9 : Int32) (w0 : zS) {H : Heap} {locs : List Loc} {ls : Array Slot} (hf : lX8_share_115 N x1 x2 x3 x5 K n (x7, x9, w0) = some res) (hZ : zW D cy shM 35 a0 aT aP A H0 w0 H locs) (hl : lv_has ls 15 [(0, .ref (a0 0)), (1, .int x1), (2, .int x2), (3, .long x3), (5, .long x5), (7, .long x7), (9, .int x9)]) (hK : ∀ x7 : Int64, ∀ x9 : Int32, ∀ (w0 : zS) (H : Heap) (locs : List Loc) (ls : Array Slot), K x7 x9 w0 = some res → zW D cy shM 35 a0 aT aP A H0 w0 H locs → lv_has ls 15 [(0, .ref (a0 0)), (1, .int x1), (2, .int x2), (3, .long x3), (5, .long x5), (7, .long x7), (9, .int x9)] → W p l e rmX8_share s m args below meth c H locs 0 0 Q (F0 m 148 ls [])) : W p l e rmX8_share s m args below meth c H locs 0 0 Q (F0 m 115 ls []) := by
  have hx := hC.1.1
  have hb := hC.1.2.1
  have hf2 : zlp (fun rc s1 => bX8_share_115 N x1 x2 x3 x5 K rc s1.1 s1.2.1 s1.2.2) n (x7, x9, w0) = some res := hf
  have key := zloop (S := Int64 × Int32 × zS) (α := Int32 × zS) (b := fun rc s1 => bX8_share_115 N x1 x2 x3 x5 K rc s1.1 s1.2.1 s1.2.2) (r := res) (Wd := fun s1 => ∀ (H : Heap) (locs : List Loc) (ls : Array Slot), zW D cy shM 35 a0 aT aP A H0 s1.2.2 H locs → lv_has ls 15 [(0, .ref (a0 0)), (1, .int x1), (2, .int x2), (3, .long x3), (5, .long x5), (7, .long s1.1), (9, .int s1.2.1)] → W p l e rmX8_share s m args below meth c H locs 0 0 Q (F0 m 115 ls []))
  refine key ?_ n (x7, x9, w0) hf2 H locs ls hZ hl
  clear hf hf2 hZ hl key
  rintro rc ⟨x7, x9, w0⟩ ih hf H locs ls hZ hl
  have hf : bX8_share_115 N x1 x2 x3 x5 K rc x7 x9 w0 = some res := hf
  have hl : lv_has ls 15 [(0, .ref (a0 0)), (1, .int x1), (2, .int x2), (3, .long x3), (5, .long x5), (7, .long x7), (9, .int x9)] := hl
  unfold bX8_share_115 at hf
  refine lv_iload (pc := 115) hx hb dX8_share_115 (lv_at hl 6 rfl) ?_
  refine lv_aload_n (pc := 117) hx hb dX8_share_117 rfl (lv_at hl 0 rfl) ?_
  refine gfX8_115 (pc := 118) hC hZ dX8_share_118 ?_
  refine z_ige (pc := 121) (tgt := 148) hC hf dX8_share_121 (by decide) (fun hf => ?_) (fun hf => ?_)
  · exact hK x7 x9 w0 H locs ls hf hZ (lv_sub hl [0, 1, 2, 3, 4, 5, 6] rfl)
  refine lv_lload (pc := 124) hx hb dX8_share_124 (lv_at hl 5 rfl) ?_
  refine lv_lload_n (pc := 126) hx hb dX8_share_126 rfl (lv_at hl 3 rfl) ?_
  refine lv_aload_n (pc := 127) hx hb dX8_share_127 rfl (lv_at hl 0 rfl) ?_
  refine lv_iload (pc := 128) hx hb dX8_share_128 (lv_at hl 6 rfl) ?_
  refine lv_iload_n (pc := 130) hx hb dX8_share_130 rfl (lv_at hl 2 rfl) ?_
  refine kX8_186 (pc := 131) hC hA hZ hf hl.1 (Nat.le_of_ble_eq_true rfl) ⟨Nat.le_of_ble_eq_true rfl, Nat.le_of_ble_eq_true rfl⟩ ⟨Nat.le_refl _, Nat.le_refl _⟩ dX8_share_131 (fun v17 w16 H locs hf hZ => ?_)
  refine lv_i2l (pc := 134) hx hb dX8_share_134 rfl ?_
  refine lv_lmul (pc := 135) hx hb dX8_share_135 ?_
  refine lv_lload (pc := 136) hx hb dX8_share_136 (lv_at hl 4 rfl) ?_
  refine z_ldiv (pc := 138) hC hf dX8_share_138 (fun hf => ?_)
  refine lv_lsub (pc := 139) hx hb dX8_share_139 ?_
  refine lv_lstore (pc := 140) (lv' := [(7, .long (x7 - ((x3 * v17.toInt64) / x5))), (0, .ref (a0 0)), (1, .int x1), (2, .int x2), (3, .long x3), (5, .long x5), (9, .int x9)]) hx hb dX8_share_140 hl (by decide) rfl (fun ls hl => ?_)
  refine lv_iinc (pc := 142) (v := (x9 + (1 : Int32))) (lv' := [(9, .int (x9 + (1 : Int32))), (7, .long (x7 - ((x3 * v17.toInt64) / x5))), (0, .ref (a0 0)), (1, .int x1), (2, .int x2), (3, .long x3), (5, .long x5)]) hx hb dX8_share_142 hl (k := 6) rfl rfl (by decide) rfl (fun ls hl => ?_)
  refine lv_goto (pc := 145) (tgt := 115) hx hb dX8_share_145 (by decide) ?_
  exact ih ((x7 - ((x3 * v17.toInt64) / x5)), (x9 + (1 : Int32)), w16) hf H locs ls hZ (lv_sub hl [2, 3, 4, 5, 6, 1, 0] rfl)
set_option maxHeartbeats 4000000 in
set_option maxRecDepth 100000 in
theorem wX8_share_168 {p : Program} {l : Launch} {e : Env} {s : State} {m : MethodId} {args : Array Value} {below : List Frame} {meth : Method} {c : Code} {Q : State → Prop} {A : Nat → Prop} {H0 : Heap} {D : va_G} {cy : Nat → ClassId} {a0 aT aP : Nat → Nat} {res : Int32 × zS} {K : Int32 → Int32 → zS → Option (Int32 × zS)} (N : Nat) (x1 : Int32) (x2 : Int32) (x3 : Int64) (x5 : Int64) (x7 : Int64) (x9 : Int64) (hC : zC p s m args c RX8 cX8_share 15 D cy) (hA : ∀ q, H0.size ≤ q → A q) (hE : zEnd p l e rmX8_share s m args below meth c Q D cy shM 35 a0 A H0 res.2 (fun u => u = (aT, aP)) cX8_share .ireturn [.int res.1]) (n : Nat) (x11 : Int32) (x12 : Int32) (w0 : zS) {H : Heap} {locs : List Loc} {ls : Array Slot} (hf : lX8_share_168 N x1 x2 x3 x5 x7 x9 K n (x11, x12, w0) = some res) (hZ : zW D cy shM 35 a0 aT aP A H0 w0 H locs) (hl : lv_has ls 15 [(0, .ref (a0 0)), (1, .int x1), (2, .int x2), (3, .long x3), (5, .long x5), (7, .long x7), (9, .long x9), (11, .int x11), (12, .int x12)]) (hK : ∀ x11 : Int32, ∀ x12 : Int32, ∀ (w0 : zS) (H : Heap) (locs : List Loc) (ls : Array Slot), K x11 x12 w0 = some res → zW D cy shM 35 a0 aT aP A H0 w0 H locs → lv_has ls 15 [(0, .ref (a0 0)), (1, .int x1), (2, .int x2), (3, .long x3), (5, .long x5), (7, .long x7), (9, .long x9), (11, .int x11), (12, .int x12)] → W p l e rmX8_share s m args below meth c H locs 0 0 Q (F0 m 230 ls [])) : W p l e rmX8_share s m args below meth c H locs 0 0 Q (F0 m 168 ls []) := by
  have hx := hC.1.1
  have hb := hC.1.2.1
  have hf2 : zlp (fun rc s1 => bX8_share_168 N x1 x2 x3 x5 x7 x9 K rc s1.1 s1.2.1 s1.2.2) n (x11, x12, w0) = some res := hf
  have key := zloop (S := Int32 × Int32 × zS) (α := Int32 × zS) (b := fun rc s1 => bX8_share_168 N x1 x2 x3 x5 x7 x9 K rc s1.1 s1.2.1 s1.2.2) (r := res) (Wd := fun s1 => ∀ (H : Heap) (locs : List Loc) (ls : Array Slot), zW D cy shM 35 a0 aT aP A H0 s1.2.2 H locs → lv_has ls 15 [(0, .ref (a0 0)), (1, .int x1), (2, .int x2), (3, .long x3), (5, .long x5), (7, .long x7), (9, .long x9), (11, .int s1.1), (12, .int s1.2.1)] → W p l e rmX8_share s m args below meth c H locs 0 0 Q (F0 m 168 ls []))
  refine key ?_ n (x11, x12, w0) hf2 H locs ls hZ hl
  clear hf hf2 hZ hl key
  rintro rc ⟨x11, x12, w0⟩ ih hf H locs ls hZ hl
  have hf : bX8_share_168 N x1 x2 x3 x5 x7 x9 K rc x11 x12 w0 = some res := hf
  have hl : lv_has ls 15 [(0, .ref (a0 0)), (1, .int x1), (2, .int x2), (3, .long x3), (5, .long x5), (7, .long x7), (9, .long x9), (11, .int x11), (12, .int x12)] := hl
  unfold bX8_share_168 at hf
  refine lv_iload (pc := 168) hx hb dX8_share_168 (lv_at hl 8 rfl) ?_
  refine lv_aload_n (pc := 170) hx hb dX8_share_170 rfl (lv_at hl 0 rfl) ?_
  refine gfX8_115 (pc := 171) hC hZ dX8_share_171 ?_
  refine z_ige (pc := 174) (tgt := 230) hC hf dX8_share_174 (by decide) (fun hf => ?_) (fun hf => ?_)
  · exact hK x11 x12 w0 H locs ls hf hZ (lv_sub hl [0, 1, 2, 3, 4, 5, 6, 7, 8] rfl)
  refine lv_lload_n (pc := 177) hx hb dX8_share_177 rfl (lv_at hl 3 rfl) ?_
  refine lv_aload_n (pc := 178) hx hb dX8_share_178 rfl (lv_at hl 0 rfl) ?_
  refine lv_iload (pc := 179) hx hb dX8_share_179 (lv_at hl 8 rfl) ?_
  refine lv_iload_n (pc := 181) hx hb dX8_share_181 rfl (lv_at hl 2 rfl) ?_
  refine kX8_186 (pc := 182) hC hA hZ hf hl.1 (Nat.le_of_ble_eq_true rfl) ⟨Nat.le_of_ble_eq_true rfl, Nat.le_of_ble_eq_true rfl⟩ ⟨Nat.le_refl _, Nat.le_refl _⟩ dX8_share_182 (fun v24 w23 H locs hf hZ => ?_)
  refine lv_i2l (pc := 185) hx hb dX8_share_185 rfl ?_
  refine lv_lmul (pc := 186) hx hb dX8_share_186 ?_
  refine lv_lload (pc := 187) hx hb dX8_share_187 (lv_at hl 4 rfl) ?_
  refine z_lrem (pc := 189) hC hf dX8_share_189 (fun hf => ?_)
  refine lv_lstore (pc := 190) (lv' := [(13, .long ((x3 * v24.toInt64) - (x3 * v24.toInt64) / x5 * x5)), (0, .ref (a0 0)), (1, .int x1), (2, .int x2), (3, .long x3), (5, .long x5), (7, .long x7), (9, .long x9), (11, .int x11), (12, .int x12)]) hx hb dX8_share_190 hl (by decide) rfl (fun ls hl => ?_)
  refine lv_iload (pc := 192) hx hb dX8_share_192 (lv_at hl 8 rfl) ?_
  refine lv_lload (pc := 194) hx hb dX8_share_194 (lv_at hl 0 rfl) ?_
  refine lv_lload (pc := 196) hx hb dX8_share_196 (lv_at hl 7 rfl) ?_
  refine W.lcmp (pc := 198) hx hb dX8_share_198 ?_
  refine z_gt0 (pc := 199) (tgt := 216) hC hf dX8_share_199 (by decide) (fun hf => ?_) (fun hf => ?_)
  · refine lv_iconst (pc := 216) (v := (1 : Int32)) hx hb dX8_share_216 (by decide) ?_
    refine lv_goto (pc := 217) (tgt := 221) hx hb dX8_share_217 (by decide) ?_
    refine lv_iadd (pc := 221) hx hb dX8_share_221 ?_
    refine lv_istore (pc := 222) (lv' := [(11, .int (x11 + (1 : Int32))), (13, .long ((x3 * v24.toInt64) - (x3 * v24.toInt64) / x5 * x5)), (0, .ref (a0 0)), (1, .int x1), (2, .int x2), (3, .long x3), (5, .long x5), (7, .long x7), (9, .long x9), (12, .int x12)]) hx hb dX8_share_222 hl (by decide) rfl (fun ls hl => ?_)
    refine lv_iinc (pc := 224) (v := (x12 + (1 : Int32))) (lv' := [(12, .int (x12 + (1 : Int32))), (11, .int (x11 + (1 : Int32))), (13, .long ((x3 * v24.toInt64) - (x3 * v24.toInt64) / x5 * x5)), (0, .ref (a0 0)), (1, .int x1), (2, .int x2), (3, .long x3), (5, .long x5), (7, .long x7), (9, .long x9)]) hx hb dX8_share_224 hl (k := 9) rfl rfl (by decide) rfl (fun ls hl => ?_)
    refine lv_goto (pc := 227) (tgt := 168) hx hb dX8_share_227 (by decide) ?_
    exact ih ((x11 + (1 : Int32)), (x12 + (1 : Int32)), w23) hf H locs ls hZ (lv_sub hl [3, 4, 5, 6, 7, 8, 9, 1, 0] rfl)
  refine lv_lload (pc := 202) hx hb dX8_share_202 (lv_at hl 0 rfl) ?_
  refine lv_lload (pc := 204) hx hb dX8_share_204 (lv_at hl 7 rfl) ?_
  refine W.lcmp (pc := 206) hx hb dX8_share_206 ?_
  refine z_ne0 (pc := 207) (tgt := 220) hC hf dX8_share_207 (by decide) (fun hf => ?_) (fun hf => ?_)
  · refine lv_iload (pc := 210) hx hb dX8_share_210 (lv_at hl 9 rfl) ?_
    refine lv_iload_n (pc := 212) hx hb dX8_share_212 rfl (lv_at hl 2 rfl) ?_
    refine z_ige (pc := 213) (tgt := 220) hC hf dX8_share_213 (by decide) (fun hf => ?_) (fun hf => ?_)
    · refine lv_iconst (pc := 220) (v := (0 : Int32)) hx hb dX8_share_220 (by decide) ?_
      refine lv_iadd (pc := 221) hx hb dX8_share_221 ?_
      refine lv_istore (pc := 222) (lv' := [(11, .int (x11 + (0 : Int32))), (13, .long ((x3 * v24.toInt64) - (x3 * v24.toInt64) / x5 * x5)), (0, .ref (a0 0)), (1, .int x1), (2, .int x2), (3, .long x3), (5, .long x5), (7, .long x7), (9, .long x9), (12, .int x12)]) hx hb dX8_share_222 hl (by decide) rfl (fun ls hl => ?_)
      refine lv_iinc (pc := 224) (v := (x12 + (1 : Int32))) (lv' := [(12, .int (x12 + (1 : Int32))), (11, .int (x11 + (0 : Int32))), (13, .long ((x3 * v24.toInt64) - (x3 * v24.toInt64) / x5 * x5)), (0, .ref (a0 0)), (1, .int x1), (2, .int x2), (3, .long x3), (5, .long x5), (7, .long x7), (9, .long x9)]) hx hb dX8_share_224 hl (k := 9) rfl rfl (by decide) rfl (fun ls hl => ?_)
      refine lv_goto (pc := 227) (tgt := 168) hx hb dX8_share_227 (by decide) ?_
      exact ih ((x11 + (0 : Int32)), (x12 + (1 : Int32)), w23) hf H locs ls hZ (lv_sub hl [3, 4, 5, 6, 7, 8, 9, 1, 0] rfl)
    refine lv_iconst (pc := 216) (v := (1 : Int32)) hx hb dX8_share_216 (by decide) ?_
    refine lv_goto (pc := 217) (tgt := 221) hx hb dX8_share_217 (by decide) ?_
    refine lv_iadd (pc := 221) hx hb dX8_share_221 ?_
    refine lv_istore (pc := 222) (lv' := [(11, .int (x11 + (1 : Int32))), (13, .long ((x3 * v24.toInt64) - (x3 * v24.toInt64) / x5 * x5)), (0, .ref (a0 0)), (1, .int x1), (2, .int x2), (3, .long x3), (5, .long x5), (7, .long x7), (9, .long x9), (12, .int x12)]) hx hb dX8_share_222 hl (by decide) rfl (fun ls hl => ?_)
    refine lv_iinc (pc := 224) (v := (x12 + (1 : Int32))) (lv' := [(12, .int (x12 + (1 : Int32))), (11, .int (x11 + (1 : Int32))), (13, .long ((x3 * v24.toInt64) - (x3 * v24.toInt64) / x5 * x5)), (0, .ref (a0 0)), (1, .int x1), (2, .int x2), (3, .long x3), (5, .long x5), (7, .long x7), (9, .long x9)]) hx hb dX8_share_224 hl (k := 9) rfl rfl (by decide) rfl (fun ls hl => ?_)
    refine lv_goto (pc := 227) (tgt := 168) hx hb dX8_share_227 (by decide) ?_
    exact ih ((x11 + (1 : Int32)), (x12 + (1 : Int32)), w23) hf H locs ls hZ (lv_sub hl [3, 4, 5, 6, 7, 8, 9, 1, 0] rfl)
  refine lv_iconst (pc := 220) (v := (0 : Int32)) hx hb dX8_share_220 (by decide) ?_
  refine lv_iadd (pc := 221) hx hb dX8_share_221 ?_
  refine lv_istore (pc := 222) (lv' := [(11, .int (x11 + (0 : Int32))), (13, .long ((x3 * v24.toInt64) - (x3 * v24.toInt64) / x5 * x5)), (0, .ref (a0 0)), (1, .int x1), (2, .int x2), (3, .long x3), (5, .long x5), (7, .long x7), (9, .long x9), (12, .int x12)]) hx hb dX8_share_222 hl (by decide) rfl (fun ls hl => ?_)
  refine lv_iinc (pc := 224) (v := (x12 + (1 : Int32))) (lv' := [(12, .int (x12 + (1 : Int32))), (11, .int (x11 + (0 : Int32))), (13, .long ((x3 * v24.toInt64) - (x3 * v24.toInt64) / x5 * x5)), (0, .ref (a0 0)), (1, .int x1), (2, .int x2), (3, .long x3), (5, .long x5), (7, .long x7), (9, .long x9)]) hx hb dX8_share_224 hl (k := 9) rfl rfl (by decide) rfl (fun ls hl => ?_)
  refine lv_goto (pc := 227) (tgt := 168) hx hb dX8_share_227 (by decide) ?_
  exact ih ((x11 + (0 : Int32)), (x12 + (1 : Int32)), w23) hf H locs ls hZ (lv_sub hl [3, 4, 5, 6, 7, 8, 9, 1, 0] rfl)
set_option maxHeartbeats 4000000 in
set_option maxRecDepth 100000 in
theorem cX8_share_ok (l : Launch) (D : va_G) (cy : Nat → ClassId) (a0 aT aP : Nat → Nat) (N : Nat) (x1 : Int32) (x2 : Int32) (w0 : zS) (rv : Int32) (τ : zS) (hf : fX8_share N x1 x2 w0 = some (rv, τ)) : zMi l yX8_share cX8_share 15 (some .int) rmX8_share D cy shM 35 a0 aT aP w0 [.ref (a0 0), .int x1, .int x2] rv τ (fun u => u = (aT, aP)) := by
  refine zmet_i (by decide +kernel) (Or.inl rfl) (Nat.le_of_ble_eq_true rfl) ?_
  intro p e s m below meth c A Q ls hC hA hZ hl hE
  have hx := hC.1.1
  have hb := hC.1.2.1
  have hl : lv_has ls 15 [(0, .ref (a0 0)), (1, .int x1), (2, .int x2)] := hl
  unfold fX8_share at hf
  refine lv_aload_n (pc := 0) hx hb dX8_share_0 rfl (lv_at hl 0 rfl) ?_
  refine lv_iload_n (pc := 1) hx hb dX8_share_1 rfl (lv_at hl 1 rfl) ?_
  refine kX8_139 (pc := 2) hC hA hZ hf hl.1 (Nat.le_of_ble_eq_true rfl) ⟨Nat.le_of_ble_eq_true rfl, Nat.le_of_ble_eq_true rfl⟩ ⟨Nat.le_refl _, Nat.le_refl _⟩ dX8_share_2 (fun v2 w1 H locs hf hZ => ?_)
  refine z_eq0 (pc := 5) (tgt := 16) hC hf dX8_share_5 (by decide) (fun hf => ?_) (fun hf => ?_)
  · refine lv_aload_n (pc := 16) hx hb dX8_share_16 rfl (lv_at hl 0 rfl) ?_
    refine lv_iconst (pc := 17) (v := (-1 : Int32)) hx hb dX8_share_17 (by decide) ?_
    refine kX8_126 (pc := 18) hC hA hZ hf hl.1 (Nat.le_of_ble_eq_true rfl) ⟨Nat.le_of_ble_eq_true rfl, Nat.le_of_ble_eq_true rfl⟩ ⟨Nat.le_refl _, Nat.le_refl _⟩ dX8_share_18 (fun v4 w3 H locs hf hZ => ?_)
    obtain ⟨rfl, rfl⟩ := zinj hf
    exact hE _ _ _ _ _ _ rfl hZ dX8_share_21
  refine lv_aload_n (pc := 8) hx hb dX8_share_8 rfl (lv_at hl 0 rfl) ?_
  refine lv_iload_n (pc := 9) hx hb dX8_share_9 rfl (lv_at hl 2 rfl) ?_
  refine kX8_143 (pc := 10) hC hA hZ hf hl.1 (Nat.le_of_ble_eq_true rfl) ⟨Nat.le_of_ble_eq_true rfl, Nat.le_of_ble_eq_true rfl⟩ ⟨Nat.le_refl _, Nat.le_refl _⟩ dX8_share_10 (fun v6 w5 H locs hf hZ => ?_)
  refine z_ne0 (pc := 13) (tgt := 22) hC hf dX8_share_13 (by decide) (fun hf => ?_) (fun hf => ?_)
  · refine lv_aload_n (pc := 16) hx hb dX8_share_16 rfl (lv_at hl 0 rfl) ?_
    refine lv_iconst (pc := 17) (v := (-1 : Int32)) hx hb dX8_share_17 (by decide) ?_
    refine kX8_126 (pc := 18) hC hA hZ hf hl.1 (Nat.le_of_ble_eq_true rfl) ⟨Nat.le_of_ble_eq_true rfl, Nat.le_of_ble_eq_true rfl⟩ ⟨Nat.le_refl _, Nat.le_refl _⟩ dX8_share_18 (fun v8 w7 H locs hf hZ => ?_)
    obtain ⟨rfl, rfl⟩ := zinj hf
    exact hE _ _ _ _ _ _ rfl hZ dX8_share_21
  refine lv_lconst (pc := 22) (v := (0 : Int64)) hx hb dX8_share_22 (by decide) ?_
  refine lv_lstore_n (pc := 23) (lv' := [(3, .long (0 : Int64)), (0, .ref (a0 0)), (1, .int x1), (2, .int x2)]) hx hb dX8_share_23 rfl hl (by decide) rfl (fun ls hl => ?_)
  refine lv_lconst (pc := 24) (v := (0 : Int64)) hx hb dX8_share_24 (by decide) ?_
  refine lv_lstore (pc := 25) (lv' := [(5, .long (0 : Int64)), (3, .long (0 : Int64)), (0, .ref (a0 0)), (1, .int x1), (2, .int x2)]) hx hb dX8_share_25 hl (by decide) rfl (fun ls hl => ?_)
  refine lv_iconst (pc := 27) (v := (0 : Int32)) hx hb dX8_share_27 (by decide) ?_
  refine lv_istore (pc := 28) (lv' := [(7, .int (0 : Int32)), (5, .long (0 : Int64)), (3, .long (0 : Int64)), (0, .ref (a0 0)), (1, .int x1), (2, .int x2)]) hx hb dX8_share_28 hl (by decide) rfl (fun ls hl => ?_)
  refine wX8_share_30 (res := (rv, τ)) N x1 x2 hC hA hE N _ _ _ _ hf hZ (lv_sub hl [3, 4, 5, 2, 1, 0] rfl) (fun y12 y13 y14 w15 H locs ls hf hZ hl => ?_)
  refine lv_lload_n (pc := 74) hx hb dX8_share_74 rfl (lv_at hl 3 rfl) ?_
  refine lv_lconst (pc := 75) (v := (0 : Int64)) hx hb dX8_share_75 (by decide) ?_
  refine W.lcmp (pc := 76) hx hb dX8_share_76 ?_
  refine z_le0 (pc := 77) (tgt := 92) hC hf dX8_share_77 (by decide) (fun hf => ?_) (fun hf => ?_)
  · refine lv_lconst (pc := 92) (v := (0 : Int64)) hx hb dX8_share_92 (by decide) ?_
    refine lv_lstore_n (pc := 93) (lv' := [(3, .long (0 : Int64)), (0, .ref (a0 0)), (1, .int x1), (2, .int x2), (5, .long y13), (7, .int y14)]) hx hb dX8_share_93 rfl hl (by decide) rfl (fun ls hl => ?_)
    refine lv_lload (pc := 94) hx hb dX8_share_94 (lv_at hl 4 rfl) ?_
    refine lv_lconst (pc := 96) (v := (0 : Int64)) hx hb dX8_share_96 (by decide) ?_
    refine W.lcmp (pc := 97) hx hb dX8_share_97 ?_
    refine z_eq0 (pc := 98) (tgt := 107) hC hf dX8_share_98 (by decide) (fun hf => ?_) (fun hf => ?_)
    · refine lv_iconst (pc := 107) (v := (0 : Int32)) hx hb dX8_share_107 (by decide) ?_
      obtain ⟨rfl, rfl⟩ := zinj hf
      exact hE _ _ _ _ _ _ rfl hZ dX8_share_108
    refine lv_lload_n (pc := 101) hx hb dX8_share_101 rfl (lv_at hl 0 rfl) ?_
    refine lv_lconst (pc := 102) (v := (0 : Int64)) hx hb dX8_share_102 (by decide) ?_
    refine W.lcmp (pc := 103) hx hb dX8_share_103 ?_
    refine z_ne0 (pc := 104) (tgt := 109) hC hf dX8_share_104 (by decide) (fun hf => ?_) (fun hf => ?_)
    · refine lv_iconst (pc := 107) (v := (0 : Int32)) hx hb dX8_share_107 (by decide) ?_
      obtain ⟨rfl, rfl⟩ := zinj hf
      exact hE _ _ _ _ _ _ rfl hZ dX8_share_108
    refine lv_lload_n (pc := 109) hx hb dX8_share_109 rfl (lv_at hl 0 rfl) ?_
    refine lv_lstore (pc := 110) (lv' := [(7, .long (0 : Int64)), (3, .long (0 : Int64)), (0, .ref (a0 0)), (1, .int x1), (2, .int x2), (5, .long y13)]) hx hb dX8_share_110 hl (by decide) rfl (fun ls hl => ?_)
    refine lv_iconst (pc := 112) (v := (0 : Int32)) hx hb dX8_share_112 (by decide) ?_
    refine lv_istore (pc := 113) (lv' := [(9, .int (0 : Int32)), (7, .long (0 : Int64)), (3, .long (0 : Int64)), (0, .ref (a0 0)), (1, .int x1), (2, .int x2), (5, .long y13)]) hx hb dX8_share_113 hl (by decide) rfl (fun ls hl => ?_)
    refine wX8_share_115 (res := (rv, τ)) N x1 x2 (0 : Int64) y13 hC hA hE N _ _ _ hf hZ (lv_sub hl [3, 4, 5, 2, 6, 1, 0] rfl) (fun y18 y19 w20 H locs ls hf hZ hl => ?_)
    refine lv_lload_n (pc := 148) hx hb dX8_share_148 rfl (lv_at hl 3 rfl) ?_
    refine lv_aload_n (pc := 149) hx hb dX8_share_149 rfl (lv_at hl 0 rfl) ?_
    refine lv_iload_n (pc := 150) hx hb dX8_share_150 rfl (lv_at hl 1 rfl) ?_
    refine lv_iload_n (pc := 151) hx hb dX8_share_151 rfl (lv_at hl 2 rfl) ?_
    refine kX8_186 (pc := 152) hC hA hZ hf hl.1 (Nat.le_of_ble_eq_true rfl) ⟨Nat.le_of_ble_eq_true rfl, Nat.le_of_ble_eq_true rfl⟩ ⟨Nat.le_refl _, Nat.le_refl _⟩ dX8_share_152 (fun v22 w21 H locs hf hZ => ?_)
    refine lv_i2l (pc := 155) hx hb dX8_share_155 rfl ?_
    refine lv_lmul (pc := 156) hx hb dX8_share_156 ?_
    refine lv_lload (pc := 157) hx hb dX8_share_157 (lv_at hl 4 rfl) ?_
    refine z_lrem (pc := 159) hC hf dX8_share_159 (fun hf => ?_)
    refine lv_lstore (pc := 160) (lv' := [(9, .long (((0 : Int64) * v22.toInt64) - ((0 : Int64) * v22.toInt64) / y13 * y13)), (0, .ref (a0 0)), (1, .int x1), (2, .int x2), (3, .long (0 : Int64)), (5, .long y13), (7, .long y18)]) hx hb dX8_share_160 hl (by decide) rfl (fun ls hl => ?_)
    refine lv_iconst (pc := 162) (v := (0 : Int32)) hx hb dX8_share_162 (by decide) ?_
    refine lv_istore (pc := 163) (lv' := [(11, .int (0 : Int32)), (9, .long (((0 : Int64) * v22.toInt64) - ((0 : Int64) * v22.toInt64) / y13 * y13)), (0, .ref (a0 0)), (1, .int x1), (2, .int x2), (3, .long (0 : Int64)), (5, .long y13), (7, .long y18)]) hx hb dX8_share_163 hl (by decide) rfl (fun ls hl => ?_)
    refine lv_iconst (pc := 165) (v := (0 : Int32)) hx hb dX8_share_165 (by decide) ?_
    refine lv_istore (pc := 166) (lv' := [(12, .int (0 : Int32)), (11, .int (0 : Int32)), (9, .long (((0 : Int64) * v22.toInt64) - ((0 : Int64) * v22.toInt64) / y13 * y13)), (0, .ref (a0 0)), (1, .int x1), (2, .int x2), (3, .long (0 : Int64)), (5, .long y13), (7, .long y18)]) hx hb dX8_share_166 hl (by decide) rfl (fun ls hl => ?_)
    refine wX8_share_168 (res := (rv, τ)) N x1 x2 (0 : Int64) y13 y18 (((0 : Int64) * v22.toInt64) - ((0 : Int64) * v22.toInt64) / y13 * y13) hC hA hE N _ _ _ hf hZ (lv_sub hl [3, 4, 5, 6, 7, 8, 2, 1, 0] rfl) (fun y25 y26 w27 H locs ls hf hZ hl => ?_)
    refine lv_lload_n (pc := 230) hx hb dX8_share_230 rfl (lv_at hl 3 rfl) ?_
    refine lv_aload_n (pc := 231) hx hb dX8_share_231 rfl (lv_at hl 0 rfl) ?_
    refine lv_iload_n (pc := 232) hx hb dX8_share_232 rfl (lv_at hl 1 rfl) ?_
    refine lv_iload_n (pc := 233) hx hb dX8_share_233 rfl (lv_at hl 2 rfl) ?_
    refine kX8_186 (pc := 234) hC hA hZ hf hl.1 (Nat.le_of_ble_eq_true rfl) ⟨Nat.le_of_ble_eq_true rfl, Nat.le_of_ble_eq_true rfl⟩ ⟨Nat.le_refl _, Nat.le_refl _⟩ dX8_share_234 (fun v29 w28 H locs hf hZ => ?_)
    refine lv_i2l (pc := 237) hx hb dX8_share_237 rfl ?_
    refine lv_lmul (pc := 238) hx hb dX8_share_238 ?_
    refine lv_lload (pc := 239) hx hb dX8_share_239 (lv_at hl 4 rfl) ?_
    refine z_ldiv (pc := 241) hC hf dX8_share_241 (fun hf => ?_)
    refine lv_l2i (pc := 242) hx hb dX8_share_242 rfl ?_
    refine lv_iload (pc := 243) hx hb dX8_share_243 (lv_at hl 7 rfl) ?_
    refine lv_i2l (pc := 245) hx hb dX8_share_245 rfl ?_
    refine lv_lload (pc := 246) hx hb dX8_share_246 (lv_at hl 5 rfl) ?_
    refine W.lcmp (pc := 248) hx hb dX8_share_248 ?_
    refine z_ge0 (pc := 249) (tgt := 256) hC hf dX8_share_249 (by decide) (fun hf => ?_) (fun hf => ?_)
    · refine lv_iconst (pc := 256) (v := (0 : Int32)) hx hb dX8_share_256 (by decide) ?_
      refine lv_iadd (pc := 257) hx hb dX8_share_257 ?_
      obtain ⟨rfl, rfl⟩ := zinj hf
      exact hE _ _ _ _ _ _ rfl hZ dX8_share_258
    refine lv_iconst (pc := 252) (v := (1 : Int32)) hx hb dX8_share_252 (by decide) ?_
    refine lv_goto (pc := 253) (tgt := 257) hx hb dX8_share_253 (by decide) ?_
    refine lv_iadd (pc := 257) hx hb dX8_share_257 ?_
    obtain ⟨rfl, rfl⟩ := zinj hf
    exact hE _ _ _ _ _ _ rfl hZ dX8_share_258
  refine lv_lload_n (pc := 80) hx hb dX8_share_80 rfl (lv_at hl 3 rfl) ?_
  refine lv_aload_n (pc := 81) hx hb dX8_share_81 rfl (lv_at hl 0 rfl) ?_
  refine gfX8_7 (pc := 82) hC hZ dX8_share_82 ?_
  refine lv_iload_n (pc := 85) hx hb dX8_share_85 rfl (lv_at hl 2 rfl) ?_
  refine z_iald (pc := 86) hC hZ (by decide) rfl hf dX8_share_86 (fun v30 hf => ?_)
  refine lv_i2l (pc := 87) hx hb dX8_share_87 rfl ?_
  refine lv_lmul (pc := 88) hx hb dX8_share_88 ?_
  refine lv_goto (pc := 89) (tgt := 93) hx hb dX8_share_89 (by decide) ?_
  refine lv_lstore_n (pc := 93) (lv' := [(3, .long (y12 * v30.toInt64)), (0, .ref (a0 0)), (1, .int x1), (2, .int x2), (5, .long y13), (7, .int y14)]) hx hb dX8_share_93 rfl hl (by decide) rfl (fun ls hl => ?_)
  refine lv_lload (pc := 94) hx hb dX8_share_94 (lv_at hl 4 rfl) ?_
  refine lv_lconst (pc := 96) (v := (0 : Int64)) hx hb dX8_share_96 (by decide) ?_
  refine W.lcmp (pc := 97) hx hb dX8_share_97 ?_
  refine z_eq0 (pc := 98) (tgt := 107) hC hf dX8_share_98 (by decide) (fun hf => ?_) (fun hf => ?_)
  · refine lv_iconst (pc := 107) (v := (0 : Int32)) hx hb dX8_share_107 (by decide) ?_
    obtain ⟨rfl, rfl⟩ := zinj hf
    exact hE _ _ _ _ _ _ rfl hZ dX8_share_108
  refine lv_lload_n (pc := 101) hx hb dX8_share_101 rfl (lv_at hl 0 rfl) ?_
  refine lv_lconst (pc := 102) (v := (0 : Int64)) hx hb dX8_share_102 (by decide) ?_
  refine W.lcmp (pc := 103) hx hb dX8_share_103 ?_
  refine z_ne0 (pc := 104) (tgt := 109) hC hf dX8_share_104 (by decide) (fun hf => ?_) (fun hf => ?_)
  · refine lv_iconst (pc := 107) (v := (0 : Int32)) hx hb dX8_share_107 (by decide) ?_
    obtain ⟨rfl, rfl⟩ := zinj hf
    exact hE _ _ _ _ _ _ rfl hZ dX8_share_108
  refine lv_lload_n (pc := 109) hx hb dX8_share_109 rfl (lv_at hl 0 rfl) ?_
  refine lv_lstore (pc := 110) (lv' := [(7, .long (y12 * v30.toInt64)), (3, .long (y12 * v30.toInt64)), (0, .ref (a0 0)), (1, .int x1), (2, .int x2), (5, .long y13)]) hx hb dX8_share_110 hl (by decide) rfl (fun ls hl => ?_)
  refine lv_iconst (pc := 112) (v := (0 : Int32)) hx hb dX8_share_112 (by decide) ?_
  refine lv_istore (pc := 113) (lv' := [(9, .int (0 : Int32)), (7, .long (y12 * v30.toInt64)), (3, .long (y12 * v30.toInt64)), (0, .ref (a0 0)), (1, .int x1), (2, .int x2), (5, .long y13)]) hx hb dX8_share_113 hl (by decide) rfl (fun ls hl => ?_)
  refine wX8_share_115 (res := (rv, τ)) N x1 x2 (y12 * v30.toInt64) y13 hC hA hE N _ _ _ hf hZ (lv_sub hl [3, 4, 5, 2, 6, 1, 0] rfl) (fun y31 y32 w33 H locs ls hf hZ hl => ?_)
  refine lv_lload_n (pc := 148) hx hb dX8_share_148 rfl (lv_at hl 3 rfl) ?_
  refine lv_aload_n (pc := 149) hx hb dX8_share_149 rfl (lv_at hl 0 rfl) ?_
  refine lv_iload_n (pc := 150) hx hb dX8_share_150 rfl (lv_at hl 1 rfl) ?_
  refine lv_iload_n (pc := 151) hx hb dX8_share_151 rfl (lv_at hl 2 rfl) ?_
  refine kX8_186 (pc := 152) hC hA hZ hf hl.1 (Nat.le_of_ble_eq_true rfl) ⟨Nat.le_of_ble_eq_true rfl, Nat.le_of_ble_eq_true rfl⟩ ⟨Nat.le_refl _, Nat.le_refl _⟩ dX8_share_152 (fun v35 w34 H locs hf hZ => ?_)
  refine lv_i2l (pc := 155) hx hb dX8_share_155 rfl ?_
  refine lv_lmul (pc := 156) hx hb dX8_share_156 ?_
  refine lv_lload (pc := 157) hx hb dX8_share_157 (lv_at hl 4 rfl) ?_
  refine z_lrem (pc := 159) hC hf dX8_share_159 (fun hf => ?_)
  refine lv_lstore (pc := 160) (lv' := [(9, .long (((y12 * v30.toInt64) * v35.toInt64) - ((y12 * v30.toInt64) * v35.toInt64) / y13 * y13)), (0, .ref (a0 0)), (1, .int x1), (2, .int x2), (3, .long (y12 * v30.toInt64)), (5, .long y13), (7, .long y31)]) hx hb dX8_share_160 hl (by decide) rfl (fun ls hl => ?_)
  refine lv_iconst (pc := 162) (v := (0 : Int32)) hx hb dX8_share_162 (by decide) ?_
  refine lv_istore (pc := 163) (lv' := [(11, .int (0 : Int32)), (9, .long (((y12 * v30.toInt64) * v35.toInt64) - ((y12 * v30.toInt64) * v35.toInt64) / y13 * y13)), (0, .ref (a0 0)), (1, .int x1), (2, .int x2), (3, .long (y12 * v30.toInt64)), (5, .long y13), (7, .long y31)]) hx hb dX8_share_163 hl (by decide) rfl (fun ls hl => ?_)
  refine lv_iconst (pc := 165) (v := (0 : Int32)) hx hb dX8_share_165 (by decide) ?_
  refine lv_istore (pc := 166) (lv' := [(12, .int (0 : Int32)), (11, .int (0 : Int32)), (9, .long (((y12 * v30.toInt64) * v35.toInt64) - ((y12 * v30.toInt64) * v35.toInt64) / y13 * y13)), (0, .ref (a0 0)), (1, .int x1), (2, .int x2), (3, .long (y12 * v30.toInt64)), (5, .long y13), (7, .long y31)]) hx hb dX8_share_166 hl (by decide) rfl (fun ls hl => ?_)
  refine wX8_share_168 (res := (rv, τ)) N x1 x2 (y12 * v30.toInt64) y13 y31 (((y12 * v30.toInt64) * v35.toInt64) - ((y12 * v30.toInt64) * v35.toInt64) / y13 * y13) hC hA hE N _ _ _ hf hZ (lv_sub hl [3, 4, 5, 6, 7, 8, 2, 1, 0] rfl) (fun y36 y37 w38 H locs ls hf hZ hl => ?_)
  refine lv_lload_n (pc := 230) hx hb dX8_share_230 rfl (lv_at hl 3 rfl) ?_
  refine lv_aload_n (pc := 231) hx hb dX8_share_231 rfl (lv_at hl 0 rfl) ?_
  refine lv_iload_n (pc := 232) hx hb dX8_share_232 rfl (lv_at hl 1 rfl) ?_
  refine lv_iload_n (pc := 233) hx hb dX8_share_233 rfl (lv_at hl 2 rfl) ?_
  refine kX8_186 (pc := 234) hC hA hZ hf hl.1 (Nat.le_of_ble_eq_true rfl) ⟨Nat.le_of_ble_eq_true rfl, Nat.le_of_ble_eq_true rfl⟩ ⟨Nat.le_refl _, Nat.le_refl _⟩ dX8_share_234 (fun v40 w39 H locs hf hZ => ?_)
  refine lv_i2l (pc := 237) hx hb dX8_share_237 rfl ?_
  refine lv_lmul (pc := 238) hx hb dX8_share_238 ?_
  refine lv_lload (pc := 239) hx hb dX8_share_239 (lv_at hl 4 rfl) ?_
  refine z_ldiv (pc := 241) hC hf dX8_share_241 (fun hf => ?_)
  refine lv_l2i (pc := 242) hx hb dX8_share_242 rfl ?_
  refine lv_iload (pc := 243) hx hb dX8_share_243 (lv_at hl 7 rfl) ?_
  refine lv_i2l (pc := 245) hx hb dX8_share_245 rfl ?_
  refine lv_lload (pc := 246) hx hb dX8_share_246 (lv_at hl 5 rfl) ?_
  refine W.lcmp (pc := 248) hx hb dX8_share_248 ?_
  refine z_ge0 (pc := 249) (tgt := 256) hC hf dX8_share_249 (by decide) (fun hf => ?_) (fun hf => ?_)
  · refine lv_iconst (pc := 256) (v := (0 : Int32)) hx hb dX8_share_256 (by decide) ?_
    refine lv_iadd (pc := 257) hx hb dX8_share_257 ?_
    obtain ⟨rfl, rfl⟩ := zinj hf
    exact hE _ _ _ _ _ _ rfl hZ dX8_share_258
  refine lv_iconst (pc := 252) (v := (1 : Int32)) hx hb dX8_share_252 (by decide) ?_
  refine lv_goto (pc := 253) (tgt := 257) hx hb dX8_share_253 (by decide) ?_
  refine lv_iadd (pc := 257) hx hb dX8_share_257 ?_
  obtain ⟨rfl, rfl⟩ := zinj hf
  exact hE _ _ _ _ _ _ rfl hZ dX8_share_258
