set_option maxHeartbeats 4000000 in
set_option maxRecDepth 100000 in
theorem wX8_left_9 {p : Program} {l : Launch} {e : Env} {s : State} {m : MethodId} {args : Array Value} {below : List Frame} {meth : Method} {c : Code} {Q : State → Prop} {A : Nat → Prop} {H0 : Heap} {D : va_G} {cy : Nat → ClassId} {a0 aT aP : Nat → Nat} {res : Int32 × zS} {K : Int32 → Int32 → zS → Option (Int32 × zS)} (N : Nat) (x1 : Int32) (hC : zC p s m args c RX8 cX8_left 4 D cy) (hA : ∀ q, H0.size ≤ q → A q) (hE : zEnd p l e rmX8_left s m args below meth c Q D cy shM 35 a0 A H0 res.2 (fun u => u = (aT, aP)) cX8_left .ireturn [.int res.1]) (n : Nat) (x2 : Int32) (x3 : Int32) (w0 : zS) {H : Heap} {locs : List Loc} {ls : Array Slot} (hf : lX8_left_9 N x1 K n (x2, x3, w0) = some res) (hZ : zW D cy shM 35 a0 aT aP A H0 w0 H locs) (hl : lv_has ls 4 [(0, .ref (a0 0)), (1, .int x1), (2, .int x2), (3, .int x3)]) (hK : ∀ x2 : Int32, ∀ x3 : Int32, ∀ (w0 : zS) (H : Heap) (locs : List Loc) (ls : Array Slot), K x2 x3 w0 = some res → zW D cy shM 35 a0 aT aP A H0 w0 H locs → lv_has ls 4 [(0, .ref (a0 0)), (1, .int x1), (2, .int x2), (3, .int x3)] → W p l e rmX8_left s m args below meth c H locs 0 0 Q (F0 m 37 ls [])) : W p l e rmX8_left s m args below meth c H locs 0 0 Q (F0 m 9 ls []) := by
  have hx := hC.1.1
  have hb := hC.1.2.1
  have hf2 : zlp (fun rc s1 => bX8_left_9 N x1 K rc s1.1 s1.2.1 s1.2.2) n (x2, x3, w0) = some res := hf
  have key := zloop (S := Int32 × Int32 × zS) (α := Int32 × zS) (b := fun rc s1 => bX8_left_9 N x1 K rc s1.1 s1.2.1 s1.2.2) (r := res) (Wd := fun s1 => ∀ (H : Heap) (locs : List Loc) (ls : Array Slot), zW D cy shM 35 a0 aT aP A H0 s1.2.2 H locs → lv_has ls 4 [(0, .ref (a0 0)), (1, .int x1), (2, .int s1.1), (3, .int s1.2.1)] → W p l e rmX8_left s m args below meth c H locs 0 0 Q (F0 m 9 ls []))
  refine key ?_ n (x2, x3, w0) hf2 H locs ls hZ hl
  clear hf hf2 hZ hl key
  rintro rc ⟨x2, x3, w0⟩ ih hf H locs ls hZ hl
  have hf : bX8_left_9 N x1 K rc x2 x3 w0 = some res := hf
  have hl : lv_has ls 4 [(0, .ref (a0 0)), (1, .int x1), (2, .int x2), (3, .int x3)] := hl
  unfold bX8_left_9 at hf
  refine lv_iload_n (pc := 9) hx hb dX8_left_9 rfl (lv_at hl 3 rfl) ?_
  refine lv_aload_n (pc := 10) hx hb dX8_left_10 rfl (lv_at hl 0 rfl) ?_
  refine gfX8_115 (pc := 11) hC hZ dX8_left_11 ?_
  refine z_ige (pc := 14) (tgt := 37) hC hf dX8_left_14 (by decide) (fun hf => ?_) (fun hf => ?_)
  · exact hK x2 x3 w0 H locs ls hf hZ (lv_sub hl [0, 1, 2, 3] rfl)
  refine lv_iload_n (pc := 17) hx hb dX8_left_17 rfl (lv_at hl 2 rfl) ?_
  refine lv_aload_n (pc := 18) hx hb dX8_left_18 rfl (lv_at hl 0 rfl) ?_
  refine gfX8_105 (pc := 19) hC hZ dX8_left_19 ?_
  refine lv_bipush (pc := 22) (v := (10 : Int32)) hx hb dX8_left_22 (by decide) ?_
  refine lv_iload_n (pc := 24) hx hb dX8_left_24 rfl (lv_at hl 1 rfl) ?_
  refine lv_imul (pc := 25) hx hb dX8_left_25 ?_
  refine lv_iload_n (pc := 26) hx hb dX8_left_26 rfl (lv_at hl 3 rfl) ?_
  refine lv_iadd (pc := 27) hx hb dX8_left_27 ?_
  refine z_iald (pc := 28) hC hZ (by decide) rfl hf dX8_left_28 (fun v2 hf => ?_)
  refine lv_isub (pc := 29) hx hb dX8_left_29 ?_
  refine lv_istore_n (pc := 30) (lv' := [(2, .int (x2 - v2)), (0, .ref (a0 0)), (1, .int x1), (3, .int x3)]) hx hb dX8_left_30 rfl hl (by decide) rfl (fun ls hl => ?_)
  refine lv_iinc (pc := 31) (v := (x3 + (1 : Int32))) (lv' := [(3, .int (x3 + (1 : Int32))), (2, .int (x2 - v2)), (0, .ref (a0 0)), (1, .int x1)]) hx hb dX8_left_31 hl (k := 3) rfl rfl (by decide) rfl (fun ls hl => ?_)
  refine lv_goto (pc := 34) (tgt := 9) hx hb dX8_left_34 (by decide) ?_
  exact ih ((x2 - v2), (x3 + (1 : Int32)), w0) hf H locs ls hZ (lv_sub hl [2, 3, 1, 0] rfl)
set_option maxHeartbeats 4000000 in
set_option maxRecDepth 100000 in
theorem cX8_left_ok (l : Launch) (D : va_G) (cy : Nat → ClassId) (a0 aT aP : Nat → Nat) (N : Nat) (x1 : Int32) (w0 : zS) (rv : Int32) (τ : zS) (hf : fX8_left N x1 w0 = some (rv, τ)) : zMi l yX8_left cX8_left 4 (some .int) rmX8_left D cy shM 35 a0 aT aP w0 [.ref (a0 0), .int x1] rv τ (fun u => u = (aT, aP)) := by
  refine zmet_i (by decide +kernel) (Or.inl rfl) (Nat.le_of_ble_eq_true rfl) ?_
  intro p e s m below meth c A Q ls hC hA hZ hl hE
  have hx := hC.1.1
  have hb := hC.1.2.1
  have hl : lv_has ls 4 [(0, .ref (a0 0)), (1, .int x1)] := hl
  unfold fX8_left at hf
  refine lv_aload_n (pc := 0) hx hb dX8_left_0 rfl (lv_at hl 0 rfl) ?_
  refine gfX8_78 (pc := 1) hC hZ dX8_left_1 ?_
  refine lv_iload_n (pc := 4) hx hb dX8_left_4 rfl (lv_at hl 1 rfl) ?_
  refine z_iald (pc := 5) hC hZ (by decide) rfl hf dX8_left_5 (fun v1 hf => ?_)
  refine lv_istore_n (pc := 6) (lv' := [(2, .int v1), (0, .ref (a0 0)), (1, .int x1)]) hx hb dX8_left_6 rfl hl (by decide) rfl (fun ls hl => ?_)
  refine lv_iconst (pc := 7) (v := (0 : Int32)) hx hb dX8_left_7 (by decide) ?_
  refine lv_istore_n (pc := 8) (lv' := [(3, .int (0 : Int32)), (2, .int v1), (0, .ref (a0 0)), (1, .int x1)]) hx hb dX8_left_8 rfl hl (by decide) rfl (fun ls hl => ?_)
  refine wX8_left_9 (res := (rv, τ)) N x1 hC hA hE N _ _ _ hf hZ (lv_sub hl [2, 3, 1, 0] rfl) (fun y3 y4 w5 H locs ls hf hZ hl => ?_)
  refine lv_iload_n (pc := 37) hx hb dX8_left_37 rfl (lv_at hl 2 rfl) ?_
  obtain ⟨rfl, rfl⟩ := zinj hf
  exact hE _ _ _ _ _ _ rfl hZ dX8_left_38
section ZK
variable {p : Program} {l : Launch} {e : Env} {R : Room} {s : State} {m : MethodId} {args : Array Value} {below : List Frame} {meth : Method} {c : Code} {H : Heap} {locs : List Loc} {cells slots : Nat} {Q : State → Prop}
variable {pc : Nat} {ls : Array Slot} {rest : List Value} {A : Nat → Prop} {H0 : Heap} {D : va_G} {cy : Nat → ClassId} {a0 aT aP : Nat → Nat} {σ : zS} {cc : ByteArray} {nL : Nat} {α : Type} {res : α}
theorem vkX8_213 : zVk RX8 213 yX8_left cX8_left 4 (some .int) 1 := ⟨by decide +kernel, by decide +kernel, by decide +kernel, by decide +kernel, by decide +kernel, by decide +kernel⟩
theorem kX8_213 (hC : zC p s m args c RX8 cc nL D cy) (hA : ∀ q, H0.size ≤ q → A q) (hZ : zW D cy shM 35 a0 aT aP A H0 σ H locs) {N : Nat} {x1 : Int32} {k : Int32 → zS → Option α} (hf : zbi (fX8_left N x1 σ) k = some res) (hsz : ls.size = nL) (hW : (rest.map fun v => v.category).sum ≤ 8) (hR : rmX8_left.frames + 1 ≤ R.frames ∧ 8 + (4 + 11) + rmX8_left.locals ≤ R.locals) (hcs : cells ≤ R.cells ∧ slots ≤ R.slots) (hdg : decode cc pc = .ok (.invokevirtual 213, 3)) (kk : ∀ (v : Int32) (τ : zS) (H1 : Heap) (locs1 : List Loc), k v τ = some res → zW D cy shM 35 a0 aT aP A H0 τ H1 locs1 → W p l e R s m args below meth c H1 locs1 cells slots Q (F0 m (pc + 3) ls (.int v :: rest))) : W p l e R s m args below meth c H locs cells slots Q (F0 m pc ls (.int x1 :: .ref (a0 0) :: rest)) := by
  cases hq : fX8_left N x1 σ with
  | none => rw [hq] at hf; cases hf
  | some q =>
    rw [hq] at hf
    exact zcalli hA hZ (zrun hC hZ vkX8_213 rfl (zw0 (by decide)) (cX8_left_ok l D cy a0 aT aP N x1 σ q.1 q.2 hq H.size) hR rfl hsz rfl hW hcs hdg) (fun u H1 locs1 hU hZ1 => by subst hU; exact kk q.1 q.2 H1 locs1 hf hZ1)
end ZK
set_option maxHeartbeats 4000000 in
set_option maxRecDepth 100000 in
theorem wX8_lacks_9 {p : Program} {l : Launch} {e : Env} {s : State} {m : MethodId} {args : Array Value} {below : List Frame} {meth : Method} {c : Code} {Q : State → Prop} {A : Nat → Prop} {H0 : Heap} {D : va_G} {cy : Nat → ClassId} {a0 aT aP : Nat → Nat} {res : Int32 × zS} {K : Int32 → Int32 → zS → Option (Int32 × zS)} (N : Nat) (x1 : Int32) (hC : zC p s m args c RX8 cX8_lacks 4 D cy) (hA : ∀ q, H0.size ≤ q → A q) (hE : zEnd p l e rmX8_lacks s m args below meth c Q D cy shM 35 a0 A H0 res.2 (fun u => u = (aT, aP)) cX8_lacks .ireturn [.int res.1]) (n : Nat) (x2 : Int32) (x3 : Int32) (w0 : zS) {H : Heap} {locs : List Loc} {ls : Array Slot} (hf : lX8_lacks_9 N x1 K n (x2, x3, w0) = some res) (hZ : zW D cy shM 35 a0 aT aP A H0 w0 H locs) (hl : lv_has ls 4 [(0, .ref (a0 0)), (1, .int x1), (2, .int x2), (3, .int x3)]) (hK : ∀ x2 : Int32, ∀ x3 : Int32, ∀ (w0 : zS) (H : Heap) (locs : List Loc) (ls : Array Slot), K x2 x3 w0 = some res → zW D cy shM 35 a0 aT aP A H0 w0 H locs → lv_has ls 4 [(0, .ref (a0 0)), (1, .int x1), (2, .int x2), (3, .int x3)] → W p l e rmX8_lacks s m args below meth c H locs 0 0 Q (F0 m 37 ls [])) : W p l e rmX8_lacks s m args below meth c H locs 0 0 Q (F0 m 9 ls []) := by
  have hx := hC.1.1
  have hb := hC.1.2.1
  have hf2 : zlp (fun rc s1 => bX8_lacks_9 N x1 K rc s1.1 s1.2.1 s1.2.2) n (x2, x3, w0) = some res := hf
  have key := zloop (S := Int32 × Int32 × zS) (α := Int32 × zS) (b := fun rc s1 => bX8_lacks_9 N x1 K rc s1.1 s1.2.1 s1.2.2) (r := res) (Wd := fun s1 => ∀ (H : Heap) (locs : List Loc) (ls : Array Slot), zW D cy shM 35 a0 aT aP A H0 s1.2.2 H locs → lv_has ls 4 [(0, .ref (a0 0)), (1, .int x1), (2, .int s1.1), (3, .int s1.2.1)] → W p l e rmX8_lacks s m args below meth c H locs 0 0 Q (F0 m 9 ls []))
  refine key ?_ n (x2, x3, w0) hf2 H locs ls hZ hl
  clear hf hf2 hZ hl key
  rintro rc ⟨x2, x3, w0⟩ ih hf H locs ls hZ hl
  have hf : bX8_lacks_9 N x1 K rc x2 x3 w0 = some res := hf
  have hl : lv_has ls 4 [(0, .ref (a0 0)), (1, .int x1), (2, .int x2), (3, .int x3)] := hl
  unfold bX8_lacks_9 at hf
  refine lv_iload_n (pc := 9) hx hb dX8_lacks_9 rfl (lv_at hl 3 rfl) ?_
  refine lv_aload_n (pc := 10) hx hb dX8_lacks_10 rfl (lv_at hl 0 rfl) ?_
  refine gfX8_115 (pc := 11) hC hZ dX8_lacks_11 ?_
  refine z_ige (pc := 14) (tgt := 37) hC hf dX8_lacks_14 (by decide) (fun hf => ?_) (fun hf => ?_)
  · exact hK x2 x3 w0 H locs ls hf hZ (lv_sub hl [0, 1, 2, 3] rfl)
  refine lv_iload_n (pc := 17) hx hb dX8_lacks_17 rfl (lv_at hl 2 rfl) ?_
  refine lv_aload_n (pc := 18) hx hb dX8_lacks_18 rfl (lv_at hl 0 rfl) ?_
  refine gfX8_105 (pc := 19) hC hZ dX8_lacks_19 ?_
  refine lv_bipush (pc := 22) (v := (10 : Int32)) hx hb dX8_lacks_22 (by decide) ?_
  refine lv_iload_n (pc := 24) hx hb dX8_lacks_24 rfl (lv_at hl 3 rfl) ?_
  refine lv_imul (pc := 25) hx hb dX8_lacks_25 ?_
  refine lv_iload_n (pc := 26) hx hb dX8_lacks_26 rfl (lv_at hl 1 rfl) ?_
  refine lv_iadd (pc := 27) hx hb dX8_lacks_27 ?_
  refine z_iald (pc := 28) hC hZ (by decide) rfl hf dX8_lacks_28 (fun v2 hf => ?_)
  refine lv_isub (pc := 29) hx hb dX8_lacks_29 ?_
  refine lv_istore_n (pc := 30) (lv' := [(2, .int (x2 - v2)), (0, .ref (a0 0)), (1, .int x1), (3, .int x3)]) hx hb dX8_lacks_30 rfl hl (by decide) rfl (fun ls hl => ?_)
  refine lv_iinc (pc := 31) (v := (x3 + (1 : Int32))) (lv' := [(3, .int (x3 + (1 : Int32))), (2, .int (x2 - v2)), (0, .ref (a0 0)), (1, .int x1)]) hx hb dX8_lacks_31 hl (k := 3) rfl rfl (by decide) rfl (fun ls hl => ?_)
  refine lv_goto (pc := 34) (tgt := 9) hx hb dX8_lacks_34 (by decide) ?_
  exact ih ((x2 - v2), (x3 + (1 : Int32)), w0) hf H locs ls hZ (lv_sub hl [2, 3, 1, 0] rfl)
set_option maxHeartbeats 4000000 in
set_option maxRecDepth 100000 in
theorem cX8_lacks_ok (l : Launch) (D : va_G) (cy : Nat → ClassId) (a0 aT aP : Nat → Nat) (N : Nat) (x1 : Int32) (w0 : zS) (rv : Int32) (τ : zS) (hf : fX8_lacks N x1 w0 = some (rv, τ)) : zMi l yX8_lacks cX8_lacks 4 (some .int) rmX8_lacks D cy shM 35 a0 aT aP w0 [.ref (a0 0), .int x1] rv τ (fun u => u = (aT, aP)) := by
  refine zmet_i (by decide +kernel) (Or.inl rfl) (Nat.le_of_ble_eq_true rfl) ?_
  intro p e s m below meth c A Q ls hC hA hZ hl hE
  have hx := hC.1.1
  have hb := hC.1.2.1
  have hl : lv_has ls 4 [(0, .ref (a0 0)), (1, .int x1)] := hl
  unfold fX8_lacks at hf
  refine lv_aload_n (pc := 0) hx hb dX8_lacks_0 rfl (lv_at hl 0 rfl) ?_
  refine gfX8_81 (pc := 1) hC hZ dX8_lacks_1 ?_
  refine lv_iload_n (pc := 4) hx hb dX8_lacks_4 rfl (lv_at hl 1 rfl) ?_
  refine z_iald (pc := 5) hC hZ (by decide) rfl hf dX8_lacks_5 (fun v1 hf => ?_)
  refine lv_istore_n (pc := 6) (lv' := [(2, .int v1), (0, .ref (a0 0)), (1, .int x1)]) hx hb dX8_lacks_6 rfl hl (by decide) rfl (fun ls hl => ?_)
  refine lv_iconst (pc := 7) (v := (0 : Int32)) hx hb dX8_lacks_7 (by decide) ?_
  refine lv_istore_n (pc := 8) (lv' := [(3, .int (0 : Int32)), (2, .int v1), (0, .ref (a0 0)), (1, .int x1)]) hx hb dX8_lacks_8 rfl hl (by decide) rfl (fun ls hl => ?_)
  refine wX8_lacks_9 (res := (rv, τ)) N x1 hC hA hE N _ _ _ hf hZ (lv_sub hl [2, 3, 1, 0] rfl) (fun y3 y4 w5 H locs ls hf hZ hl => ?_)
  refine lv_iload_n (pc := 37) hx hb dX8_lacks_37 rfl (lv_at hl 2 rfl) ?_
  obtain ⟨rfl, rfl⟩ := zinj hf
  exact hE _ _ _ _ _ _ rfl hZ dX8_lacks_38
section ZK
variable {p : Program} {l : Launch} {e : Env} {R : Room} {s : State} {m : MethodId} {args : Array Value} {below : List Frame} {meth : Method} {c : Code} {H : Heap} {locs : List Loc} {cells slots : Nat} {Q : State → Prop}
variable {pc : Nat} {ls : Array Slot} {rest : List Value} {A : Nat → Prop} {H0 : Heap} {D : va_G} {cy : Nat → ClassId} {a0 aT aP : Nat → Nat} {σ : zS} {cc : ByteArray} {nL : Nat} {α : Type} {res : α}
theorem vkX8_217 : zVk RX8 217 yX8_lacks cX8_lacks 4 (some .int) 1 := ⟨by decide +kernel, by decide +kernel, by decide +kernel, by decide +kernel, by decide +kernel, by decide +kernel⟩
theorem kX8_217 (hC : zC p s m args c RX8 cc nL D cy) (hA : ∀ q, H0.size ≤ q → A q) (hZ : zW D cy shM 35 a0 aT aP A H0 σ H locs) {N : Nat} {x1 : Int32} {k : Int32 → zS → Option α} (hf : zbi (fX8_lacks N x1 σ) k = some res) (hsz : ls.size = nL) (hW : (rest.map fun v => v.category).sum ≤ 8) (hR : rmX8_lacks.frames + 1 ≤ R.frames ∧ 8 + (4 + 11) + rmX8_lacks.locals ≤ R.locals) (hcs : cells ≤ R.cells ∧ slots ≤ R.slots) (hdg : decode cc pc = .ok (.invokevirtual 217, 3)) (kk : ∀ (v : Int32) (τ : zS) (H1 : Heap) (locs1 : List Loc), k v τ = some res → zW D cy shM 35 a0 aT aP A H0 τ H1 locs1 → W p l e R s m args below meth c H1 locs1 cells slots Q (F0 m (pc + 3) ls (.int v :: rest))) : W p l e R s m args below meth c H locs cells slots Q (F0 m pc ls (.int x1 :: .ref (a0 0) :: rest)) := by
  cases hq : fX8_lacks N x1 σ with
  | none => rw [hq] at hf; cases hf
  | some q =>
    rw [hq] at hf
    exact zcalli hA hZ (zrun hC hZ vkX8_217 rfl (zw0 (by decide)) (cX8_lacks_ok l D cy a0 aT aP N x1 σ q.1 q.2 hq H.size) hR rfl hsz rfl hW hcs hdg) (fun u H1 locs1 hU hZ1 => by subst hU; exact kk q.1 q.2 H1 locs1 hf hZ1)
end ZK
set_option maxHeartbeats 4000000 in
set_option maxRecDepth 100000 in
theorem wX8_carryOne_2 {p : Program} {l : Launch} {e : Env} {s : State} {m : MethodId} {args : Array Value} {below : List Frame} {meth : Method} {c : Code} {Q : State → Prop} {A : Nat → Prop} {H0 : Heap} {D : va_G} {cy : Nat → ClassId} {a0 aT aP : Nat → Nat} {res : Int32 × zS} {K : Int32 → zS → Option (Int32 × zS)} (N : Nat)  (hC : zC p s m args c RX8 cX8_carryOne 6 D cy) (hA : ∀ q, H0.size ≤ q → A q) (hE : zEnd p l e rmX8_carryOne s m args below meth c Q D cy shM 35 a0 A H0 res.2 (fun u => u = (aT, aP)) cX8_carryOne .ireturn [.int res.1]) (n : Nat) (x1 : Int32) (w0 : zS) {H : Heap} {locs : List Loc} {ls : Array Slot} (hf : lX8_carryOne_2 N  K n (x1, w0) = some res) (hZ : zW D cy shM 35 a0 aT aP A H0 w0 H locs) (hl : lv_has ls 6 [(0, .ref (a0 0)), (1, .int x1)]) (hK : ∀ x1 : Int32, ∀ (w0 : zS) (H : Heap) (locs : List Loc) (ls : Array Slot), K x1 w0 = some res → zW D cy shM 35 a0 aT aP A H0 w0 H locs → lv_has ls 6 [(0, .ref (a0 0)), (1, .int x1)] → W p l e rmX8_carryOne s m args below meth c H locs 0 0 Q (F0 m 50 ls [])) : W p l e rmX8_carryOne s m args below meth c H locs 0 0 Q (F0 m 2 ls []) := by
  have hx := hC.1.1
  have hb := hC.1.2.1
  have hf2 : zlp (fun rc s1 => bX8_carryOne_2 N  K rc s1.1 s1.2) n (x1, w0) = some res := hf
  have key := zloop (S := Int32 × zS) (α := Int32 × zS) (b := fun rc s1 => bX8_carryOne_2 N  K rc s1.1 s1.2) (r := res) (Wd := fun s1 => ∀ (H : Heap) (locs : List Loc) (ls : Array Slot), zW D cy shM 35 a0 aT aP A H0 s1.2 H locs → lv_has ls 6 [(0, .ref (a0 0)), (1, .int s1.1)] → W p l e rmX8_carryOne s m args below meth c H locs 0 0 Q (F0 m 2 ls []))
  refine key ?_ n (x1, w0) hf2 H locs ls hZ hl
  clear hf hf2 hZ hl key
  rintro rc ⟨x1, w0⟩ ih hf H locs ls hZ hl
  have hf : bX8_carryOne_2 N  K rc x1 w0 = some res := hf
  have hl : lv_has ls 6 [(0, .ref (a0 0)), (1, .int x1)] := hl
  unfold bX8_carryOne_2 at hf
  refine lv_iload_n (pc := 2) hx hb dX8_carryOne_2 rfl (lv_at hl 1 rfl) ?_
  refine lv_bipush (pc := 3) (v := (20 : Int32)) hx hb dX8_carryOne_3 (by decide) ?_
  refine z_ige (pc := 5) (tgt := 50) hC hf dX8_carryOne_5 (by decide) (fun hf => ?_) (fun hf => ?_)
  · exact hK x1 w0 H locs ls hf hZ (lv_sub hl [0, 1] rfl)
  refine lv_aload_n (pc := 8) hx hb dX8_carryOne_8 rfl (lv_at hl 0 rfl) ?_
  refine gfX8_108 (pc := 9) hC hZ dX8_carryOne_9 ?_
  refine lv_iload_n (pc := 12) hx hb dX8_carryOne_12 rfl (lv_at hl 1 rfl) ?_
  refine lv_iload_n (pc := 13) hx hb dX8_carryOne_13 rfl (lv_at hl 1 rfl) ?_
  refine lv_aload_n (pc := 14) hx hb dX8_carryOne_14 rfl (lv_at hl 0 rfl) ?_
  refine gfX8_115 (pc := 15) hC hZ dX8_carryOne_15 ?_
  refine z_ige (pc := 18) (tgt := 33) hC hf dX8_carryOne_18 (by decide) (fun hf => ?_) (fun hf => ?_)
  · refine lv_ldc (pc := 33) (v := (1000000 : Int32)) hx hb hC.1.2.2.2.1 (hC.1.2.2.2.2 _ kcX8_216) dX8_carryOne_33 ?_
    refine z_iast (pc := 35) hC hZ (by decide) rfl hf dX8_carryOne_35 (fun w1 H locs hf hZ => ?_)
    refine lv_aload_n (pc := 36) hx hb dX8_carryOne_36 rfl (lv_at hl 0 rfl) ?_
    refine gfX8_111 (pc := 37) hC hZ dX8_carryOne_37 ?_
    refine lv_iload_n (pc := 40) hx hb dX8_carryOne_40 rfl (lv_at hl 1 rfl) ?_
    refine lv_bipush (pc := 41) (v := (-9 : Int32)) hx hb dX8_carryOne_41 (by decide) ?_
    refine z_iast (pc := 43) hC hZ (by decide) rfl hf dX8_carryOne_43 (fun w2 H locs hf hZ => ?_)
    refine lv_iinc (pc := 44) (v := (x1 + (1 : Int32))) (lv' := [(1, .int (x1 + (1 : Int32))), (0, .ref (a0 0))]) hx hb dX8_carryOne_44 hl (k := 1) rfl rfl (by decide) rfl (fun ls hl => ?_)
    refine lv_goto (pc := 47) (tgt := 2) hx hb dX8_carryOne_47 (by decide) ?_
    exact ih ((x1 + (1 : Int32)), w2) hf H locs ls hZ (lv_sub hl [1, 0] rfl)
  refine lv_aload_n (pc := 21) hx hb dX8_carryOne_21 rfl (lv_at hl 0 rfl) ?_
  refine lv_iload_n (pc := 22) hx hb dX8_carryOne_22 rfl (lv_at hl 1 rfl) ?_
  refine kX8_213 (pc := 23) hC hA hZ hf hl.1 (Nat.le_of_ble_eq_true rfl) ⟨Nat.le_of_ble_eq_true rfl, Nat.le_of_ble_eq_true rfl⟩ ⟨Nat.le_refl _, Nat.le_refl _⟩ dX8_carryOne_23 (fun v4 w3 H locs hf hZ => ?_)
  refine z_le0 (pc := 26) (tgt := 33) hC hf dX8_carryOne_26 (by decide) (fun hf => ?_) (fun hf => ?_)
  · refine lv_ldc (pc := 33) (v := (1000000 : Int32)) hx hb hC.1.2.2.2.1 (hC.1.2.2.2.2 _ kcX8_216) dX8_carryOne_33 ?_
    refine z_iast (pc := 35) hC hZ (by decide) rfl hf dX8_carryOne_35 (fun w5 H locs hf hZ => ?_)
    refine lv_aload_n (pc := 36) hx hb dX8_carryOne_36 rfl (lv_at hl 0 rfl) ?_
    refine gfX8_111 (pc := 37) hC hZ dX8_carryOne_37 ?_
    refine lv_iload_n (pc := 40) hx hb dX8_carryOne_40 rfl (lv_at hl 1 rfl) ?_
    refine lv_bipush (pc := 41) (v := (-9 : Int32)) hx hb dX8_carryOne_41 (by decide) ?_
    refine z_iast (pc := 43) hC hZ (by decide) rfl hf dX8_carryOne_43 (fun w6 H locs hf hZ => ?_)
    refine lv_iinc (pc := 44) (v := (x1 + (1 : Int32))) (lv' := [(1, .int (x1 + (1 : Int32))), (0, .ref (a0 0))]) hx hb dX8_carryOne_44 hl (k := 1) rfl rfl (by decide) rfl (fun ls hl => ?_)
    refine lv_goto (pc := 47) (tgt := 2) hx hb dX8_carryOne_47 (by decide) ?_
    exact ih ((x1 + (1 : Int32)), w6) hf H locs ls hZ (lv_sub hl [1, 0] rfl)
  refine lv_iconst (pc := 29) (v := (0 : Int32)) hx hb dX8_carryOne_29 (by decide) ?_
  refine lv_goto (pc := 30) (tgt := 35) hx hb dX8_carryOne_30 (by decide) ?_
  refine z_iast (pc := 35) hC hZ (by decide) rfl hf dX8_carryOne_35 (fun w7 H locs hf hZ => ?_)
  refine lv_aload_n (pc := 36) hx hb dX8_carryOne_36 rfl (lv_at hl 0 rfl) ?_
  refine gfX8_111 (pc := 37) hC hZ dX8_carryOne_37 ?_
  refine lv_iload_n (pc := 40) hx hb dX8_carryOne_40 rfl (lv_at hl 1 rfl) ?_
  refine lv_bipush (pc := 41) (v := (-9 : Int32)) hx hb dX8_carryOne_41 (by decide) ?_
  refine z_iast (pc := 43) hC hZ (by decide) rfl hf dX8_carryOne_43 (fun w8 H locs hf hZ => ?_)
  refine lv_iinc (pc := 44) (v := (x1 + (1 : Int32))) (lv' := [(1, .int (x1 + (1 : Int32))), (0, .ref (a0 0))]) hx hb dX8_carryOne_44 hl (k := 1) rfl rfl (by decide) rfl (fun ls hl => ?_)
  refine lv_goto (pc := 47) (tgt := 2) hx hb dX8_carryOne_47 (by decide) ?_
  exact ih ((x1 + (1 : Int32)), w8) hf H locs ls hZ (lv_sub hl [1, 0] rfl)
set_option maxHeartbeats 4000000 in
set_option maxRecDepth 100000 in
theorem wX8_carryOne_70 {p : Program} {l : Launch} {e : Env} {s : State} {m : MethodId} {args : Array Value} {below : List Frame} {meth : Method} {c : Code} {Q : State → Prop} {A : Nat → Prop} {H0 : Heap} {D : va_G} {cy : Nat → ClassId} {a0 aT aP : Nat → Nat} {res : Int32 × zS} {K : Int32 → Int32 → zS → Option (Int32 × zS)} (N : Nat) (x2 : Int32) (hC : zC p s m args c RX8 cX8_carryOne 6 D cy) (hA : ∀ q, H0.size ≤ q → A q) (hE : zEnd p l e rmX8_carryOne s m args below meth c Q D cy shM 35 a0 A H0 res.2 (fun u => u = (aT, aP)) cX8_carryOne .ireturn [.int res.1]) (n : Nat) (x1 : Int32) (x3 : Int32) (w0 : zS) {H : Heap} {locs : List Loc} {ls : Array Slot} (hf : lX8_carryOne_70 N x2 K n (x1, x3, w0) = some res) (hZ : zW D cy shM 35 a0 aT aP A H0 w0 H locs) (hl : lv_has ls 6 [(0, .ref (a0 0)), (1, .int x1), (2, .int x2), (3, .int x3)]) (hK : ∀ x1 : Int32, ∀ x3 : Int32, ∀ (w0 : zS) (H : Heap) (locs : List Loc) (ls : Array Slot), K x1 x3 w0 = some res → zW D cy shM 35 a0 aT aP A H0 w0 H locs → lv_has ls 6 [(0, .ref (a0 0)), (1, .int x1), (2, .int x2), (3, .int x3)] → W p l e rmX8_carryOne s m args below meth c H locs 0 0 Q (F0 m 236 ls [])) : W p l e rmX8_carryOne s m args below meth c H locs 0 0 Q (F0 m 70 ls []) := by
  have hx := hC.1.1
  have hb := hC.1.2.1
  have hf2 : zlp (fun rc s1 => bX8_carryOne_70 N x2 K rc s1.1 s1.2.1 s1.2.2) n (x1, x3, w0) = some res := hf
  have key := zloop (S := Int32 × Int32 × zS) (α := Int32 × zS) (b := fun rc s1 => bX8_carryOne_70 N x2 K rc s1.1 s1.2.1 s1.2.2) (r := res) (Wd := fun s1 => ∀ (H : Heap) (locs : List Loc) (ls : Array Slot), zW D cy shM 35 a0 aT aP A H0 s1.2.2 H locs → lv_has ls 6 [(0, .ref (a0 0)), (1, .int s1.1), (2, .int x2), (3, .int s1.2.1)] → W p l e rmX8_carryOne s m args below meth c H locs 0 0 Q (F0 m 70 ls []))
  refine key ?_ n (x1, x3, w0) hf2 H locs ls hZ hl
  clear hf hf2 hZ hl key
  rintro rc ⟨x1, x3, w0⟩ ih hf H locs ls hZ hl
  have hf : bX8_carryOne_70 N x2 K rc x1 x3 w0 = some res := hf
  have hl : lv_has ls 6 [(0, .ref (a0 0)), (1, .int x1), (2, .int x2), (3, .int x3)] := hl
  unfold bX8_carryOne_70 at hf
  refine lv_iload_n (pc := 70) hx hb dX8_carryOne_70 rfl (lv_at hl 3 rfl) ?_
  refine lv_aload_n (pc := 71) hx hb dX8_carryOne_71 rfl (lv_at hl 0 rfl) ?_
  refine gfX8_115 (pc := 72) hC hZ dX8_carryOne_72 ?_
  refine z_ige (pc := 75) (tgt := 236) hC hf dX8_carryOne_75 (by decide) (fun hf => ?_) (fun hf => ?_)
  · exact hK x1 x3 w0 H locs ls hf hZ (lv_sub hl [0, 1, 2, 3] rfl)
  refine lv_aload_n (pc := 78) hx hb dX8_carryOne_78 rfl (lv_at hl 0 rfl) ?_
  refine gfX8_108 (pc := 79) hC hZ dX8_carryOne_79 ?_
  refine lv_iload_n (pc := 82) hx hb dX8_carryOne_82 rfl (lv_at hl 2 rfl) ?_
  refine z_iald (pc := 83) hC hZ (by decide) rfl hf dX8_carryOne_83 (fun v11 hf => ?_)
  refine lv_aload_n (pc := 84) hx hb dX8_carryOne_84 rfl (lv_at hl 0 rfl) ?_
  refine gfX8_84 (pc := 85) hC hZ dX8_carryOne_85 ?_
  refine lv_bipush (pc := 88) (v := (10 : Int32)) hx hb dX8_carryOne_88 (by decide) ?_
  refine lv_iload_n (pc := 90) hx hb dX8_carryOne_90 rfl (lv_at hl 2 rfl) ?_
  refine lv_imul (pc := 91) hx hb dX8_carryOne_91 ?_
  refine lv_iload_n (pc := 92) hx hb dX8_carryOne_92 rfl (lv_at hl 3 rfl) ?_
  refine lv_iadd (pc := 93) hx hb dX8_carryOne_93 ?_
  refine z_iald (pc := 94) hC hZ (by decide) rfl hf dX8_carryOne_94 (fun v12 hf => ?_)
  refine lv_iadd (pc := 95) hx hb dX8_carryOne_95 ?_
  refine lv_aload_n (pc := 96) hx hb dX8_carryOne_96 rfl (lv_at hl 0 rfl) ?_
  refine gfX8_108 (pc := 97) hC hZ dX8_carryOne_97 ?_
  refine lv_bipush (pc := 100) (v := (10 : Int32)) hx hb dX8_carryOne_100 (by decide) ?_
  refine lv_iload_n (pc := 102) hx hb dX8_carryOne_102 rfl (lv_at hl 3 rfl) ?_
  refine lv_iadd (pc := 103) hx hb dX8_carryOne_103 ?_
  refine z_iald (pc := 104) hC hZ (by decide) rfl hf dX8_carryOne_104 (fun v13 hf => ?_)
  refine z_ige (pc := 105) (tgt := 147) hC hf dX8_carryOne_105 (by decide) (fun hf => ?_) (fun hf => ?_)
  · refine lv_aload_n (pc := 147) hx hb dX8_carryOne_147 rfl (lv_at hl 0 rfl) ?_
    refine gfX8_105 (pc := 148) hC hZ dX8_carryOne_148 ?_
    refine lv_bipush (pc := 151) (v := (10 : Int32)) hx hb dX8_carryOne_151 (by decide) ?_
    refine lv_iload_n (pc := 153) hx hb dX8_carryOne_153 rfl (lv_at hl 2 rfl) ?_
    refine lv_imul (pc := 154) hx hb dX8_carryOne_154 ?_
    refine lv_iload_n (pc := 155) hx hb dX8_carryOne_155 rfl (lv_at hl 3 rfl) ?_
    refine lv_iadd (pc := 156) hx hb dX8_carryOne_156 ?_
    refine z_iald (pc := 157) hC hZ (by decide) rfl hf dX8_carryOne_157 (fun v14 hf => ?_)
    refine z_le0 (pc := 158) (tgt := 230) hC hf dX8_carryOne_158 (by decide) (fun hf => ?_) (fun hf => ?_)
    · refine lv_iinc (pc := 230) (v := (x3 + (1 : Int32))) (lv' := [(3, .int (x3 + (1 : Int32))), (0, .ref (a0 0)), (1, .int x1), (2, .int x2)]) hx hb dX8_carryOne_230 hl (k := 3) rfl rfl (by decide) rfl (fun ls hl => ?_)
      refine lv_goto (pc := 233) (tgt := 70) hx hb dX8_carryOne_233 (by decide) ?_
      exact ih (x1, (x3 + (1 : Int32)), w0) hf H locs ls hZ (lv_sub hl [1, 2, 3, 0] rfl)
    refine lv_aload_n (pc := 161) hx hb dX8_carryOne_161 rfl (lv_at hl 0 rfl) ?_
    refine gfX8_108 (pc := 162) hC hZ dX8_carryOne_162 ?_
    refine lv_bipush (pc := 165) (v := (10 : Int32)) hx hb dX8_carryOne_165 (by decide) ?_
    refine lv_iload_n (pc := 167) hx hb dX8_carryOne_167 rfl (lv_at hl 3 rfl) ?_
    refine lv_iadd (pc := 168) hx hb dX8_carryOne_168 ?_
    refine z_iald (pc := 169) hC hZ (by decide) rfl hf dX8_carryOne_169 (fun v15 hf => ?_)
    refine lv_aload_n (pc := 170) hx hb dX8_carryOne_170 rfl (lv_at hl 0 rfl) ?_
    refine gfX8_84 (pc := 171) hC hZ dX8_carryOne_171 ?_
    refine lv_bipush (pc := 174) (v := (10 : Int32)) hx hb dX8_carryOne_174 (by decide) ?_
    refine lv_iload_n (pc := 176) hx hb dX8_carryOne_176 rfl (lv_at hl 2 rfl) ?_
    refine lv_imul (pc := 177) hx hb dX8_carryOne_177 ?_
    refine lv_iload_n (pc := 178) hx hb dX8_carryOne_178 rfl (lv_at hl 3 rfl) ?_
    refine lv_iadd (pc := 179) hx hb dX8_carryOne_179 ?_
    refine z_iald (pc := 180) hC hZ (by decide) rfl hf dX8_carryOne_180 (fun v16 hf => ?_)
    refine lv_isub (pc := 181) hx hb dX8_carryOne_181 ?_
    refine lv_aload_n (pc := 182) hx hb dX8_carryOne_182 rfl (lv_at hl 0 rfl) ?_
    refine gfX8_108 (pc := 183) hC hZ dX8_carryOne_183 ?_
    refine lv_iload_n (pc := 186) hx hb dX8_carryOne_186 rfl (lv_at hl 2 rfl) ?_
    refine z_iald (pc := 187) hC hZ (by decide) rfl hf dX8_carryOne_187 (fun v17 hf => ?_)
    refine z_ige (pc := 188) (tgt := 230) hC hf dX8_carryOne_188 (by decide) (fun hf => ?_) (fun hf => ?_)
    · refine lv_iinc (pc := 230) (v := (x3 + (1 : Int32))) (lv' := [(3, .int (x3 + (1 : Int32))), (0, .ref (a0 0)), (1, .int x1), (2, .int x2)]) hx hb dX8_carryOne_230 hl (k := 3) rfl rfl (by decide) rfl (fun ls hl => ?_)
      refine lv_goto (pc := 233) (tgt := 70) hx hb dX8_carryOne_233 (by decide) ?_
      exact ih (x1, (x3 + (1 : Int32)), w0) hf H locs ls hZ (lv_sub hl [1, 2, 3, 0] rfl)
    refine lv_aload_n (pc := 191) hx hb dX8_carryOne_191 rfl (lv_at hl 0 rfl) ?_
    refine gfX8_108 (pc := 192) hC hZ dX8_carryOne_192 ?_
    refine lv_iload_n (pc := 195) hx hb dX8_carryOne_195 rfl (lv_at hl 2 rfl) ?_
    refine lv_aload_n (pc := 196) hx hb dX8_carryOne_196 rfl (lv_at hl 0 rfl) ?_
    refine gfX8_108 (pc := 197) hC hZ dX8_carryOne_197 ?_
    refine lv_bipush (pc := 200) (v := (10 : Int32)) hx hb dX8_carryOne_200 (by decide) ?_
    refine lv_iload_n (pc := 202) hx hb dX8_carryOne_202 rfl (lv_at hl 3 rfl) ?_
    refine lv_iadd (pc := 203) hx hb dX8_carryOne_203 ?_
    refine z_iald (pc := 204) hC hZ (by decide) rfl hf dX8_carryOne_204 (fun v18 hf => ?_)
    refine lv_aload_n (pc := 205) hx hb dX8_carryOne_205 rfl (lv_at hl 0 rfl) ?_
    refine gfX8_84 (pc := 206) hC hZ dX8_carryOne_206 ?_
    refine lv_bipush (pc := 209) (v := (10 : Int32)) hx hb dX8_carryOne_209 (by decide) ?_
    refine lv_iload_n (pc := 211) hx hb dX8_carryOne_211 rfl (lv_at hl 2 rfl) ?_
    refine lv_imul (pc := 212) hx hb dX8_carryOne_212 ?_
    refine lv_iload_n (pc := 213) hx hb dX8_carryOne_213 rfl (lv_at hl 3 rfl) ?_
    refine lv_iadd (pc := 214) hx hb dX8_carryOne_214 ?_
    refine z_iald (pc := 215) hC hZ (by decide) rfl hf dX8_carryOne_215 (fun v19 hf => ?_)
    refine lv_isub (pc := 216) hx hb dX8_carryOne_216 ?_
    refine z_iast (pc := 217) hC hZ (by decide) rfl hf dX8_carryOne_217 (fun w20 H locs hf hZ => ?_)
    refine lv_aload_n (pc := 218) hx hb dX8_carryOne_218 rfl (lv_at hl 0 rfl) ?_
    refine gfX8_111 (pc := 219) hC hZ dX8_carryOne_219 ?_
    refine lv_iload_n (pc := 222) hx hb dX8_carryOne_222 rfl (lv_at hl 2 rfl) ?_
    refine lv_bipush (pc := 223) (v := (10 : Int32)) hx hb dX8_carryOne_223 (by decide) ?_
    refine lv_iload_n (pc := 225) hx hb dX8_carryOne_225 rfl (lv_at hl 3 rfl) ?_
    refine lv_iadd (pc := 226) hx hb dX8_carryOne_226 ?_
    refine z_iast (pc := 227) hC hZ (by decide) rfl hf dX8_carryOne_227 (fun w21 H locs hf hZ => ?_)
    refine lv_iconst (pc := 228) (v := (1 : Int32)) hx hb dX8_carryOne_228 (by decide) ?_
    refine lv_istore_n (pc := 229) (lv' := [(1, .int (1 : Int32)), (0, .ref (a0 0)), (2, .int x2), (3, .int x3)]) hx hb dX8_carryOne_229 rfl hl (by decide) rfl (fun ls hl => ?_)
    refine lv_iinc (pc := 230) (v := (x3 + (1 : Int32))) (lv' := [(3, .int (x3 + (1 : Int32))), (1, .int (1 : Int32)), (0, .ref (a0 0)), (2, .int x2)]) hx hb dX8_carryOne_230 hl (k := 3) rfl rfl (by decide) rfl (fun ls hl => ?_)
    refine lv_goto (pc := 233) (tgt := 70) hx hb dX8_carryOne_233 (by decide) ?_
    exact ih ((1 : Int32), (x3 + (1 : Int32)), w21) hf H locs ls hZ (lv_sub hl [2, 1, 3, 0] rfl)
  refine lv_aload_n (pc := 108) hx hb dX8_carryOne_108 rfl (lv_at hl 0 rfl) ?_
  refine gfX8_108 (pc := 109) hC hZ dX8_carryOne_109 ?_
  refine lv_bipush (pc := 112) (v := (10 : Int32)) hx hb dX8_carryOne_112 (by decide) ?_
  refine lv_iload_n (pc := 114) hx hb dX8_carryOne_114 rfl (lv_at hl 3 rfl) ?_
  refine lv_iadd (pc := 115) hx hb dX8_carryOne_115 ?_
  refine lv_aload_n (pc := 116) hx hb dX8_carryOne_116 rfl (lv_at hl 0 rfl) ?_
  refine gfX8_108 (pc := 117) hC hZ dX8_carryOne_117 ?_
  refine lv_iload_n (pc := 120) hx hb dX8_carryOne_120 rfl (lv_at hl 2 rfl) ?_
  refine z_iald (pc := 121) hC hZ (by decide) rfl hf dX8_carryOne_121 (fun v22 hf => ?_)
  refine lv_aload_n (pc := 122) hx hb dX8_carryOne_122 rfl (lv_at hl 0 rfl) ?_
  refine gfX8_84 (pc := 123) hC hZ dX8_carryOne_123 ?_
  refine lv_bipush (pc := 126) (v := (10 : Int32)) hx hb dX8_carryOne_126 (by decide) ?_
  refine lv_iload_n (pc := 128) hx hb dX8_carryOne_128 rfl (lv_at hl 2 rfl) ?_
  refine lv_imul (pc := 129) hx hb dX8_carryOne_129 ?_
  refine lv_iload_n (pc := 130) hx hb dX8_carryOne_130 rfl (lv_at hl 3 rfl) ?_
  refine lv_iadd (pc := 131) hx hb dX8_carryOne_131 ?_
  refine z_iald (pc := 132) hC hZ (by decide) rfl hf dX8_carryOne_132 (fun v23 hf => ?_)
  refine lv_iadd (pc := 133) hx hb dX8_carryOne_133 ?_
  refine z_iast (pc := 134) hC hZ (by decide) rfl hf dX8_carryOne_134 (fun w24 H locs hf hZ => ?_)
  refine lv_aload_n (pc := 135) hx hb dX8_carryOne_135 rfl (lv_at hl 0 rfl) ?_
  refine gfX8_111 (pc := 136) hC hZ dX8_carryOne_136 ?_
  refine lv_bipush (pc := 139) (v := (10 : Int32)) hx hb dX8_carryOne_139 (by decide) ?_
  refine lv_iload_n (pc := 141) hx hb dX8_carryOne_141 rfl (lv_at hl 3 rfl) ?_
  refine lv_iadd (pc := 142) hx hb dX8_carryOne_142 ?_
  refine lv_iload_n (pc := 143) hx hb dX8_carryOne_143 rfl (lv_at hl 2 rfl) ?_
  refine z_iast (pc := 144) hC hZ (by decide) rfl hf dX8_carryOne_144 (fun w25 H locs hf hZ => ?_)
  refine lv_iconst (pc := 145) (v := (1 : Int32)) hx hb dX8_carryOne_145 (by decide) ?_
  refine lv_istore_n (pc := 146) (lv' := [(1, .int (1 : Int32)), (0, .ref (a0 0)), (2, .int x2), (3, .int x3)]) hx hb dX8_carryOne_146 rfl hl (by decide) rfl (fun ls hl => ?_)
  refine lv_aload_n (pc := 147) hx hb dX8_carryOne_147 rfl (lv_at hl 1 rfl) ?_
  refine gfX8_105 (pc := 148) hC hZ dX8_carryOne_148 ?_
  refine lv_bipush (pc := 151) (v := (10 : Int32)) hx hb dX8_carryOne_151 (by decide) ?_
  refine lv_iload_n (pc := 153) hx hb dX8_carryOne_153 rfl (lv_at hl 2 rfl) ?_
  refine lv_imul (pc := 154) hx hb dX8_carryOne_154 ?_
  refine lv_iload_n (pc := 155) hx hb dX8_carryOne_155 rfl (lv_at hl 3 rfl) ?_
  refine lv_iadd (pc := 156) hx hb dX8_carryOne_156 ?_
  refine z_iald (pc := 157) hC hZ (by decide) rfl hf dX8_carryOne_157 (fun v26 hf => ?_)
  refine z_le0 (pc := 158) (tgt := 230) hC hf dX8_carryOne_158 (by decide) (fun hf => ?_) (fun hf => ?_)
  · refine lv_iinc (pc := 230) (v := (x3 + (1 : Int32))) (lv' := [(3, .int (x3 + (1 : Int32))), (1, .int (1 : Int32)), (0, .ref (a0 0)), (2, .int x2)]) hx hb dX8_carryOne_230 hl (k := 3) rfl rfl (by decide) rfl (fun ls hl => ?_)
    refine lv_goto (pc := 233) (tgt := 70) hx hb dX8_carryOne_233 (by decide) ?_
    exact ih ((1 : Int32), (x3 + (1 : Int32)), w25) hf H locs ls hZ (lv_sub hl [2, 1, 3, 0] rfl)
  refine lv_aload_n (pc := 161) hx hb dX8_carryOne_161 rfl (lv_at hl 1 rfl) ?_
  refine gfX8_108 (pc := 162) hC hZ dX8_carryOne_162 ?_
  refine lv_bipush (pc := 165) (v := (10 : Int32)) hx hb dX8_carryOne_165 (by decide) ?_
  refine lv_iload_n (pc := 167) hx hb dX8_carryOne_167 rfl (lv_at hl 3 rfl) ?_
  refine lv_iadd (pc := 168) hx hb dX8_carryOne_168 ?_
  refine z_iald (pc := 169) hC hZ (by decide) rfl hf dX8_carryOne_169 (fun v27 hf => ?_)
  refine lv_aload_n (pc := 170) hx hb dX8_carryOne_170 rfl (lv_at hl 1 rfl) ?_
  refine gfX8_84 (pc := 171) hC hZ dX8_carryOne_171 ?_
  refine lv_bipush (pc := 174) (v := (10 : Int32)) hx hb dX8_carryOne_174 (by decide) ?_
  refine lv_iload_n (pc := 176) hx hb dX8_carryOne_176 rfl (lv_at hl 2 rfl) ?_
  refine lv_imul (pc := 177) hx hb dX8_carryOne_177 ?_
  refine lv_iload_n (pc := 178) hx hb dX8_carryOne_178 rfl (lv_at hl 3 rfl) ?_
  refine lv_iadd (pc := 179) hx hb dX8_carryOne_179 ?_
  refine z_iald (pc := 180) hC hZ (by decide) rfl hf dX8_carryOne_180 (fun v28 hf => ?_)
  refine lv_isub (pc := 181) hx hb dX8_carryOne_181 ?_
  refine lv_aload_n (pc := 182) hx hb dX8_carryOne_182 rfl (lv_at hl 1 rfl) ?_
  refine gfX8_108 (pc := 183) hC hZ dX8_carryOne_183 ?_
  refine lv_iload_n (pc := 186) hx hb dX8_carryOne_186 rfl (lv_at hl 2 rfl) ?_
  refine z_iald (pc := 187) hC hZ (by decide) rfl hf dX8_carryOne_187 (fun v29 hf => ?_)
  refine z_ige (pc := 188) (tgt := 230) hC hf dX8_carryOne_188 (by decide) (fun hf => ?_) (fun hf => ?_)
  · refine lv_iinc (pc := 230) (v := (x3 + (1 : Int32))) (lv' := [(3, .int (x3 + (1 : Int32))), (1, .int (1 : Int32)), (0, .ref (a0 0)), (2, .int x2)]) hx hb dX8_carryOne_230 hl (k := 3) rfl rfl (by decide) rfl (fun ls hl => ?_)
    refine lv_goto (pc := 233) (tgt := 70) hx hb dX8_carryOne_233 (by decide) ?_
    exact ih ((1 : Int32), (x3 + (1 : Int32)), w25) hf H locs ls hZ (lv_sub hl [2, 1, 3, 0] rfl)
  refine lv_aload_n (pc := 191) hx hb dX8_carryOne_191 rfl (lv_at hl 1 rfl) ?_
  refine gfX8_108 (pc := 192) hC hZ dX8_carryOne_192 ?_
  refine lv_iload_n (pc := 195) hx hb dX8_carryOne_195 rfl (lv_at hl 2 rfl) ?_
  refine lv_aload_n (pc := 196) hx hb dX8_carryOne_196 rfl (lv_at hl 1 rfl) ?_
  refine gfX8_108 (pc := 197) hC hZ dX8_carryOne_197 ?_
  refine lv_bipush (pc := 200) (v := (10 : Int32)) hx hb dX8_carryOne_200 (by decide) ?_
  refine lv_iload_n (pc := 202) hx hb dX8_carryOne_202 rfl (lv_at hl 3 rfl) ?_
  refine lv_iadd (pc := 203) hx hb dX8_carryOne_203 ?_
  refine z_iald (pc := 204) hC hZ (by decide) rfl hf dX8_carryOne_204 (fun v30 hf => ?_)
  refine lv_aload_n (pc := 205) hx hb dX8_carryOne_205 rfl (lv_at hl 1 rfl) ?_
  refine gfX8_84 (pc := 206) hC hZ dX8_carryOne_206 ?_
  refine lv_bipush (pc := 209) (v := (10 : Int32)) hx hb dX8_carryOne_209 (by decide) ?_
  refine lv_iload_n (pc := 211) hx hb dX8_carryOne_211 rfl (lv_at hl 2 rfl) ?_
  refine lv_imul (pc := 212) hx hb dX8_carryOne_212 ?_
  refine lv_iload_n (pc := 213) hx hb dX8_carryOne_213 rfl (lv_at hl 3 rfl) ?_
  refine lv_iadd (pc := 214) hx hb dX8_carryOne_214 ?_
  refine z_iald (pc := 215) hC hZ (by decide) rfl hf dX8_carryOne_215 (fun v31 hf => ?_)
  refine lv_isub (pc := 216) hx hb dX8_carryOne_216 ?_
  refine z_iast (pc := 217) hC hZ (by decide) rfl hf dX8_carryOne_217 (fun w32 H locs hf hZ => ?_)
  refine lv_aload_n (pc := 218) hx hb dX8_carryOne_218 rfl (lv_at hl 1 rfl) ?_
  refine gfX8_111 (pc := 219) hC hZ dX8_carryOne_219 ?_
  refine lv_iload_n (pc := 222) hx hb dX8_carryOne_222 rfl (lv_at hl 2 rfl) ?_
  refine lv_bipush (pc := 223) (v := (10 : Int32)) hx hb dX8_carryOne_223 (by decide) ?_
  refine lv_iload_n (pc := 225) hx hb dX8_carryOne_225 rfl (lv_at hl 3 rfl) ?_
  refine lv_iadd (pc := 226) hx hb dX8_carryOne_226 ?_
  refine z_iast (pc := 227) hC hZ (by decide) rfl hf dX8_carryOne_227 (fun w33 H locs hf hZ => ?_)
  refine lv_iconst (pc := 228) (v := (1 : Int32)) hx hb dX8_carryOne_228 (by decide) ?_
  refine lv_istore_n (pc := 229) (lv' := [(1, .int (1 : Int32)), (0, .ref (a0 0)), (2, .int x2), (3, .int x3)]) hx hb dX8_carryOne_229 rfl hl (by decide) rfl (fun ls hl => ?_)
  refine lv_iinc (pc := 230) (v := (x3 + (1 : Int32))) (lv' := [(3, .int (x3 + (1 : Int32))), (1, .int (1 : Int32)), (0, .ref (a0 0)), (2, .int x2)]) hx hb dX8_carryOne_230 hl (k := 3) rfl rfl (by decide) rfl (fun ls hl => ?_)
  refine lv_goto (pc := 233) (tgt := 70) hx hb dX8_carryOne_233 (by decide) ?_
  exact ih ((1 : Int32), (x3 + (1 : Int32)), w33) hf H locs ls hZ (lv_sub hl [2, 1, 3, 0] rfl)
set_option maxHeartbeats 4000000 in
set_option maxRecDepth 100000 in
theorem wX8_carryOne_60 {p : Program} {l : Launch} {e : Env} {s : State} {m : MethodId} {args : Array Value} {below : List Frame} {meth : Method} {c : Code} {Q : State → Prop} {A : Nat → Prop} {H0 : Heap} {D : va_G} {cy : Nat → ClassId} {a0 aT aP : Nat → Nat} {res : Int32 × zS} {K : Int32 → Int32 → zS → Option (Int32 × zS)} (N : Nat)  (hC : zC p s m args c RX8 cX8_carryOne 6 D cy) (hA : ∀ q, H0.size ≤ q → A q) (hE : zEnd p l e rmX8_carryOne s m args below meth c Q D cy shM 35 a0 A H0 res.2 (fun u => u = (aT, aP)) cX8_carryOne .ireturn [.int res.1]) (n : Nat) (x1 : Int32) (x2 : Int32) (w0 : zS) {H : Heap} {locs : List Loc} {ls : Array Slot} (hf : lX8_carryOne_60 N  K n (x1, x2, w0) = some res) (hZ : zW D cy shM 35 a0 aT aP A H0 w0 H locs) (hl : lv_has ls 6 [(0, .ref (a0 0)), (1, .int x1), (2, .int x2)]) (hK : ∀ x1 : Int32, ∀ x2 : Int32, ∀ (w0 : zS) (H : Heap) (locs : List Loc) (ls : Array Slot), K x1 x2 w0 = some res → zW D cy shM 35 a0 aT aP A H0 w0 H locs → lv_has ls 6 [(0, .ref (a0 0)), (1, .int x1), (2, .int x2)] → W p l e rmX8_carryOne s m args below meth c H locs 0 0 Q (F0 m 242 ls [])) : W p l e rmX8_carryOne s m args below meth c H locs 0 0 Q (F0 m 60 ls []) := by
  have hx := hC.1.1
  have hb := hC.1.2.1
  have hf2 : zlp (fun rc s1 => bX8_carryOne_60 N  K rc s1.1 s1.2.1 s1.2.2) n (x1, x2, w0) = some res := hf
  have key := zloop (S := Int32 × Int32 × zS) (α := Int32 × zS) (b := fun rc s1 => bX8_carryOne_60 N  K rc s1.1 s1.2.1 s1.2.2) (r := res) (Wd := fun s1 => ∀ (H : Heap) (locs : List Loc) (ls : Array Slot), zW D cy shM 35 a0 aT aP A H0 s1.2.2 H locs → lv_has ls 6 [(0, .ref (a0 0)), (1, .int s1.1), (2, .int s1.2.1)] → W p l e rmX8_carryOne s m args below meth c H locs 0 0 Q (F0 m 60 ls []))
  refine key ?_ n (x1, x2, w0) hf2 H locs ls hZ hl
  clear hf hf2 hZ hl key
  rintro rc ⟨x1, x2, w0⟩ ih hf H locs ls hZ hl
  have hf : bX8_carryOne_60 N  K rc x1 x2 w0 = some res := hf
  have hl : lv_has ls 6 [(0, .ref (a0 0)), (1, .int x1), (2, .int x2)] := hl
  unfold bX8_carryOne_60 at hf
  refine lv_iload_n (pc := 60) hx hb dX8_carryOne_60 rfl (lv_at hl 2 rfl) ?_
  refine lv_aload_n (pc := 61) hx hb dX8_carryOne_61 rfl (lv_at hl 0 rfl) ?_
  refine gfX8_115 (pc := 62) hC hZ dX8_carryOne_62 ?_
  refine z_ige (pc := 65) (tgt := 242) hC hf dX8_carryOne_65 (by decide) (fun hf => ?_) (fun hf => ?_)
  · exact hK x1 x2 w0 H locs ls hf hZ (lv_sub hl [0, 1, 2] rfl)
  refine lv_iconst (pc := 68) (v := (0 : Int32)) hx hb dX8_carryOne_68 (by decide) ?_
  refine lv_istore_n (pc := 69) (lv' := [(3, .int (0 : Int32)), (0, .ref (a0 0)), (1, .int x1), (2, .int x2)]) hx hb dX8_carryOne_69 rfl hl (by decide) rfl (fun ls hl => ?_)
  refine wX8_carryOne_70 (res := res) N x2 hC hA hE N _ _ _ hf hZ (lv_sub hl [1, 2, 3, 0] rfl) (fun y34 y35 w36 H locs ls hf hZ hl => ?_)
  refine lv_iinc (pc := 236) (v := (x2 + (1 : Int32))) (lv' := [(2, .int (x2 + (1 : Int32))), (0, .ref (a0 0)), (1, .int y34), (3, .int y35)]) hx hb dX8_carryOne_236 hl (k := 2) rfl rfl (by decide) rfl (fun ls hl => ?_)
  refine lv_goto (pc := 239) (tgt := 60) hx hb dX8_carryOne_239 (by decide) ?_
  exact ih (y34, (x2 + (1 : Int32)), w36) hf H locs ls hZ (lv_sub hl [1, 2, 0] rfl)
set_option maxHeartbeats 4000000 in
set_option maxRecDepth 100000 in
theorem wX8_carryOne_52 {p : Program} {l : Launch} {e : Env} {s : State} {m : MethodId} {args : Array Value} {below : List Frame} {meth : Method} {c : Code} {Q : State → Prop} {A : Nat → Prop} {H0 : Heap} {D : va_G} {cy : Nat → ClassId} {a0 aT aP : Nat → Nat} {res : Int32 × zS} {K : Int32 → zS → Option (Int32 × zS)} (N : Nat)  (hC : zC p s m args c RX8 cX8_carryOne 6 D cy) (hA : ∀ q, H0.size ≤ q → A q) (hE : zEnd p l e rmX8_carryOne s m args below meth c Q D cy shM 35 a0 A H0 res.2 (fun u => u = (aT, aP)) cX8_carryOne .ireturn [.int res.1]) (n : Nat) (x1 : Int32) (w0 : zS) {H : Heap} {locs : List Loc} {ls : Array Slot} (hf : lX8_carryOne_52 N  K n (x1, w0) = some res) (hZ : zW D cy shM 35 a0 aT aP A H0 w0 H locs) (hl : lv_has ls 6 [(0, .ref (a0 0)), (1, .int x1)]) (hK : ∀ x1 : Int32, ∀ (w0 : zS) (H : Heap) (locs : List Loc) (ls : Array Slot), K x1 w0 = some res → zW D cy shM 35 a0 aT aP A H0 w0 H locs → lv_has ls 6 [(0, .ref (a0 0)), (1, .int x1)] → W p l e rmX8_carryOne s m args below meth c H locs 0 0 Q (F0 m 245 ls [])) : W p l e rmX8_carryOne s m args below meth c H locs 0 0 Q (F0 m 52 ls []) := by
  have hx := hC.1.1
  have hb := hC.1.2.1
  have hf2 : zlp (fun rc s1 => bX8_carryOne_52 N  K rc s1.1 s1.2) n (x1, w0) = some res := hf
  have key := zloop (S := Int32 × zS) (α := Int32 × zS) (b := fun rc s1 => bX8_carryOne_52 N  K rc s1.1 s1.2) (r := res) (Wd := fun s1 => ∀ (H : Heap) (locs : List Loc) (ls : Array Slot), zW D cy shM 35 a0 aT aP A H0 s1.2 H locs → lv_has ls 6 [(0, .ref (a0 0)), (1, .int s1.1)] → W p l e rmX8_carryOne s m args below meth c H locs 0 0 Q (F0 m 52 ls []))
  refine key ?_ n (x1, w0) hf2 H locs ls hZ hl
  clear hf hf2 hZ hl key
  rintro rc ⟨x1, w0⟩ ih hf H locs ls hZ hl
  have hf : bX8_carryOne_52 N  K rc x1 w0 = some res := hf
  have hl : lv_has ls 6 [(0, .ref (a0 0)), (1, .int x1)] := hl
  unfold bX8_carryOne_52 at hf
  refine lv_iload_n (pc := 52) hx hb dX8_carryOne_52 rfl (lv_at hl 1 rfl) ?_
  refine z_eq0 (pc := 53) (tgt := 245) hC hf dX8_carryOne_53 (by decide) (fun hf => ?_) (fun hf => ?_)
  · exact hK x1 w0 H locs ls hf hZ (lv_sub hl [0, 1] rfl)
  refine lv_iconst (pc := 56) (v := (0 : Int32)) hx hb dX8_carryOne_56 (by decide) ?_
  refine lv_istore_n (pc := 57) (lv' := [(1, .int (0 : Int32)), (0, .ref (a0 0))]) hx hb dX8_carryOne_57 rfl hl (by decide) rfl (fun ls hl => ?_)
  refine lv_iconst (pc := 58) (v := (0 : Int32)) hx hb dX8_carryOne_58 (by decide) ?_
  refine lv_istore_n (pc := 59) (lv' := [(2, .int (0 : Int32)), (1, .int (0 : Int32)), (0, .ref (a0 0))]) hx hb dX8_carryOne_59 rfl hl (by decide) rfl (fun ls hl => ?_)
  refine wX8_carryOne_60 (res := res) N  hC hA hE N _ _ _ hf hZ (lv_sub hl [2, 1, 0] rfl) (fun y37 y38 w39 H locs ls hf hZ hl => ?_)
  refine lv_goto (pc := 242) (tgt := 52) hx hb dX8_carryOne_242 (by decide) ?_
  exact ih (y37, w39) hf H locs ls hZ (lv_sub hl [0, 1] rfl)
set_option maxHeartbeats 4000000 in
set_option maxRecDepth 100000 in
theorem wX8_carryOne_250 {p : Program} {l : Launch} {e : Env} {s : State} {m : MethodId} {args : Array Value} {below : List Frame} {meth : Method} {c : Code} {Q : State → Prop} {A : Nat → Prop} {H0 : Heap} {D : va_G} {cy : Nat → ClassId} {a0 aT aP : Nat → Nat} {res : Int32 × zS} {K : Int32 → Int32 → zS → Option (Int32 × zS)} (N : Nat) (x1 : Int32) (hC : zC p s m args c RX8 cX8_carryOne 6 D cy) (hA : ∀ q, H0.size ≤ q → A q) (hE : zEnd p l e rmX8_carryOne s m args below meth c Q D cy shM 35 a0 A H0 res.2 (fun u => u = (aT, aP)) cX8_carryOne .ireturn [.int res.1]) (n : Nat) (x2 : Int32) (x3 : Int32) (w0 : zS) {H : Heap} {locs : List Loc} {ls : Array Slot} (hf : lX8_carryOne_250 N x1 K n (x2, x3, w0) = some res) (hZ : zW D cy shM 35 a0 aT aP A H0 w0 H locs) (hl : lv_has ls 6 [(0, .ref (a0 0)), (1, .int x1), (2, .int x2), (3, .int x3)]) (hK : ∀ x2 : Int32, ∀ x3 : Int32, ∀ (w0 : zS) (H : Heap) (locs : List Loc) (ls : Array Slot), K x2 x3 w0 = some res → zW D cy shM 35 a0 aT aP A H0 w0 H locs → lv_has ls 6 [(0, .ref (a0 0)), (1, .int x1), (2, .int x2), (3, .int x3)] → W p l e rmX8_carryOne s m args below meth c H locs 0 0 Q (F0 m 305 ls [])) : W p l e rmX8_carryOne s m args below meth c H locs 0 0 Q (F0 m 250 ls []) := by
  have hx := hC.1.1
  have hb := hC.1.2.1
  have hf2 : zlp (fun rc s1 => bX8_carryOne_250 N x1 K rc s1.1 s1.2.1 s1.2.2) n (x2, x3, w0) = some res := hf
  have key := zloop (S := Int32 × Int32 × zS) (α := Int32 × zS) (b := fun rc s1 => bX8_carryOne_250 N x1 K rc s1.1 s1.2.1 s1.2.2) (r := res) (Wd := fun s1 => ∀ (H : Heap) (locs : List Loc) (ls : Array Slot), zW D cy shM 35 a0 aT aP A H0 s1.2.2 H locs → lv_has ls 6 [(0, .ref (a0 0)), (1, .int x1), (2, .int s1.1), (3, .int s1.2.1)] → W p l e rmX8_carryOne s m args below meth c H locs 0 0 Q (F0 m 250 ls []))
  refine key ?_ n (x2, x3, w0) hf2 H locs ls hZ hl
  clear hf hf2 hZ hl key
  rintro rc ⟨x2, x3, w0⟩ ih hf H locs ls hZ hl
  have hf : bX8_carryOne_250 N x1 K rc x2 x3 w0 = some res := hf
  have hl : lv_has ls 6 [(0, .ref (a0 0)), (1, .int x1), (2, .int x2), (3, .int x3)] := hl
  unfold bX8_carryOne_250 at hf
  refine lv_iload_n (pc := 250) hx hb dX8_carryOne_250 rfl (lv_at hl 3 rfl) ?_
  refine lv_aload_n (pc := 251) hx hb dX8_carryOne_251 rfl (lv_at hl 0 rfl) ?_
  refine gfX8_115 (pc := 252) hC hZ dX8_carryOne_252 ?_
  refine z_ige (pc := 255) (tgt := 305) hC hf dX8_carryOne_255 (by decide) (fun hf => ?_) (fun hf => ?_)
  · exact hK x2 x3 w0 H locs ls hf hZ (lv_sub hl [0, 1, 2, 3] rfl)
  refine lv_aload_n (pc := 258) hx hb dX8_carryOne_258 rfl (lv_at hl 0 rfl) ?_
  refine lv_iload_n (pc := 259) hx hb dX8_carryOne_259 rfl (lv_at hl 3 rfl) ?_
  refine kX8_217 (pc := 260) hC hA hZ hf hl.1 (Nat.le_of_ble_eq_true rfl) ⟨Nat.le_of_ble_eq_true rfl, Nat.le_of_ble_eq_true rfl⟩ ⟨Nat.le_refl _, Nat.le_refl _⟩ dX8_carryOne_260 (fun v43 w42 H locs hf hZ => ?_)
  refine z_le0 (pc := 263) (tgt := 297) hC hf dX8_carryOne_263 (by decide) (fun hf => ?_) (fun hf => ?_)
  · refine lv_iload_n (pc := 297) hx hb dX8_carryOne_297 rfl (lv_at hl 2 rfl) ?_
    refine lv_istore_n (pc := 298) (lv' := [(2, .int x2), (0, .ref (a0 0)), (1, .int x1), (3, .int x3)]) hx hb dX8_carryOne_298 rfl hl (by decide) rfl (fun ls hl => ?_)
    refine lv_iinc (pc := 299) (v := (x3 + (1 : Int32))) (lv' := [(3, .int (x3 + (1 : Int32))), (2, .int x2), (0, .ref (a0 0)), (1, .int x1)]) hx hb dX8_carryOne_299 hl (k := 3) rfl rfl (by decide) rfl (fun ls hl => ?_)
    refine lv_goto (pc := 302) (tgt := 250) hx hb dX8_carryOne_302 (by decide) ?_
    exact ih (x2, (x3 + (1 : Int32)), w42) hf H locs ls hZ (lv_sub hl [2, 3, 1, 0] rfl)
  refine lv_iload_n (pc := 266) hx hb dX8_carryOne_266 rfl (lv_at hl 2 rfl) ?_
  refine lv_bipush (pc := 267) (v := (-9 : Int32)) hx hb dX8_carryOne_267 (by decide) ?_
  refine z_ieq (pc := 269) (tgt := 293) hC hf dX8_carryOne_269 (by decide) (fun hf => ?_) (fun hf => ?_)
  · refine lv_iload_n (pc := 293) hx hb dX8_carryOne_293 rfl (lv_at hl 3 rfl) ?_
    refine lv_goto (pc := 294) (tgt := 298) hx hb dX8_carryOne_294 (by decide) ?_
    refine lv_istore_n (pc := 298) (lv' := [(2, .int x3), (0, .ref (a0 0)), (1, .int x1), (3, .int x3)]) hx hb dX8_carryOne_298 rfl hl (by decide) rfl (fun ls hl => ?_)
    refine lv_iinc (pc := 299) (v := (x3 + (1 : Int32))) (lv' := [(3, .int (x3 + (1 : Int32))), (2, .int x3), (0, .ref (a0 0)), (1, .int x1)]) hx hb dX8_carryOne_299 hl (k := 3) rfl rfl (by decide) rfl (fun ls hl => ?_)
    refine lv_goto (pc := 302) (tgt := 250) hx hb dX8_carryOne_302 (by decide) ?_
    exact ih (x3, (x3 + (1 : Int32)), w42) hf H locs ls hZ (lv_sub hl [2, 3, 1, 0] rfl)
  refine lv_aload_n (pc := 272) hx hb dX8_carryOne_272 rfl (lv_at hl 0 rfl) ?_
  refine gfX8_108 (pc := 273) hC hZ dX8_carryOne_273 ?_
  refine lv_bipush (pc := 276) (v := (10 : Int32)) hx hb dX8_carryOne_276 (by decide) ?_
  refine lv_iload_n (pc := 278) hx hb dX8_carryOne_278 rfl (lv_at hl 3 rfl) ?_
  refine lv_iadd (pc := 279) hx hb dX8_carryOne_279 ?_
  refine z_iald (pc := 280) hC hZ (by decide) rfl hf dX8_carryOne_280 (fun v44 hf => ?_)
  refine lv_aload_n (pc := 281) hx hb dX8_carryOne_281 rfl (lv_at hl 0 rfl) ?_
  refine gfX8_108 (pc := 282) hC hZ dX8_carryOne_282 ?_
  refine lv_bipush (pc := 285) (v := (10 : Int32)) hx hb dX8_carryOne_285 (by decide) ?_
  refine lv_iload_n (pc := 287) hx hb dX8_carryOne_287 rfl (lv_at hl 2 rfl) ?_
  refine lv_iadd (pc := 288) hx hb dX8_carryOne_288 ?_
  refine z_iald (pc := 289) hC hZ (by decide) rfl hf dX8_carryOne_289 (fun v45 hf => ?_)
  refine z_ige (pc := 290) (tgt := 297) hC hf dX8_carryOne_290 (by decide) (fun hf => ?_) (fun hf => ?_)
  · refine lv_iload_n (pc := 297) hx hb dX8_carryOne_297 rfl (lv_at hl 2 rfl) ?_
    refine lv_istore_n (pc := 298) (lv' := [(2, .int x2), (0, .ref (a0 0)), (1, .int x1), (3, .int x3)]) hx hb dX8_carryOne_298 rfl hl (by decide) rfl (fun ls hl => ?_)
    refine lv_iinc (pc := 299) (v := (x3 + (1 : Int32))) (lv' := [(3, .int (x3 + (1 : Int32))), (2, .int x2), (0, .ref (a0 0)), (1, .int x1)]) hx hb dX8_carryOne_299 hl (k := 3) rfl rfl (by decide) rfl (fun ls hl => ?_)
    refine lv_goto (pc := 302) (tgt := 250) hx hb dX8_carryOne_302 (by decide) ?_
    exact ih (x2, (x3 + (1 : Int32)), w42) hf H locs ls hZ (lv_sub hl [2, 3, 1, 0] rfl)
  refine lv_iload_n (pc := 293) hx hb dX8_carryOne_293 rfl (lv_at hl 3 rfl) ?_
  refine lv_goto (pc := 294) (tgt := 298) hx hb dX8_carryOne_294 (by decide) ?_
  refine lv_istore_n (pc := 298) (lv' := [(2, .int x3), (0, .ref (a0 0)), (1, .int x1), (3, .int x3)]) hx hb dX8_carryOne_298 rfl hl (by decide) rfl (fun ls hl => ?_)
  refine lv_iinc (pc := 299) (v := (x3 + (1 : Int32))) (lv' := [(3, .int (x3 + (1 : Int32))), (2, .int x3), (0, .ref (a0 0)), (1, .int x1)]) hx hb dX8_carryOne_299 hl (k := 3) rfl rfl (by decide) rfl (fun ls hl => ?_)
  refine lv_goto (pc := 302) (tgt := 250) hx hb dX8_carryOne_302 (by decide) ?_
  exact ih (x3, (x3 + (1 : Int32)), w42) hf H locs ls hZ (lv_sub hl [2, 3, 1, 0] rfl)
set_option maxHeartbeats 4000000 in
set_option maxRecDepth 100000 in
theorem wX8_carryOne_321 {p : Program} {l : Launch} {e : Env} {s : State} {m : MethodId} {args : Array Value} {below : List Frame} {meth : Method} {c : Code} {Q : State → Prop} {A : Nat → Prop} {H0 : Heap} {D : va_G} {cy : Nat → ClassId} {a0 aT aP : Nat → Nat} {res : Int32 × zS} {K : Int32 → zS → Option (Int32 × zS)} (N : Nat) (x1 : Int32) (x2 : Int32) (x3 : Int32) (hC : zC p s m args c RX8 cX8_carryOne 6 D cy) (hA : ∀ q, H0.size ≤ q → A q) (hE : zEnd p l e rmX8_carryOne s m args below meth c Q D cy shM 35 a0 A H0 res.2 (fun u => u = (aT, aP)) cX8_carryOne .ireturn [.int res.1]) (n : Nat) (x4 : Int32) (w0 : zS) {H : Heap} {locs : List Loc} {ls : Array Slot} (hf : lX8_carryOne_321 N x1 x2 x3 K n (x4, w0) = some res) (hZ : zW D cy shM 35 a0 aT aP A H0 w0 H locs) (hl : lv_has ls 6 [(0, .ref (a0 0)), (1, .int x1), (2, .int x2), (3, .int x3), (4, .int x4)]) (hK : ∀ x4 : Int32, ∀ (w0 : zS) (H : Heap) (locs : List Loc) (ls : Array Slot), K x4 w0 = some res → zW D cy shM 35 a0 aT aP A H0 w0 H locs → lv_has ls 6 [(0, .ref (a0 0)), (1, .int x1), (2, .int x2), (3, .int x3), (4, .int x4)] → W p l e rmX8_carryOne s m args below meth c H locs 0 0 Q (F0 m 411 ls [])) : W p l e rmX8_carryOne s m args below meth c H locs 0 0 Q (F0 m 321 ls []) := by
  have hx := hC.1.1
  have hb := hC.1.2.1
  have hf2 : zlp (fun rc s1 => bX8_carryOne_321 N x1 x2 x3 K rc s1.1 s1.2) n (x4, w0) = some res := hf
  have key := zloop (S := Int32 × zS) (α := Int32 × zS) (b := fun rc s1 => bX8_carryOne_321 N x1 x2 x3 K rc s1.1 s1.2) (r := res) (Wd := fun s1 => ∀ (H : Heap) (locs : List Loc) (ls : Array Slot), zW D cy shM 35 a0 aT aP A H0 s1.2 H locs → lv_has ls 6 [(0, .ref (a0 0)), (1, .int x1), (2, .int x2), (3, .int x3), (4, .int s1.1)] → W p l e rmX8_carryOne s m args below meth c H locs 0 0 Q (F0 m 321 ls []))
  refine key ?_ n (x4, w0) hf2 H locs ls hZ hl
  clear hf hf2 hZ hl key
  rintro rc ⟨x4, w0⟩ ih hf H locs ls hZ hl
  have hf : bX8_carryOne_321 N x1 x2 x3 K rc x4 w0 = some res := hf
  have hl : lv_has ls 6 [(0, .ref (a0 0)), (1, .int x1), (2, .int x2), (3, .int x3), (4, .int x4)] := hl
  unfold bX8_carryOne_321 at hf
  refine lv_aload_n (pc := 321) hx hb dX8_carryOne_321 rfl (lv_at hl 0 rfl) ?_
  refine gfX8_111 (pc := 322) hC hZ dX8_carryOne_322 ?_
  refine lv_iload (pc := 325) hx hb dX8_carryOne_325 (lv_at hl 4 rfl) ?_
  refine z_iald (pc := 327) hC hZ (by decide) rfl hf dX8_carryOne_327 (fun v50 hf => ?_)
  refine lv_bipush (pc := 328) (v := (-9 : Int32)) hx hb dX8_carryOne_328 (by decide) ?_
  refine z_ieq (pc := 330) (tgt := 411) hC hf dX8_carryOne_330 (by decide) (fun hf => ?_) (fun hf => ?_)
  · exact hK x4 w0 H locs ls hf hZ (lv_sub hl [0, 1, 2, 3, 4] rfl)
  refine lv_iload (pc := 333) hx hb dX8_carryOne_333 (lv_at hl 4 rfl) ?_
  refine lv_bipush (pc := 335) (v := (10 : Int32)) hx hb dX8_carryOne_335 (by decide) ?_
  refine z_ilt (pc := 337) (tgt := 359) hC hf dX8_carryOne_337 (by decide) (fun hf => ?_) (fun hf => ?_)
  · refine lv_bipush (pc := 359) (v := (10 : Int32)) hx hb dX8_carryOne_359 (by decide) ?_
    refine lv_iload (pc := 361) hx hb dX8_carryOne_361 (lv_at hl 4 rfl) ?_
    refine lv_imul (pc := 363) hx hb dX8_carryOne_363 ?_
    refine lv_aload_n (pc := 364) hx hb dX8_carryOne_364 rfl (lv_at hl 0 rfl) ?_
    refine gfX8_111 (pc := 365) hC hZ dX8_carryOne_365 ?_
    refine lv_iload (pc := 368) hx hb dX8_carryOne_368 (lv_at hl 4 rfl) ?_
    refine z_iald (pc := 370) hC hZ (by decide) rfl hf dX8_carryOne_370 (fun v51 hf => ?_)
    refine lv_iadd (pc := 371) hx hb dX8_carryOne_371 ?_
    refine lv_bipush (pc := 372) (v := (10 : Int32)) hx hb dX8_carryOne_372 (by decide) ?_
    refine lv_isub (pc := 374) hx hb dX8_carryOne_374 ?_
    refine lv_istore (pc := 375) (lv' := [(5, .int ((((10 : Int32) * x4) + v51) - (10 : Int32))), (0, .ref (a0 0)), (1, .int x1), (2, .int x2), (3, .int x3), (4, .int x4)]) hx hb dX8_carryOne_375 hl (by decide) rfl (fun ls hl => ?_)
    refine lv_aload_n (pc := 377) hx hb dX8_carryOne_377 rfl (lv_at hl 1 rfl) ?_
    refine gfX8_105 (pc := 378) hC hZ dX8_carryOne_378 ?_
    refine lv_iload (pc := 381) hx hb dX8_carryOne_381 (lv_at hl 0 rfl) ?_
    refine lv_dup2_11 (pc := 383) hx hb dX8_carryOne_383 rfl rfl ?_
    refine z_iald (pc := 384) hC hZ (by decide) rfl hf dX8_carryOne_384 (fun v52 hf => ?_)
    refine lv_iload (pc := 385) hx hb dX8_carryOne_385 (lv_at hl 5 rfl) ?_
    refine lv_bipush (pc := 387) (v := (10 : Int32)) hx hb dX8_carryOne_387 (by decide) ?_
    refine z_ilt (pc := 389) (tgt := 396) hC hf dX8_carryOne_389 (by decide) (fun hf => ?_) (fun hf => ?_)
    · refine lv_iconst (pc := 396) (v := (-1 : Int32)) hx hb dX8_carryOne_396 (by decide) ?_
      refine lv_iadd (pc := 397) hx hb dX8_carryOne_397 ?_
      refine z_iast (pc := 398) hC hZ (by decide) rfl hf dX8_carryOne_398 (fun w53 H locs hf hZ => ?_)
      refine lv_aload_n (pc := 399) hx hb dX8_carryOne_399 rfl (lv_at hl 1 rfl) ?_
      refine gfX8_111 (pc := 400) hC hZ dX8_carryOne_400 ?_
      refine lv_iload (pc := 403) hx hb dX8_carryOne_403 (lv_at hl 5 rfl) ?_
      refine z_iald (pc := 405) hC hZ (by decide) rfl hf dX8_carryOne_405 (fun v54 hf => ?_)
      refine lv_istore (pc := 406) (lv' := [(4, .int v54), (5, .int ((((10 : Int32) * x4) + v51) - (10 : Int32))), (0, .ref (a0 0)), (1, .int x1), (2, .int x2), (3, .int x3)]) hx hb dX8_carryOne_406 hl (by decide) rfl (fun ls hl => ?_)
      refine lv_goto (pc := 408) (tgt := 321) hx hb dX8_carryOne_408 (by decide) ?_
      exact ih (v54, w53) hf H locs ls hZ (lv_sub hl [2, 3, 4, 5, 0] rfl)
    refine lv_iconst (pc := 392) (v := (1 : Int32)) hx hb dX8_carryOne_392 (by decide) ?_
    refine lv_goto (pc := 393) (tgt := 397) hx hb dX8_carryOne_393 (by decide) ?_
    refine lv_iadd (pc := 397) hx hb dX8_carryOne_397 ?_
    refine z_iast (pc := 398) hC hZ (by decide) rfl hf dX8_carryOne_398 (fun w55 H locs hf hZ => ?_)
    refine lv_aload_n (pc := 399) hx hb dX8_carryOne_399 rfl (lv_at hl 1 rfl) ?_
    refine gfX8_111 (pc := 400) hC hZ dX8_carryOne_400 ?_
    refine lv_iload (pc := 403) hx hb dX8_carryOne_403 (lv_at hl 5 rfl) ?_
    refine z_iald (pc := 405) hC hZ (by decide) rfl hf dX8_carryOne_405 (fun v56 hf => ?_)
    refine lv_istore (pc := 406) (lv' := [(4, .int v56), (5, .int ((((10 : Int32) * x4) + v51) - (10 : Int32))), (0, .ref (a0 0)), (1, .int x1), (2, .int x2), (3, .int x3)]) hx hb dX8_carryOne_406 hl (by decide) rfl (fun ls hl => ?_)
    refine lv_goto (pc := 408) (tgt := 321) hx hb dX8_carryOne_408 (by decide) ?_
    exact ih (v56, w55) hf H locs ls hZ (lv_sub hl [2, 3, 4, 5, 0] rfl)
  refine lv_bipush (pc := 340) (v := (10 : Int32)) hx hb dX8_carryOne_340 (by decide) ?_
  refine lv_aload_n (pc := 342) hx hb dX8_carryOne_342 rfl (lv_at hl 0 rfl) ?_
  refine gfX8_111 (pc := 343) hC hZ dX8_carryOne_343 ?_
  refine lv_iload (pc := 346) hx hb dX8_carryOne_346 (lv_at hl 4 rfl) ?_
  refine z_iald (pc := 348) hC hZ (by decide) rfl hf dX8_carryOne_348 (fun v57 hf => ?_)
  refine lv_imul (pc := 349) hx hb dX8_carryOne_349 ?_
  refine lv_iload (pc := 350) hx hb dX8_carryOne_350 (lv_at hl 4 rfl) ?_
  refine lv_iadd (pc := 352) hx hb dX8_carryOne_352 ?_
  refine lv_bipush (pc := 353) (v := (10 : Int32)) hx hb dX8_carryOne_353 (by decide) ?_
  refine lv_isub (pc := 355) hx hb dX8_carryOne_355 ?_
  refine lv_goto (pc := 356) (tgt := 375) hx hb dX8_carryOne_356 (by decide) ?_
  refine lv_istore (pc := 375) (lv' := [(5, .int ((((10 : Int32) * v57) + x4) - (10 : Int32))), (0, .ref (a0 0)), (1, .int x1), (2, .int x2), (3, .int x3), (4, .int x4)]) hx hb dX8_carryOne_375 hl (by decide) rfl (fun ls hl => ?_)
  refine lv_aload_n (pc := 377) hx hb dX8_carryOne_377 rfl (lv_at hl 1 rfl) ?_
  refine gfX8_105 (pc := 378) hC hZ dX8_carryOne_378 ?_
  refine lv_iload (pc := 381) hx hb dX8_carryOne_381 (lv_at hl 0 rfl) ?_
  refine lv_dup2_11 (pc := 383) hx hb dX8_carryOne_383 rfl rfl ?_
  refine z_iald (pc := 384) hC hZ (by decide) rfl hf dX8_carryOne_384 (fun v58 hf => ?_)
  refine lv_iload (pc := 385) hx hb dX8_carryOne_385 (lv_at hl 5 rfl) ?_
  refine lv_bipush (pc := 387) (v := (10 : Int32)) hx hb dX8_carryOne_387 (by decide) ?_
  refine z_ilt (pc := 389) (tgt := 396) hC hf dX8_carryOne_389 (by decide) (fun hf => ?_) (fun hf => ?_)
  · refine lv_iconst (pc := 396) (v := (-1 : Int32)) hx hb dX8_carryOne_396 (by decide) ?_
    refine lv_iadd (pc := 397) hx hb dX8_carryOne_397 ?_
    refine z_iast (pc := 398) hC hZ (by decide) rfl hf dX8_carryOne_398 (fun w59 H locs hf hZ => ?_)
    refine lv_aload_n (pc := 399) hx hb dX8_carryOne_399 rfl (lv_at hl 1 rfl) ?_
    refine gfX8_111 (pc := 400) hC hZ dX8_carryOne_400 ?_
    refine lv_iload (pc := 403) hx hb dX8_carryOne_403 (lv_at hl 5 rfl) ?_
    refine z_iald (pc := 405) hC hZ (by decide) rfl hf dX8_carryOne_405 (fun v60 hf => ?_)
    refine lv_istore (pc := 406) (lv' := [(4, .int v60), (5, .int ((((10 : Int32) * v57) + x4) - (10 : Int32))), (0, .ref (a0 0)), (1, .int x1), (2, .int x2), (3, .int x3)]) hx hb dX8_carryOne_406 hl (by decide) rfl (fun ls hl => ?_)
    refine lv_goto (pc := 408) (tgt := 321) hx hb dX8_carryOne_408 (by decide) ?_
    exact ih (v60, w59) hf H locs ls hZ (lv_sub hl [2, 3, 4, 5, 0] rfl)
  refine lv_iconst (pc := 392) (v := (1 : Int32)) hx hb dX8_carryOne_392 (by decide) ?_
  refine lv_goto (pc := 393) (tgt := 397) hx hb dX8_carryOne_393 (by decide) ?_
  refine lv_iadd (pc := 397) hx hb dX8_carryOne_397 ?_
  refine z_iast (pc := 398) hC hZ (by decide) rfl hf dX8_carryOne_398 (fun w61 H locs hf hZ => ?_)
  refine lv_aload_n (pc := 399) hx hb dX8_carryOne_399 rfl (lv_at hl 1 rfl) ?_
  refine gfX8_111 (pc := 400) hC hZ dX8_carryOne_400 ?_
  refine lv_iload (pc := 403) hx hb dX8_carryOne_403 (lv_at hl 5 rfl) ?_
  refine z_iald (pc := 405) hC hZ (by decide) rfl hf dX8_carryOne_405 (fun v62 hf => ?_)
  refine lv_istore (pc := 406) (lv' := [(4, .int v62), (5, .int ((((10 : Int32) * v57) + x4) - (10 : Int32))), (0, .ref (a0 0)), (1, .int x1), (2, .int x2), (3, .int x3)]) hx hb dX8_carryOne_406 hl (by decide) rfl (fun ls hl => ?_)
  refine lv_goto (pc := 408) (tgt := 321) hx hb dX8_carryOne_408 (by decide) ?_
  exact ih (v62, w61) hf H locs ls hZ (lv_sub hl [2, 3, 4, 5, 0] rfl)
set_option maxHeartbeats 4000000 in
set_option maxRecDepth 100000 in
theorem cX8_carryOne_ok (l : Launch) (D : va_G) (cy : Nat → ClassId) (a0 aT aP : Nat → Nat) (N : Nat)  (w0 : zS) (rv : Int32) (τ : zS) (hf : fX8_carryOne N  w0 = some (rv, τ)) : zMi l yX8_carryOne cX8_carryOne 6 (some .int) rmX8_carryOne D cy shM 35 a0 aT aP w0 [.ref (a0 0)] rv τ (fun u => u = (aT, aP)) := by
  refine zmet_i (by decide +kernel) (Or.inl rfl) (Nat.le_of_ble_eq_true rfl) ?_
  intro p e s m below meth c A Q ls hC hA hZ hl hE
  have hx := hC.1.1
  have hb := hC.1.2.1
  have hl : lv_has ls 6 [(0, .ref (a0 0))] := hl
  unfold fX8_carryOne at hf
  refine lv_iconst (pc := 0) (v := (0 : Int32)) hx hb dX8_carryOne_0 (by decide) ?_
  refine lv_istore_n (pc := 1) (lv' := [(1, .int (0 : Int32)), (0, .ref (a0 0))]) hx hb dX8_carryOne_1 rfl hl (by decide) rfl (fun ls hl => ?_)
  refine wX8_carryOne_2 (res := (rv, τ)) N  hC hA hE N _ _ hf hZ (lv_sub hl [1, 0] rfl) (fun y9 w10 H locs ls hf hZ hl => ?_)
  refine lv_iconst (pc := 50) (v := (1 : Int32)) hx hb dX8_carryOne_50 (by decide) ?_
  refine lv_istore_n (pc := 51) (lv' := [(1, .int (1 : Int32)), (0, .ref (a0 0))]) hx hb dX8_carryOne_51 rfl hl (by decide) rfl (fun ls hl => ?_)
  refine wX8_carryOne_52 (res := (rv, τ)) N  hC hA hE N _ _ hf hZ (lv_sub hl [1, 0] rfl) (fun y40 w41 H locs ls hf hZ hl => ?_)
  refine lv_bipush (pc := 245) (v := (-9 : Int32)) hx hb dX8_carryOne_245 (by decide) ?_
  refine lv_istore_n (pc := 247) (lv' := [(2, .int (-9 : Int32)), (0, .ref (a0 0)), (1, .int y40)]) hx hb dX8_carryOne_247 rfl hl (by decide) rfl (fun ls hl => ?_)
  refine lv_iconst (pc := 248) (v := (0 : Int32)) hx hb dX8_carryOne_248 (by decide) ?_
  refine lv_istore_n (pc := 249) (lv' := [(3, .int (0 : Int32)), (2, .int (-9 : Int32)), (0, .ref (a0 0)), (1, .int y40)]) hx hb dX8_carryOne_249 rfl hl (by decide) rfl (fun ls hl => ?_)
  refine wX8_carryOne_250 (res := (rv, τ)) N y40 hC hA hE N _ _ _ hf hZ (lv_sub hl [2, 3, 1, 0] rfl) (fun y46 y47 w48 H locs ls hf hZ hl => ?_)
  refine lv_aload_n (pc := 305) hx hb dX8_carryOne_305 rfl (lv_at hl 0 rfl) ?_
  refine gfX8_108 (pc := 306) hC hZ dX8_carryOne_306 ?_
  refine lv_bipush (pc := 309) (v := (10 : Int32)) hx hb dX8_carryOne_309 (by decide) ?_
  refine lv_iload_n (pc := 311) hx hb dX8_carryOne_311 rfl (lv_at hl 2 rfl) ?_
  refine lv_iadd (pc := 312) hx hb dX8_carryOne_312 ?_
  refine z_iald (pc := 313) hC hZ (by decide) rfl hf dX8_carryOne_313 (fun v49 hf => ?_)
  refine lv_istore_n (pc := 314) (lv' := [(3, .int v49), (0, .ref (a0 0)), (1, .int y40), (2, .int y46)]) hx hb dX8_carryOne_314 rfl hl (by decide) rfl (fun ls hl => ?_)
  refine lv_bipush (pc := 315) (v := (10 : Int32)) hx hb dX8_carryOne_315 (by decide) ?_
  refine lv_iload_n (pc := 317) hx hb dX8_carryOne_317 rfl (lv_at hl 3 rfl) ?_
  refine lv_iadd (pc := 318) hx hb dX8_carryOne_318 ?_
  refine lv_istore (pc := 319) (lv' := [(4, .int ((10 : Int32) + y46)), (3, .int v49), (0, .ref (a0 0)), (1, .int y40), (2, .int y46)]) hx hb dX8_carryOne_319 hl (by decide) rfl (fun ls hl => ?_)
  refine wX8_carryOne_321 (res := (rv, τ)) N y40 y46 v49 hC hA hE N _ _ hf hZ (lv_sub hl [2, 3, 4, 1, 0] rfl) (fun y63 w64 H locs ls hf hZ hl => ?_)
  refine lv_iload_n (pc := 411) hx hb dX8_carryOne_411 rfl (lv_at hl 3 rfl) ?_
  obtain ⟨rfl, rfl⟩ := zinj hf
  exact hE _ _ _ _ _ _ rfl hZ dX8_carryOne_412
section ZK
variable {p : Program} {l : Launch} {e : Env} {R : Room} {s : State} {m : MethodId} {args : Array Value} {below : List Frame} {meth : Method} {c : Code} {H : Heap} {locs : List Loc} {cells slots : Nat} {Q : State → Prop}
variable {pc : Nat} {ls : Array Slot} {rest : List Value} {A : Nat → Prop} {H0 : Heap} {D : va_G} {cy : Nat → ClassId} {a0 aT aP : Nat → Nat} {σ : zS} {cc : ByteArray} {nL : Nat} {α : Type} {res : α}
theorem vkX8_209 : zVk RX8 209 yX8_carryOne cX8_carryOne 6 (some .int) 0 := ⟨by decide +kernel, by decide +kernel, by decide +kernel, by decide +kernel, by decide +kernel, by decide +kernel⟩
theorem kX8_209 (hC : zC p s m args c RX8 cc nL D cy) (hA : ∀ q, H0.size ≤ q → A q) (hZ : zW D cy shM 35 a0 aT aP A H0 σ H locs) {N : Nat}  {k : Int32 → zS → Option α} (hf : zbi (fX8_carryOne N  σ) k = some res) (hsz : ls.size = nL) (hW : (rest.map fun v => v.category).sum ≤ 8) (hR : rmX8_carryOne.frames + 1 ≤ R.frames ∧ 8 + (6 + 11) + rmX8_carryOne.locals ≤ R.locals) (hcs : cells ≤ R.cells ∧ slots ≤ R.slots) (hdg : decode cc pc = .ok (.invokevirtual 209, 3)) (kk : ∀ (v : Int32) (τ : zS) (H1 : Heap) (locs1 : List Loc), k v τ = some res → zW D cy shM 35 a0 aT aP A H0 τ H1 locs1 → W p l e R s m args below meth c H1 locs1 cells slots Q (F0 m (pc + 3) ls (.int v :: rest))) : W p l e R s m args below meth c H locs cells slots Q (F0 m pc ls (.ref (a0 0) :: rest)) := by
  cases hq : fX8_carryOne N  σ with
  | none => rw [hq] at hf; cases hf
  | some q =>
    rw [hq] at hf
    exact zcalli hA hZ (zrun hC hZ vkX8_209 rfl (zw0 (by decide)) (cX8_carryOne_ok l D cy a0 aT aP N  σ q.1 q.2 hq H.size) hR rfl hsz rfl hW hcs hdg) (fun u H1 locs1 hU hZ1 => by subst hU; exact kk q.1 q.2 H1 locs1 hf hZ1)
end ZK
