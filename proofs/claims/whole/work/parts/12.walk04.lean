set_option maxHeartbeats 4000000 in
set_option maxRecDepth 100000 in
theorem cX7_turns_ok (l : Launch) (D : va_G) (cy : Nat → ClassId) (a0 aT aP : Nat → Nat) (N : Nat) (x1 : Int32) (x2 : Int32) (w0 : zS) (rv : Int32) (τ : zS) (hf : fX7_turns N x1 x2 w0 = some (rv, τ)) : zMi l yX7_turns cX7_turns 3 (some .int) rmX7_turns D cy shX 38 a0 aT aP w0 [.ref (a0 0), .int x1, .int x2] rv τ (fun u => u = (aT, aP)) := by
  refine zmet_i (by decide +kernel) (Or.inl rfl) (Nat.le_of_ble_eq_true rfl) ?_
  intro p e s m below meth c A Q ls hC hA hZ hl hE
  have hx := hC.1.1
  have hb := hC.1.2.1
  have hl : lv_has ls 3 [(0, .ref (a0 0)), (1, .int x1), (2, .int x2)] := hl
  unfold fX7_turns at hf
  refine lv_aload_n (pc := 0) hx hb dX7_turns_0 rfl (lv_at hl 0 rfl) ?_
  refine lv_iload_n (pc := 1) hx hb dX7_turns_1 rfl (lv_at hl 1 rfl) ?_
  refine kX7_77 (pc := 2) hC hA hZ hf hl.1 (Nat.le_of_ble_eq_true rfl) ⟨Nat.le_of_ble_eq_true rfl, Nat.le_of_ble_eq_true rfl⟩ ⟨Nat.le_refl _, Nat.le_refl _⟩ dX7_turns_2 (fun v2 w1 H locs hf hZ => ?_)
  refine z_eq0 (pc := 5) (tgt := 16) hC hf dX7_turns_5 (by decide) (fun hf => ?_) (fun hf => ?_)
  · refine lv_aload_n (pc := 16) hx hb dX7_turns_16 rfl (lv_at hl 0 rfl) ?_
    refine lv_iconst (pc := 17) (v := (-1 : Int32)) hx hb dX7_turns_17 (by decide) ?_
    refine kX7_73 (pc := 18) hC hA hZ hf hl.1 (Nat.le_of_ble_eq_true rfl) ⟨Nat.le_of_ble_eq_true rfl, Nat.le_of_ble_eq_true rfl⟩ ⟨Nat.le_refl _, Nat.le_refl _⟩ dX7_turns_18 (fun v4 w3 H locs hf hZ => ?_)
    obtain ⟨rfl, rfl⟩ := zinj hf
    exact hE _ _ _ _ _ _ rfl hZ dX7_turns_21
  refine lv_aload_n (pc := 8) hx hb dX7_turns_8 rfl (lv_at hl 0 rfl) ?_
  refine lv_iload_n (pc := 9) hx hb dX7_turns_9 rfl (lv_at hl 2 rfl) ?_
  refine kX7_81 (pc := 10) hC hA hZ hf hl.1 (Nat.le_of_ble_eq_true rfl) ⟨Nat.le_of_ble_eq_true rfl, Nat.le_of_ble_eq_true rfl⟩ ⟨Nat.le_refl _, Nat.le_refl _⟩ dX7_turns_10 (fun v6 w5 H locs hf hZ => ?_)
  refine z_ne0 (pc := 13) (tgt := 22) hC hf dX7_turns_13 (by decide) (fun hf => ?_) (fun hf => ?_)
  · refine lv_aload_n (pc := 16) hx hb dX7_turns_16 rfl (lv_at hl 0 rfl) ?_
    refine lv_iconst (pc := 17) (v := (-1 : Int32)) hx hb dX7_turns_17 (by decide) ?_
    refine kX7_73 (pc := 18) hC hA hZ hf hl.1 (Nat.le_of_ble_eq_true rfl) ⟨Nat.le_of_ble_eq_true rfl, Nat.le_of_ble_eq_true rfl⟩ ⟨Nat.le_refl _, Nat.le_refl _⟩ dX7_turns_18 (fun v8 w7 H locs hf hZ => ?_)
    obtain ⟨rfl, rfl⟩ := zinj hf
    exact hE _ _ _ _ _ _ rfl hZ dX7_turns_21
  refine lv_aload_n (pc := 22) hx hb dX7_turns_22 rfl (lv_at hl 0 rfl) ?_
  refine gfX7_42 (pc := 23) hC hZ dX7_turns_23 ?_
  refine lv_iload_n (pc := 26) hx hb dX7_turns_26 rfl (lv_at hl 1 rfl) ?_
  refine lv_iload_n (pc := 27) hx hb dX7_turns_27 rfl (lv_at hl 2 rfl) ?_
  refine kX7_153 (pc := 28) hC hA hZ hf hl.1 (Nat.le_of_ble_eq_true rfl) ⟨Nat.le_of_ble_eq_true rfl, Nat.le_of_ble_eq_true rfl⟩ ⟨Nat.le_refl _, Nat.le_refl _⟩ dX7_turns_28 (fun v10 w9 H locs hf hZ => ?_)
  obtain ⟨rfl, rfl⟩ := zinj hf
  exact hE _ _ _ _ _ _ rfl hZ dX7_turns_31
set_option maxHeartbeats 4000000 in
set_option maxRecDepth 100000 in
theorem wX7_missingOfKind_4 {p : Program} {l : Launch} {e : Env} {s : State} {m : MethodId} {args : Array Value} {below : List Frame} {meth : Method} {c : Code} {Q : State → Prop} {A : Nat → Prop} {H0 : Heap} {D : va_G} {cy : Nat → ClassId} {a0 aT aP : Nat → Nat} {res : Int32 × zS} {K : Int32 → Int32 → zS → Option (Int32 × zS)} (N : Nat) (x1 : Int32) (hC : zC p s m args c RX7 cX7_missingOfKind 4 D cy) (hA : ∀ q, H0.size ≤ q → A q) (hE : zEnd p l e rmX7_missingOfKind s m args below meth c Q D cy shX 38 a0 A H0 res.2 (fun u => u = (aT, aP)) cX7_missingOfKind .ireturn [.int res.1]) (n : Nat) (x2 : Int32) (x3 : Int32) (w0 : zS) {H : Heap} {locs : List Loc} {ls : Array Slot} (hf : lX7_missingOfKind_4 N x1 K n (x2, x3, w0) = some res) (hZ : zW D cy shX 38 a0 aT aP A H0 w0 H locs) (hl : lv_has ls 4 [(0, .ref (a0 0)), (1, .int x1), (2, .int x2), (3, .int x3)]) (hK : ∀ x2 : Int32, ∀ x3 : Int32, ∀ (w0 : zS) (H : Heap) (locs : List Loc) (ls : Array Slot), K x2 x3 w0 = some res → zW D cy shX 38 a0 aT aP A H0 w0 H locs → lv_has ls 4 [(0, .ref (a0 0)), (1, .int x1), (2, .int x2), (3, .int x3)] → W p l e rmX7_missingOfKind s m args below meth c H locs 0 0 Q (F0 m 32 ls [])) : W p l e rmX7_missingOfKind s m args below meth c H locs 0 0 Q (F0 m 4 ls []) := by
  have hx := hC.1.1
  have hb := hC.1.2.1
  have hf2 : zlp (fun rc s1 => bX7_missingOfKind_4 N x1 K rc s1.1 s1.2.1 s1.2.2) n (x2, x3, w0) = some res := hf
  have key := zloop (S := Int32 × Int32 × zS) (α := Int32 × zS) (b := fun rc s1 => bX7_missingOfKind_4 N x1 K rc s1.1 s1.2.1 s1.2.2) (r := res) (Wd := fun s1 => ∀ (H : Heap) (locs : List Loc) (ls : Array Slot), zW D cy shX 38 a0 aT aP A H0 s1.2.2 H locs → lv_has ls 4 [(0, .ref (a0 0)), (1, .int x1), (2, .int s1.1), (3, .int s1.2.1)] → W p l e rmX7_missingOfKind s m args below meth c H locs 0 0 Q (F0 m 4 ls []))
  refine key ?_ n (x2, x3, w0) hf2 H locs ls hZ hl
  clear hf hf2 hZ hl key
  rintro rc ⟨x2, x3, w0⟩ ih hf H locs ls hZ hl
  have hf : bX7_missingOfKind_4 N x1 K rc x2 x3 w0 = some res := hf
  have hl : lv_has ls 4 [(0, .ref (a0 0)), (1, .int x1), (2, .int x2), (3, .int x3)] := hl
  unfold bX7_missingOfKind_4 at hf
  refine lv_iload_n (pc := 4) hx hb dX7_missingOfKind_4 rfl (lv_at hl 3 rfl) ?_
  refine lv_aload_n (pc := 5) hx hb dX7_missingOfKind_5 rfl (lv_at hl 0 rfl) ?_
  refine gfX7_64 (pc := 6) hC hZ dX7_missingOfKind_6 ?_
  refine z_ige (pc := 9) (tgt := 32) hC hf dX7_missingOfKind_9 (by decide) (fun hf => ?_) (fun hf => ?_)
  · exact hK x2 x3 w0 H locs ls hf hZ (lv_sub hl [0, 1, 2, 3] rfl)
  refine lv_iload_n (pc := 12) hx hb dX7_missingOfKind_12 rfl (lv_at hl 2 rfl) ?_
  refine lv_aload_n (pc := 13) hx hb dX7_missingOfKind_13 rfl (lv_at hl 0 rfl) ?_
  refine gfX7_22 (pc := 14) hC hZ dX7_missingOfKind_14 ?_
  refine lv_iload_n (pc := 17) hx hb dX7_missingOfKind_17 rfl (lv_at hl 3 rfl) ?_
  refine lv_bipush (pc := 18) (v := (6 : Int32)) hx hb dX7_missingOfKind_18 (by decide) ?_
  refine lv_imul (pc := 20) hx hb dX7_missingOfKind_20 ?_
  refine lv_iload_n (pc := 21) hx hb dX7_missingOfKind_21 rfl (lv_at hl 1 rfl) ?_
  refine lv_iadd (pc := 22) hx hb dX7_missingOfKind_22 ?_
  refine z_iald (pc := 23) hC hZ (by decide) rfl hf dX7_missingOfKind_23 (fun v1 hf => ?_)
  refine lv_iadd (pc := 24) hx hb dX7_missingOfKind_24 ?_
  refine lv_istore_n (pc := 25) (lv' := [(2, .int (x2 + v1)), (0, .ref (a0 0)), (1, .int x1), (3, .int x3)]) hx hb dX7_missingOfKind_25 rfl hl (by decide) rfl (fun ls hl => ?_)
  refine lv_iinc (pc := 26) (v := (x3 + (1 : Int32))) (lv' := [(3, .int (x3 + (1 : Int32))), (2, .int (x2 + v1)), (0, .ref (a0 0)), (1, .int x1)]) hx hb dX7_missingOfKind_26 hl (k := 3) rfl rfl (by decide) rfl (fun ls hl => ?_)
  refine lv_goto (pc := 29) (tgt := 4) hx hb dX7_missingOfKind_29 (by decide) ?_
  exact ih ((x2 + v1), (x3 + (1 : Int32)), w0) hf H locs ls hZ (lv_sub hl [2, 3, 1, 0] rfl)
set_option maxHeartbeats 4000000 in
set_option maxRecDepth 100000 in
theorem cX7_missingOfKind_ok (l : Launch) (D : va_G) (cy : Nat → ClassId) (a0 aT aP : Nat → Nat) (N : Nat) (x1 : Int32) (w0 : zS) (rv : Int32) (τ : zS) (hf : fX7_missingOfKind N x1 w0 = some (rv, τ)) : zMi l yX7_missingOfKind cX7_missingOfKind 4 (some .int) rmX7_missingOfKind D cy shX 38 a0 aT aP w0 [.ref (a0 0), .int x1] rv τ (fun u => u = (aT, aP)) := by
  refine zmet_i (by decide +kernel) (Or.inl rfl) (Nat.le_of_ble_eq_true rfl) ?_
  intro p e s m below meth c A Q ls hC hA hZ hl hE
  have hx := hC.1.1
  have hb := hC.1.2.1
  have hl : lv_has ls 4 [(0, .ref (a0 0)), (1, .int x1)] := hl
  unfold fX7_missingOfKind at hf
  refine lv_iconst (pc := 0) (v := (0 : Int32)) hx hb dX7_missingOfKind_0 (by decide) ?_
  refine lv_istore_n (pc := 1) (lv' := [(2, .int (0 : Int32)), (0, .ref (a0 0)), (1, .int x1)]) hx hb dX7_missingOfKind_1 rfl hl (by decide) rfl (fun ls hl => ?_)
  refine lv_iconst (pc := 2) (v := (0 : Int32)) hx hb dX7_missingOfKind_2 (by decide) ?_
  refine lv_istore_n (pc := 3) (lv' := [(3, .int (0 : Int32)), (2, .int (0 : Int32)), (0, .ref (a0 0)), (1, .int x1)]) hx hb dX7_missingOfKind_3 rfl hl (by decide) rfl (fun ls hl => ?_)
  refine wX7_missingOfKind_4 (res := (rv, τ)) N x1 hC hA hE N _ _ _ hf hZ (lv_sub hl [2, 3, 1, 0] rfl) (fun y2 y3 w4 H locs ls hf hZ hl => ?_)
  refine lv_iload_n (pc := 32) hx hb dX7_missingOfKind_32 rfl (lv_at hl 2 rfl) ?_
  obtain ⟨rfl, rfl⟩ := zinj hf
  exact hE _ _ _ _ _ _ rfl hZ dX7_missingOfKind_33
section ZK
variable {p : Program} {l : Launch} {e : Env} {R : Room} {s : State} {m : MethodId} {args : Array Value} {below : List Frame} {meth : Method} {c : Code} {H : Heap} {locs : List Loc} {cells slots : Nat} {Q : State → Prop}
variable {pc : Nat} {ls : Array Slot} {rest : List Value} {A : Nat → Prop} {H0 : Heap} {D : va_G} {cy : Nat → ClassId} {a0 aT aP : Nat → Nat} {σ : zS} {cc : ByteArray} {nL : Nat} {α : Type} {res : α}
theorem vkX7_157 : zVk RX7 157 yX7_missingOfKind cX7_missingOfKind 4 (some .int) 1 := ⟨by decide +kernel, by decide +kernel, by decide +kernel, by decide +kernel, by decide +kernel, by decide +kernel⟩
theorem kX7_157 (hC : zC p s m args c RX7 cc nL D cy) (hA : ∀ q, H0.size ≤ q → A q) (hZ : zW D cy shX 38 a0 aT aP A H0 σ H locs) {N : Nat} {x1 : Int32} {k : Int32 → zS → Option α} (hf : zbi (fX7_missingOfKind N x1 σ) k = some res) (hsz : ls.size = nL) (hW : (rest.map fun v => v.category).sum ≤ 8) (hR : rmX7_missingOfKind.frames + 1 ≤ R.frames ∧ 8 + (4 + 11) + rmX7_missingOfKind.locals ≤ R.locals) (hcs : cells ≤ R.cells ∧ slots ≤ R.slots) (hdg : decode cc pc = .ok (.invokevirtual 157, 3)) (kk : ∀ (v : Int32) (τ : zS) (H1 : Heap) (locs1 : List Loc), k v τ = some res → zW D cy shX 38 a0 aT aP A H0 τ H1 locs1 → W p l e R s m args below meth c H1 locs1 cells slots Q (F0 m (pc + 3) ls (.int v :: rest))) : W p l e R s m args below meth c H locs cells slots Q (F0 m pc ls (.int x1 :: .ref (a0 0) :: rest)) := by
  cases hq : fX7_missingOfKind N x1 σ with
  | none => rw [hq] at hf; cases hf
  | some q =>
    rw [hq] at hf
    exact zcalli hA hZ (zrun hC hZ vkX7_157 rfl (zw0 (by decide)) (cX7_missingOfKind_ok l D cy a0 aT aP N x1 σ q.1 q.2 hq H.size) hR rfl hsz rfl hW hcs hdg) (fun u H1 locs1 hU hZ1 => by subst hU; exact kk q.1 q.2 H1 locs1 hf hZ1)
end ZK
set_option maxHeartbeats 4000000 in
set_option maxRecDepth 100000 in
theorem cX7_isAhead_ok (l : Launch) (D : va_G) (cy : Nat → ClassId) (a0 aT aP : Nat → Nat) (N : Nat) (x0 : Int64) (x2 : Int32) (x3 : Int64) (x5 : Int32) (w0 : zS) (rv : Int32) (τ : zS) (hf : fX7_isAhead N x0 x2 x3 x5 w0 = some (rv, τ)) : zMi l yX7_isAhead cX7_isAhead 6 (some .boolean) rmX7_isAhead D cy shX 38 a0 aT aP w0 [.long x0, .int x2, .long x3, .int x5] rv τ (fun u => u = (aT, aP)) := by
  refine zmet_z (by decide +kernel) rfl (Nat.le_of_ble_eq_true rfl) ?_
  intro p e s m below meth c A Q ls hC hA hZ hl hE
  have hx := hC.1.1
  have hb := hC.1.2.1
  have hl : lv_has ls 6 [(0, .long x0), (2, .int x2), (3, .long x3), (5, .int x5)] := hl
  unfold fX7_isAhead at hf
  refine lv_lload_n (pc := 0) hx hb dX7_isAhead_0 rfl (lv_at hl 0 rfl) ?_
  refine lv_lload_n (pc := 1) hx hb dX7_isAhead_1 rfl (lv_at hl 2 rfl) ?_
  refine W.lcmp (pc := 2) hx hb dX7_isAhead_2 ?_
  refine z_gt0 (pc := 3) (tgt := 18) hC hf dX7_isAhead_3 (by decide) (fun hf => ?_) (fun hf => ?_)
  · refine lv_iconst (pc := 18) (v := (1 : Int32)) hx hb dX7_isAhead_18 (by decide) ?_
    refine lv_goto (pc := 19) (tgt := 23) hx hb dX7_isAhead_19 (by decide) ?_
    obtain ⟨rfl, rfl⟩ := zinj hf
    exact hE (by decide) _ _ _ _ _ _ rfl hZ dX7_isAhead_23
  refine lv_lload_n (pc := 6) hx hb dX7_isAhead_6 rfl (lv_at hl 0 rfl) ?_
  refine lv_lload_n (pc := 7) hx hb dX7_isAhead_7 rfl (lv_at hl 2 rfl) ?_
  refine W.lcmp (pc := 8) hx hb dX7_isAhead_8 ?_
  refine z_ne0 (pc := 9) (tgt := 22) hC hf dX7_isAhead_9 (by decide) (fun hf => ?_) (fun hf => ?_)
  · refine lv_iload_n (pc := 12) hx hb dX7_isAhead_12 rfl (lv_at hl 1 rfl) ?_
    refine lv_iload (pc := 13) hx hb dX7_isAhead_13 (lv_at hl 3 rfl) ?_
    refine z_ige (pc := 15) (tgt := 22) hC hf dX7_isAhead_15 (by decide) (fun hf => ?_) (fun hf => ?_)
    · refine lv_iconst (pc := 22) (v := (0 : Int32)) hx hb dX7_isAhead_22 (by decide) ?_
      obtain ⟨rfl, rfl⟩ := zinj hf
      exact hE (by decide) _ _ _ _ _ _ rfl hZ dX7_isAhead_23
    refine lv_iconst (pc := 18) (v := (1 : Int32)) hx hb dX7_isAhead_18 (by decide) ?_
    refine lv_goto (pc := 19) (tgt := 23) hx hb dX7_isAhead_19 (by decide) ?_
    obtain ⟨rfl, rfl⟩ := zinj hf
    exact hE (by decide) _ _ _ _ _ _ rfl hZ dX7_isAhead_23
  refine lv_iconst (pc := 22) (v := (0 : Int32)) hx hb dX7_isAhead_22 (by decide) ?_
  obtain ⟨rfl, rfl⟩ := zinj hf
  exact hE (by decide) _ _ _ _ _ _ rfl hZ dX7_isAhead_23
section ZK
variable {p : Program} {l : Launch} {e : Env} {R : Room} {s : State} {m : MethodId} {args : Array Value} {below : List Frame} {meth : Method} {c : Code} {H : Heap} {locs : List Loc} {cells slots : Nat} {Q : State → Prop}
variable {pc : Nat} {ls : Array Slot} {rest : List Value} {A : Nat → Prop} {H0 : Heap} {D : va_G} {cy : Nat → ClassId} {a0 aT aP : Nat → Nat} {σ : zS} {cc : ByteArray} {nL : Nat} {α : Type} {res : α}
theorem vkX7_248 : zSk RX7 248 yX7_isAhead cX7_isAhead 6 (some .boolean) 4 := ⟨by decide +kernel, by decide +kernel, by decide +kernel, by decide +kernel, by decide +kernel⟩
theorem kX7_248 (hC : zC p s m args c RX7 cc nL D cy) (hA : ∀ q, H0.size ≤ q → A q) (hZ : zW D cy shX 38 a0 aT aP A H0 σ H locs) {N : Nat} {x0 : Int64} {x2 : Int32} {x3 : Int64} {x5 : Int32} {k : Int32 → zS → Option α} (hf : zbi (fX7_isAhead N x0 x2 x3 x5 σ) k = some res) (hsz : ls.size = nL) (hW : (rest.map fun v => v.category).sum ≤ 8) (hR : rmX7_isAhead.frames + 1 ≤ R.frames ∧ 8 + (6 + 11) + rmX7_isAhead.locals ≤ R.locals) (hcs : cells ≤ R.cells ∧ slots ≤ R.slots) (hdg : decode cc pc = .ok (.invokestatic 248, 3)) (kk : ∀ (v : Int32) (τ : zS) (H1 : Heap) (locs1 : List Loc), k v τ = some res → zW D cy shX 38 a0 aT aP A H0 τ H1 locs1 → W p l e R s m args below meth c H1 locs1 cells slots Q (F0 m (pc + 3) ls (.int v :: rest))) : W p l e R s m args below meth c H locs cells slots Q (F0 m pc ls (.int x5 :: .long x3 :: .int x2 :: .long x0 :: rest)) := by
  cases hq : fX7_isAhead N x0 x2 x3 x5 σ with
  | none => rw [hq] at hf; cases hf
  | some q =>
    rw [hq] at hf
    exact zcalli hA hZ (zrunS hC hZ vkX7_248 (cX7_isAhead_ok l D cy a0 aT aP N x0 x2 x3 x5 σ q.1 q.2 hq H.size) hR rfl hsz rfl hW hcs hdg) (fun u H1 locs1 hU hZ1 => by subst hU; exact kk q.1 q.2 H1 locs1 hf hZ1)
end ZK
set_option maxHeartbeats 4000000 in
set_option maxRecDepth 100000 in
theorem wX7_shareOf_6 {p : Program} {l : Launch} {e : Env} {s : State} {m : MethodId} {args : Array Value} {below : List Frame} {meth : Method} {c : Code} {Q : State → Prop} {A : Nat → Prop} {H0 : Heap} {D : va_G} {cy : Nat → ClassId} {a0 aT aP : Nat → Nat} {res : Int32 × zS} {K : Int64 → Int32 → zS → Option (Int32 × zS)} (N : Nat) (x1 : Int32) (x2 : Int32) (x3 : Int64) (hC : zC p s m args c RX7 cX7_shareOf 15 D cy) (hA : ∀ q, H0.size ≤ q → A q) (hE : zEnd p l e rmX7_shareOf s m args below meth c Q D cy shX 38 a0 A H0 res.2 (fun u => u = (aT, aP)) cX7_shareOf .ireturn [.int res.1]) (n : Nat) (x5 : Int64) (x7 : Int32) (w0 : zS) {H : Heap} {locs : List Loc} {ls : Array Slot} (hf : lX7_shareOf_6 N x1 x2 x3 K n (x5, x7, w0) = some res) (hZ : zW D cy shX 38 a0 aT aP A H0 w0 H locs) (hl : lv_has ls 15 [(0, .ref (a0 0)), (1, .int x1), (2, .int x2), (3, .long x3), (5, .long x5), (7, .int x7)]) (hK : ∀ x5 : Int64, ∀ x7 : Int32, ∀ (w0 : zS) (H : Heap) (locs : List Loc) (ls : Array Slot), K x5 x7 w0 = some res → zW D cy shX 38 a0 aT aP A H0 w0 H locs → lv_has ls 15 [(0, .ref (a0 0)), (1, .int x1), (2, .int x2), (3, .long x3), (5, .long x5), (7, .int x7)] → W p l e rmX7_shareOf s m args below meth c H locs 0 0 Q (F0 m 37 ls [])) : W p l e rmX7_shareOf s m args below meth c H locs 0 0 Q (F0 m 6 ls []) := by
  have hx := hC.1.1
  have hb := hC.1.2.1
  have hf2 : zlp (fun rc s1 => bX7_shareOf_6 N x1 x2 x3 K rc s1.1 s1.2.1 s1.2.2) n (x5, x7, w0) = some res := hf
  have key := zloop (S := Int64 × Int32 × zS) (α := Int32 × zS) (b := fun rc s1 => bX7_shareOf_6 N x1 x2 x3 K rc s1.1 s1.2.1 s1.2.2) (r := res) (Wd := fun s1 => ∀ (H : Heap) (locs : List Loc) (ls : Array Slot), zW D cy shX 38 a0 aT aP A H0 s1.2.2 H locs → lv_has ls 15 [(0, .ref (a0 0)), (1, .int x1), (2, .int x2), (3, .long x3), (5, .long s1.1), (7, .int s1.2.1)] → W p l e rmX7_shareOf s m args below meth c H locs 0 0 Q (F0 m 6 ls []))
  refine key ?_ n (x5, x7, w0) hf2 H locs ls hZ hl
  clear hf hf2 hZ hl key
  rintro rc ⟨x5, x7, w0⟩ ih hf H locs ls hZ hl
  have hf : bX7_shareOf_6 N x1 x2 x3 K rc x5 x7 w0 = some res := hf
  have hl : lv_has ls 15 [(0, .ref (a0 0)), (1, .int x1), (2, .int x2), (3, .long x3), (5, .long x5), (7, .int x7)] := hl
  unfold bX7_shareOf_6 at hf
  refine lv_iload (pc := 6) hx hb dX7_shareOf_6 (lv_at hl 5 rfl) ?_
  refine lv_aload_n (pc := 8) hx hb dX7_shareOf_8 rfl (lv_at hl 0 rfl) ?_
  refine gfX7_64 (pc := 9) hC hZ dX7_shareOf_9 ?_
  refine z_ige (pc := 12) (tgt := 37) hC hf dX7_shareOf_12 (by decide) (fun hf => ?_) (fun hf => ?_)
  · exact hK x5 x7 w0 H locs ls hf hZ (lv_sub hl [0, 1, 2, 3, 4, 5] rfl)
  refine lv_lload (pc := 15) hx hb dX7_shareOf_15 (lv_at hl 4 rfl) ?_
  refine lv_aload_n (pc := 17) hx hb dX7_shareOf_17 rfl (lv_at hl 0 rfl) ?_
  refine gfX7_42 (pc := 18) hC hZ dX7_shareOf_18 ?_
  refine lv_iload (pc := 21) hx hb dX7_shareOf_21 (lv_at hl 5 rfl) ?_
  refine lv_iload_n (pc := 23) hx hb dX7_shareOf_23 rfl (lv_at hl 2 rfl) ?_
  refine kX7_153 (pc := 24) hC hA hZ hf hl.1 (Nat.le_of_ble_eq_true rfl) ⟨Nat.le_of_ble_eq_true rfl, Nat.le_of_ble_eq_true rfl⟩ ⟨Nat.le_refl _, Nat.le_refl _⟩ dX7_shareOf_24 (fun v2 w1 H locs hf hZ => ?_)
  refine lv_i2l (pc := 27) hx hb dX7_shareOf_27 rfl ?_
  refine lv_ladd (pc := 28) hx hb dX7_shareOf_28 ?_
  refine lv_lstore (pc := 29) (lv' := [(5, .long (x5 + v2.toInt64)), (0, .ref (a0 0)), (1, .int x1), (2, .int x2), (3, .long x3), (7, .int x7)]) hx hb dX7_shareOf_29 hl (by decide) rfl (fun ls hl => ?_)
  refine lv_iinc (pc := 31) (v := (x7 + (1 : Int32))) (lv' := [(7, .int (x7 + (1 : Int32))), (5, .long (x5 + v2.toInt64)), (0, .ref (a0 0)), (1, .int x1), (2, .int x2), (3, .long x3)]) hx hb dX7_shareOf_31 hl (k := 5) rfl rfl (by decide) rfl (fun ls hl => ?_)
  refine lv_goto (pc := 34) (tgt := 6) hx hb dX7_shareOf_34 (by decide) ?_
  exact ih ((x5 + v2.toInt64), (x7 + (1 : Int32)), w1) hf H locs ls hZ (lv_sub hl [2, 3, 4, 5, 1, 0] rfl)
set_option maxHeartbeats 4000000 in
set_option maxRecDepth 100000 in
theorem wX7_shareOf_75 {p : Program} {l : Launch} {e : Env} {s : State} {m : MethodId} {args : Array Value} {below : List Frame} {meth : Method} {c : Code} {Q : State → Prop} {A : Nat → Prop} {H0 : Heap} {D : va_G} {cy : Nat → ClassId} {a0 aT aP : Nat → Nat} {res : Int32 × zS} {K : Int64 → Int32 → Int32 → zS → Option (Int32 × zS)} (N : Nat) (x1 : Int32) (x2 : Int32) (x3 : Int64) (x5 : Int64) (x7 : Int64) (hC : zC p s m args c RX7 cX7_shareOf 15 D cy) (hA : ∀ q, H0.size ≤ q → A q) (hE : zEnd p l e rmX7_shareOf s m args below meth c Q D cy shX 38 a0 A H0 res.2 (fun u => u = (aT, aP)) cX7_shareOf .ireturn [.int res.1]) (n : Nat) (x9 : Int64) (x11 : Int32) (x12 : Int32) (w0 : zS) {H : Heap} {locs : List Loc} {ls : Array Slot} (hf : lX7_shareOf_75 N x1 x2 x3 x5 x7 K n (x9, x11, x12, w0) = some res) (hZ : zW D cy shX 38 a0 aT aP A H0 w0 H locs) (hl : lv_has ls 15 [(0, .ref (a0 0)), (1, .int x1), (2, .int x2), (3, .long x3), (5, .long x5), (7, .long x7), (9, .long x9), (11, .int x11), (12, .int x12)]) (hK : ∀ x9 : Int64, ∀ x11 : Int32, ∀ x12 : Int32, ∀ (w0 : zS) (H : Heap) (locs : List Loc) (ls : Array Slot), K x9 x11 x12 w0 = some res → zW D cy shX 38 a0 aT aP A H0 w0 H locs → lv_has ls 15 [(0, .ref (a0 0)), (1, .int x1), (2, .int x2), (3, .long x3), (5, .long x5), (7, .long x7), (9, .long x9), (11, .int x11), (12, .int x12)] → W p l e rmX7_shareOf s m args below meth c H locs 0 0 Q (F0 m 137 ls [])) : W p l e rmX7_shareOf s m args below meth c H locs 0 0 Q (F0 m 75 ls []) := by
  have hx := hC.1.1
  have hb := hC.1.2.1
  have hf2 : zlp (fun rc s1 => bX7_shareOf_75 N x1 x2 x3 x5 x7 K rc s1.1 s1.2.1 s1.2.2.1 s1.2.2.2) n (x9, x11, x12, w0) = some res := hf
  have key := zloop (S := Int64 × Int32 × Int32 × zS) (α := Int32 × zS) (b := fun rc s1 => bX7_shareOf_75 N x1 x2 x3 x5 x7 K rc s1.1 s1.2.1 s1.2.2.1 s1.2.2.2) (r := res) (Wd := fun s1 => ∀ (H : Heap) (locs : List Loc) (ls : Array Slot), zW D cy shX 38 a0 aT aP A H0 s1.2.2.2 H locs → lv_has ls 15 [(0, .ref (a0 0)), (1, .int x1), (2, .int x2), (3, .long x3), (5, .long x5), (7, .long x7), (9, .long s1.1), (11, .int s1.2.1), (12, .int s1.2.2.1)] → W p l e rmX7_shareOf s m args below meth c H locs 0 0 Q (F0 m 75 ls []))
  refine key ?_ n (x9, x11, x12, w0) hf2 H locs ls hZ hl
  clear hf hf2 hZ hl key
  rintro rc ⟨x9, x11, x12, w0⟩ ih hf H locs ls hZ hl
  have hf : bX7_shareOf_75 N x1 x2 x3 x5 x7 K rc x9 x11 x12 w0 = some res := hf
  have hl : lv_has ls 15 [(0, .ref (a0 0)), (1, .int x1), (2, .int x2), (3, .long x3), (5, .long x5), (7, .long x7), (9, .long x9), (11, .int x11), (12, .int x12)] := hl
  unfold bX7_shareOf_75 at hf
  refine lv_iload (pc := 75) hx hb dX7_shareOf_75 (lv_at hl 8 rfl) ?_
  refine lv_aload_n (pc := 77) hx hb dX7_shareOf_77 rfl (lv_at hl 0 rfl) ?_
  refine gfX7_64 (pc := 78) hC hZ dX7_shareOf_78 ?_
  refine z_ige (pc := 81) (tgt := 137) hC hf dX7_shareOf_81 (by decide) (fun hf => ?_) (fun hf => ?_)
  · exact hK x9 x11 x12 w0 H locs ls hf hZ (lv_sub hl [0, 1, 2, 3, 4, 5, 6, 7, 8] rfl)
  refine lv_lload_n (pc := 84) hx hb dX7_shareOf_84 rfl (lv_at hl 3 rfl) ?_
  refine lv_aload_n (pc := 85) hx hb dX7_shareOf_85 rfl (lv_at hl 0 rfl) ?_
  refine gfX7_42 (pc := 86) hC hZ dX7_shareOf_86 ?_
  refine lv_iload (pc := 89) hx hb dX7_shareOf_89 (lv_at hl 8 rfl) ?_
  refine lv_iload_n (pc := 91) hx hb dX7_shareOf_91 rfl (lv_at hl 2 rfl) ?_
  refine kX7_153 (pc := 92) hC hA hZ hf hl.1 (Nat.le_of_ble_eq_true rfl) ⟨Nat.le_of_ble_eq_true rfl, Nat.le_of_ble_eq_true rfl⟩ ⟨Nat.le_refl _, Nat.le_refl _⟩ dX7_shareOf_92 (fun v9 w8 H locs hf hZ => ?_)
  refine lv_i2l (pc := 95) hx hb dX7_shareOf_95 rfl ?_
  refine lv_lmul (pc := 96) hx hb dX7_shareOf_96 ?_
  refine lv_lstore (pc := 97) (lv' := [(13, .long (x3 * v9.toInt64)), (0, .ref (a0 0)), (1, .int x1), (2, .int x2), (3, .long x3), (5, .long x5), (7, .long x7), (9, .long x9), (11, .int x11), (12, .int x12)]) hx hb dX7_shareOf_97 hl (by decide) rfl (fun ls hl => ?_)
  refine lv_lload (pc := 99) hx hb dX7_shareOf_99 (lv_at hl 7 rfl) ?_
  refine lv_lload (pc := 101) hx hb dX7_shareOf_101 (lv_at hl 0 rfl) ?_
  refine lv_lload (pc := 103) hx hb dX7_shareOf_103 (lv_at hl 5 rfl) ?_
  refine z_ldiv (pc := 105) hC hf dX7_shareOf_105 (fun hf => ?_)
  refine lv_lsub (pc := 106) hx hb dX7_shareOf_106 ?_
  refine lv_lstore (pc := 107) (lv' := [(9, .long (x9 - ((x3 * v9.toInt64) / x5))), (13, .long (x3 * v9.toInt64)), (0, .ref (a0 0)), (1, .int x1), (2, .int x2), (3, .long x3), (5, .long x5), (7, .long x7), (11, .int x11), (12, .int x12)]) hx hb dX7_shareOf_107 hl (by decide) rfl (fun ls hl => ?_)
  refine lv_lload (pc := 109) hx hb dX7_shareOf_109 (lv_at hl 1 rfl) ?_
  refine lv_lload (pc := 111) hx hb dX7_shareOf_111 (lv_at hl 6 rfl) ?_
  refine z_lrem (pc := 113) hC hf dX7_shareOf_113 (fun hf => ?_)
  refine lv_iload (pc := 114) hx hb dX7_shareOf_114 (lv_at hl 9 rfl) ?_
  refine lv_lload (pc := 116) hx hb dX7_shareOf_116 (lv_at hl 7 rfl) ?_
  refine lv_lload (pc := 118) hx hb dX7_shareOf_118 (lv_at hl 6 rfl) ?_
  refine z_lrem (pc := 120) hC hf dX7_shareOf_120 (fun hf => ?_)
  refine lv_iload_n (pc := 121) hx hb dX7_shareOf_121 rfl (lv_at hl 3 rfl) ?_
  refine kX7_248 (pc := 122) hC hA hZ hf hl.1 (Nat.le_of_ble_eq_true rfl) ⟨Nat.le_of_ble_eq_true rfl, Nat.le_of_ble_eq_true rfl⟩ ⟨Nat.le_refl _, Nat.le_refl _⟩ dX7_shareOf_122 (fun v11 w10 H locs hf hZ => ?_)
  refine z_eq0 (pc := 125) (tgt := 131) hC hf dX7_shareOf_125 (by decide) (fun hf => ?_) (fun hf => ?_)
  · refine lv_iinc (pc := 131) (v := (x12 + (1 : Int32))) (lv' := [(12, .int (x12 + (1 : Int32))), (9, .long (x9 - ((x3 * v9.toInt64) / x5))), (13, .long (x3 * v9.toInt64)), (0, .ref (a0 0)), (1, .int x1), (2, .int x2), (3, .long x3), (5, .long x5), (7, .long x7), (11, .int x11)]) hx hb dX7_shareOf_131 hl (k := 9) rfl rfl (by decide) rfl (fun ls hl => ?_)
    refine lv_goto (pc := 134) (tgt := 75) hx hb dX7_shareOf_134 (by decide) ?_
    exact ih ((x9 - ((x3 * v9.toInt64) / x5)), x11, (x12 + (1 : Int32)), w10) hf H locs ls hZ (lv_sub hl [3, 4, 5, 6, 7, 8, 1, 9, 0] rfl)
  refine lv_iinc (pc := 128) (v := (x11 + (1 : Int32))) (lv' := [(11, .int (x11 + (1 : Int32))), (9, .long (x9 - ((x3 * v9.toInt64) / x5))), (13, .long (x3 * v9.toInt64)), (0, .ref (a0 0)), (1, .int x1), (2, .int x2), (3, .long x3), (5, .long x5), (7, .long x7), (12, .int x12)]) hx hb dX7_shareOf_128 hl (k := 8) rfl rfl (by decide) rfl (fun ls hl => ?_)
  refine lv_iinc (pc := 131) (v := (x12 + (1 : Int32))) (lv' := [(12, .int (x12 + (1 : Int32))), (11, .int (x11 + (1 : Int32))), (9, .long (x9 - ((x3 * v9.toInt64) / x5))), (13, .long (x3 * v9.toInt64)), (0, .ref (a0 0)), (1, .int x1), (2, .int x2), (3, .long x3), (5, .long x5), (7, .long x7)]) hx hb dX7_shareOf_131 hl (k := 9) rfl rfl (by decide) rfl (fun ls hl => ?_)
  refine lv_goto (pc := 134) (tgt := 75) hx hb dX7_shareOf_134 (by decide) ?_
  exact ih ((x9 - ((x3 * v9.toInt64) / x5)), (x11 + (1 : Int32)), (x12 + (1 : Int32)), w10) hf H locs ls hZ (lv_sub hl [4, 5, 6, 7, 8, 9, 2, 1, 0] rfl)
set_option maxHeartbeats 4000000 in
set_option maxRecDepth 100000 in
theorem cX7_shareOf_ok (l : Launch) (D : va_G) (cy : Nat → ClassId) (a0 aT aP : Nat → Nat) (N : Nat) (x1 : Int32) (x2 : Int32) (x3 : Int64) (w0 : zS) (rv : Int32) (τ : zS) (hf : fX7_shareOf N x1 x2 x3 w0 = some (rv, τ)) : zMi l yX7_shareOf cX7_shareOf 15 (some .int) rmX7_shareOf D cy shX 38 a0 aT aP w0 [.ref (a0 0), .int x1, .int x2, .long x3] rv τ (fun u => u = (aT, aP)) := by
  refine zmet_i (by decide +kernel) (Or.inl rfl) (Nat.le_of_ble_eq_true rfl) ?_
  intro p e s m below meth c A Q ls hC hA hZ hl hE
  have hx := hC.1.1
  have hb := hC.1.2.1
  have hl : lv_has ls 15 [(0, .ref (a0 0)), (1, .int x1), (2, .int x2), (3, .long x3)] := hl
  unfold fX7_shareOf at hf
  refine lv_lconst (pc := 0) (v := (0 : Int64)) hx hb dX7_shareOf_0 (by decide) ?_
  refine lv_lstore (pc := 1) (lv' := [(5, .long (0 : Int64)), (0, .ref (a0 0)), (1, .int x1), (2, .int x2), (3, .long x3)]) hx hb dX7_shareOf_1 hl (by decide) rfl (fun ls hl => ?_)
  refine lv_iconst (pc := 3) (v := (0 : Int32)) hx hb dX7_shareOf_3 (by decide) ?_
  refine lv_istore (pc := 4) (lv' := [(7, .int (0 : Int32)), (5, .long (0 : Int64)), (0, .ref (a0 0)), (1, .int x1), (2, .int x2), (3, .long x3)]) hx hb dX7_shareOf_4 hl (by decide) rfl (fun ls hl => ?_)
  refine wX7_shareOf_6 (res := (rv, τ)) N x1 x2 x3 hC hA hE N _ _ _ hf hZ (lv_sub hl [2, 3, 4, 5, 1, 0] rfl) (fun y3 y4 w5 H locs ls hf hZ hl => ?_)
  refine lv_lload_n (pc := 37) hx hb dX7_shareOf_37 rfl (lv_at hl 3 rfl) ?_
  refine lv_lconst (pc := 38) (v := (0 : Int64)) hx hb dX7_shareOf_38 (by decide) ?_
  refine W.lcmp (pc := 39) hx hb dX7_shareOf_39 ?_
  refine z_le0 (pc := 40) (tgt := 50) hC hf dX7_shareOf_40 (by decide) (fun hf => ?_) (fun hf => ?_)
  · refine lv_iconst (pc := 50) (v := (0 : Int32)) hx hb dX7_shareOf_50 (by decide) ?_
    obtain ⟨rfl, rfl⟩ := zinj hf
    exact hE _ _ _ _ _ _ rfl hZ dX7_shareOf_51
  refine lv_lload (pc := 43) hx hb dX7_shareOf_43 (lv_at hl 4 rfl) ?_
  refine lv_lconst (pc := 45) (v := (0 : Int64)) hx hb dX7_shareOf_45 (by decide) ?_
  refine W.lcmp (pc := 46) hx hb dX7_shareOf_46 ?_
  refine z_gt0 (pc := 47) (tgt := 52) hC hf dX7_shareOf_47 (by decide) (fun hf => ?_) (fun hf => ?_)
  · refine lv_lload_n (pc := 52) hx hb dX7_shareOf_52 rfl (lv_at hl 3 rfl) ?_
    refine lv_aload_n (pc := 53) hx hb dX7_shareOf_53 rfl (lv_at hl 0 rfl) ?_
    refine gfX7_42 (pc := 54) hC hZ dX7_shareOf_54 ?_
    refine lv_iload_n (pc := 57) hx hb dX7_shareOf_57 rfl (lv_at hl 1 rfl) ?_
    refine lv_iload_n (pc := 58) hx hb dX7_shareOf_58 rfl (lv_at hl 2 rfl) ?_
    refine kX7_153 (pc := 59) hC hA hZ hf hl.1 (Nat.le_of_ble_eq_true rfl) ⟨Nat.le_of_ble_eq_true rfl, Nat.le_of_ble_eq_true rfl⟩ ⟨Nat.le_refl _, Nat.le_refl _⟩ dX7_shareOf_59 (fun v7 w6 H locs hf hZ => ?_)
    refine lv_i2l (pc := 62) hx hb dX7_shareOf_62 rfl ?_
    refine lv_lmul (pc := 63) hx hb dX7_shareOf_63 ?_
    refine lv_lstore (pc := 64) (lv' := [(7, .long (x3 * v7.toInt64)), (0, .ref (a0 0)), (1, .int x1), (2, .int x2), (3, .long x3), (5, .long y3)]) hx hb dX7_shareOf_64 hl (by decide) rfl (fun ls hl => ?_)
    refine lv_lload_n (pc := 66) hx hb dX7_shareOf_66 rfl (lv_at hl 4 rfl) ?_
    refine lv_lstore (pc := 67) (lv' := [(9, .long x3), (7, .long (x3 * v7.toInt64)), (0, .ref (a0 0)), (1, .int x1), (2, .int x2), (3, .long x3), (5, .long y3)]) hx hb dX7_shareOf_67 hl (by decide) rfl (fun ls hl => ?_)
    refine lv_iconst (pc := 69) (v := (0 : Int32)) hx hb dX7_shareOf_69 (by decide) ?_
    refine lv_istore (pc := 70) (lv' := [(11, .int (0 : Int32)), (9, .long x3), (7, .long (x3 * v7.toInt64)), (0, .ref (a0 0)), (1, .int x1), (2, .int x2), (3, .long x3), (5, .long y3)]) hx hb dX7_shareOf_70 hl (by decide) rfl (fun ls hl => ?_)
    refine lv_iconst (pc := 72) (v := (0 : Int32)) hx hb dX7_shareOf_72 (by decide) ?_
    refine lv_istore (pc := 73) (lv' := [(12, .int (0 : Int32)), (11, .int (0 : Int32)), (9, .long x3), (7, .long (x3 * v7.toInt64)), (0, .ref (a0 0)), (1, .int x1), (2, .int x2), (3, .long x3), (5, .long y3)]) hx hb dX7_shareOf_73 hl (by decide) rfl (fun ls hl => ?_)
    refine wX7_shareOf_75 (res := (rv, τ)) N x1 x2 x3 y3 (x3 * v7.toInt64) hC hA hE N _ _ _ _ hf hZ (lv_sub hl [4, 5, 6, 7, 8, 3, 2, 1, 0] rfl) (fun y12 y13 y14 w15 H locs ls hf hZ hl => ?_)
    refine lv_lload (pc := 137) hx hb dX7_shareOf_137 (lv_at hl 5 rfl) ?_
    refine lv_lload (pc := 139) hx hb dX7_shareOf_139 (lv_at hl 4 rfl) ?_
    refine z_ldiv (pc := 141) hC hf dX7_shareOf_141 (fun hf => ?_)
    refine lv_lstore (pc := 142) (lv' := [(12, .long ((x3 * v7.toInt64) / y3)), (0, .ref (a0 0)), (1, .int x1), (2, .int x2), (3, .long x3), (5, .long y3), (7, .long (x3 * v7.toInt64)), (9, .long y12), (11, .int y13)]) hx hb dX7_shareOf_142 hl (by decide) rfl (fun ls hl => ?_)
    refine lv_iload (pc := 144) hx hb dX7_shareOf_144 (lv_at hl 8 rfl) ?_
    refine lv_i2l (pc := 146) hx hb dX7_shareOf_146 rfl ?_
    refine lv_lload (pc := 147) hx hb dX7_shareOf_147 (lv_at hl 7 rfl) ?_
    refine W.lcmp (pc := 149) hx hb dX7_shareOf_149 ?_
    refine z_ge0 (pc := 150) (tgt := 160) hC hf dX7_shareOf_150 (by decide) (fun hf => ?_) (fun hf => ?_)
    · refine lv_lload (pc := 160) hx hb dX7_shareOf_160 (lv_at hl 0 rfl) ?_
      refine lv_l2i (pc := 162) hx hb dX7_shareOf_162 rfl ?_
      obtain ⟨rfl, rfl⟩ := zinj hf
      exact hE _ _ _ _ _ _ rfl hZ dX7_shareOf_163
    refine lv_lload (pc := 153) hx hb dX7_shareOf_153 (lv_at hl 0 rfl) ?_
    refine lv_lconst (pc := 155) (v := (1 : Int64)) hx hb dX7_shareOf_155 (by decide) ?_
    refine lv_ladd (pc := 156) hx hb dX7_shareOf_156 ?_
    refine lv_goto (pc := 157) (tgt := 162) hx hb dX7_shareOf_157 (by decide) ?_
    refine lv_l2i (pc := 162) hx hb dX7_shareOf_162 rfl ?_
    obtain ⟨rfl, rfl⟩ := zinj hf
    exact hE _ _ _ _ _ _ rfl hZ dX7_shareOf_163
  refine lv_iconst (pc := 50) (v := (0 : Int32)) hx hb dX7_shareOf_50 (by decide) ?_
  obtain ⟨rfl, rfl⟩ := zinj hf
  exact hE _ _ _ _ _ _ rfl hZ dX7_shareOf_51
section ZK
variable {p : Program} {l : Launch} {e : Env} {R : Room} {s : State} {m : MethodId} {args : Array Value} {below : List Frame} {meth : Method} {c : Code} {H : Heap} {locs : List Loc} {cells slots : Nat} {Q : State → Prop}
variable {pc : Nat} {ls : Array Slot} {rest : List Value} {A : Nat → Prop} {H0 : Heap} {D : va_G} {cy : Nat → ClassId} {a0 aT aP : Nat → Nat} {σ : zS} {cc : ByteArray} {nL : Nat} {α : Type} {res : α}
theorem vkX7_160 : zVk RX7 160 yX7_shareOf cX7_shareOf 15 (some .int) 3 := ⟨by decide +kernel, by decide +kernel, by decide +kernel, by decide +kernel, by decide +kernel, by decide +kernel⟩
theorem kX7_160 (hC : zC p s m args c RX7 cc nL D cy) (hA : ∀ q, H0.size ≤ q → A q) (hZ : zW D cy shX 38 a0 aT aP A H0 σ H locs) {N : Nat} {x1 : Int32} {x2 : Int32} {x3 : Int64} {k : Int32 → zS → Option α} (hf : zbi (fX7_shareOf N x1 x2 x3 σ) k = some res) (hsz : ls.size = nL) (hW : (rest.map fun v => v.category).sum ≤ 8) (hR : rmX7_shareOf.frames + 1 ≤ R.frames ∧ 8 + (15 + 11) + rmX7_shareOf.locals ≤ R.locals) (hcs : cells ≤ R.cells ∧ slots ≤ R.slots) (hdg : decode cc pc = .ok (.invokevirtual 160, 3)) (kk : ∀ (v : Int32) (τ : zS) (H1 : Heap) (locs1 : List Loc), k v τ = some res → zW D cy shX 38 a0 aT aP A H0 τ H1 locs1 → W p l e R s m args below meth c H1 locs1 cells slots Q (F0 m (pc + 3) ls (.int v :: rest))) : W p l e R s m args below meth c H locs cells slots Q (F0 m pc ls (.long x3 :: .int x2 :: .int x1 :: .ref (a0 0) :: rest)) := by
  cases hq : fX7_shareOf N x1 x2 x3 σ with
  | none => rw [hq] at hf; cases hf
  | some q =>
    rw [hq] at hf
    exact zcalli hA hZ (zrun hC hZ vkX7_160 rfl (zw0 (by decide)) (cX7_shareOf_ok l D cy a0 aT aP N x1 x2 x3 σ q.1 q.2 hq H.size) hR rfl hsz rfl hW hcs hdg) (fun u H1 locs1 hU hZ1 => by subst hU; exact kk q.1 q.2 H1 locs1 hf hZ1)
end ZK
