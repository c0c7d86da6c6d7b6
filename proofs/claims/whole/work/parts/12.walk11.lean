set_option maxHeartbeats 4000000 in
set_option maxRecDepth 100000 in
theorem cX1_afterInRing_ok (l : Launch) (D : va_G) (cy : Nat → ClassId) (a0 aT aP : Nat → Nat) (N : Nat) (x1 : Int32) (w0 : zS) (rv : Int32) (τ : zS) (hf : fX1_afterInRing N x1 w0 = some (rv, τ)) : zMi l yX1_afterInRing cX1_afterInRing 2 (some .int) rmX1_afterInRing D cy shX 38 a0 aT aP w0 [.ref (a0 4), .int x1] rv τ (fun u => u = (aT, aP)) := by
  refine zmet_i (by decide +kernel) (Or.inl rfl) (Nat.le_of_ble_eq_true rfl) ?_
  intro p e s m below meth c A Q ls hC hA hZ hl hE
  have hx := hC.1.1
  have hb := hC.1.2.1
  have hl : lv_has ls 2 [(0, .ref (a0 4)), (1, .int x1)] := hl
  unfold fX1_afterInRing at hf
  refine lv_iload_n (pc := 0) hx hb dX1_afterInRing_0 rfl (lv_at hl 1 rfl) ?_
  refine lv_iconst (pc := 1) (v := (1 : Int32)) hx hb dX1_afterInRing_1 (by decide) ?_
  refine lv_iadd (pc := 2) hx hb dX1_afterInRing_2 ?_
  refine lv_aload_n (pc := 3) hx hb dX1_afterInRing_3 rfl (lv_at hl 0 rfl) ?_
  refine gfX1_24 (pc := 4) hC hZ dX1_afterInRing_4 ?_
  refine z_ige (pc := 7) (tgt := 21) hC hf dX1_afterInRing_7 (by decide) (fun hf => ?_) (fun hf => ?_)
  · refine lv_aload_n (pc := 21) hx hb dX1_afterInRing_21 rfl (lv_at hl 0 rfl) ?_
    refine gfX1_15 (pc := 22) hC hZ dX1_afterInRing_22 ?_
    refine lv_iconst (pc := 25) (v := (0 : Int32)) hx hb dX1_afterInRing_25 (by decide) ?_
    refine z_iald (pc := 26) hC hZ (by decide) rfl hf dX1_afterInRing_26 (fun v1 hf => ?_)
    obtain ⟨rfl, rfl⟩ := zinj hf
    exact hE _ _ _ _ _ _ rfl hZ dX1_afterInRing_27
  refine lv_aload_n (pc := 10) hx hb dX1_afterInRing_10 rfl (lv_at hl 0 rfl) ?_
  refine gfX1_15 (pc := 11) hC hZ dX1_afterInRing_11 ?_
  refine lv_iload_n (pc := 14) hx hb dX1_afterInRing_14 rfl (lv_at hl 1 rfl) ?_
  refine lv_iconst (pc := 15) (v := (1 : Int32)) hx hb dX1_afterInRing_15 (by decide) ?_
  refine lv_iadd (pc := 16) hx hb dX1_afterInRing_16 ?_
  refine z_iald (pc := 17) hC hZ (by decide) rfl hf dX1_afterInRing_17 (fun v2 hf => ?_)
  refine lv_goto (pc := 18) (tgt := 27) hx hb dX1_afterInRing_18 (by decide) ?_
  obtain ⟨rfl, rfl⟩ := zinj hf
  exact hE _ _ _ _ _ _ rfl hZ dX1_afterInRing_27
section ZK
variable {p : Program} {l : Launch} {e : Env} {R : Room} {s : State} {m : MethodId} {args : Array Value} {below : List Frame} {meth : Method} {c : Code} {H : Heap} {locs : List Loc} {cells slots : Nat} {Q : State → Prop}
variable {pc : Nat} {ls : Array Slot} {rest : List Value} {A : Nat → Prop} {H0 : Heap} {D : va_G} {cy : Nat → ClassId} {a0 aT aP : Nat → Nat} {σ : zS} {cc : ByteArray} {nL : Nat} {α : Type} {res : α}
theorem vkX1_61 : zVk RX1 61 yX1_afterInRing cX1_afterInRing 2 (some .int) 1 := ⟨by decide +kernel, by decide +kernel, by decide +kernel, by decide +kernel, by decide +kernel, by decide +kernel⟩
theorem kX1_61 (hC : zC p s m args c RX1 cc nL D cy) (hA : ∀ q, H0.size ≤ q → A q) (hZ : zW D cy shX 38 a0 aT aP A H0 σ H locs) {N : Nat} {x1 : Int32} {k : Int32 → zS → Option α} (hf : zbi (fX1_afterInRing N x1 σ) k = some res) (hsz : ls.size = nL) (hW : (rest.map fun v => v.category).sum ≤ 8) (hR : rmX1_afterInRing.frames + 1 ≤ R.frames ∧ 8 + (2 + 11) + rmX1_afterInRing.locals ≤ R.locals) (hcs : cells ≤ R.cells ∧ slots ≤ R.slots) (hdg : decode cc pc = .ok (.invokevirtual 61, 3)) (kk : ∀ (v : Int32) (τ : zS) (H1 : Heap) (locs1 : List Loc), k v τ = some res → zW D cy shX 38 a0 aT aP A H0 τ H1 locs1 → W p l e R s m args below meth c H1 locs1 cells slots Q (F0 m (pc + 3) ls (.int v :: rest))) : W p l e R s m args below meth c H locs cells slots Q (F0 m pc ls (.int x1 :: .ref (a0 4) :: rest)) := by
  cases hq : fX1_afterInRing N x1 σ with
  | none => rw [hq] at hf; cases hf
  | some q =>
    rw [hq] at hf
    exact zcalli hA hZ (zrun hC hZ vkX1_61 rfl (zw0 (by decide)) (cX1_afterInRing_ok l D cy a0 aT aP N x1 σ q.1 q.2 hq H.size) hR rfl hsz rfl hW hcs hdg) (fun u H1 locs1 hU hZ1 => by subst hU; exact kk q.1 q.2 H1 locs1 hf hZ1)
end ZK
set_option maxHeartbeats 4000000 in
set_option maxRecDepth 100000 in
theorem wX1_lessenRing_5 {p : Program} {l : Launch} {e : Env} {s : State} {m : MethodId} {args : Array Value} {below : List Frame} {meth : Method} {c : Code} {Q : State → Prop} {A : Nat → Prop} {H0 : Heap} {D : va_G} {cy : Nat → ClassId} {a0 aT aP : Nat → Nat} {res : zS} {K : Int32 → Int32 → zS → Option (zS)} (N : Nat) (x1 : Int32) (hC : zC p s m args c RX1 cX1_lessenRing 4 D cy) (hA : ∀ q, H0.size ≤ q → A q) (hE : zEnd p l e rmX1_lessenRing s m args below meth c Q D cy shX 38 a0 A H0 res (fun u => u = (aT, aP)) cX1_lessenRing .return_ []) (n : Nat) (x2 : Int32) (x3 : Int32) (w0 : zS) {H : Heap} {locs : List Loc} {ls : Array Slot} (hf : lX1_lessenRing_5 N x1 K n (x2, x3, w0) = some res) (hZ : zW D cy shX 38 a0 aT aP A H0 w0 H locs) (hl : lv_has ls 4 [(0, .ref (a0 4)), (1, .int x1), (2, .int x2), (3, .int x3)]) (hK : ∀ x2 : Int32, ∀ x3 : Int32, ∀ (w0 : zS) (H : Heap) (locs : List Loc) (ls : Array Slot), K x2 x3 w0 = some res → zW D cy shX 38 a0 aT aP A H0 w0 H locs → lv_has ls 4 [(0, .ref (a0 4)), (1, .int x1), (2, .int x2), (3, .int x3)] → W p l e rmX1_lessenRing s m args below meth c H locs 0 0 Q (F0 m 40 ls [])) : W p l e rmX1_lessenRing s m args below meth c H locs 0 0 Q (F0 m 5 ls []) := by
  have hx := hC.1.1
  have hb := hC.1.2.1
  have hf2 : zlp (fun rc s1 => bX1_lessenRing_5 N x1 K rc s1.1 s1.2.1 s1.2.2) n (x2, x3, w0) = some res := hf
  have key := zloop (S := Int32 × Int32 × zS) (α := zS) (b := fun rc s1 => bX1_lessenRing_5 N x1 K rc s1.1 s1.2.1 s1.2.2) (r := res) (Wd := fun s1 => ∀ (H : Heap) (locs : List Loc) (ls : Array Slot), zW D cy shX 38 a0 aT aP A H0 s1.2.2 H locs → lv_has ls 4 [(0, .ref (a0 4)), (1, .int x1), (2, .int s1.1), (3, .int s1.2.1)] → W p l e rmX1_lessenRing s m args below meth c H locs 0 0 Q (F0 m 5 ls []))
  refine key ?_ n (x2, x3, w0) hf2 H locs ls hZ hl
  clear hf hf2 hZ hl key
  rintro rc ⟨x2, x3, w0⟩ ih hf H locs ls hZ hl
  have hf : bX1_lessenRing_5 N x1 K rc x2 x3 w0 = some res := hf
  have hl : lv_has ls 4 [(0, .ref (a0 4)), (1, .int x1), (2, .int x2), (3, .int x3)] := hl
  unfold bX1_lessenRing_5 at hf
  refine lv_iload_n (pc := 5) hx hb dX1_lessenRing_5 rfl (lv_at hl 3 rfl) ?_
  refine lv_aload_n (pc := 6) hx hb dX1_lessenRing_6 rfl (lv_at hl 0 rfl) ?_
  refine gfX1_24 (pc := 7) hC hZ dX1_lessenRing_7 ?_
  refine z_ige (pc := 10) (tgt := 40) hC hf dX1_lessenRing_10 (by decide) (fun hf => ?_) (fun hf => ?_)
  · exact hK x2 x3 w0 H locs ls hf hZ (lv_sub hl [0, 1, 2, 3] rfl)
  refine lv_iload_n (pc := 13) hx hb dX1_lessenRing_13 rfl (lv_at hl 2 rfl) ?_
  refine lv_aload_n (pc := 14) hx hb dX1_lessenRing_14 rfl (lv_at hl 0 rfl) ?_
  refine lv_iload_n (pc := 15) hx hb dX1_lessenRing_15 rfl (lv_at hl 1 rfl) ?_
  refine lv_aload_n (pc := 16) hx hb dX1_lessenRing_16 rfl (lv_at hl 0 rfl) ?_
  refine gfX1_15 (pc := 17) hC hZ dX1_lessenRing_17 ?_
  refine lv_iload_n (pc := 20) hx hb dX1_lessenRing_20 rfl (lv_at hl 3 rfl) ?_
  refine z_iald (pc := 21) hC hZ (by decide) rfl hf dX1_lessenRing_21 (fun v1 hf => ?_)
  refine lv_aload_n (pc := 22) hx hb dX1_lessenRing_22 rfl (lv_at hl 0 rfl) ?_
  refine lv_iload_n (pc := 23) hx hb dX1_lessenRing_23 rfl (lv_at hl 3 rfl) ?_
  refine kX1_61 (pc := 24) hC hA hZ hf hl.1 (Nat.le_of_ble_eq_true rfl) ⟨Nat.le_of_ble_eq_true rfl, Nat.le_of_ble_eq_true rfl⟩ ⟨Nat.le_refl _, Nat.le_refl _⟩ dX1_lessenRing_24 (fun v3 w2 H locs hf hZ => ?_)
  refine kX1_53 (pc := 27) hC hA hZ hf hl.1 (Nat.le_of_ble_eq_true rfl) ⟨Nat.le_of_ble_eq_true rfl, Nat.le_of_ble_eq_true rfl⟩ ⟨Nat.le_refl _, Nat.le_refl _⟩ dX1_lessenRing_27 (fun v5 w4 H locs hf hZ => ?_)
  refine z_min (pc := 30) hC mkX1_65 hl.1 (Nat.le_of_ble_eq_true rfl) (Nat.le_of_ble_eq_true rfl) ⟨Nat.le_refl _, Nat.le_refl _⟩ dX1_lessenRing_30 ?_
  refine lv_istore_n (pc := 33) (lv' := [(2, .int (if v5 < x2 then v5 else x2)), (0, .ref (a0 4)), (1, .int x1), (3, .int x3)]) hx hb dX1_lessenRing_33 rfl hl (by decide) rfl (fun ls hl => ?_)
  refine lv_iinc (pc := 34) (v := (x3 + (1 : Int32))) (lv' := [(3, .int (x3 + (1 : Int32))), (2, .int (if v5 < x2 then v5 else x2)), (0, .ref (a0 4)), (1, .int x1)]) hx hb dX1_lessenRing_34 hl (k := 3) rfl rfl (by decide) rfl (fun ls hl => ?_)
  refine lv_goto (pc := 37) (tgt := 5) hx hb dX1_lessenRing_37 (by decide) ?_
  exact ih ((if v5 < x2 then v5 else x2), (x3 + (1 : Int32)), w4) hf H locs ls hZ (lv_sub hl [2, 3, 1, 0] rfl)
set_option maxHeartbeats 4000000 in
set_option maxRecDepth 100000 in
theorem wX1_lessenRing_42 {p : Program} {l : Launch} {e : Env} {s : State} {m : MethodId} {args : Array Value} {below : List Frame} {meth : Method} {c : Code} {Q : State → Prop} {A : Nat → Prop} {H0 : Heap} {D : va_G} {cy : Nat → ClassId} {a0 aT aP : Nat → Nat} {res : zS} {K : Int32 → zS → Option (zS)} (N : Nat) (x1 : Int32) (x2 : Int32) (hC : zC p s m args c RX1 cX1_lessenRing 4 D cy) (hA : ∀ q, H0.size ≤ q → A q) (hE : zEnd p l e rmX1_lessenRing s m args below meth c Q D cy shX 38 a0 A H0 res (fun u => u = (aT, aP)) cX1_lessenRing .return_ []) (n : Nat) (x3 : Int32) (w0 : zS) {H : Heap} {locs : List Loc} {ls : Array Slot} (hf : lX1_lessenRing_42 N x1 x2 K n (x3, w0) = some res) (hZ : zW D cy shX 38 a0 aT aP A H0 w0 H locs) (hl : lv_has ls 4 [(0, .ref (a0 4)), (1, .int x1), (2, .int x2), (3, .int x3)]) (hK : ∀ x3 : Int32, ∀ (w0 : zS) (H : Heap) (locs : List Loc) (ls : Array Slot), K x3 w0 = some res → zW D cy shX 38 a0 aT aP A H0 w0 H locs → lv_has ls 4 [(0, .ref (a0 4)), (1, .int x1), (2, .int x2), (3, .int x3)] → W p l e rmX1_lessenRing s m args below meth c H locs 0 0 Q (F0 m 74 ls [])) : W p l e rmX1_lessenRing s m args below meth c H locs 0 0 Q (F0 m 42 ls []) := by
  have hx := hC.1.1
  have hb := hC.1.2.1
  have hf2 : zlp (fun rc s1 => bX1_lessenRing_42 N x1 x2 K rc s1.1 s1.2) n (x3, w0) = some res := hf
  have key := zloop (S := Int32 × zS) (α := zS) (b := fun rc s1 => bX1_lessenRing_42 N x1 x2 K rc s1.1 s1.2) (r := res) (Wd := fun s1 => ∀ (H : Heap) (locs : List Loc) (ls : Array Slot), zW D cy shX 38 a0 aT aP A H0 s1.2 H locs → lv_has ls 4 [(0, .ref (a0 4)), (1, .int x1), (2, .int x2), (3, .int s1.1)] → W p l e rmX1_lessenRing s m args below meth c H locs 0 0 Q (F0 m 42 ls []))
  refine key ?_ n (x3, w0) hf2 H locs ls hZ hl
  clear hf hf2 hZ hl key
  rintro rc ⟨x3, w0⟩ ih hf H locs ls hZ hl
  have hf : bX1_lessenRing_42 N x1 x2 K rc x3 w0 = some res := hf
  have hl : lv_has ls 4 [(0, .ref (a0 4)), (1, .int x1), (2, .int x2), (3, .int x3)] := hl
  unfold bX1_lessenRing_42 at hf
  refine lv_iload_n (pc := 42) hx hb dX1_lessenRing_42 rfl (lv_at hl 3 rfl) ?_
  refine lv_aload_n (pc := 43) hx hb dX1_lessenRing_43 rfl (lv_at hl 0 rfl) ?_
  refine gfX1_24 (pc := 44) hC hZ dX1_lessenRing_44 ?_
  refine z_ige (pc := 47) (tgt := 74) hC hf dX1_lessenRing_47 (by decide) (fun hf => ?_) (fun hf => ?_)
  · exact hK x3 w0 H locs ls hf hZ (lv_sub hl [0, 1, 2, 3] rfl)
  refine lv_aload_n (pc := 50) hx hb dX1_lessenRing_50 rfl (lv_at hl 0 rfl) ?_
  refine lv_iload_n (pc := 51) hx hb dX1_lessenRing_51 rfl (lv_at hl 1 rfl) ?_
  refine lv_aload_n (pc := 52) hx hb dX1_lessenRing_52 rfl (lv_at hl 0 rfl) ?_
  refine gfX1_15 (pc := 53) hC hZ dX1_lessenRing_53 ?_
  refine lv_iload_n (pc := 56) hx hb dX1_lessenRing_56 rfl (lv_at hl 3 rfl) ?_
  refine z_iald (pc := 57) hC hZ (by decide) rfl hf dX1_lessenRing_57 (fun v9 hf => ?_)
  refine lv_aload_n (pc := 58) hx hb dX1_lessenRing_58 rfl (lv_at hl 0 rfl) ?_
  refine lv_iload_n (pc := 59) hx hb dX1_lessenRing_59 rfl (lv_at hl 3 rfl) ?_
  refine kX1_61 (pc := 60) hC hA hZ hf hl.1 (Nat.le_of_ble_eq_true rfl) ⟨Nat.le_of_ble_eq_true rfl, Nat.le_of_ble_eq_true rfl⟩ ⟨Nat.le_refl _, Nat.le_refl _⟩ dX1_lessenRing_60 (fun v11 w10 H locs hf hZ => ?_)
  refine lv_iload_n (pc := 63) hx hb dX1_lessenRing_63 rfl (lv_at hl 2 rfl) ?_
  refine lv_ineg (pc := 64) hx hb dX1_lessenRing_64 ?_
  refine kX1_70 (pc := 65) hC hA hZ hf hl.1 (Nat.le_of_ble_eq_true rfl) ⟨Nat.le_of_ble_eq_true rfl, Nat.le_of_ble_eq_true rfl⟩ ⟨Nat.le_refl _, Nat.le_refl _⟩ dX1_lessenRing_65 (fun w12 H locs hf hZ => ?_)
  refine lv_iinc (pc := 68) (v := (x3 + (1 : Int32))) (lv' := [(3, .int (x3 + (1 : Int32))), (0, .ref (a0 4)), (1, .int x1), (2, .int x2)]) hx hb dX1_lessenRing_68 hl (k := 3) rfl rfl (by decide) rfl (fun ls hl => ?_)
  refine lv_goto (pc := 71) (tgt := 42) hx hb dX1_lessenRing_71 (by decide) ?_
  exact ih ((x3 + (1 : Int32)), w12) hf H locs ls hZ (lv_sub hl [1, 2, 3, 0] rfl)
set_option maxHeartbeats 4000000 in
set_option maxRecDepth 100000 in
theorem cX1_lessenRing_ok (l : Launch) (D : va_G) (cy : Nat → ClassId) (a0 aT aP : Nat → Nat) (N : Nat) (x1 : Int32) (w0 : zS) (τ : zS) (hf : fX1_lessenRing N x1 w0 = some τ) : zMv l yX1_lessenRing cX1_lessenRing 4 none rmX1_lessenRing D cy shX 38 a0 aT aP w0 [.ref (a0 4), .int x1] τ (fun u => u = (aT, aP)) := by
  refine zmet_v (by decide +kernel) rfl (Nat.le_of_ble_eq_true rfl) ?_
  intro p e s m below meth c A Q ls hC hA hZ hl hE
  have hx := hC.1.1
  have hb := hC.1.2.1
  have hl : lv_has ls 4 [(0, .ref (a0 4)), (1, .int x1)] := hl
  unfold fX1_lessenRing at hf
  refine lv_ldc (pc := 0) (v := (100000 : Int32)) hx hb hC.1.2.2.2.1 (hC.1.2.2.2.2 _ kcX1_60) dX1_lessenRing_0 ?_
  refine lv_istore_n (pc := 2) (lv' := [(2, .int (100000 : Int32)), (0, .ref (a0 4)), (1, .int x1)]) hx hb dX1_lessenRing_2 rfl hl (by decide) rfl (fun ls hl => ?_)
  refine lv_iconst (pc := 3) (v := (0 : Int32)) hx hb dX1_lessenRing_3 (by decide) ?_
  refine lv_istore_n (pc := 4) (lv' := [(3, .int (0 : Int32)), (2, .int (100000 : Int32)), (0, .ref (a0 4)), (1, .int x1)]) hx hb dX1_lessenRing_4 rfl hl (by decide) rfl (fun ls hl => ?_)
  refine wX1_lessenRing_5 (res := τ) N x1 hC hA hE N _ _ _ hf hZ (lv_sub hl [2, 3, 1, 0] rfl) (fun y6 y7 w8 H locs ls hf hZ hl => ?_)
  refine lv_iconst (pc := 40) (v := (0 : Int32)) hx hb dX1_lessenRing_40 (by decide) ?_
  refine lv_istore_n (pc := 41) (lv' := [(3, .int (0 : Int32)), (0, .ref (a0 4)), (1, .int x1), (2, .int y6)]) hx hb dX1_lessenRing_41 rfl hl (by decide) rfl (fun ls hl => ?_)
  refine wX1_lessenRing_42 (res := τ) N x1 y6 hC hA hE N _ _ hf hZ (lv_sub hl [1, 2, 3, 0] rfl) (fun y13 w14 H locs ls hf hZ hl => ?_)
  obtain rfl := Option.some.inj hf
  exact hE _ _ _ _ _ _ rfl hZ dX1_lessenRing_74
section ZK
variable {p : Program} {l : Launch} {e : Env} {R : Room} {s : State} {m : MethodId} {args : Array Value} {below : List Frame} {meth : Method} {c : Code} {H : Heap} {locs : List Loc} {cells slots : Nat} {Q : State → Prop}
variable {pc : Nat} {ls : Array Slot} {rest : List Value} {A : Nat → Prop} {H0 : Heap} {D : va_G} {cy : Nat → ClassId} {a0 aT aP : Nat → Nat} {σ : zS} {cc : ByteArray} {nL : Nat} {α : Type} {res : α}
theorem vkX1_32 : zVk RX1 32 yX1_lessenRing cX1_lessenRing 4 none 1 := ⟨by decide +kernel, by decide +kernel, by decide +kernel, by decide +kernel, by decide +kernel, by decide +kernel⟩
theorem kX1_32 (hC : zC p s m args c RX1 cc nL D cy) (hA : ∀ q, H0.size ≤ q → A q) (hZ : zW D cy shX 38 a0 aT aP A H0 σ H locs) {N : Nat} {x1 : Int32} {k : zS → Option α} (hf : zbv (fX1_lessenRing N x1 σ) k = some res) (hsz : ls.size = nL) (hW : (rest.map fun v => v.category).sum ≤ 8) (hR : rmX1_lessenRing.frames + 1 ≤ R.frames ∧ 8 + (4 + 11) + rmX1_lessenRing.locals ≤ R.locals) (hcs : cells ≤ R.cells ∧ slots ≤ R.slots) (hdg : decode cc pc = .ok (.invokevirtual 32, 3)) (kk : ∀ (τ : zS) (H1 : Heap) (locs1 : List Loc), k τ = some res → zW D cy shX 38 a0 aT aP A H0 τ H1 locs1 → W p l e R s m args below meth c H1 locs1 cells slots Q (F0 m (pc + 3) ls (rest))) : W p l e R s m args below meth c H locs cells slots Q (F0 m pc ls (.int x1 :: .ref (a0 4) :: rest)) := by
  cases hq : fX1_lessenRing N x1 σ with
  | none => rw [hq] at hf; cases hf
  | some q =>
    rw [hq] at hf
    exact zcallv hA hZ (zrun hC hZ vkX1_32 rfl (zw0 (by decide)) (cX1_lessenRing_ok l D cy a0 aT aP N x1 σ q hq H.size) hR rfl hsz rfl hW hcs hdg) (fun u H1 locs1 hU hZ1 => by subst hU; exact kk q H1 locs1 hf hZ1)
end ZK
set_option maxHeartbeats 4000000 in
set_option maxRecDepth 100000 in
theorem wX1_takeOff_4 {p : Program} {l : Launch} {e : Env} {s : State} {m : MethodId} {args : Array Value} {below : List Frame} {meth : Method} {c : Code} {Q : State → Prop} {A : Nat → Prop} {H0 : Heap} {D : va_G} {cy : Nat → ClassId} {a0 aT aP : Nat → Nat} {res : Int32 × zS} {K : Int32 → Int32 → zS → Option (Int32 × zS)} (N : Nat) (x1 : Int32) (hC : zC p s m args c RX1 cX1_takeOff 4 D cy) (hA : ∀ q, H0.size ≤ q → A q) (hE : zEnd p l e rmX1_takeOff s m args below meth c Q D cy shX 38 a0 A H0 res.2 (fun u => u = (aT, aP)) cX1_takeOff .ireturn [.int res.1]) (n : Nat) (x2 : Int32) (x3 : Int32) (w0 : zS) {H : Heap} {locs : List Loc} {ls : Array Slot} (hf : lX1_takeOff_4 N x1 K n (x2, x3, w0) = some res) (hZ : zW D cy shX 38 a0 aT aP A H0 w0 H locs) (hl : lv_has ls 4 [(0, .ref (a0 4)), (1, .int x1), (2, .int x2), (3, .int x3)]) (hK : ∀ x2 : Int32, ∀ x3 : Int32, ∀ (w0 : zS) (H : Heap) (locs : List Loc) (ls : Array Slot), K x2 x3 w0 = some res → zW D cy shX 38 a0 aT aP A H0 w0 H locs → lv_has ls 4 [(0, .ref (a0 4)), (1, .int x1), (2, .int x2), (3, .int x3)] → W p l e rmX1_takeOff s m args below meth c H locs 0 0 Q (F0 m 39 ls [])) : W p l e rmX1_takeOff s m args below meth c H locs 0 0 Q (F0 m 4 ls []) := by
  have hx := hC.1.1
  have hb := hC.1.2.1
  have hf2 : zlp (fun rc s1 => bX1_takeOff_4 N x1 K rc s1.1 s1.2.1 s1.2.2) n (x2, x3, w0) = some res := hf
  have key := zloop (S := Int32 × Int32 × zS) (α := Int32 × zS) (b := fun rc s1 => bX1_takeOff_4 N x1 K rc s1.1 s1.2.1 s1.2.2) (r := res) (Wd := fun s1 => ∀ (H : Heap) (locs : List Loc) (ls : Array Slot), zW D cy shX 38 a0 aT aP A H0 s1.2.2 H locs → lv_has ls 4 [(0, .ref (a0 4)), (1, .int x1), (2, .int s1.1), (3, .int s1.2.1)] → W p l e rmX1_takeOff s m args below meth c H locs 0 0 Q (F0 m 4 ls []))
  refine key ?_ n (x2, x3, w0) hf2 H locs ls hZ hl
  clear hf hf2 hZ hl key
  rintro rc ⟨x2, x3, w0⟩ ih hf H locs ls hZ hl
  have hf : bX1_takeOff_4 N x1 K rc x2 x3 w0 = some res := hf
  have hl : lv_has ls 4 [(0, .ref (a0 4)), (1, .int x1), (2, .int x2), (3, .int x3)] := hl
  unfold bX1_takeOff_4 at hf
  refine lv_iload_n (pc := 4) hx hb dX1_takeOff_4 rfl (lv_at hl 3 rfl) ?_
  refine lv_bipush (pc := 5) (v := (100 : Int32)) hx hb dX1_takeOff_5 (by decide) ?_
  refine z_ige (pc := 7) (tgt := 39) hC hf dX1_takeOff_7 (by decide) (fun hf => ?_) (fun hf => ?_)
  · exact hK x2 x3 w0 H locs ls hf hZ (lv_sub hl [0, 1, 2, 3] rfl)
  refine lv_aload_n (pc := 10) hx hb dX1_takeOff_10 rfl (lv_at hl 0 rfl) ?_
  refine lv_iload_n (pc := 11) hx hb dX1_takeOff_11 rfl (lv_at hl 1 rfl) ?_
  refine kX1_28 (pc := 12) hC hA hZ hf hl.1 (Nat.le_of_ble_eq_true rfl) ⟨Nat.le_of_ble_eq_true rfl, Nat.le_of_ble_eq_true rfl⟩ ⟨Nat.le_refl _, Nat.le_refl _⟩ dX1_takeOff_12 (fun w1 H locs hf hZ => ?_)
  refine lv_aload_n (pc := 15) hx hb dX1_takeOff_15 rfl (lv_at hl 0 rfl) ?_
  refine gfX1_24 (pc := 16) hC hZ dX1_takeOff_16 ?_
  refine z_ne0 (pc := 19) (tgt := 25) hC hf dX1_takeOff_19 (by decide) (fun hf => ?_) (fun hf => ?_)
  · refine lv_goto (pc := 22) (tgt := 39) hx hb dX1_takeOff_22 (by decide) ?_
    exact hK x2 x3 w1 H locs ls hf hZ (lv_sub hl [0, 1, 2, 3] rfl)
  refine lv_aload_n (pc := 25) hx hb dX1_takeOff_25 rfl (lv_at hl 0 rfl) ?_
  refine lv_iload_n (pc := 26) hx hb dX1_takeOff_26 rfl (lv_at hl 1 rfl) ?_
  refine kX1_32 (pc := 27) hC hA hZ hf hl.1 (Nat.le_of_ble_eq_true rfl) ⟨Nat.le_of_ble_eq_true rfl, Nat.le_of_ble_eq_true rfl⟩ ⟨Nat.le_refl _, Nat.le_refl _⟩ dX1_takeOff_27 (fun w2 H locs hf hZ => ?_)
  refine lv_iinc (pc := 30) (v := (x2 + (1 : Int32))) (lv' := [(2, .int (x2 + (1 : Int32))), (0, .ref (a0 4)), (1, .int x1), (3, .int x3)]) hx hb dX1_takeOff_30 hl (k := 2) rfl rfl (by decide) rfl (fun ls hl => ?_)
  refine lv_iinc (pc := 33) (v := (x3 + (1 : Int32))) (lv' := [(3, .int (x3 + (1 : Int32))), (2, .int (x2 + (1 : Int32))), (0, .ref (a0 4)), (1, .int x1)]) hx hb dX1_takeOff_33 hl (k := 3) rfl rfl (by decide) rfl (fun ls hl => ?_)
  refine lv_goto (pc := 36) (tgt := 4) hx hb dX1_takeOff_36 (by decide) ?_
  exact ih ((x2 + (1 : Int32)), (x3 + (1 : Int32)), w2) hf H locs ls hZ (lv_sub hl [2, 3, 1, 0] rfl)
set_option maxHeartbeats 4000000 in
set_option maxRecDepth 100000 in
theorem cX1_takeOff_ok (l : Launch) (D : va_G) (cy : Nat → ClassId) (a0 aT aP : Nat → Nat) (N : Nat) (x1 : Int32) (w0 : zS) (rv : Int32) (τ : zS) (hf : fX1_takeOff N x1 w0 = some (rv, τ)) : zMi l yX1_takeOff cX1_takeOff 4 (some .int) rmX1_takeOff D cy shX 38 a0 aT aP w0 [.ref (a0 4), .int x1] rv τ (fun u => u = (aT, aP)) := by
  refine zmet_i (by decide +kernel) (Or.inl rfl) (Nat.le_of_ble_eq_true rfl) ?_
  intro p e s m below meth c A Q ls hC hA hZ hl hE
  have hx := hC.1.1
  have hb := hC.1.2.1
  have hl : lv_has ls 4 [(0, .ref (a0 4)), (1, .int x1)] := hl
  unfold fX1_takeOff at hf
  refine lv_iconst (pc := 0) (v := (0 : Int32)) hx hb dX1_takeOff_0 (by decide) ?_
  refine lv_istore_n (pc := 1) (lv' := [(2, .int (0 : Int32)), (0, .ref (a0 4)), (1, .int x1)]) hx hb dX1_takeOff_1 rfl hl (by decide) rfl (fun ls hl => ?_)
  refine lv_iconst (pc := 2) (v := (0 : Int32)) hx hb dX1_takeOff_2 (by decide) ?_
  refine lv_istore_n (pc := 3) (lv' := [(3, .int (0 : Int32)), (2, .int (0 : Int32)), (0, .ref (a0 4)), (1, .int x1)]) hx hb dX1_takeOff_3 rfl hl (by decide) rfl (fun ls hl => ?_)
  refine wX1_takeOff_4 (res := (rv, τ)) N x1 hC hA hE N _ _ _ hf hZ (lv_sub hl [2, 3, 1, 0] rfl) (fun y3 y4 w5 H locs ls hf hZ hl => ?_)
  refine lv_iload_n (pc := 39) hx hb dX1_takeOff_39 rfl (lv_at hl 2 rfl) ?_
  obtain ⟨rfl, rfl⟩ := zinj hf
  exact hE _ _ _ _ _ _ rfl hZ dX1_takeOff_40
section ZK
variable {p : Program} {l : Launch} {e : Env} {R : Room} {s : State} {m : MethodId} {args : Array Value} {below : List Frame} {meth : Method} {c : Code} {H : Heap} {locs : List Loc} {cells slots : Nat} {Q : State → Prop}
variable {pc : Nat} {ls : Array Slot} {rest : List Value} {A : Nat → Prop} {H0 : Heap} {D : va_G} {cy : Nat → ClassId} {a0 aT aP : Nat → Nat} {σ : zS} {cc : ByteArray} {nL : Nat} {α : Type} {res : α}
theorem vkX7_217 : zVk RX7 217 yX1_takeOff cX1_takeOff 4 (some .int) 1 := ⟨by decide +kernel, by decide +kernel, by decide +kernel, by decide +kernel, by decide +kernel, by decide +kernel⟩
theorem kX7_217 (hC : zC p s m args c RX7 cc nL D cy) (hA : ∀ q, H0.size ≤ q → A q) (hZ : zW D cy shX 38 a0 aT aP A H0 σ H locs) {N : Nat} {x1 : Int32} {k : Int32 → zS → Option α} (hf : zbi (fX1_takeOff N x1 σ) k = some res) (hsz : ls.size = nL) (hW : (rest.map fun v => v.category).sum ≤ 8) (hR : rmX1_takeOff.frames + 1 ≤ R.frames ∧ 8 + (4 + 11) + rmX1_takeOff.locals ≤ R.locals) (hcs : cells ≤ R.cells ∧ slots ≤ R.slots) (hdg : decode cc pc = .ok (.invokevirtual 217, 3)) (kk : ∀ (v : Int32) (τ : zS) (H1 : Heap) (locs1 : List Loc), k v τ = some res → zW D cy shX 38 a0 aT aP A H0 τ H1 locs1 → W p l e R s m args below meth c H1 locs1 cells slots Q (F0 m (pc + 3) ls (.int v :: rest))) : W p l e R s m args below meth c H locs cells slots Q (F0 m pc ls (.int x1 :: .ref (a0 4) :: rest)) := by
  cases hq : fX1_takeOff N x1 σ with
  | none => rw [hq] at hf; cases hf
  | some q =>
    rw [hq] at hf
    exact zcalli hA hZ (zrun hC hZ vkX7_217 rfl (zw0 (by decide)) (cX1_takeOff_ok l D cy a0 aT aP N x1 σ q.1 q.2 hq H.size) hR rfl hsz rfl hW hcs hdg) (fun u H1 locs1 hU hZ1 => by subst hU; exact kk q.1 q.2 H1 locs1 hf hZ1)
end ZK
set_option maxHeartbeats 4000000 in
set_option maxRecDepth 100000 in
theorem cX7_off_ok (l : Launch) (D : va_G) (cy : Nat → ClassId) (a0 aT aP : Nat → Nat) (N : Nat) (x1 : Int32) (w0 : zS) (rv : Int32) (τ : zS) (hf : fX7_off N x1 w0 = some (rv, τ)) : zMi l yX7_off cX7_off 2 (some .int) rmX7_off D cy shX 38 a0 aT aP w0 [.ref (a0 0), .int x1] rv τ (fun u => u = (aT, aP)) := by
  refine zmet_i (by decide +kernel) (Or.inl rfl) (Nat.le_of_ble_eq_true rfl) ?_
  intro p e s m below meth c A Q ls hC hA hZ hl hE
  have hx := hC.1.1
  have hb := hC.1.2.1
  have hl : lv_has ls 2 [(0, .ref (a0 0)), (1, .int x1)] := hl
  unfold fX7_off at hf
  refine lv_aload_n (pc := 0) hx hb dX7_off_0 rfl (lv_at hl 0 rfl) ?_
  refine lv_iload_n (pc := 1) hx hb dX7_off_1 rfl (lv_at hl 1 rfl) ?_
  refine kX7_81 (pc := 2) hC hA hZ hf hl.1 (Nat.le_of_ble_eq_true rfl) ⟨Nat.le_of_ble_eq_true rfl, Nat.le_of_ble_eq_true rfl⟩ ⟨Nat.le_refl _, Nat.le_refl _⟩ dX7_off_2 (fun v2 w1 H locs hf hZ => ?_)
  refine z_ne0 (pc := 5) (tgt := 14) hC hf dX7_off_5 (by decide) (fun hf => ?_) (fun hf => ?_)
  · refine lv_aload_n (pc := 8) hx hb dX7_off_8 rfl (lv_at hl 0 rfl) ?_
    refine lv_iconst (pc := 9) (v := (-1 : Int32)) hx hb dX7_off_9 (by decide) ?_
    refine kX7_73 (pc := 10) hC hA hZ hf hl.1 (Nat.le_of_ble_eq_true rfl) ⟨Nat.le_of_ble_eq_true rfl, Nat.le_of_ble_eq_true rfl⟩ ⟨Nat.le_refl _, Nat.le_refl _⟩ dX7_off_10 (fun v4 w3 H locs hf hZ => ?_)
    obtain ⟨rfl, rfl⟩ := zinj hf
    exact hE _ _ _ _ _ _ rfl hZ dX7_off_13
  refine lv_aload_n (pc := 14) hx hb dX7_off_14 rfl (lv_at hl 0 rfl) ?_
  refine gfX7_49 (pc := 15) hC hZ dX7_off_15 ?_
  refine lv_iload_n (pc := 18) hx hb dX7_off_18 rfl (lv_at hl 1 rfl) ?_
  refine kX7_217 (pc := 19) hC hA hZ hf hl.1 (Nat.le_of_ble_eq_true rfl) ⟨Nat.le_of_ble_eq_true rfl, Nat.le_of_ble_eq_true rfl⟩ ⟨Nat.le_refl _, Nat.le_refl _⟩ dX7_off_19 (fun v6 w5 H locs hf hZ => ?_)
  obtain ⟨rfl, rfl⟩ := zinj hf
  exact hE _ _ _ _ _ _ rfl hZ dX7_off_22
