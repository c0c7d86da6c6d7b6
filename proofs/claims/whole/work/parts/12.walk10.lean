set_option maxHeartbeats 4000000 in
set_option maxRecDepth 100000 in
theorem wX1_traceRing_17 {p : Program} {l : Launch} {e : Env} {s : State} {m : MethodId} {args : Array Value} {below : List Frame} {meth : Method} {c : Code} {Q : State → Prop} {A : Nat → Prop} {H0 : Heap} {D : va_G} {cy : Nat → ClassId} {a0 aT aP : Nat → Nat} {res : zS} {K : Int32 → zS → Option (zS)} (N : Nat) (x1 : Int32) (x2 : Int32) (x3 : Int32) (hC : zC p s m args c RX1 cX1_traceRing 6 D cy) (hA : ∀ q, H0.size ≤ q → A q) (hE : zEnd p l e rmX1_traceRing s m args below meth c Q D cy shX 38 a0 A H0 res (fun u => u = (aT, aP)) cX1_traceRing .return_ []) (n : Nat) (x4 : Int32) (w0 : zS) {H : Heap} {locs : List Loc} {ls : Array Slot} (hf : lX1_traceRing_17 N x1 x2 x3 K n (x4, w0) = some res) (hZ : zW D cy shX 38 a0 aT aP A H0 w0 H locs) (hl : lv_has ls 6 [(0, .ref (a0 4)), (1, .int x1), (2, .int x2), (3, .int x3), (4, .int x4)]) (hK : ∀ x4 : Int32, ∀ (w0 : zS) (H : Heap) (locs : List Loc) (ls : Array Slot), K x4 w0 = some res → zW D cy shX 38 a0 aT aP A H0 w0 H locs → lv_has ls 6 [(0, .ref (a0 4)), (1, .int x1), (2, .int x2), (3, .int x3), (4, .int x4)] → W p l e rmX1_traceRing s m args below meth c H locs 0 0 Q (F0 m 76 ls [])) : W p l e rmX1_traceRing s m args below meth c H locs 0 0 Q (F0 m 17 ls []) := by
  have hx := hC.1.1
  have hb := hC.1.2.1
  have hf2 : zlp (fun rc s1 => bX1_traceRing_17 N x1 x2 x3 K rc s1.1 s1.2) n (x4, w0) = some res := hf
  have key := zloop (S := Int32 × zS) (α := zS) (b := fun rc s1 => bX1_traceRing_17 N x1 x2 x3 K rc s1.1 s1.2) (r := res) (Wd := fun s1 => ∀ (H : Heap) (locs : List Loc) (ls : Array Slot), zW D cy shX 38 a0 aT aP A H0 s1.2 H locs → lv_has ls 6 [(0, .ref (a0 4)), (1, .int x1), (2, .int x2), (3, .int x3), (4, .int s1.1)] → W p l e rmX1_traceRing s m args below meth c H locs 0 0 Q (F0 m 17 ls []))
  refine key ?_ n (x4, w0) hf2 H locs ls hZ hl
  clear hf hf2 hZ hl key
  rintro rc ⟨x4, w0⟩ ih hf H locs ls hZ hl
  have hf : bX1_traceRing_17 N x1 x2 x3 K rc x4 w0 = some res := hf
  have hl : lv_has ls 6 [(0, .ref (a0 4)), (1, .int x1), (2, .int x2), (3, .int x3), (4, .int x4)] := hl
  unfold bX1_traceRing_17 at hf
  refine lv_iload (pc := 17) hx hb dX1_traceRing_17 (lv_at hl 4 rfl) ?_
  refine z_le0 (pc := 19) (tgt := 76) hC hf dX1_traceRing_19 (by decide) (fun hf => ?_) (fun hf => ?_)
  · exact hK x4 w0 H locs ls hf hZ (lv_sub hl [0, 1, 2, 3, 4] rfl)
  refine lv_aload_n (pc := 22) hx hb dX1_traceRing_22 rfl (lv_at hl 0 rfl) ?_
  refine lv_iload_n (pc := 23) hx hb dX1_traceRing_23 rfl (lv_at hl 1 rfl) ?_
  refine lv_iload_n (pc := 24) hx hb dX1_traceRing_24 rfl (lv_at hl 2 rfl) ?_
  refine lv_iload (pc := 25) hx hb dX1_traceRing_25 (lv_at hl 4 rfl) ?_
  refine kX1_57 (pc := 27) hC hA hZ hf hl.1 (Nat.le_of_ble_eq_true rfl) ⟨Nat.le_of_ble_eq_true rfl, Nat.le_of_ble_eq_true rfl⟩ ⟨Nat.le_refl _, Nat.le_refl _⟩ dX1_traceRing_27 (fun v4 w3 H locs hf hZ => ?_)
  refine lv_istore (pc := 30) (lv' := [(5, .int v4), (0, .ref (a0 4)), (1, .int x1), (2, .int x2), (3, .int x3), (4, .int x4)]) hx hb dX1_traceRing_30 hl (by decide) rfl (fun ls hl => ?_)
  refine lv_iload (pc := 32) hx hb dX1_traceRing_32 (lv_at hl 0 rfl) ?_
  refine z_lt0 (pc := 34) (tgt := 76) hC hf dX1_traceRing_34 (by decide) (fun hf => ?_) (fun hf => ?_)
  · exact hK x4 w3 H locs ls hf hZ (lv_sub hl [1, 2, 3, 4, 5] rfl)
  refine lv_aload_n (pc := 37) hx hb dX1_traceRing_37 rfl (lv_at hl 1 rfl) ?_
  refine gfX1_24 (pc := 38) hC hZ dX1_traceRing_38 ?_
  refine lv_bipush (pc := 41) (v := (10 : Int32)) hx hb dX1_traceRing_41 (by decide) ?_
  refine z_ilt (pc := 43) (tgt := 49) hC hf dX1_traceRing_43 (by decide) (fun hf => ?_) (fun hf => ?_)
  · refine lv_aload_n (pc := 49) hx hb dX1_traceRing_49 rfl (lv_at hl 1 rfl) ?_
    refine gfX1_15 (pc := 50) hC hZ dX1_traceRing_50 ?_
    refine lv_aload_n (pc := 53) hx hb dX1_traceRing_53 rfl (lv_at hl 1 rfl) ?_
    refine gfX1_24 (pc := 54) hC hZ dX1_traceRing_54 ?_
    refine lv_iload (pc := 57) hx hb dX1_traceRing_57 (lv_at hl 0 rfl) ?_
    refine z_iast (pc := 59) hC hZ (by decide) rfl hf dX1_traceRing_59 (fun w5 H locs hf hZ => ?_)
    refine lv_aload_n (pc := 60) hx hb dX1_traceRing_60 rfl (lv_at hl 1 rfl) ?_
    refine lv_dup (pc := 61) hx hb dX1_traceRing_61 rfl ?_
    refine gfX1_24 (pc := 62) hC hZ dX1_traceRing_62 ?_
    refine lv_iconst (pc := 65) (v := (1 : Int32)) hx hb dX1_traceRing_65 (by decide) ?_
    refine lv_iadd (pc := 66) hx hb dX1_traceRing_66 ?_
    refine pfX1_24 (pc := 67) hC hZ hf dX1_traceRing_67 (fun w6 H locs hf hZ => ?_)
    refine lv_iinc (pc := 70) (v := (x4 + (-1 : Int32))) (lv' := [(4, .int (x4 + (-1 : Int32))), (5, .int v4), (0, .ref (a0 4)), (1, .int x1), (2, .int x2), (3, .int x3)]) hx hb dX1_traceRing_70 hl (k := 5) rfl rfl (by decide) rfl (fun ls hl => ?_)
    refine lv_goto (pc := 73) (tgt := 17) hx hb dX1_traceRing_73 (by decide) ?_
    exact ih ((x4 + (-1 : Int32)), w6) hf H locs ls hZ (lv_sub hl [2, 3, 4, 5, 0] rfl)
  refine lv_goto (pc := 46) (tgt := 76) hx hb dX1_traceRing_46 (by decide) ?_
  exact hK x4 w3 H locs ls hf hZ (lv_sub hl [1, 2, 3, 4, 5] rfl)
set_option maxHeartbeats 4000000 in
set_option maxRecDepth 100000 in
theorem cX1_traceRing_ok (l : Launch) (D : va_G) (cy : Nat → ClassId) (a0 aT aP : Nat → Nat) (N : Nat) (x1 : Int32) (x2 : Int32) (x3 : Int32) (w0 : zS) (τ : zS) (hf : fX1_traceRing N x1 x2 x3 w0 = some τ) : zMv l yX1_traceRing cX1_traceRing 6 none rmX1_traceRing D cy shX 38 a0 aT aP w0 [.ref (a0 4), .int x1, .int x2, .int x3] τ (fun u => u = (aT, aP)) := by
  refine zmet_v (by decide +kernel) rfl (Nat.le_of_ble_eq_true rfl) ?_
  intro p e s m below meth c A Q ls hC hA hZ hl hE
  have hx := hC.1.1
  have hb := hC.1.2.1
  have hl : lv_has ls 6 [(0, .ref (a0 4)), (1, .int x1), (2, .int x2), (3, .int x3)] := hl
  unfold fX1_traceRing at hf
  refine lv_aload_n (pc := 0) hx hb dX1_traceRing_0 rfl (lv_at hl 0 rfl) ?_
  refine gfX1_15 (pc := 1) hC hZ dX1_traceRing_1 ?_
  refine lv_iconst (pc := 4) (v := (0 : Int32)) hx hb dX1_traceRing_4 (by decide) ?_
  refine lv_iload_n (pc := 5) hx hb dX1_traceRing_5 rfl (lv_at hl 2 rfl) ?_
  refine z_iast (pc := 6) hC hZ (by decide) rfl hf dX1_traceRing_6 (fun w1 H locs hf hZ => ?_)
  refine lv_aload_n (pc := 7) hx hb dX1_traceRing_7 rfl (lv_at hl 0 rfl) ?_
  refine lv_iconst (pc := 8) (v := (1 : Int32)) hx hb dX1_traceRing_8 (by decide) ?_
  refine pfX1_24 (pc := 9) hC hZ hf dX1_traceRing_9 (fun w2 H locs hf hZ => ?_)
  refine lv_iload_n (pc := 12) hx hb dX1_traceRing_12 rfl (lv_at hl 3 rfl) ?_
  refine lv_iconst (pc := 13) (v := (1 : Int32)) hx hb dX1_traceRing_13 (by decide) ?_
  refine lv_isub (pc := 14) hx hb dX1_traceRing_14 ?_
  refine lv_istore (pc := 15) (lv' := [(4, .int (x3 - (1 : Int32))), (0, .ref (a0 4)), (1, .int x1), (2, .int x2), (3, .int x3)]) hx hb dX1_traceRing_15 hl (by decide) rfl (fun ls hl => ?_)
  refine wX1_traceRing_17 (res := τ) N x1 x2 x3 hC hA hE N _ _ hf hZ (lv_sub hl [1, 2, 3, 4, 0] rfl) (fun y7 w8 H locs ls hf hZ hl => ?_)
  obtain rfl := Option.some.inj hf
  exact hE _ _ _ _ _ _ rfl hZ dX1_traceRing_76
section ZK
variable {p : Program} {l : Launch} {e : Env} {R : Room} {s : State} {m : MethodId} {args : Array Value} {below : List Frame} {meth : Method} {c : Code} {H : Heap} {locs : List Loc} {cells slots : Nat} {Q : State → Prop}
variable {pc : Nat} {ls : Array Slot} {rest : List Value} {A : Nat → Prop} {H0 : Heap} {D : va_G} {cy : Nat → ClassId} {a0 aT aP : Nat → Nat} {σ : zS} {cc : ByteArray} {nL : Nat} {α : Type} {res : α}
theorem vkX1_43 : zVk RX1 43 yX1_traceRing cX1_traceRing 6 none 3 := ⟨by decide +kernel, by decide +kernel, by decide +kernel, by decide +kernel, by decide +kernel, by decide +kernel⟩
theorem kX1_43 (hC : zC p s m args c RX1 cc nL D cy) (hA : ∀ q, H0.size ≤ q → A q) (hZ : zW D cy shX 38 a0 aT aP A H0 σ H locs) {N : Nat} {x1 : Int32} {x2 : Int32} {x3 : Int32} {k : zS → Option α} (hf : zbv (fX1_traceRing N x1 x2 x3 σ) k = some res) (hsz : ls.size = nL) (hW : (rest.map fun v => v.category).sum ≤ 8) (hR : rmX1_traceRing.frames + 1 ≤ R.frames ∧ 8 + (6 + 11) + rmX1_traceRing.locals ≤ R.locals) (hcs : cells ≤ R.cells ∧ slots ≤ R.slots) (hdg : decode cc pc = .ok (.invokevirtual 43, 3)) (kk : ∀ (τ : zS) (H1 : Heap) (locs1 : List Loc), k τ = some res → zW D cy shX 38 a0 aT aP A H0 τ H1 locs1 → W p l e R s m args below meth c H1 locs1 cells slots Q (F0 m (pc + 3) ls (rest))) : W p l e R s m args below meth c H locs cells slots Q (F0 m pc ls (.int x3 :: .int x2 :: .int x1 :: .ref (a0 4) :: rest)) := by
  cases hq : fX1_traceRing N x1 x2 x3 σ with
  | none => rw [hq] at hf; cases hf
  | some q =>
    rw [hq] at hf
    exact zcallv hA hZ (zrun hC hZ vkX1_43 rfl (zw0 (by decide)) (cX1_traceRing_ok l D cy a0 aT aP N x1 x2 x3 σ q hq H.size) hR rfl hsz rfl hW hcs hdg) (fun u H1 locs1 hU hZ1 => by subst hU; exact kk q H1 locs1 hf hZ1)
end ZK
set_option maxHeartbeats 4000000 in
set_option maxRecDepth 100000 in
theorem wX1_findFirstRing_7 {p : Program} {l : Launch} {e : Env} {s : State} {m : MethodId} {args : Array Value} {below : List Frame} {meth : Method} {c : Code} {Q : State → Prop} {A : Nat → Prop} {H0 : Heap} {D : va_G} {cy : Nat → ClassId} {a0 aT aP : Nat → Nat} {res : zS} {K : Int32 → zS → Option (zS)} (N : Nat) (x1 : Int32) (hC : zC p s m args c RX1 cX1_findFirstRing 4 D cy) (hA : ∀ q, H0.size ≤ q → A q) (hE : zEnd p l e rmX1_findFirstRing s m args below meth c Q D cy shX 38 a0 A H0 res (fun u => u = (aT, aP)) cX1_findFirstRing .return_ []) (n : Nat) (x2 : Int32) (w0 : zS) {H : Heap} {locs : List Loc} {ls : Array Slot} (hf : lX1_findFirstRing_7 N x1 K n (x2, w0) = some res) (hZ : zW D cy shX 38 a0 aT aP A H0 w0 H locs) (hl : lv_has ls 4 [(0, .ref (a0 4)), (1, .int x1), (2, .int x2)]) (hK : ∀ x2 : Int32, ∀ (w0 : zS) (H : Heap) (locs : List Loc) (ls : Array Slot), K x2 w0 = some res → zW D cy shX 38 a0 aT aP A H0 w0 H locs → lv_has ls 4 [(0, .ref (a0 4)), (1, .int x1), (2, .int x2)] → W p l e rmX1_findFirstRing s m args below meth c H locs 0 0 Q (F0 m 58 ls [])) : W p l e rmX1_findFirstRing s m args below meth c H locs 0 0 Q (F0 m 7 ls []) := by
  have hx := hC.1.1
  have hb := hC.1.2.1
  have hf2 : zlp (fun rc s1 => bX1_findFirstRing_7 N x1 K rc s1.1 s1.2) n (x2, w0) = some res := hf
  have key := zloop (S := Int32 × zS) (α := zS) (b := fun rc s1 => bX1_findFirstRing_7 N x1 K rc s1.1 s1.2) (r := res) (Wd := fun s1 => ∀ (H : Heap) (locs : List Loc) (ls : Array Slot), zW D cy shX 38 a0 aT aP A H0 s1.2 H locs → lv_has ls 4 [(0, .ref (a0 4)), (1, .int x1), (2, .int s1.1)] → W p l e rmX1_findFirstRing s m args below meth c H locs 0 0 Q (F0 m 7 ls []))
  refine key ?_ n (x2, w0) hf2 H locs ls hZ hl
  clear hf hf2 hZ hl key
  rintro rc ⟨x2, w0⟩ ih hf H locs ls hZ hl
  have hf : bX1_findFirstRing_7 N x1 K rc x2 w0 = some res := hf
  have hl : lv_has ls 4 [(0, .ref (a0 4)), (1, .int x1), (2, .int x2)] := hl
  unfold bX1_findFirstRing_7 at hf
  refine lv_iload_n (pc := 7) hx hb dX1_findFirstRing_7 rfl (lv_at hl 2 rfl) ?_
  refine lv_bipush (pc := 8) (v := (10 : Int32)) hx hb dX1_findFirstRing_8 (by decide) ?_
  refine z_ige (pc := 10) (tgt := 58) hC hf dX1_findFirstRing_10 (by decide) (fun hf => ?_) (fun hf => ?_)
  · exact hK x2 w0 H locs ls hf hZ (lv_sub hl [0, 1, 2] rfl)
  refine lv_aload_n (pc := 13) hx hb dX1_findFirstRing_13 rfl (lv_at hl 0 rfl) ?_
  refine lv_iload_n (pc := 14) hx hb dX1_findFirstRing_14 rfl (lv_at hl 1 rfl) ?_
  refine lv_iload_n (pc := 15) hx hb dX1_findFirstRing_15 rfl (lv_at hl 2 rfl) ?_
  refine kX1_35 (pc := 16) hC hA hZ hf hl.1 (Nat.le_of_ble_eq_true rfl) ⟨Nat.le_of_ble_eq_true rfl, Nat.le_of_ble_eq_true rfl⟩ ⟨Nat.le_refl _, Nat.le_refl _⟩ dX1_findFirstRing_16 (fun w2 H locs hf hZ => ?_)
  refine lv_aload_n (pc := 19) hx hb dX1_findFirstRing_19 rfl (lv_at hl 0 rfl) ?_
  refine lv_iload_n (pc := 20) hx hb dX1_findFirstRing_20 rfl (lv_at hl 1 rfl) ?_
  refine lv_iload_n (pc := 21) hx hb dX1_findFirstRing_21 rfl (lv_at hl 2 rfl) ?_
  refine kX1_39 (pc := 22) hC hA hZ hf hl.1 (Nat.le_of_ble_eq_true rfl) ⟨Nat.le_of_ble_eq_true rfl, Nat.le_of_ble_eq_true rfl⟩ ⟨Nat.le_refl _, Nat.le_refl _⟩ dX1_findFirstRing_22 (fun v4 w3 H locs hf hZ => ?_)
  refine lv_istore_n (pc := 25) (lv' := [(3, .int v4), (0, .ref (a0 4)), (1, .int x1), (2, .int x2)]) hx hb dX1_findFirstRing_25 rfl hl (by decide) rfl (fun ls hl => ?_)
  refine lv_iload_n (pc := 26) hx hb dX1_findFirstRing_26 rfl (lv_at hl 0 rfl) ?_
  refine z_le0 (pc := 27) (tgt := 52) hC hf dX1_findFirstRing_27 (by decide) (fun hf => ?_) (fun hf => ?_)
  · refine lv_iinc (pc := 52) (v := (x2 + (1 : Int32))) (lv' := [(2, .int (x2 + (1 : Int32))), (3, .int v4), (0, .ref (a0 4)), (1, .int x1)]) hx hb dX1_findFirstRing_52 hl (k := 3) rfl rfl (by decide) rfl (fun ls hl => ?_)
    refine lv_goto (pc := 55) (tgt := 7) hx hb dX1_findFirstRing_55 (by decide) ?_
    exact ih ((x2 + (1 : Int32)), w3) hf H locs ls hZ (lv_sub hl [2, 3, 0] rfl)
  refine lv_aload_n (pc := 30) hx hb dX1_findFirstRing_30 rfl (lv_at hl 1 rfl) ?_
  refine gfX1_24 (pc := 31) hC hZ dX1_findFirstRing_31 ?_
  refine z_eq0 (pc := 34) (tgt := 45) hC hf dX1_findFirstRing_34 (by decide) (fun hf => ?_) (fun hf => ?_)
  · refine lv_aload_n (pc := 45) hx hb dX1_findFirstRing_45 rfl (lv_at hl 1 rfl) ?_
    refine lv_iload_n (pc := 46) hx hb dX1_findFirstRing_46 rfl (lv_at hl 2 rfl) ?_
    refine lv_iload_n (pc := 47) hx hb dX1_findFirstRing_47 rfl (lv_at hl 3 rfl) ?_
    refine lv_iload_n (pc := 48) hx hb dX1_findFirstRing_48 rfl (lv_at hl 0 rfl) ?_
    refine kX1_43 (pc := 49) hC hA hZ hf hl.1 (Nat.le_of_ble_eq_true rfl) ⟨Nat.le_of_ble_eq_true rfl, Nat.le_of_ble_eq_true rfl⟩ ⟨Nat.le_refl _, Nat.le_refl _⟩ dX1_findFirstRing_49 (fun w5 H locs hf hZ => ?_)
    refine lv_iinc (pc := 52) (v := (x2 + (1 : Int32))) (lv' := [(2, .int (x2 + (1 : Int32))), (3, .int v4), (0, .ref (a0 4)), (1, .int x1)]) hx hb dX1_findFirstRing_52 hl (k := 3) rfl rfl (by decide) rfl (fun ls hl => ?_)
    refine lv_goto (pc := 55) (tgt := 7) hx hb dX1_findFirstRing_55 (by decide) ?_
    exact ih ((x2 + (1 : Int32)), w5) hf H locs ls hZ (lv_sub hl [2, 3, 0] rfl)
  refine lv_iload_n (pc := 37) hx hb dX1_findFirstRing_37 rfl (lv_at hl 0 rfl) ?_
  refine lv_aload_n (pc := 38) hx hb dX1_findFirstRing_38 rfl (lv_at hl 1 rfl) ?_
  refine gfX1_24 (pc := 39) hC hZ dX1_findFirstRing_39 ?_
  refine z_ige (pc := 42) (tgt := 52) hC hf dX1_findFirstRing_42 (by decide) (fun hf => ?_) (fun hf => ?_)
  · refine lv_iinc (pc := 52) (v := (x2 + (1 : Int32))) (lv' := [(2, .int (x2 + (1 : Int32))), (3, .int v4), (0, .ref (a0 4)), (1, .int x1)]) hx hb dX1_findFirstRing_52 hl (k := 3) rfl rfl (by decide) rfl (fun ls hl => ?_)
    refine lv_goto (pc := 55) (tgt := 7) hx hb dX1_findFirstRing_55 (by decide) ?_
    exact ih ((x2 + (1 : Int32)), w3) hf H locs ls hZ (lv_sub hl [2, 3, 0] rfl)
  refine lv_aload_n (pc := 45) hx hb dX1_findFirstRing_45 rfl (lv_at hl 1 rfl) ?_
  refine lv_iload_n (pc := 46) hx hb dX1_findFirstRing_46 rfl (lv_at hl 2 rfl) ?_
  refine lv_iload_n (pc := 47) hx hb dX1_findFirstRing_47 rfl (lv_at hl 3 rfl) ?_
  refine lv_iload_n (pc := 48) hx hb dX1_findFirstRing_48 rfl (lv_at hl 0 rfl) ?_
  refine kX1_43 (pc := 49) hC hA hZ hf hl.1 (Nat.le_of_ble_eq_true rfl) ⟨Nat.le_of_ble_eq_true rfl, Nat.le_of_ble_eq_true rfl⟩ ⟨Nat.le_refl _, Nat.le_refl _⟩ dX1_findFirstRing_49 (fun w6 H locs hf hZ => ?_)
  refine lv_iinc (pc := 52) (v := (x2 + (1 : Int32))) (lv' := [(2, .int (x2 + (1 : Int32))), (3, .int v4), (0, .ref (a0 4)), (1, .int x1)]) hx hb dX1_findFirstRing_52 hl (k := 3) rfl rfl (by decide) rfl (fun ls hl => ?_)
  refine lv_goto (pc := 55) (tgt := 7) hx hb dX1_findFirstRing_55 (by decide) ?_
  exact ih ((x2 + (1 : Int32)), w6) hf H locs ls hZ (lv_sub hl [2, 3, 0] rfl)
set_option maxHeartbeats 4000000 in
set_option maxRecDepth 100000 in
theorem cX1_findFirstRing_ok (l : Launch) (D : va_G) (cy : Nat → ClassId) (a0 aT aP : Nat → Nat) (N : Nat) (x1 : Int32) (w0 : zS) (τ : zS) (hf : fX1_findFirstRing N x1 w0 = some τ) : zMv l yX1_findFirstRing cX1_findFirstRing 4 none rmX1_findFirstRing D cy shX 38 a0 aT aP w0 [.ref (a0 4), .int x1] τ (fun u => u = (aT, aP)) := by
  refine zmet_v (by decide +kernel) rfl (Nat.le_of_ble_eq_true rfl) ?_
  intro p e s m below meth c A Q ls hC hA hZ hl hE
  have hx := hC.1.1
  have hb := hC.1.2.1
  have hl : lv_has ls 4 [(0, .ref (a0 4)), (1, .int x1)] := hl
  unfold fX1_findFirstRing at hf
  refine lv_aload_n (pc := 0) hx hb dX1_findFirstRing_0 rfl (lv_at hl 0 rfl) ?_
  refine lv_iconst (pc := 1) (v := (0 : Int32)) hx hb dX1_findFirstRing_1 (by decide) ?_
  refine pfX1_24 (pc := 2) hC hZ hf dX1_findFirstRing_2 (fun w1 H locs hf hZ => ?_)
  refine lv_iconst (pc := 5) (v := (0 : Int32)) hx hb dX1_findFirstRing_5 (by decide) ?_
  refine lv_istore_n (pc := 6) (lv' := [(2, .int (0 : Int32)), (0, .ref (a0 4)), (1, .int x1)]) hx hb dX1_findFirstRing_6 rfl hl (by decide) rfl (fun ls hl => ?_)
  refine wX1_findFirstRing_7 (res := τ) N x1 hC hA hE N _ _ hf hZ (lv_sub hl [1, 2, 0] rfl) (fun y7 w8 H locs ls hf hZ hl => ?_)
  obtain rfl := Option.some.inj hf
  exact hE _ _ _ _ _ _ rfl hZ dX1_findFirstRing_58
section ZK
variable {p : Program} {l : Launch} {e : Env} {R : Room} {s : State} {m : MethodId} {args : Array Value} {below : List Frame} {meth : Method} {c : Code} {H : Heap} {locs : List Loc} {cells slots : Nat} {Q : State → Prop}
variable {pc : Nat} {ls : Array Slot} {rest : List Value} {A : Nat → Prop} {H0 : Heap} {D : va_G} {cy : Nat → ClassId} {a0 aT aP : Nat → Nat} {σ : zS} {cc : ByteArray} {nL : Nat} {α : Type} {res : α}
theorem vkX7_210 : zVk RX7 210 yX1_findFirstRing cX1_findFirstRing 4 none 1 := ⟨by decide +kernel, by decide +kernel, by decide +kernel, by decide +kernel, by decide +kernel, by decide +kernel⟩
theorem kX7_210 (hC : zC p s m args c RX7 cc nL D cy) (hA : ∀ q, H0.size ≤ q → A q) (hZ : zW D cy shX 38 a0 aT aP A H0 σ H locs) {N : Nat} {x1 : Int32} {k : zS → Option α} (hf : zbv (fX1_findFirstRing N x1 σ) k = some res) (hsz : ls.size = nL) (hW : (rest.map fun v => v.category).sum ≤ 8) (hR : rmX1_findFirstRing.frames + 1 ≤ R.frames ∧ 8 + (4 + 11) + rmX1_findFirstRing.locals ≤ R.locals) (hcs : cells ≤ R.cells ∧ slots ≤ R.slots) (hdg : decode cc pc = .ok (.invokevirtual 210, 3)) (kk : ∀ (τ : zS) (H1 : Heap) (locs1 : List Loc), k τ = some res → zW D cy shX 38 a0 aT aP A H0 τ H1 locs1 → W p l e R s m args below meth c H1 locs1 cells slots Q (F0 m (pc + 3) ls (rest))) : W p l e R s m args below meth c H locs cells slots Q (F0 m pc ls (.int x1 :: .ref (a0 4) :: rest)) := by
  cases hq : fX1_findFirstRing N x1 σ with
  | none => rw [hq] at hf; cases hf
  | some q =>
    rw [hq] at hf
    exact zcallv hA hZ (zrun hC hZ vkX7_210 rfl (zw0 (by decide)) (cX1_findFirstRing_ok l D cy a0 aT aP N x1 σ q hq H.size) hR rfl hsz rfl hW hcs hdg) (fun u H1 locs1 hU hZ1 => by subst hU; exact kk q H1 locs1 hf hZ1)
theorem vkX1_28 : zVk RX1 28 yX1_findFirstRing cX1_findFirstRing 4 none 1 := ⟨by decide +kernel, by decide +kernel, by decide +kernel, by decide +kernel, by decide +kernel, by decide +kernel⟩
theorem kX1_28 (hC : zC p s m args c RX1 cc nL D cy) (hA : ∀ q, H0.size ≤ q → A q) (hZ : zW D cy shX 38 a0 aT aP A H0 σ H locs) {N : Nat} {x1 : Int32} {k : zS → Option α} (hf : zbv (fX1_findFirstRing N x1 σ) k = some res) (hsz : ls.size = nL) (hW : (rest.map fun v => v.category).sum ≤ 8) (hR : rmX1_findFirstRing.frames + 1 ≤ R.frames ∧ 8 + (4 + 11) + rmX1_findFirstRing.locals ≤ R.locals) (hcs : cells ≤ R.cells ∧ slots ≤ R.slots) (hdg : decode cc pc = .ok (.invokevirtual 28, 3)) (kk : ∀ (τ : zS) (H1 : Heap) (locs1 : List Loc), k τ = some res → zW D cy shX 38 a0 aT aP A H0 τ H1 locs1 → W p l e R s m args below meth c H1 locs1 cells slots Q (F0 m (pc + 3) ls (rest))) : W p l e R s m args below meth c H locs cells slots Q (F0 m pc ls (.int x1 :: .ref (a0 4) :: rest)) := by
  cases hq : fX1_findFirstRing N x1 σ with
  | none => rw [hq] at hf; cases hf
  | some q =>
    rw [hq] at hf
    exact zcallv hA hZ (zrun hC hZ vkX1_28 rfl (zw0 (by decide)) (cX1_findFirstRing_ok l D cy a0 aT aP N x1 σ q hq H.size) hR rfl hsz rfl hW hcs hdg) (fun u H1 locs1 hU hZ1 => by subst hU; exact kk q H1 locs1 hf hZ1)
end ZK
set_option maxHeartbeats 4000000 in
set_option maxRecDepth 100000 in
theorem cX1_ringHouse_ok (l : Launch) (D : va_G) (cy : Nat → ClassId) (a0 aT aP : Nat → Nat) (N : Nat) (x1 : Int32) (w0 : zS) (rv : Int32) (τ : zS) (hf : fX1_ringHouse N x1 w0 = some (rv, τ)) : zMi l yX1_ringHouse cX1_ringHouse 2 (some .int) rmX1_ringHouse D cy shX 38 a0 aT aP w0 [.ref (a0 4), .int x1] rv τ (fun u => u = (aT, aP)) := by
  refine zmet_i (by decide +kernel) (Or.inl rfl) (Nat.le_of_ble_eq_true rfl) ?_
  intro p e s m below meth c A Q ls hC hA hZ hl hE
  have hx := hC.1.1
  have hb := hC.1.2.1
  have hl : lv_has ls 2 [(0, .ref (a0 4)), (1, .int x1)] := hl
  unfold fX1_ringHouse at hf
  refine lv_iload_n (pc := 0) hx hb dX1_ringHouse_0 rfl (lv_at hl 1 rfl) ?_
  refine z_lt0 (pc := 1) (tgt := 21) hC hf dX1_ringHouse_1 (by decide) (fun hf => ?_) (fun hf => ?_)
  · refine lv_bipush (pc := 21) (v := (-9 : Int32)) hx hb dX1_ringHouse_21 (by decide) ?_
    obtain ⟨rfl, rfl⟩ := zinj hf
    exact hE _ _ _ _ _ _ rfl hZ dX1_ringHouse_23
  refine lv_iload_n (pc := 4) hx hb dX1_ringHouse_4 rfl (lv_at hl 1 rfl) ?_
  refine lv_aload_n (pc := 5) hx hb dX1_ringHouse_5 rfl (lv_at hl 0 rfl) ?_
  refine gfX1_24 (pc := 6) hC hZ dX1_ringHouse_6 ?_
  refine z_ige (pc := 9) (tgt := 21) hC hf dX1_ringHouse_9 (by decide) (fun hf => ?_) (fun hf => ?_)
  · refine lv_bipush (pc := 21) (v := (-9 : Int32)) hx hb dX1_ringHouse_21 (by decide) ?_
    obtain ⟨rfl, rfl⟩ := zinj hf
    exact hE _ _ _ _ _ _ rfl hZ dX1_ringHouse_23
  refine lv_aload_n (pc := 12) hx hb dX1_ringHouse_12 rfl (lv_at hl 0 rfl) ?_
  refine gfX1_15 (pc := 13) hC hZ dX1_ringHouse_13 ?_
  refine lv_iload_n (pc := 16) hx hb dX1_ringHouse_16 rfl (lv_at hl 1 rfl) ?_
  refine z_iald (pc := 17) hC hZ (by decide) rfl hf dX1_ringHouse_17 (fun v1 hf => ?_)
  refine lv_goto (pc := 18) (tgt := 23) hx hb dX1_ringHouse_18 (by decide) ?_
  obtain ⟨rfl, rfl⟩ := zinj hf
  exact hE _ _ _ _ _ _ rfl hZ dX1_ringHouse_23
section ZK
variable {p : Program} {l : Launch} {e : Env} {R : Room} {s : State} {m : MethodId} {args : Array Value} {below : List Frame} {meth : Method} {c : Code} {H : Heap} {locs : List Loc} {cells slots : Nat} {Q : State → Prop}
variable {pc : Nat} {ls : Array Slot} {rest : List Value} {A : Nat → Prop} {H0 : Heap} {D : va_G} {cy : Nat → ClassId} {a0 aT aP : Nat → Nat} {σ : zS} {cc : ByteArray} {nL : Nat} {α : Type} {res : α}
theorem vkX7_214 : zVk RX7 214 yX1_ringHouse cX1_ringHouse 2 (some .int) 1 := ⟨by decide +kernel, by decide +kernel, by decide +kernel, by decide +kernel, by decide +kernel, by decide +kernel⟩
theorem kX7_214 (hC : zC p s m args c RX7 cc nL D cy) (hA : ∀ q, H0.size ≤ q → A q) (hZ : zW D cy shX 38 a0 aT aP A H0 σ H locs) {N : Nat} {x1 : Int32} {k : Int32 → zS → Option α} (hf : zbi (fX1_ringHouse N x1 σ) k = some res) (hsz : ls.size = nL) (hW : (rest.map fun v => v.category).sum ≤ 8) (hR : rmX1_ringHouse.frames + 1 ≤ R.frames ∧ 8 + (2 + 11) + rmX1_ringHouse.locals ≤ R.locals) (hcs : cells ≤ R.cells ∧ slots ≤ R.slots) (hdg : decode cc pc = .ok (.invokevirtual 214, 3)) (kk : ∀ (v : Int32) (τ : zS) (H1 : Heap) (locs1 : List Loc), k v τ = some res → zW D cy shX 38 a0 aT aP A H0 τ H1 locs1 → W p l e R s m args below meth c H1 locs1 cells slots Q (F0 m (pc + 3) ls (.int v :: rest))) : W p l e R s m args below meth c H locs cells slots Q (F0 m pc ls (.int x1 :: .ref (a0 4) :: rest)) := by
  cases hq : fX1_ringHouse N x1 σ with
  | none => rw [hq] at hf; cases hf
  | some q =>
    rw [hq] at hf
    exact zcalli hA hZ (zrun hC hZ vkX7_214 rfl (zw0 (by decide)) (cX1_ringHouse_ok l D cy a0 aT aP N x1 σ q.1 q.2 hq H.size) hR rfl hsz rfl hW hcs hdg) (fun u H1 locs1 hU hZ1 => by subst hU; exact kk q.1 q.2 H1 locs1 hf hZ1)
end ZK
set_option maxHeartbeats 4000000 in
set_option maxRecDepth 100000 in
theorem cX7_ring_ok (l : Launch) (D : va_G) (cy : Nat → ClassId) (a0 aT aP : Nat → Nat) (N : Nat) (x1 : Int32) (x2 : Int32) (w0 : zS) (rv : Int32) (τ : zS) (hf : fX7_ring N x1 x2 w0 = some (rv, τ)) : zMi l yX7_ring cX7_ring 3 (some .int) rmX7_ring D cy shX 38 a0 aT aP w0 [.ref (a0 0), .int x1, .int x2] rv τ (fun u => u = (aT, aP)) := by
  refine zmet_i (by decide +kernel) (Or.inl rfl) (Nat.le_of_ble_eq_true rfl) ?_
  intro p e s m below meth c A Q ls hC hA hZ hl hE
  have hx := hC.1.1
  have hb := hC.1.2.1
  have hl : lv_has ls 3 [(0, .ref (a0 0)), (1, .int x1), (2, .int x2)] := hl
  unfold fX7_ring at hf
  refine lv_aload_n (pc := 0) hx hb dX7_ring_0 rfl (lv_at hl 0 rfl) ?_
  refine lv_iload_n (pc := 1) hx hb dX7_ring_1 rfl (lv_at hl 1 rfl) ?_
  refine kX7_81 (pc := 2) hC hA hZ hf hl.1 (Nat.le_of_ble_eq_true rfl) ⟨Nat.le_of_ble_eq_true rfl, Nat.le_of_ble_eq_true rfl⟩ ⟨Nat.le_refl _, Nat.le_refl _⟩ dX7_ring_2 (fun v2 w1 H locs hf hZ => ?_)
  refine z_ne0 (pc := 5) (tgt := 14) hC hf dX7_ring_5 (by decide) (fun hf => ?_) (fun hf => ?_)
  · refine lv_aload_n (pc := 8) hx hb dX7_ring_8 rfl (lv_at hl 0 rfl) ?_
    refine lv_iconst (pc := 9) (v := (-1 : Int32)) hx hb dX7_ring_9 (by decide) ?_
    refine kX7_73 (pc := 10) hC hA hZ hf hl.1 (Nat.le_of_ble_eq_true rfl) ⟨Nat.le_of_ble_eq_true rfl, Nat.le_of_ble_eq_true rfl⟩ ⟨Nat.le_refl _, Nat.le_refl _⟩ dX7_ring_10 (fun v4 w3 H locs hf hZ => ?_)
    obtain ⟨rfl, rfl⟩ := zinj hf
    exact hE _ _ _ _ _ _ rfl hZ dX7_ring_13
  refine lv_aload_n (pc := 14) hx hb dX7_ring_14 rfl (lv_at hl 0 rfl) ?_
  refine gfX7_49 (pc := 15) hC hZ dX7_ring_15 ?_
  refine lv_iload_n (pc := 18) hx hb dX7_ring_18 rfl (lv_at hl 1 rfl) ?_
  refine kX7_210 (pc := 19) hC hA hZ hf hl.1 (Nat.le_of_ble_eq_true rfl) ⟨Nat.le_of_ble_eq_true rfl, Nat.le_of_ble_eq_true rfl⟩ ⟨Nat.le_refl _, Nat.le_refl _⟩ dX7_ring_19 (fun w5 H locs hf hZ => ?_)
  refine lv_aload_n (pc := 22) hx hb dX7_ring_22 rfl (lv_at hl 0 rfl) ?_
  refine gfX7_49 (pc := 23) hC hZ dX7_ring_23 ?_
  refine lv_iload_n (pc := 26) hx hb dX7_ring_26 rfl (lv_at hl 2 rfl) ?_
  refine kX7_214 (pc := 27) hC hA hZ hf hl.1 (Nat.le_of_ble_eq_true rfl) ⟨Nat.le_of_ble_eq_true rfl, Nat.le_of_ble_eq_true rfl⟩ ⟨Nat.le_refl _, Nat.le_refl _⟩ dX7_ring_27 (fun v7 w6 H locs hf hZ => ?_)
  obtain ⟨rfl, rfl⟩ := zinj hf
  exact hE _ _ _ _ _ _ rfl hZ dX7_ring_30
