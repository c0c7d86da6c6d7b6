set_option maxHeartbeats 4000000 in
set_option maxRecDepth 100000 in
theorem wX0_carryAlong_21 {p : Program} {l : Launch} {e : Env} {s : State} {m : MethodId} {args : Array Value} {below : List Frame} {meth : Method} {c : Code} {Q : State → Prop} {A : Nat → Prop} {H0 : Heap} {D : va_G} {cy : Nat → ClassId} {a0 aT aP : Nat → Nat} {res : Int32 × zS} {K : Int32 → Int32 → zS → Option (Int32 × zS)} (N : Nat) (x1 : Int32) (x2 : Int32) (hC : zC p s m args c RX0 cX0_carryAlong 6 D cy) (hA : ∀ q, H0.size ≤ q → A q) (hE : zEnd p l e rmX0_carryAlong s m args below meth c Q D cy shX 38 a0 A H0 res.2 (fun u => u = (aT, aP)) cX0_carryAlong .ireturn [.int res.1]) (n : Nat) (x3 : Int32) (x4 : Int32) (w0 : zS) {H : Heap} {locs : List Loc} {ls : Array Slot} (hf : lX0_carryAlong_21 N x1 x2 K n (x3, x4, w0) = some res) (hZ : zW D cy shX 38 a0 aT aP A H0 w0 H locs) (hl : lv_has ls 6 [(0, .ref (a0 5)), (1, .int x1), (2, .int x2), (3, .int x3), (4, .int x4)]) (hK : ∀ x3 : Int32, ∀ x4 : Int32, ∀ (w0 : zS) (H : Heap) (locs : List Loc) (ls : Array Slot), K x3 x4 w0 = some res → zW D cy shX 38 a0 aT aP A H0 w0 H locs → lv_has ls 6 [(0, .ref (a0 5)), (1, .int x1), (2, .int x2), (3, .int x3), (4, .int x4)] → W p l e rmX0_carryAlong s m args below meth c H locs 0 0 Q (F0 m 112 ls [])) : W p l e rmX0_carryAlong s m args below meth c H locs 0 0 Q (F0 m 21 ls []) := by
  have hx := hC.1.1
  have hb := hC.1.2.1
  have hf2 : zlp (fun rc s1 => bX0_carryAlong_21 N x1 x2 K rc s1.1 s1.2.1 s1.2.2) n (x3, x4, w0) = some res := hf
  have key := zloop (S := Int32 × Int32 × zS) (α := Int32 × zS) (b := fun rc s1 => bX0_carryAlong_21 N x1 x2 K rc s1.1 s1.2.1 s1.2.2) (r := res) (Wd := fun s1 => ∀ (H : Heap) (locs : List Loc) (ls : Array Slot), zW D cy shX 38 a0 aT aP A H0 s1.2.2 H locs → lv_has ls 6 [(0, .ref (a0 5)), (1, .int x1), (2, .int x2), (3, .int s1.1), (4, .int s1.2.1)] → W p l e rmX0_carryAlong s m args below meth c H locs 0 0 Q (F0 m 21 ls []))
  refine key ?_ n (x3, x4, w0) hf2 H locs ls hZ hl
  clear hf hf2 hZ hl key
  rintro rc ⟨x3, x4, w0⟩ ih hf H locs ls hZ hl
  have hf : bX0_carryAlong_21 N x1 x2 K rc x3 x4 w0 = some res := hf
  have hl : lv_has ls 6 [(0, .ref (a0 5)), (1, .int x1), (2, .int x2), (3, .int x3), (4, .int x4)] := hl
  unfold bX0_carryAlong_21 at hf
  refine lv_iload (pc := 21) hx hb dX0_carryAlong_21 (lv_at hl 4 rfl) ?_
  refine lv_bipush (pc := 23) (v := (10 : Int32)) hx hb dX0_carryAlong_23 (by decide) ?_
  refine z_ige (pc := 25) (tgt := 112) hC hf dX0_carryAlong_25 (by decide) (fun hf => ?_) (fun hf => ?_)
  · exact hK x3 x4 w0 H locs ls hf hZ (lv_sub hl [0, 1, 2, 3, 4] rfl)
  refine lv_iload_n (pc := 28) hx hb dX0_carryAlong_28 rfl (lv_at hl 3 rfl) ?_
  refine z_lt0 (pc := 29) (tgt := 112) hC hf dX0_carryAlong_29 (by decide) (fun hf => ?_) (fun hf => ?_)
  · exact hK x3 x4 w0 H locs ls hf hZ (lv_sub hl [0, 1, 2, 3, 4] rfl)
  refine lv_aload_n (pc := 32) hx hb dX0_carryAlong_32 rfl (lv_at hl 0 rfl) ?_
  refine gfX0_36 (pc := 33) hC hZ dX0_carryAlong_33 ?_
  refine lv_iload_n (pc := 36) hx hb dX0_carryAlong_36 rfl (lv_at hl 3 rfl) ?_
  refine z_iald (pc := 37) hC hZ (by decide) rfl hf dX0_carryAlong_37 (fun v5 hf => ?_)
  refine lv_istore (pc := 38) (lv' := [(5, .int v5), (0, .ref (a0 5)), (1, .int x1), (2, .int x2), (3, .int x3), (4, .int x4)]) hx hb dX0_carryAlong_38 hl (by decide) rfl (fun ls hl => ?_)
  refine lv_iload (pc := 40) hx hb dX0_carryAlong_40 (lv_at hl 0 rfl) ?_
  refine z_ge0 (pc := 42) (tgt := 48) hC hf dX0_carryAlong_42 (by decide) (fun hf => ?_) (fun hf => ?_)
  · refine lv_aload_n (pc := 48) hx hb dX0_carryAlong_48 rfl (lv_at hl 1 rfl) ?_
    refine gfX0_21 (pc := 49) hC hZ dX0_carryAlong_49 ?_
    refine lv_iload (pc := 52) hx hb dX0_carryAlong_52 (lv_at hl 0 rfl) ?_
    refine lv_bipush (pc := 54) (v := (10 : Int32)) hx hb dX0_carryAlong_54 (by decide) ?_
    refine lv_imul (pc := 56) hx hb dX0_carryAlong_56 ?_
    refine lv_iload_n (pc := 57) hx hb dX0_carryAlong_57 rfl (lv_at hl 4 rfl) ?_
    refine lv_iadd (pc := 58) hx hb dX0_carryAlong_58 ?_
    refine lv_dup2_11 (pc := 59) hx hb dX0_carryAlong_59 rfl rfl ?_
    refine z_iald (pc := 60) hC hZ (by decide) rfl hf dX0_carryAlong_60 (fun v6 hf => ?_)
    refine lv_iload_n (pc := 61) hx hb dX0_carryAlong_61 rfl (lv_at hl 3 rfl) ?_
    refine lv_iadd (pc := 62) hx hb dX0_carryAlong_62 ?_
    refine z_iast (pc := 63) hC hZ (by decide) rfl hf dX0_carryAlong_63 (fun w7 H locs hf hZ => ?_)
    refine lv_aload_n (pc := 64) hx hb dX0_carryAlong_64 rfl (lv_at hl 1 rfl) ?_
    refine gfX0_39 (pc := 65) hC hZ dX0_carryAlong_65 ?_
    refine lv_iload (pc := 68) hx hb dX0_carryAlong_68 (lv_at hl 0 rfl) ?_
    refine z_iald (pc := 70) hC hZ (by decide) rfl hf dX0_carryAlong_70 (fun v8 hf => ?_)
    refine lv_istore_n (pc := 71) (lv' := [(3, .int v8), (5, .int v5), (0, .ref (a0 5)), (1, .int x1), (2, .int x2), (4, .int x4)]) hx hb dX0_carryAlong_71 rfl hl (by decide) rfl (fun ls hl => ?_)
    refine lv_iload_n (pc := 72) hx hb dX0_carryAlong_72 rfl (lv_at hl 0 rfl) ?_
    refine z_lt0 (pc := 73) (tgt := 95) hC hf dX0_carryAlong_73 (by decide) (fun hf => ?_) (fun hf => ?_)
    · refine lv_aload_n (pc := 95) hx hb dX0_carryAlong_95 rfl (lv_at hl 2 rfl) ?_
      refine gfX0_24 (pc := 96) hC hZ dX0_carryAlong_96 ?_
      refine lv_iload (pc := 99) hx hb dX0_carryAlong_99 (lv_at hl 1 rfl) ?_
      refine lv_dup2_11 (pc := 101) hx hb dX0_carryAlong_101 rfl rfl ?_
      refine z_iald (pc := 102) hC hZ (by decide) rfl hf dX0_carryAlong_102 (fun v9 hf => ?_)
      refine lv_iload_n (pc := 103) hx hb dX0_carryAlong_103 rfl (lv_at hl 4 rfl) ?_
      refine lv_isub (pc := 104) hx hb dX0_carryAlong_104 ?_
      refine z_iast (pc := 105) hC hZ (by decide) rfl hf dX0_carryAlong_105 (fun w10 H locs hf hZ => ?_)
      refine lv_iinc (pc := 106) (v := (x4 + (1 : Int32))) (lv' := [(4, .int (x4 + (1 : Int32))), (3, .int v8), (5, .int v5), (0, .ref (a0 5)), (1, .int x1), (2, .int x2)]) hx hb dX0_carryAlong_106 hl (k := 5) rfl rfl (by decide) rfl (fun ls hl => ?_)
      refine lv_goto (pc := 109) (tgt := 21) hx hb dX0_carryAlong_109 (by decide) ?_
      exact ih (v8, (x4 + (1 : Int32)), w10) hf H locs ls hZ (lv_sub hl [3, 4, 5, 1, 0] rfl)
    refine lv_aload_n (pc := 76) hx hb dX0_carryAlong_76 rfl (lv_at hl 2 rfl) ?_
    refine gfX0_21 (pc := 77) hC hZ dX0_carryAlong_77 ?_
    refine lv_iload (pc := 80) hx hb dX0_carryAlong_80 (lv_at hl 1 rfl) ?_
    refine lv_bipush (pc := 82) (v := (10 : Int32)) hx hb dX0_carryAlong_82 (by decide) ?_
    refine lv_imul (pc := 84) hx hb dX0_carryAlong_84 ?_
    refine lv_iload_n (pc := 85) hx hb dX0_carryAlong_85 rfl (lv_at hl 0 rfl) ?_
    refine lv_iadd (pc := 86) hx hb dX0_carryAlong_86 ?_
    refine lv_dup2_11 (pc := 87) hx hb dX0_carryAlong_87 rfl rfl ?_
    refine z_iald (pc := 88) hC hZ (by decide) rfl hf dX0_carryAlong_88 (fun v11 hf => ?_)
    refine lv_iload_n (pc := 89) hx hb dX0_carryAlong_89 rfl (lv_at hl 4 rfl) ?_
    refine lv_isub (pc := 90) hx hb dX0_carryAlong_90 ?_
    refine z_iast (pc := 91) hC hZ (by decide) rfl hf dX0_carryAlong_91 (fun w12 H locs hf hZ => ?_)
    refine lv_goto (pc := 92) (tgt := 106) hx hb dX0_carryAlong_92 (by decide) ?_
    refine lv_iinc (pc := 106) (v := (x4 + (1 : Int32))) (lv' := [(4, .int (x4 + (1 : Int32))), (3, .int v8), (5, .int v5), (0, .ref (a0 5)), (1, .int x1), (2, .int x2)]) hx hb dX0_carryAlong_106 hl (k := 5) rfl rfl (by decide) rfl (fun ls hl => ?_)
    refine lv_goto (pc := 109) (tgt := 21) hx hb dX0_carryAlong_109 (by decide) ?_
    exact ih (v8, (x4 + (1 : Int32)), w12) hf H locs ls hZ (lv_sub hl [3, 4, 5, 1, 0] rfl)
  refine lv_goto (pc := 45) (tgt := 112) hx hb dX0_carryAlong_45 (by decide) ?_
  exact hK x3 x4 w0 H locs ls hf hZ (lv_sub hl [1, 2, 3, 4, 5] rfl)
set_option maxHeartbeats 4000000 in
set_option maxRecDepth 100000 in
theorem cX0_carryAlong_ok (l : Launch) (D : va_G) (cy : Nat → ClassId) (a0 aT aP : Nat → Nat) (N : Nat) (x1 : Int32) (w0 : zS) (rv : Int32) (τ : zS) (hf : fX0_carryAlong N x1 w0 = some (rv, τ)) : zMi l yX0_carryAlong cX0_carryAlong 6 (some .int) rmX0_carryAlong D cy shX 38 a0 aT aP w0 [.ref (a0 5), .int x1] rv τ (fun u => u = (aT, aP)) := by
  refine zmet_i (by decide +kernel) (Or.inl rfl) (Nat.le_of_ble_eq_true rfl) ?_
  intro p e s m below meth c A Q ls hC hA hZ hl hE
  have hx := hC.1.1
  have hb := hC.1.2.1
  have hl : lv_has ls 6 [(0, .ref (a0 5)), (1, .int x1)] := hl
  unfold fX0_carryAlong at hf
  refine lv_aload_n (pc := 0) hx hb dX0_carryAlong_0 rfl (lv_at hl 0 rfl) ?_
  refine lv_iload_n (pc := 1) hx hb dX0_carryAlong_1 rfl (lv_at hl 1 rfl) ?_
  refine kX0_83 (pc := 2) hC hA hZ hf hl.1 (Nat.le_of_ble_eq_true rfl) ⟨Nat.le_of_ble_eq_true rfl, Nat.le_of_ble_eq_true rfl⟩ ⟨Nat.le_refl _, Nat.le_refl _⟩ dX0_carryAlong_2 (fun v2 w1 H locs hf hZ => ?_)
  refine lv_istore_n (pc := 5) (lv' := [(2, .int v2), (0, .ref (a0 5)), (1, .int x1)]) hx hb dX0_carryAlong_5 rfl hl (by decide) rfl (fun ls hl => ?_)
  refine lv_aload_n (pc := 6) hx hb dX0_carryAlong_6 rfl (lv_at hl 1 rfl) ?_
  refine gfX0_27 (pc := 7) hC hZ dX0_carryAlong_7 ?_
  refine lv_iload_n (pc := 10) hx hb dX0_carryAlong_10 rfl (lv_at hl 2 rfl) ?_
  refine lv_dup2_11 (pc := 11) hx hb dX0_carryAlong_11 rfl rfl ?_
  refine z_iald (pc := 12) hC hZ (by decide) rfl hf dX0_carryAlong_12 (fun v3 hf => ?_)
  refine lv_iload_n (pc := 13) hx hb dX0_carryAlong_13 rfl (lv_at hl 0 rfl) ?_
  refine lv_isub (pc := 14) hx hb dX0_carryAlong_14 ?_
  refine z_iast (pc := 15) hC hZ (by decide) rfl hf dX0_carryAlong_15 (fun w4 H locs hf hZ => ?_)
  refine lv_iload_n (pc := 16) hx hb dX0_carryAlong_16 rfl (lv_at hl 2 rfl) ?_
  refine lv_istore_n (pc := 17) (lv' := [(3, .int x1), (2, .int v2), (0, .ref (a0 5)), (1, .int x1)]) hx hb dX0_carryAlong_17 rfl hl (by decide) rfl (fun ls hl => ?_)
  refine lv_iconst (pc := 18) (v := (0 : Int32)) hx hb dX0_carryAlong_18 (by decide) ?_
  refine lv_istore (pc := 19) (lv' := [(4, .int (0 : Int32)), (3, .int x1), (2, .int v2), (0, .ref (a0 5)), (1, .int x1)]) hx hb dX0_carryAlong_19 hl (by decide) rfl (fun ls hl => ?_)
  refine wX0_carryAlong_21 (res := (rv, τ)) N x1 v2 hC hA hE N _ _ _ hf hZ (lv_sub hl [3, 4, 2, 1, 0] rfl) (fun y13 y14 w15 H locs ls hf hZ hl => ?_)
  refine lv_iload_n (pc := 112) hx hb dX0_carryAlong_112 rfl (lv_at hl 2 rfl) ?_
  obtain ⟨rfl, rfl⟩ := zinj hf
  exact hE _ _ _ _ _ _ rfl hZ dX0_carryAlong_113
section ZK
variable {p : Program} {l : Launch} {e : Env} {R : Room} {s : State} {m : MethodId} {args : Array Value} {below : List Frame} {meth : Method} {c : Code} {H : Heap} {locs : List Loc} {cells slots : Nat} {Q : State → Prop}
variable {pc : Nat} {ls : Array Slot} {rest : List Value} {A : Nat → Prop} {H0 : Heap} {D : va_G} {cy : Nat → ClassId} {a0 aT aP : Nat → Nat} {σ : zS} {cc : ByteArray} {nL : Nat} {α : Type} {res : α}
theorem vkX0_71 : zVk RX0 71 yX0_carryAlong cX0_carryAlong 6 (some .int) 1 := ⟨by decide +kernel, by decide +kernel, by decide +kernel, by decide +kernel, by decide +kernel, by decide +kernel⟩
theorem kX0_71 (hC : zC p s m args c RX0 cc nL D cy) (hA : ∀ q, H0.size ≤ q → A q) (hZ : zW D cy shX 38 a0 aT aP A H0 σ H locs) {N : Nat} {x1 : Int32} {k : Int32 → zS → Option α} (hf : zbi (fX0_carryAlong N x1 σ) k = some res) (hsz : ls.size = nL) (hW : (rest.map fun v => v.category).sum ≤ 8) (hR : rmX0_carryAlong.frames + 1 ≤ R.frames ∧ 8 + (6 + 11) + rmX0_carryAlong.locals ≤ R.locals) (hcs : cells ≤ R.cells ∧ slots ≤ R.slots) (hdg : decode cc pc = .ok (.invokevirtual 71, 3)) (kk : ∀ (v : Int32) (τ : zS) (H1 : Heap) (locs1 : List Loc), k v τ = some res → zW D cy shX 38 a0 aT aP A H0 τ H1 locs1 → W p l e R s m args below meth c H1 locs1 cells slots Q (F0 m (pc + 3) ls (.int v :: rest))) : W p l e R s m args below meth c H locs cells slots Q (F0 m pc ls (.int x1 :: .ref (a0 5) :: rest)) := by
  cases hq : fX0_carryAlong N x1 σ with
  | none => rw [hq] at hf; cases hf
  | some q =>
    rw [hq] at hf
    exact zcalli hA hZ (zrun hC hZ vkX0_71 rfl (zw0 (by decide)) (cX0_carryAlong_ok l D cy a0 aT aP N x1 σ q.1 q.2 hq H.size) hR rfl hsz rfl hW hcs hdg) (fun u H1 locs1 hU hZ1 => by subst hU; exact kk q.1 q.2 H1 locs1 hf hZ1)
end ZK
set_option maxHeartbeats 4000000 in
set_option maxRecDepth 100000 in
theorem wX0_leastSum_52 {p : Program} {l : Launch} {e : Env} {s : State} {m : MethodId} {args : Array Value} {below : List Frame} {meth : Method} {c : Code} {Q : State → Prop} {A : Nat → Prop} {H0 : Heap} {D : va_G} {cy : Nat → ClassId} {a0 aT aP : Nat → Nat} {res : Int32 × zS} {K : Int32 → Int32 → zS → Option (Int32 × zS)} (N : Nat) (x1 : Int32) (hC : zC p s m args c RX0 cX0_leastSum 5 D cy) (hA : ∀ q, H0.size ≤ q → A q) (hE : zEnd p l e rmX0_leastSum s m args below meth c Q D cy shX 38 a0 A H0 res.2 (fun u => u = (aT, aP)) cX0_leastSum .ireturn [.int res.1]) (n : Nat) (x2 : Int32) (x3 : Int32) (w0 : zS) {H : Heap} {locs : List Loc} {ls : Array Slot} (hf : lX0_leastSum_52 N x1 K n (x2, x3, w0) = some res) (hZ : zW D cy shX 38 a0 aT aP A H0 w0 H locs) (hl : lv_has ls 5 [(0, .ref (a0 5)), (1, .int x1), (2, .int x2), (3, .int x3)]) (hK : ∀ x2 : Int32, ∀ x3 : Int32, ∀ (w0 : zS) (H : Heap) (locs : List Loc) (ls : Array Slot), K x2 x3 w0 = some res → zW D cy shX 38 a0 aT aP A H0 w0 H locs → lv_has ls 5 [(0, .ref (a0 5)), (1, .int x1), (2, .int x2), (3, .int x3)] → W p l e rmX0_leastSum s m args below meth c H locs 0 0 Q (F0 m 100 ls [])) : W p l e rmX0_leastSum s m args below meth c H locs 0 0 Q (F0 m 52 ls []) := by
  have hx := hC.1.1
  have hb := hC.1.2.1
  have hf2 : zlp (fun rc s1 => bX0_leastSum_52 N x1 K rc s1.1 s1.2.1 s1.2.2) n (x2, x3, w0) = some res := hf
  have key := zloop (S := Int32 × Int32 × zS) (α := Int32 × zS) (b := fun rc s1 => bX0_leastSum_52 N x1 K rc s1.1 s1.2.1 s1.2.2) (r := res) (Wd := fun s1 => ∀ (H : Heap) (locs : List Loc) (ls : Array Slot), zW D cy shX 38 a0 aT aP A H0 s1.2.2 H locs → lv_has ls 5 [(0, .ref (a0 5)), (1, .int x1), (2, .int s1.1), (3, .int s1.2.1)] → W p l e rmX0_leastSum s m args below meth c H locs 0 0 Q (F0 m 52 ls []))
  refine key ?_ n (x2, x3, w0) hf2 H locs ls hZ hl
  clear hf hf2 hZ hl key
  rintro rc ⟨x2, x3, w0⟩ ih hf H locs ls hZ hl
  have hf : bX0_leastSum_52 N x1 K rc x2 x3 w0 = some res := hf
  have hl : lv_has ls 5 [(0, .ref (a0 5)), (1, .int x1), (2, .int x2), (3, .int x3)] := hl
  unfold bX0_leastSum_52 at hf
  refine lv_iload_n (pc := 52) hx hb dX0_leastSum_52 rfl (lv_at hl 3 rfl) ?_
  refine lv_sipush (pc := 53) (v := (1000 : Int32)) hx hb dX0_leastSum_53 (by decide) ?_
  refine z_ige (pc := 56) (tgt := 100) hC hf dX0_leastSum_56 (by decide) (fun hf => ?_) (fun hf => ?_)
  · exact hK x2 x3 w0 H locs ls hf hZ (lv_sub hl [0, 1, 2, 3] rfl)
  refine lv_aload_n (pc := 59) hx hb dX0_leastSum_59 rfl (lv_at hl 0 rfl) ?_
  refine kX0_64 (pc := 60) hC hA hZ hf hl.1 (Nat.le_of_ble_eq_true rfl) ⟨Nat.le_of_ble_eq_true rfl, Nat.le_of_ble_eq_true rfl⟩ ⟨Nat.le_refl _, Nat.le_refl _⟩ dX0_leastSum_60 (fun w5 H locs hf hZ => ?_)
  refine lv_aload_n (pc := 63) hx hb dX0_leastSum_63 rfl (lv_at hl 0 rfl) ?_
  refine kX0_67 (pc := 64) hC hA hZ hf hl.1 (Nat.le_of_ble_eq_true rfl) ⟨Nat.le_of_ble_eq_true rfl, Nat.le_of_ble_eq_true rfl⟩ ⟨Nat.le_refl _, Nat.le_refl _⟩ dX0_leastSum_64 (fun v7 w6 H locs hf hZ => ?_)
  refine lv_istore (pc := 67) (lv' := [(4, .int v7), (0, .ref (a0 5)), (1, .int x1), (2, .int x2), (3, .int x3)]) hx hb dX0_leastSum_67 hl (by decide) rfl (fun ls hl => ?_)
  refine lv_iload (pc := 69) hx hb dX0_leastSum_69 (lv_at hl 0 rfl) ?_
  refine z_ge0 (pc := 71) (tgt := 77) hC hf dX0_leastSum_71 (by decide) (fun hf => ?_) (fun hf => ?_)
  · refine lv_iload_n (pc := 77) hx hb dX0_leastSum_77 rfl (lv_at hl 3 rfl) ?_
    refine lv_aload_n (pc := 78) hx hb dX0_leastSum_78 rfl (lv_at hl 1 rfl) ?_
    refine gfX0_33 (pc := 79) hC hZ dX0_leastSum_79 ?_
    refine lv_iload (pc := 82) hx hb dX0_leastSum_82 (lv_at hl 0 rfl) ?_
    refine z_iald (pc := 84) hC hZ (by decide) rfl hf dX0_leastSum_84 (fun v8 hf => ?_)
    refine lv_aload_n (pc := 85) hx hb dX0_leastSum_85 rfl (lv_at hl 1 rfl) ?_
    refine lv_iload (pc := 86) hx hb dX0_leastSum_86 (lv_at hl 0 rfl) ?_
    refine kX0_71 (pc := 88) hC hA hZ hf hl.1 (Nat.le_of_ble_eq_true rfl) ⟨Nat.le_of_ble_eq_true rfl, Nat.le_of_ble_eq_true rfl⟩ ⟨Nat.le_refl _, Nat.le_refl _⟩ dX0_leastSum_88 (fun v10 w9 H locs hf hZ => ?_)
    refine lv_imul (pc := 91) hx hb dX0_leastSum_91 ?_
    refine lv_iadd (pc := 92) hx hb dX0_leastSum_92 ?_
    refine lv_istore_n (pc := 93) (lv' := [(2, .int (x2 + (v8 * v10))), (4, .int v7), (0, .ref (a0 5)), (1, .int x1), (3, .int x3)]) hx hb dX0_leastSum_93 rfl hl (by decide) rfl (fun ls hl => ?_)
    refine lv_iinc (pc := 94) (v := (x3 + (1 : Int32))) (lv' := [(3, .int (x3 + (1 : Int32))), (2, .int (x2 + (v8 * v10))), (4, .int v7), (0, .ref (a0 5)), (1, .int x1)]) hx hb dX0_leastSum_94 hl (k := 4) rfl rfl (by decide) rfl (fun ls hl => ?_)
    refine lv_goto (pc := 97) (tgt := 52) hx hb dX0_leastSum_97 (by decide) ?_
    exact ih ((x2 + (v8 * v10)), (x3 + (1 : Int32)), w9) hf H locs ls hZ (lv_sub hl [3, 4, 1, 0] rfl)
  refine lv_goto (pc := 74) (tgt := 100) hx hb dX0_leastSum_74 (by decide) ?_
  exact hK x2 x3 w6 H locs ls hf hZ (lv_sub hl [1, 2, 3, 4] rfl)
set_option maxHeartbeats 4000000 in
set_option maxRecDepth 100000 in
theorem cX0_leastSum_ok (l : Launch) (D : va_G) (cy : Nat → ClassId) (a0 aT aP : Nat → Nat) (N : Nat) (x1 : Int32) (w0 : zS) (rv : Int32) (τ : zS) (hf : fX0_leastSum N x1 w0 = some (rv, τ)) : zMi l yX0_leastSum cX0_leastSum 5 (some .int) rmX0_leastSum D cy shX 38 a0 aT aP w0 [.ref (a0 5), .int x1] rv τ (fun u => u = (aT, aP)) := by
  refine zmet_i (by decide +kernel) (Or.inl rfl) (Nat.le_of_ble_eq_true rfl) ?_
  intro p e s m below meth c A Q ls hC hA hZ hl hE
  have hx := hC.1.1
  have hb := hC.1.2.1
  have hl : lv_has ls 5 [(0, .ref (a0 5)), (1, .int x1)] := hl
  unfold fX0_leastSum at hf
  refine lv_aload_n (pc := 0) hx hb dX0_leastSum_0 rfl (lv_at hl 0 rfl) ?_
  refine lv_iload_n (pc := 1) hx hb dX0_leastSum_1 rfl (lv_at hl 1 rfl) ?_
  refine lv_bipush (pc := 2) (v := (10 : Int32)) hx hb dX0_leastSum_2 (by decide) ?_
  refine z_min (pc := 4) hC mkX0_42 hl.1 (Nat.le_of_ble_eq_true rfl) (Nat.le_of_ble_eq_true rfl) ⟨Nat.le_refl _, Nat.le_refl _⟩ dX0_leastSum_4 ?_
  refine pfX0_48 (pc := 7) hC hZ hf dX0_leastSum_7 (fun w1 H locs hf hZ => ?_)
  refine lv_aload_n (pc := 10) hx hb dX0_leastSum_10 rfl (lv_at hl 0 rfl) ?_
  refine gfX0_9 (pc := 11) hC hZ dX0_leastSum_11 ?_
  refine lv_iconst (pc := 14) (v := (0 : Int32)) hx hb dX0_leastSum_14 (by decide) ?_
  refine lv_aload_n (pc := 15) hx hb dX0_leastSum_15 rfl (lv_at hl 0 rfl) ?_
  refine gfX0_24 (pc := 16) hC hZ dX0_leastSum_16 ?_
  refine lv_iconst (pc := 19) (v := (0 : Int32)) hx hb dX0_leastSum_19 (by decide) ?_
  refine lv_bipush (pc := 20) (v := (10 : Int32)) hx hb dX0_leastSum_20 (by decide) ?_
  refine z_copy (pc := 22) hC ckX0_52 hl.1 hZ (by decide) (by decide) rfl rfl hf (by decide) (by decide) (by decide) (by decide) (by decide) (Nat.le_of_ble_eq_true rfl) (Nat.le_of_ble_eq_true rfl) dX0_leastSum_22 (fun w2 H locs hf hZ => ?_)
  refine lv_aload_n (pc := 25) hx hb dX0_leastSum_25 rfl (lv_at hl 0 rfl) ?_
  refine gfX0_15 (pc := 26) hC hZ dX0_leastSum_26 ?_
  refine lv_iconst (pc := 29) (v := (0 : Int32)) hx hb dX0_leastSum_29 (by decide) ?_
  refine lv_aload_n (pc := 30) hx hb dX0_leastSum_30 rfl (lv_at hl 0 rfl) ?_
  refine gfX0_27 (pc := 31) hC hZ dX0_leastSum_31 ?_
  refine lv_iconst (pc := 34) (v := (0 : Int32)) hx hb dX0_leastSum_34 (by decide) ?_
  refine lv_bipush (pc := 35) (v := (10 : Int32)) hx hb dX0_leastSum_35 (by decide) ?_
  refine z_copy (pc := 37) hC ckX0_52 hl.1 hZ (by decide) (by decide) rfl rfl hf (by decide) (by decide) (by decide) (by decide) (by decide) (Nat.le_of_ble_eq_true rfl) (Nat.le_of_ble_eq_true rfl) dX0_leastSum_37 (fun w3 H locs hf hZ => ?_)
  refine lv_aload_n (pc := 40) hx hb dX0_leastSum_40 rfl (lv_at hl 0 rfl) ?_
  refine gfX0_21 (pc := 41) hC hZ dX0_leastSum_41 ?_
  refine lv_iconst (pc := 44) (v := (0 : Int32)) hx hb dX0_leastSum_44 (by decide) ?_
  refine kX0_58_J7_fill_53178_c31 (pc := 45) hC hA hZ hf hl.1 (Nat.le_of_ble_eq_true rfl) ⟨Nat.le_of_ble_eq_true rfl, Nat.le_of_ble_eq_true rfl⟩ ⟨Nat.le_refl _, Nat.le_refl _⟩ dX0_leastSum_45 (fun w4 H locs hf hZ => ?_)
  refine lv_iconst (pc := 48) (v := (0 : Int32)) hx hb dX0_leastSum_48 (by decide) ?_
  refine lv_istore_n (pc := 49) (lv' := [(2, .int (0 : Int32)), (0, .ref (a0 5)), (1, .int x1)]) hx hb dX0_leastSum_49 rfl hl (by decide) rfl (fun ls hl => ?_)
  refine lv_iconst (pc := 50) (v := (0 : Int32)) hx hb dX0_leastSum_50 (by decide) ?_
  refine lv_istore_n (pc := 51) (lv' := [(3, .int (0 : Int32)), (2, .int (0 : Int32)), (0, .ref (a0 5)), (1, .int x1)]) hx hb dX0_leastSum_51 rfl hl (by decide) rfl (fun ls hl => ?_)
  refine wX0_leastSum_52 (res := (rv, τ)) N x1 hC hA hE N _ _ _ hf hZ (lv_sub hl [2, 3, 1, 0] rfl) (fun y11 y12 w13 H locs ls hf hZ hl => ?_)
  refine lv_iload_n (pc := 100) hx hb dX0_leastSum_100 rfl (lv_at hl 2 rfl) ?_
  obtain ⟨rfl, rfl⟩ := zinj hf
  exact hE _ _ _ _ _ _ rfl hZ dX0_leastSum_101
section ZK
variable {p : Program} {l : Launch} {e : Env} {R : Room} {s : State} {m : MethodId} {args : Array Value} {below : List Frame} {meth : Method} {c : Code} {H : Heap} {locs : List Loc} {cells slots : Nat} {Q : State → Prop}
variable {pc : Nat} {ls : Array Slot} {rest : List Value} {A : Nat → Prop} {H0 : Heap} {D : va_G} {cy : Nat → ClassId} {a0 aT aP : Nat → Nat} {σ : zS} {cc : ByteArray} {nL : Nat} {α : Type} {res : α}
theorem vkX7_232 : zVk RX7 232 yX0_leastSum cX0_leastSum 5 (some .int) 1 := ⟨by decide +kernel, by decide +kernel, by decide +kernel, by decide +kernel, by decide +kernel, by decide +kernel⟩
theorem kX7_232 (hC : zC p s m args c RX7 cc nL D cy) (hA : ∀ q, H0.size ≤ q → A q) (hZ : zW D cy shX 38 a0 aT aP A H0 σ H locs) {N : Nat} {x1 : Int32} {k : Int32 → zS → Option α} (hf : zbi (fX0_leastSum N x1 σ) k = some res) (hsz : ls.size = nL) (hW : (rest.map fun v => v.category).sum ≤ 8) (hR : rmX0_leastSum.frames + 1 ≤ R.frames ∧ 8 + (5 + 11) + rmX0_leastSum.locals ≤ R.locals) (hcs : cells ≤ R.cells ∧ slots ≤ R.slots) (hdg : decode cc pc = .ok (.invokevirtual 232, 3)) (kk : ∀ (v : Int32) (τ : zS) (H1 : Heap) (locs1 : List Loc), k v τ = some res → zW D cy shX 38 a0 aT aP A H0 τ H1 locs1 → W p l e R s m args below meth c H1 locs1 cells slots Q (F0 m (pc + 3) ls (.int v :: rest))) : W p l e R s m args below meth c H locs cells slots Q (F0 m pc ls (.int x1 :: .ref (a0 5) :: rest)) := by
  cases hq : fX0_leastSum N x1 σ with
  | none => rw [hq] at hf; cases hf
  | some q =>
    rw [hq] at hf
    exact zcalli hA hZ (zrun hC hZ vkX7_232 rfl (zw0 (by decide)) (cX0_leastSum_ok l D cy a0 aT aP N x1 σ q.1 q.2 hq H.size) hR rfl hsz rfl hW hcs hdg) (fun u H1 locs1 hU hZ1 => by subst hU; exact kk q.1 q.2 H1 locs1 hf hZ1)
end ZK
set_option maxHeartbeats 4000000 in
set_option maxRecDepth 100000 in
theorem cX7_plan_ok (l : Launch) (D : va_G) (cy : Nat → ClassId) (a0 aT aP : Nat → Nat) (N : Nat)  (w0 : zS) (rv : Int32) (τ : zS) (hf : fX7_plan N  w0 = some (rv, τ)) : zMi l yX7_plan cX7_plan 1 (some .int) rmX7_plan D cy shX 38 a0 aT aP w0 [.ref (a0 0)] rv τ (fun u => u = (aT, aP)) := by
  refine zmet_i (by decide +kernel) (Or.inl rfl) (Nat.le_of_ble_eq_true rfl) ?_
  intro p e s m below meth c A Q ls hC hA hZ hl hE
  have hx := hC.1.1
  have hb := hC.1.2.1
  have hl : lv_has ls 1 [(0, .ref (a0 0))] := hl
  unfold fX7_plan at hf
  refine lv_aload_n (pc := 0) hx hb dX7_plan_0 rfl (lv_at hl 0 rfl) ?_
  refine gfX7_56 (pc := 1) hC hZ dX7_plan_1 ?_
  refine kX7_229 (pc := 4) hC hA hZ hf hl.1 (Nat.le_of_ble_eq_true rfl) ⟨Nat.le_of_ble_eq_true rfl, Nat.le_of_ble_eq_true rfl⟩ ⟨Nat.le_refl _, Nat.le_refl _⟩ dX7_plan_4 (fun v2 w1 H locs hf hZ => ?_)
  refine z_ne0 (pc := 7) (tgt := 17) hC hf dX7_plan_7 (by decide) (fun hf => ?_) (fun hf => ?_)
  · refine lv_aload_n (pc := 10) hx hb dX7_plan_10 rfl (lv_at hl 0 rfl) ?_
    refine lv_bipush (pc := 11) (v := (-5 : Int32)) hx hb dX7_plan_11 (by decide) ?_
    refine kX7_73 (pc := 13) hC hA hZ hf hl.1 (Nat.le_of_ble_eq_true rfl) ⟨Nat.le_of_ble_eq_true rfl, Nat.le_of_ble_eq_true rfl⟩ ⟨Nat.le_refl _, Nat.le_refl _⟩ dX7_plan_13 (fun v4 w3 H locs hf hZ => ?_)
    obtain ⟨rfl, rfl⟩ := zinj hf
    exact hE _ _ _ _ _ _ rfl hZ dX7_plan_16
  refine lv_aload_n (pc := 17) hx hb dX7_plan_17 rfl (lv_at hl 0 rfl) ?_
  refine gfX7_56 (pc := 18) hC hZ dX7_plan_18 ?_
  refine lv_aload_n (pc := 21) hx hb dX7_plan_21 rfl (lv_at hl 0 rfl) ?_
  refine gfX7_64 (pc := 22) hC hZ dX7_plan_22 ?_
  refine kX7_232 (pc := 25) hC hA hZ hf hl.1 (Nat.le_of_ble_eq_true rfl) ⟨Nat.le_of_ble_eq_true rfl, Nat.le_of_ble_eq_true rfl⟩ ⟨Nat.le_refl _, Nat.le_refl _⟩ dX7_plan_25 (fun v6 w5 H locs hf hZ => ?_)
  obtain ⟨rfl, rfl⟩ := zinj hf
  exact hE _ _ _ _ _ _ rfl hZ dX7_plan_28
set_option maxHeartbeats 4000000 in
set_option maxRecDepth 100000 in
theorem wX3_sumOfKind_4 {p : Program} {l : Launch} {e : Env} {s : State} {m : MethodId} {args : Array Value} {below : List Frame} {meth : Method} {c : Code} {Q : State → Prop} {A : Nat → Prop} {H0 : Heap} {D : va_G} {cy : Nat → ClassId} {a0 aT aP : Nat → Nat} {res : Int32 × zS} {K : Int32 → Int32 → zS → Option (Int32 × zS)} (N : Nat) (x1 : Int32) (hC : zC p s m args c RX3 cX3_sumOfKind 4 D cy) (hA : ∀ q, H0.size ≤ q → A q) (hE : zEnd p l e rmX3_sumOfKind s m args below meth c Q D cy shX 38 a0 A H0 res.2 (fun u => u = (aT, aP)) cX3_sumOfKind .ireturn [.int res.1]) (n : Nat) (x2 : Int32) (x3 : Int32) (w0 : zS) {H : Heap} {locs : List Loc} {ls : Array Slot} (hf : lX3_sumOfKind_4 N x1 K n (x2, x3, w0) = some res) (hZ : zW D cy shX 38 a0 aT aP A H0 w0 H locs) (hl : lv_has ls 4 [(0, .ref (a0 1)), (1, .int x1), (2, .int x2), (3, .int x3)]) (hK : ∀ x2 : Int32, ∀ x3 : Int32, ∀ (w0 : zS) (H : Heap) (locs : List Loc) (ls : Array Slot), K x2 x3 w0 = some res → zW D cy shX 38 a0 aT aP A H0 w0 H locs → lv_has ls 4 [(0, .ref (a0 1)), (1, .int x1), (2, .int x2), (3, .int x3)] → W p l e rmX3_sumOfKind s m args below meth c H locs 0 0 Q (F0 m 40 ls [])) : W p l e rmX3_sumOfKind s m args below meth c H locs 0 0 Q (F0 m 4 ls []) := by
  have hx := hC.1.1
  have hb := hC.1.2.1
  have hf2 : zlp (fun rc s1 => bX3_sumOfKind_4 N x1 K rc s1.1 s1.2.1 s1.2.2) n (x2, x3, w0) = some res := hf
  have key := zloop (S := Int32 × Int32 × zS) (α := Int32 × zS) (b := fun rc s1 => bX3_sumOfKind_4 N x1 K rc s1.1 s1.2.1 s1.2.2) (r := res) (Wd := fun s1 => ∀ (H : Heap) (locs : List Loc) (ls : Array Slot), zW D cy shX 38 a0 aT aP A H0 s1.2.2 H locs → lv_has ls 4 [(0, .ref (a0 1)), (1, .int x1), (2, .int s1.1), (3, .int s1.2.1)] → W p l e rmX3_sumOfKind s m args below meth c H locs 0 0 Q (F0 m 4 ls []))
  refine key ?_ n (x2, x3, w0) hf2 H locs ls hZ hl
  clear hf hf2 hZ hl key
  rintro rc ⟨x2, x3, w0⟩ ih hf H locs ls hZ hl
  have hf : bX3_sumOfKind_4 N x1 K rc x2 x3 w0 = some res := hf
  have hl : lv_has ls 4 [(0, .ref (a0 1)), (1, .int x1), (2, .int x2), (3, .int x3)] := hl
  unfold bX3_sumOfKind_4 at hf
  refine lv_iload_n (pc := 4) hx hb dX3_sumOfKind_4 rfl (lv_at hl 3 rfl) ?_
  refine lv_aload_n (pc := 5) hx hb dX3_sumOfKind_5 rfl (lv_at hl 0 rfl) ?_
  refine gfX3_24 (pc := 6) hC hZ dX3_sumOfKind_6 ?_
  refine z_ige (pc := 9) (tgt := 40) hC hf dX3_sumOfKind_9 (by decide) (fun hf => ?_) (fun hf => ?_)
  · exact hK x2 x3 w0 H locs ls hf hZ (lv_sub hl [0, 1, 2, 3] rfl)
  refine lv_aload_n (pc := 12) hx hb dX3_sumOfKind_12 rfl (lv_at hl 0 rfl) ?_
  refine gfX3_9 (pc := 13) hC hZ dX3_sumOfKind_13 ?_
  refine lv_iload_n (pc := 16) hx hb dX3_sumOfKind_16 rfl (lv_at hl 3 rfl) ?_
  refine z_iald (pc := 17) hC hZ (by decide) rfl hf dX3_sumOfKind_17 (fun v1 hf => ?_)
  refine lv_bipush (pc := 18) (v := (6 : Int32)) hx hb dX3_sumOfKind_18 (by decide) ?_
  refine z_irem (pc := 20) hC hf dX3_sumOfKind_20 (fun hf => ?_)
  refine lv_iload_n (pc := 21) hx hb dX3_sumOfKind_21 rfl (lv_at hl 1 rfl) ?_
  refine z_ine (pc := 22) (tgt := 34) hC hf dX3_sumOfKind_22 (by decide) (fun hf => ?_) (fun hf => ?_)
  · refine lv_iload_n (pc := 25) hx hb dX3_sumOfKind_25 rfl (lv_at hl 2 rfl) ?_
    refine lv_aload_n (pc := 26) hx hb dX3_sumOfKind_26 rfl (lv_at hl 0 rfl) ?_
    refine gfX3_18 (pc := 27) hC hZ dX3_sumOfKind_27 ?_
    refine lv_iload_n (pc := 30) hx hb dX3_sumOfKind_30 rfl (lv_at hl 3 rfl) ?_
    refine z_iald (pc := 31) hC hZ (by decide) rfl hf dX3_sumOfKind_31 (fun v2 hf => ?_)
    refine lv_iadd (pc := 32) hx hb dX3_sumOfKind_32 ?_
    refine lv_istore_n (pc := 33) (lv' := [(2, .int (x2 + v2)), (0, .ref (a0 1)), (1, .int x1), (3, .int x3)]) hx hb dX3_sumOfKind_33 rfl hl (by decide) rfl (fun ls hl => ?_)
    refine lv_iinc (pc := 34) (v := (x3 + (1 : Int32))) (lv' := [(3, .int (x3 + (1 : Int32))), (2, .int (x2 + v2)), (0, .ref (a0 1)), (1, .int x1)]) hx hb dX3_sumOfKind_34 hl (k := 3) rfl rfl (by decide) rfl (fun ls hl => ?_)
    refine lv_goto (pc := 37) (tgt := 4) hx hb dX3_sumOfKind_37 (by decide) ?_
    exact ih ((x2 + v2), (x3 + (1 : Int32)), w0) hf H locs ls hZ (lv_sub hl [2, 3, 1, 0] rfl)
  refine lv_iinc (pc := 34) (v := (x3 + (1 : Int32))) (lv' := [(3, .int (x3 + (1 : Int32))), (0, .ref (a0 1)), (1, .int x1), (2, .int x2)]) hx hb dX3_sumOfKind_34 hl (k := 3) rfl rfl (by decide) rfl (fun ls hl => ?_)
  refine lv_goto (pc := 37) (tgt := 4) hx hb dX3_sumOfKind_37 (by decide) ?_
  exact ih (x2, (x3 + (1 : Int32)), w0) hf H locs ls hZ (lv_sub hl [1, 2, 3, 0] rfl)
set_option maxHeartbeats 4000000 in
set_option maxRecDepth 100000 in
theorem cX3_sumOfKind_ok (l : Launch) (D : va_G) (cy : Nat → ClassId) (a0 aT aP : Nat → Nat) (N : Nat) (x1 : Int32) (w0 : zS) (rv : Int32) (τ : zS) (hf : fX3_sumOfKind N x1 w0 = some (rv, τ)) : zMi l yX3_sumOfKind cX3_sumOfKind 4 (some .int) rmX3_sumOfKind D cy shX 38 a0 aT aP w0 [.ref (a0 1), .int x1] rv τ (fun u => u = (aT, aP)) := by
  refine zmet_i (by decide +kernel) (Or.inl rfl) (Nat.le_of_ble_eq_true rfl) ?_
  intro p e s m below meth c A Q ls hC hA hZ hl hE
  have hx := hC.1.1
  have hb := hC.1.2.1
  have hl : lv_has ls 4 [(0, .ref (a0 1)), (1, .int x1)] := hl
  unfold fX3_sumOfKind at hf
  refine lv_iconst (pc := 0) (v := (0 : Int32)) hx hb dX3_sumOfKind_0 (by decide) ?_
  refine lv_istore_n (pc := 1) (lv' := [(2, .int (0 : Int32)), (0, .ref (a0 1)), (1, .int x1)]) hx hb dX3_sumOfKind_1 rfl hl (by decide) rfl (fun ls hl => ?_)
  refine lv_iconst (pc := 2) (v := (0 : Int32)) hx hb dX3_sumOfKind_2 (by decide) ?_
  refine lv_istore_n (pc := 3) (lv' := [(3, .int (0 : Int32)), (2, .int (0 : Int32)), (0, .ref (a0 1)), (1, .int x1)]) hx hb dX3_sumOfKind_3 rfl hl (by decide) rfl (fun ls hl => ?_)
  refine wX3_sumOfKind_4 (res := (rv, τ)) N x1 hC hA hE N _ _ _ hf hZ (lv_sub hl [2, 3, 1, 0] rfl) (fun y3 y4 w5 H locs ls hf hZ hl => ?_)
  refine lv_iload_n (pc := 40) hx hb dX3_sumOfKind_40 rfl (lv_at hl 2 rfl) ?_
  obtain ⟨rfl, rfl⟩ := zinj hf
  exact hE _ _ _ _ _ _ rfl hZ dX3_sumOfKind_41
section ZK
variable {p : Program} {l : Launch} {e : Env} {R : Room} {s : State} {m : MethodId} {args : Array Value} {below : List Frame} {meth : Method} {c : Code} {H : Heap} {locs : List Loc} {cells slots : Nat} {Q : State → Prop}
variable {pc : Nat} {ls : Array Slot} {rest : List Value} {A : Nat → Prop} {H0 : Heap} {D : va_G} {cy : Nat → ClassId} {a0 aT aP : Nat → Nat} {σ : zS} {cc : ByteArray} {nL : Nat} {α : Type} {res : α}
theorem vkX7_235 : zVk RX7 235 yX3_sumOfKind cX3_sumOfKind 4 (some .int) 1 := ⟨by decide +kernel, by decide +kernel, by decide +kernel, by decide +kernel, by decide +kernel, by decide +kernel⟩
theorem kX7_235 (hC : zC p s m args c RX7 cc nL D cy) (hA : ∀ q, H0.size ≤ q → A q) (hZ : zW D cy shX 38 a0 aT aP A H0 σ H locs) {N : Nat} {x1 : Int32} {k : Int32 → zS → Option α} (hf : zbi (fX3_sumOfKind N x1 σ) k = some res) (hsz : ls.size = nL) (hW : (rest.map fun v => v.category).sum ≤ 8) (hR : rmX3_sumOfKind.frames + 1 ≤ R.frames ∧ 8 + (4 + 11) + rmX3_sumOfKind.locals ≤ R.locals) (hcs : cells ≤ R.cells ∧ slots ≤ R.slots) (hdg : decode cc pc = .ok (.invokevirtual 235, 3)) (kk : ∀ (v : Int32) (τ : zS) (H1 : Heap) (locs1 : List Loc), k v τ = some res → zW D cy shX 38 a0 aT aP A H0 τ H1 locs1 → W p l e R s m args below meth c H1 locs1 cells slots Q (F0 m (pc + 3) ls (.int v :: rest))) : W p l e R s m args below meth c H locs cells slots Q (F0 m pc ls (.int x1 :: .ref (a0 1) :: rest)) := by
  cases hq : fX3_sumOfKind N x1 σ with
  | none => rw [hq] at hf; cases hf
  | some q =>
    rw [hq] at hf
    exact zcalli hA hZ (zrun hC hZ vkX7_235 rfl (zw0 (by decide)) (cX3_sumOfKind_ok l D cy a0 aT aP N x1 σ q.1 q.2 hq H.size) hR rfl hsz rfl hW hcs hdg) (fun u H1 locs1 hU hZ1 => by subst hU; exact kk q.1 q.2 H1 locs1 hf hZ1)
end ZK
