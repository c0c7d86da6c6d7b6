set_option maxHeartbeats 4000000 in
set_option maxRecDepth 100000 in
theorem wX0_reachGivers_14 {p : Program} {l : Launch} {e : Env} {s : State} {m : MethodId} {args : Array Value} {below : List Frame} {meth : Method} {c : Code} {Q : State → Prop} {A : Nat → Prop} {H0 : Heap} {D : va_G} {cy : Nat → ClassId} {a0 aT aP : Nat → Nat} {res : Int32 × zS} {K : Int32 → Int32 → zS → Option (Int32 × zS)} (N : Nat) (x2 : Int32) (hC : zC p s m args c RX0 cX0_reachGivers 5 D cy) (hA : ∀ q, H0.size ≤ q → A q) (hE : (res.1 = 0 ∨ res.1 = 1) → zEnd p l e rmX0_reachGivers s m args below meth c Q D cy shX 38 a0 A H0 res.2 (fun u => u = (aT, aP)) cX0_reachGivers .ireturn [.int res.1]) (n : Nat) (x1 : Int32) (x3 : Int32) (w0 : zS) {H : Heap} {locs : List Loc} {ls : Array Slot} (hf : lX0_reachGivers_14 N x2 K n (x1, x3, w0) = some res) (hZ : zW D cy shX 38 a0 aT aP A H0 w0 H locs) (hl : lv_has ls 5 [(0, .ref (a0 5)), (1, .int x1), (2, .int x2), (3, .int x3)]) (hK : ∀ x1 : Int32, ∀ x3 : Int32, ∀ (w0 : zS) (H : Heap) (locs : List Loc) (ls : Array Slot), K x1 x3 w0 = some res → zW D cy shX 38 a0 aT aP A H0 w0 H locs → lv_has ls 5 [(0, .ref (a0 5)), (1, .int x1), (2, .int x2), (3, .int x3)] → W p l e rmX0_reachGivers s m args below meth c H locs 0 0 Q (F0 m 90 ls [])) : W p l e rmX0_reachGivers s m args below meth c H locs 0 0 Q (F0 m 14 ls []) := by
  have hx := hC.1.1
  have hb := hC.1.2.1
  have hf2 : zlp (fun rc s1 => bX0_reachGivers_14 N x2 K rc s1.1 s1.2.1 s1.2.2) n (x1, x3, w0) = some res := hf
  have key := zloop (S := Int32 × Int32 × zS) (α := Int32 × zS) (b := fun rc s1 => bX0_reachGivers_14 N x2 K rc s1.1 s1.2.1 s1.2.2) (r := res) (Wd := fun s1 => ∀ (H : Heap) (locs : List Loc) (ls : Array Slot), zW D cy shX 38 a0 aT aP A H0 s1.2.2 H locs → lv_has ls 5 [(0, .ref (a0 5)), (1, .int s1.1), (2, .int x2), (3, .int s1.2.1)] → W p l e rmX0_reachGivers s m args below meth c H locs 0 0 Q (F0 m 14 ls []))
  refine key ?_ n (x1, x3, w0) hf2 H locs ls hZ hl
  clear hf hf2 hZ hl key
  rintro rc ⟨x1, x3, w0⟩ ih hf H locs ls hZ hl
  have hf : bX0_reachGivers_14 N x2 K rc x1 x3 w0 = some res := hf
  have hl : lv_has ls 5 [(0, .ref (a0 5)), (1, .int x1), (2, .int x2), (3, .int x3)] := hl
  unfold bX0_reachGivers_14 at hf
  refine lv_iload_n (pc := 14) hx hb dX0_reachGivers_14 rfl (lv_at hl 3 rfl) ?_
  refine lv_aload_n (pc := 15) hx hb dX0_reachGivers_15 rfl (lv_at hl 0 rfl) ?_
  refine gfX0_48 (pc := 16) hC hZ dX0_reachGivers_16 ?_
  refine z_ige (pc := 19) (tgt := 90) hC hf dX0_reachGivers_19 (by decide) (fun hf => ?_) (fun hf => ?_)
  · exact hK x1 x3 w0 H locs ls hf hZ (lv_sub hl [0, 1, 2, 3] rfl)
  refine lv_aload_n (pc := 22) hx hb dX0_reachGivers_22 rfl (lv_at hl 0 rfl) ?_
  refine gfX0_33 (pc := 23) hC hZ dX0_reachGivers_23 ?_
  refine lv_iload_n (pc := 26) hx hb dX0_reachGivers_26 rfl (lv_at hl 3 rfl) ?_
  refine z_iald (pc := 27) hC hZ (by decide) rfl hf dX0_reachGivers_27 (fun v1 hf => ?_)
  refine lv_aload_n (pc := 28) hx hb dX0_reachGivers_28 rfl (lv_at hl 0 rfl) ?_
  refine gfX0_18 (pc := 29) hC hZ dX0_reachGivers_29 ?_
  refine lv_iload_n (pc := 32) hx hb dX0_reachGivers_32 rfl (lv_at hl 2 rfl) ?_
  refine lv_bipush (pc := 33) (v := (10 : Int32)) hx hb dX0_reachGivers_33 (by decide) ?_
  refine lv_imul (pc := 35) hx hb dX0_reachGivers_35 ?_
  refine lv_iload_n (pc := 36) hx hb dX0_reachGivers_36 rfl (lv_at hl 3 rfl) ?_
  refine lv_iadd (pc := 37) hx hb dX0_reachGivers_37 ?_
  refine z_iald (pc := 38) hC hZ (by decide) rfl hf dX0_reachGivers_38 (fun v2 hf => ?_)
  refine lv_isub (pc := 39) hx hb dX0_reachGivers_39 ?_
  refine lv_istore (pc := 40) (lv' := [(4, .int (v1 - v2)), (0, .ref (a0 5)), (1, .int x1), (2, .int x2), (3, .int x3)]) hx hb dX0_reachGivers_40 hl (by decide) rfl (fun ls hl => ?_)
  refine lv_aload_n (pc := 42) hx hb dX0_reachGivers_42 rfl (lv_at hl 1 rfl) ?_
  refine gfX0_21 (pc := 43) hC hZ dX0_reachGivers_43 ?_
  refine lv_iload_n (pc := 46) hx hb dX0_reachGivers_46 rfl (lv_at hl 3 rfl) ?_
  refine lv_bipush (pc := 47) (v := (10 : Int32)) hx hb dX0_reachGivers_47 (by decide) ?_
  refine lv_imul (pc := 49) hx hb dX0_reachGivers_49 ?_
  refine lv_iload_n (pc := 50) hx hb dX0_reachGivers_50 rfl (lv_at hl 4 rfl) ?_
  refine lv_iadd (pc := 51) hx hb dX0_reachGivers_51 ?_
  refine z_iald (pc := 52) hC hZ (by decide) rfl hf dX0_reachGivers_52 (fun v3 hf => ?_)
  refine z_le0 (pc := 53) (tgt := 84) hC hf dX0_reachGivers_53 (by decide) (fun hf => ?_) (fun hf => ?_)
  · refine lv_iinc (pc := 84) (v := (x3 + (1 : Int32))) (lv' := [(3, .int (x3 + (1 : Int32))), (4, .int (v1 - v2)), (0, .ref (a0 5)), (1, .int x1), (2, .int x2)]) hx hb dX0_reachGivers_84 hl (k := 4) rfl rfl (by decide) rfl (fun ls hl => ?_)
    refine lv_goto (pc := 87) (tgt := 14) hx hb dX0_reachGivers_87 (by decide) ?_
    exact ih (x1, (x3 + (1 : Int32)), w0) hf H locs ls hZ (lv_sub hl [2, 3, 4, 0] rfl)
  refine lv_iload (pc := 56) hx hb dX0_reachGivers_56 (lv_at hl 0 rfl) ?_
  refine lv_aload_n (pc := 58) hx hb dX0_reachGivers_58 rfl (lv_at hl 1 rfl) ?_
  refine gfX0_30 (pc := 59) hC hZ dX0_reachGivers_59 ?_
  refine lv_iload_n (pc := 62) hx hb dX0_reachGivers_62 rfl (lv_at hl 3 rfl) ?_
  refine z_iald (pc := 63) hC hZ (by decide) rfl hf dX0_reachGivers_63 (fun v4 hf => ?_)
  refine z_ige (pc := 64) (tgt := 84) hC hf dX0_reachGivers_64 (by decide) (fun hf => ?_) (fun hf => ?_)
  · refine lv_iinc (pc := 84) (v := (x3 + (1 : Int32))) (lv' := [(3, .int (x3 + (1 : Int32))), (4, .int (v1 - v2)), (0, .ref (a0 5)), (1, .int x1), (2, .int x2)]) hx hb dX0_reachGivers_84 hl (k := 4) rfl rfl (by decide) rfl (fun ls hl => ?_)
    refine lv_goto (pc := 87) (tgt := 14) hx hb dX0_reachGivers_87 (by decide) ?_
    exact ih (x1, (x3 + (1 : Int32)), w0) hf H locs ls hZ (lv_sub hl [2, 3, 4, 0] rfl)
  refine lv_aload_n (pc := 67) hx hb dX0_reachGivers_67 rfl (lv_at hl 1 rfl) ?_
  refine gfX0_30 (pc := 68) hC hZ dX0_reachGivers_68 ?_
  refine lv_iload_n (pc := 71) hx hb dX0_reachGivers_71 rfl (lv_at hl 3 rfl) ?_
  refine lv_iload (pc := 72) hx hb dX0_reachGivers_72 (lv_at hl 0 rfl) ?_
  refine z_iast (pc := 74) hC hZ (by decide) rfl hf dX0_reachGivers_74 (fun w5 H locs hf hZ => ?_)
  refine lv_aload_n (pc := 75) hx hb dX0_reachGivers_75 rfl (lv_at hl 1 rfl) ?_
  refine gfX0_39 (pc := 76) hC hZ dX0_reachGivers_76 ?_
  refine lv_iload_n (pc := 79) hx hb dX0_reachGivers_79 rfl (lv_at hl 3 rfl) ?_
  refine lv_iload_n (pc := 80) hx hb dX0_reachGivers_80 rfl (lv_at hl 4 rfl) ?_
  refine z_iast (pc := 81) hC hZ (by decide) rfl hf dX0_reachGivers_81 (fun w6 H locs hf hZ => ?_)
  refine lv_iconst (pc := 82) (v := (1 : Int32)) hx hb dX0_reachGivers_82 (by decide) ?_
  refine lv_istore_n (pc := 83) (lv' := [(1, .int (1 : Int32)), (4, .int (v1 - v2)), (0, .ref (a0 5)), (2, .int x2), (3, .int x3)]) hx hb dX0_reachGivers_83 rfl hl (by decide) rfl (fun ls hl => ?_)
  refine lv_iinc (pc := 84) (v := (x3 + (1 : Int32))) (lv' := [(3, .int (x3 + (1 : Int32))), (1, .int (1 : Int32)), (4, .int (v1 - v2)), (0, .ref (a0 5)), (2, .int x2)]) hx hb dX0_reachGivers_84 hl (k := 4) rfl rfl (by decide) rfl (fun ls hl => ?_)
  refine lv_goto (pc := 87) (tgt := 14) hx hb dX0_reachGivers_87 (by decide) ?_
  exact ih ((1 : Int32), (x3 + (1 : Int32)), w6) hf H locs ls hZ (lv_sub hl [3, 1, 4, 0] rfl)
set_option maxHeartbeats 4000000 in
set_option maxRecDepth 100000 in
theorem wX0_reachGivers_4 {p : Program} {l : Launch} {e : Env} {s : State} {m : MethodId} {args : Array Value} {below : List Frame} {meth : Method} {c : Code} {Q : State → Prop} {A : Nat → Prop} {H0 : Heap} {D : va_G} {cy : Nat → ClassId} {a0 aT aP : Nat → Nat} {res : Int32 × zS} {K : Int32 → Int32 → zS → Option (Int32 × zS)} (N : Nat)  (hC : zC p s m args c RX0 cX0_reachGivers 5 D cy) (hA : ∀ q, H0.size ≤ q → A q) (hE : (res.1 = 0 ∨ res.1 = 1) → zEnd p l e rmX0_reachGivers s m args below meth c Q D cy shX 38 a0 A H0 res.2 (fun u => u = (aT, aP)) cX0_reachGivers .ireturn [.int res.1]) (n : Nat) (x1 : Int32) (x2 : Int32) (w0 : zS) {H : Heap} {locs : List Loc} {ls : Array Slot} (hf : lX0_reachGivers_4 N  K n (x1, x2, w0) = some res) (hZ : zW D cy shX 38 a0 aT aP A H0 w0 H locs) (hl : lv_has ls 5 [(0, .ref (a0 5)), (1, .int x1), (2, .int x2)]) (hK : ∀ x1 : Int32, ∀ x2 : Int32, ∀ (w0 : zS) (H : Heap) (locs : List Loc) (ls : Array Slot), K x1 x2 w0 = some res → zW D cy shX 38 a0 aT aP A H0 w0 H locs → lv_has ls 5 [(0, .ref (a0 5)), (1, .int x1), (2, .int x2)] → W p l e rmX0_reachGivers s m args below meth c H locs 0 0 Q (F0 m 96 ls [])) : W p l e rmX0_reachGivers s m args below meth c H locs 0 0 Q (F0 m 4 ls []) := by
  have hx := hC.1.1
  have hb := hC.1.2.1
  have hf2 : zlp (fun rc s1 => bX0_reachGivers_4 N  K rc s1.1 s1.2.1 s1.2.2) n (x1, x2, w0) = some res := hf
  have key := zloop (S := Int32 × Int32 × zS) (α := Int32 × zS) (b := fun rc s1 => bX0_reachGivers_4 N  K rc s1.1 s1.2.1 s1.2.2) (r := res) (Wd := fun s1 => ∀ (H : Heap) (locs : List Loc) (ls : Array Slot), zW D cy shX 38 a0 aT aP A H0 s1.2.2 H locs → lv_has ls 5 [(0, .ref (a0 5)), (1, .int s1.1), (2, .int s1.2.1)] → W p l e rmX0_reachGivers s m args below meth c H locs 0 0 Q (F0 m 4 ls []))
  refine key ?_ n (x1, x2, w0) hf2 H locs ls hZ hl
  clear hf hf2 hZ hl key
  rintro rc ⟨x1, x2, w0⟩ ih hf H locs ls hZ hl
  have hf : bX0_reachGivers_4 N  K rc x1 x2 w0 = some res := hf
  have hl : lv_has ls 5 [(0, .ref (a0 5)), (1, .int x1), (2, .int x2)] := hl
  unfold bX0_reachGivers_4 at hf
  refine lv_iload_n (pc := 4) hx hb dX0_reachGivers_4 rfl (lv_at hl 2 rfl) ?_
  refine lv_aload_n (pc := 5) hx hb dX0_reachGivers_5 rfl (lv_at hl 0 rfl) ?_
  refine gfX0_48 (pc := 6) hC hZ dX0_reachGivers_6 ?_
  refine z_ige (pc := 9) (tgt := 96) hC hf dX0_reachGivers_9 (by decide) (fun hf => ?_) (fun hf => ?_)
  · exact hK x1 x2 w0 H locs ls hf hZ (lv_sub hl [0, 1, 2] rfl)
  refine lv_iconst (pc := 12) (v := (0 : Int32)) hx hb dX0_reachGivers_12 (by decide) ?_
  refine lv_istore_n (pc := 13) (lv' := [(3, .int (0 : Int32)), (0, .ref (a0 5)), (1, .int x1), (2, .int x2)]) hx hb dX0_reachGivers_13 rfl hl (by decide) rfl (fun ls hl => ?_)
  refine wX0_reachGivers_14 (res := res) N x2 hC hA hE N _ _ _ hf hZ (lv_sub hl [1, 2, 3, 0] rfl) (fun y7 y8 w9 H locs ls hf hZ hl => ?_)
  refine lv_iinc (pc := 90) (v := (x2 + (1 : Int32))) (lv' := [(2, .int (x2 + (1 : Int32))), (0, .ref (a0 5)), (1, .int y7), (3, .int y8)]) hx hb dX0_reachGivers_90 hl (k := 2) rfl rfl (by decide) rfl (fun ls hl => ?_)
  refine lv_goto (pc := 93) (tgt := 4) hx hb dX0_reachGivers_93 (by decide) ?_
  exact ih (y7, (x2 + (1 : Int32)), w9) hf H locs ls hZ (lv_sub hl [1, 2, 0] rfl)
set_option maxHeartbeats 4000000 in
set_option maxRecDepth 100000 in
theorem cX0_reachGivers_ok (l : Launch) (D : va_G) (cy : Nat → ClassId) (a0 aT aP : Nat → Nat) (N : Nat)  (w0 : zS) (rv : Int32) (τ : zS) (hf : fX0_reachGivers N  w0 = some (rv, τ)) : zMi l yX0_reachGivers cX0_reachGivers 5 (some .boolean) rmX0_reachGivers D cy shX 38 a0 aT aP w0 [.ref (a0 5)] rv τ (fun u => u = (aT, aP)) := by
  refine zmet_z (by decide +kernel) rfl (Nat.le_of_ble_eq_true rfl) ?_
  intro p e s m below meth c A Q ls hC hA hZ hl hE
  have hx := hC.1.1
  have hb := hC.1.2.1
  have hl : lv_has ls 5 [(0, .ref (a0 5))] := hl
  unfold fX0_reachGivers at hf
  refine lv_iconst (pc := 0) (v := (0 : Int32)) hx hb dX0_reachGivers_0 (by decide) ?_
  refine lv_istore_n (pc := 1) (lv' := [(1, .int (0 : Int32)), (0, .ref (a0 5))]) hx hb dX0_reachGivers_1 rfl hl (by decide) rfl (fun ls hl => ?_)
  refine lv_iconst (pc := 2) (v := (0 : Int32)) hx hb dX0_reachGivers_2 (by decide) ?_
  refine lv_istore_n (pc := 3) (lv' := [(2, .int (0 : Int32)), (1, .int (0 : Int32)), (0, .ref (a0 5))]) hx hb dX0_reachGivers_3 rfl hl (by decide) rfl (fun ls hl => ?_)
  refine wX0_reachGivers_4 (res := (rv, τ)) N  hC hA hE N _ _ _ hf hZ (lv_sub hl [2, 1, 0] rfl) (fun y10 y11 w12 H locs ls hf hZ hl => ?_)
  refine lv_iload_n (pc := 96) hx hb dX0_reachGivers_96 rfl (lv_at hl 1 rfl) ?_
  by_cases hz : y10 = 0 ∨ y10 = 1
  · rw [if_pos hz] at hf
    obtain ⟨rfl, rfl⟩ := zinj hf
    exact hE hz _ _ _ _ _ _ rfl hZ dX0_reachGivers_97
  rw [if_neg hz] at hf
  cases hf
section ZK
variable {p : Program} {l : Launch} {e : Env} {R : Room} {s : State} {m : MethodId} {args : Array Value} {below : List Frame} {meth : Method} {c : Code} {H : Heap} {locs : List Loc} {cells slots : Nat} {Q : State → Prop}
variable {pc : Nat} {ls : Array Slot} {rest : List Value} {A : Nat → Prop} {H0 : Heap} {D : va_G} {cy : Nat → ClassId} {a0 aT aP : Nat → Nat} {σ : zS} {cc : ByteArray} {nL : Nat} {α : Type} {res : α}
theorem vkX0_80 : zVk RX0 80 yX0_reachGivers cX0_reachGivers 5 (some .boolean) 0 := ⟨by decide +kernel, by decide +kernel, by decide +kernel, by decide +kernel, by decide +kernel, by decide +kernel⟩
theorem kX0_80 (hC : zC p s m args c RX0 cc nL D cy) (hA : ∀ q, H0.size ≤ q → A q) (hZ : zW D cy shX 38 a0 aT aP A H0 σ H locs) {N : Nat}  {k : Int32 → zS → Option α} (hf : zbi (fX0_reachGivers N  σ) k = some res) (hsz : ls.size = nL) (hW : (rest.map fun v => v.category).sum ≤ 8) (hR : rmX0_reachGivers.frames + 1 ≤ R.frames ∧ 8 + (5 + 11) + rmX0_reachGivers.locals ≤ R.locals) (hcs : cells ≤ R.cells ∧ slots ≤ R.slots) (hdg : decode cc pc = .ok (.invokevirtual 80, 3)) (kk : ∀ (v : Int32) (τ : zS) (H1 : Heap) (locs1 : List Loc), k v τ = some res → zW D cy shX 38 a0 aT aP A H0 τ H1 locs1 → W p l e R s m args below meth c H1 locs1 cells slots Q (F0 m (pc + 3) ls (.int v :: rest))) : W p l e R s m args below meth c H locs cells slots Q (F0 m pc ls (.ref (a0 5) :: rest)) := by
  cases hq : fX0_reachGivers N  σ with
  | none => rw [hq] at hf; cases hf
  | some q =>
    rw [hq] at hf
    exact zcalli hA hZ (zrun hC hZ vkX0_80 rfl (zw0 (by decide)) (cX0_reachGivers_ok l D cy a0 aT aP N  σ q.1 q.2 hq H.size) hR rfl hsz rfl hW hcs hdg) (fun u H1 locs1 hU hZ1 => by subst hU; exact kk q.1 q.2 H1 locs1 hf hZ1)
end ZK
set_option maxHeartbeats 4000000 in
set_option maxRecDepth 100000 in
theorem wX0_findChains_2 {p : Program} {l : Launch} {e : Env} {s : State} {m : MethodId} {args : Array Value} {below : List Frame} {meth : Method} {c : Code} {Q : State → Prop} {A : Nat → Prop} {H0 : Heap} {D : va_G} {cy : Nat → ClassId} {a0 aT aP : Nat → Nat} {res : zS} {K : Int32 → zS → Option (zS)} (N : Nat)  (hC : zC p s m args c RX0 cX0_findChains 3 D cy) (hA : ∀ q, H0.size ≤ q → A q) (hE : zEnd p l e rmX0_findChains s m args below meth c Q D cy shX 38 a0 A H0 res (fun u => u = (aT, aP)) cX0_findChains .return_ []) (n : Nat) (x1 : Int32) (w0 : zS) {H : Heap} {locs : List Loc} {ls : Array Slot} (hf : lX0_findChains_2 N  K n (x1, w0) = some res) (hZ : zW D cy shX 38 a0 aT aP A H0 w0 H locs) (hl : lv_has ls 3 [(0, .ref (a0 5)), (1, .int x1)]) (hK : ∀ x1 : Int32, ∀ (w0 : zS) (H : Heap) (locs : List Loc) (ls : Array Slot), K x1 w0 = some res → zW D cy shX 38 a0 aT aP A H0 w0 H locs → lv_has ls 3 [(0, .ref (a0 5)), (1, .int x1)] → W p l e rmX0_findChains s m args below meth c H locs 0 0 Q (F0 m 57 ls [])) : W p l e rmX0_findChains s m args below meth c H locs 0 0 Q (F0 m 2 ls []) := by
  have hx := hC.1.1
  have hb := hC.1.2.1
  have hf2 : zlp (fun rc s1 => bX0_findChains_2 N  K rc s1.1 s1.2) n (x1, w0) = some res := hf
  have key := zloop (S := Int32 × zS) (α := zS) (b := fun rc s1 => bX0_findChains_2 N  K rc s1.1 s1.2) (r := res) (Wd := fun s1 => ∀ (H : Heap) (locs : List Loc) (ls : Array Slot), zW D cy shX 38 a0 aT aP A H0 s1.2 H locs → lv_has ls 3 [(0, .ref (a0 5)), (1, .int s1.1)] → W p l e rmX0_findChains s m args below meth c H locs 0 0 Q (F0 m 2 ls []))
  refine key ?_ n (x1, w0) hf2 H locs ls hZ hl
  clear hf hf2 hZ hl key
  rintro rc ⟨x1, w0⟩ ih hf H locs ls hZ hl
  have hf : bX0_findChains_2 N  K rc x1 w0 = some res := hf
  have hl : lv_has ls 3 [(0, .ref (a0 5)), (1, .int x1)] := hl
  unfold bX0_findChains_2 at hf
  refine lv_iload_n (pc := 2) hx hb dX0_findChains_2 rfl (lv_at hl 1 rfl) ?_
  refine lv_bipush (pc := 3) (v := (10 : Int32)) hx hb dX0_findChains_3 (by decide) ?_
  refine z_ige (pc := 5) (tgt := 57) hC hf dX0_findChains_5 (by decide) (fun hf => ?_) (fun hf => ?_)
  · exact hK x1 w0 H locs ls hf hZ (lv_sub hl [0, 1] rfl)
  refine lv_aload_n (pc := 8) hx hb dX0_findChains_8 rfl (lv_at hl 0 rfl) ?_
  refine gfX0_30 (pc := 9) hC hZ dX0_findChains_9 ?_
  refine lv_iload_n (pc := 12) hx hb dX0_findChains_12 rfl (lv_at hl 1 rfl) ?_
  refine lv_aload_n (pc := 13) hx hb dX0_findChains_13 rfl (lv_at hl 0 rfl) ?_
  refine gfX0_24 (pc := 14) hC hZ dX0_findChains_14 ?_
  refine lv_iload_n (pc := 17) hx hb dX0_findChains_17 rfl (lv_at hl 1 rfl) ?_
  refine z_iald (pc := 18) hC hZ (by decide) rfl hf dX0_findChains_18 (fun v1 hf => ?_)
  refine z_le0 (pc := 19) (tgt := 26) hC hf dX0_findChains_19 (by decide) (fun hf => ?_) (fun hf => ?_)
  · refine lv_ldc (pc := 26) (v := (1000000000 : Int32)) hx hb hC.1.2.2.2.1 (hC.1.2.2.2.2 _ kcX0_75) dX0_findChains_26 ?_
    refine z_iast (pc := 28) hC hZ (by decide) rfl hf dX0_findChains_28 (fun w2 H locs hf hZ => ?_)
    refine lv_aload_n (pc := 29) hx hb dX0_findChains_29 rfl (lv_at hl 0 rfl) ?_
    refine gfX0_33 (pc := 30) hC hZ dX0_findChains_30 ?_
    refine lv_iload_n (pc := 33) hx hb dX0_findChains_33 rfl (lv_at hl 1 rfl) ?_
    refine lv_ldc (pc := 34) (v := (1000000000 : Int32)) hx hb hC.1.2.2.2.1 (hC.1.2.2.2.2 _ kcX0_75) dX0_findChains_34 ?_
    refine z_iast (pc := 36) hC hZ (by decide) rfl hf dX0_findChains_36 (fun w3 H locs hf hZ => ?_)
    refine lv_aload_n (pc := 37) hx hb dX0_findChains_37 rfl (lv_at hl 0 rfl) ?_
    refine gfX0_36 (pc := 38) hC hZ dX0_findChains_38 ?_
    refine lv_iload_n (pc := 41) hx hb dX0_findChains_41 rfl (lv_at hl 1 rfl) ?_
    refine lv_iconst (pc := 42) (v := (-1 : Int32)) hx hb dX0_findChains_42 (by decide) ?_
    refine z_iast (pc := 43) hC hZ (by decide) rfl hf dX0_findChains_43 (fun w4 H locs hf hZ => ?_)
    refine lv_aload_n (pc := 44) hx hb dX0_findChains_44 rfl (lv_at hl 0 rfl) ?_
    refine gfX0_39 (pc := 45) hC hZ dX0_findChains_45 ?_
    refine lv_iload_n (pc := 48) hx hb dX0_findChains_48 rfl (lv_at hl 1 rfl) ?_
    refine lv_iconst (pc := 49) (v := (-1 : Int32)) hx hb dX0_findChains_49 (by decide) ?_
    refine z_iast (pc := 50) hC hZ (by decide) rfl hf dX0_findChains_50 (fun w5 H locs hf hZ => ?_)
    refine lv_iinc (pc := 51) (v := (x1 + (1 : Int32))) (lv' := [(1, .int (x1 + (1 : Int32))), (0, .ref (a0 5))]) hx hb dX0_findChains_51 hl (k := 1) rfl rfl (by decide) rfl (fun ls hl => ?_)
    refine lv_goto (pc := 54) (tgt := 2) hx hb dX0_findChains_54 (by decide) ?_
    exact ih ((x1 + (1 : Int32)), w5) hf H locs ls hZ (lv_sub hl [1, 0] rfl)
  refine lv_iconst (pc := 22) (v := (0 : Int32)) hx hb dX0_findChains_22 (by decide) ?_
  refine lv_goto (pc := 23) (tgt := 28) hx hb dX0_findChains_23 (by decide) ?_
  refine z_iast (pc := 28) hC hZ (by decide) rfl hf dX0_findChains_28 (fun w6 H locs hf hZ => ?_)
  refine lv_aload_n (pc := 29) hx hb dX0_findChains_29 rfl (lv_at hl 0 rfl) ?_
  refine gfX0_33 (pc := 30) hC hZ dX0_findChains_30 ?_
  refine lv_iload_n (pc := 33) hx hb dX0_findChains_33 rfl (lv_at hl 1 rfl) ?_
  refine lv_ldc (pc := 34) (v := (1000000000 : Int32)) hx hb hC.1.2.2.2.1 (hC.1.2.2.2.2 _ kcX0_75) dX0_findChains_34 ?_
  refine z_iast (pc := 36) hC hZ (by decide) rfl hf dX0_findChains_36 (fun w7 H locs hf hZ => ?_)
  refine lv_aload_n (pc := 37) hx hb dX0_findChains_37 rfl (lv_at hl 0 rfl) ?_
  refine gfX0_36 (pc := 38) hC hZ dX0_findChains_38 ?_
  refine lv_iload_n (pc := 41) hx hb dX0_findChains_41 rfl (lv_at hl 1 rfl) ?_
  refine lv_iconst (pc := 42) (v := (-1 : Int32)) hx hb dX0_findChains_42 (by decide) ?_
  refine z_iast (pc := 43) hC hZ (by decide) rfl hf dX0_findChains_43 (fun w8 H locs hf hZ => ?_)
  refine lv_aload_n (pc := 44) hx hb dX0_findChains_44 rfl (lv_at hl 0 rfl) ?_
  refine gfX0_39 (pc := 45) hC hZ dX0_findChains_45 ?_
  refine lv_iload_n (pc := 48) hx hb dX0_findChains_48 rfl (lv_at hl 1 rfl) ?_
  refine lv_iconst (pc := 49) (v := (-1 : Int32)) hx hb dX0_findChains_49 (by decide) ?_
  refine z_iast (pc := 50) hC hZ (by decide) rfl hf dX0_findChains_50 (fun w9 H locs hf hZ => ?_)
  refine lv_iinc (pc := 51) (v := (x1 + (1 : Int32))) (lv' := [(1, .int (x1 + (1 : Int32))), (0, .ref (a0 5))]) hx hb dX0_findChains_51 hl (k := 1) rfl rfl (by decide) rfl (fun ls hl => ?_)
  refine lv_goto (pc := 54) (tgt := 2) hx hb dX0_findChains_54 (by decide) ?_
  exact ih ((x1 + (1 : Int32)), w9) hf H locs ls hZ (lv_sub hl [1, 0] rfl)
set_option maxHeartbeats 4000000 in
set_option maxRecDepth 100000 in
theorem wX0_findChains_59 {p : Program} {l : Launch} {e : Env} {s : State} {m : MethodId} {args : Array Value} {below : List Frame} {meth : Method} {c : Code} {Q : State → Prop} {A : Nat → Prop} {H0 : Heap} {D : va_G} {cy : Nat → ClassId} {a0 aT aP : Nat → Nat} {res : zS} {K : Int32 → zS → Option (zS)} (N : Nat)  (hC : zC p s m args c RX0 cX0_findChains 3 D cy) (hA : ∀ q, H0.size ≤ q → A q) (hE : zEnd p l e rmX0_findChains s m args below meth c Q D cy shX 38 a0 A H0 res (fun u => u = (aT, aP)) cX0_findChains .return_ []) (n : Nat) (x1 : Int32) (w0 : zS) {H : Heap} {locs : List Loc} {ls : Array Slot} (hf : lX0_findChains_59 N  K n (x1, w0) = some res) (hZ : zW D cy shX 38 a0 aT aP A H0 w0 H locs) (hl : lv_has ls 3 [(0, .ref (a0 5)), (1, .int x1)]) (hK : ∀ x1 : Int32, ∀ (w0 : zS) (H : Heap) (locs : List Loc) (ls : Array Slot), K x1 w0 = some res → zW D cy shX 38 a0 aT aP A H0 w0 H locs → lv_has ls 3 [(0, .ref (a0 5)), (1, .int x1)] → W p l e rmX0_findChains s m args below meth c H locs 0 0 Q (F0 m 90 ls [])) : W p l e rmX0_findChains s m args below meth c H locs 0 0 Q (F0 m 59 ls []) := by
  have hx := hC.1.1
  have hb := hC.1.2.1
  have hf2 : zlp (fun rc s1 => bX0_findChains_59 N  K rc s1.1 s1.2) n (x1, w0) = some res := hf
  have key := zloop (S := Int32 × zS) (α := zS) (b := fun rc s1 => bX0_findChains_59 N  K rc s1.1 s1.2) (r := res) (Wd := fun s1 => ∀ (H : Heap) (locs : List Loc) (ls : Array Slot), zW D cy shX 38 a0 aT aP A H0 s1.2 H locs → lv_has ls 3 [(0, .ref (a0 5)), (1, .int s1.1)] → W p l e rmX0_findChains s m args below meth c H locs 0 0 Q (F0 m 59 ls []))
  refine key ?_ n (x1, w0) hf2 H locs ls hZ hl
  clear hf hf2 hZ hl key
  rintro rc ⟨x1, w0⟩ ih hf H locs ls hZ hl
  have hf : bX0_findChains_59 N  K rc x1 w0 = some res := hf
  have hl : lv_has ls 3 [(0, .ref (a0 5)), (1, .int x1)] := hl
  unfold bX0_findChains_59 at hf
  refine lv_iload_n (pc := 59) hx hb dX0_findChains_59 rfl (lv_at hl 1 rfl) ?_
  refine lv_bipush (pc := 60) (v := (20 : Int32)) hx hb dX0_findChains_60 (by decide) ?_
  refine z_ige (pc := 62) (tgt := 90) hC hf dX0_findChains_62 (by decide) (fun hf => ?_) (fun hf => ?_)
  · exact hK x1 w0 H locs ls hf hZ (lv_sub hl [0, 1] rfl)
  refine lv_aload_n (pc := 65) hx hb dX0_findChains_65 rfl (lv_at hl 0 rfl) ?_
  refine kX0_76 (pc := 66) hC hA hZ hf hl.1 (Nat.le_of_ble_eq_true rfl) ⟨Nat.le_of_ble_eq_true rfl, Nat.le_of_ble_eq_true rfl⟩ ⟨Nat.le_refl _, Nat.le_refl _⟩ dX0_findChains_66 (fun v13 w12 H locs hf hZ => ?_)
  refine lv_istore_n (pc := 69) (lv' := [(2, .int v13), (0, .ref (a0 5)), (1, .int x1)]) hx hb dX0_findChains_69 rfl hl (by decide) rfl (fun ls hl => ?_)
  refine lv_iload_n (pc := 70) hx hb dX0_findChains_70 rfl (lv_at hl 0 rfl) ?_
  refine z_eq0 (pc := 71) (tgt := 90) hC hf dX0_findChains_71 (by decide) (fun hf => ?_) (fun hf => ?_)
  · exact hK x1 w12 H locs ls hf hZ (lv_sub hl [1, 2] rfl)
  refine lv_aload_n (pc := 74) hx hb dX0_findChains_74 rfl (lv_at hl 1 rfl) ?_
  refine kX0_80 (pc := 75) hC hA hZ hf hl.1 (Nat.le_of_ble_eq_true rfl) ⟨Nat.le_of_ble_eq_true rfl, Nat.le_of_ble_eq_true rfl⟩ ⟨Nat.le_refl _, Nat.le_refl _⟩ dX0_findChains_75 (fun v15 w14 H locs hf hZ => ?_)
  refine z_ne0 (pc := 78) (tgt := 84) hC hf dX0_findChains_78 (by decide) (fun hf => ?_) (fun hf => ?_)
  · refine lv_goto (pc := 81) (tgt := 90) hx hb dX0_findChains_81 (by decide) ?_
    exact hK x1 w14 H locs ls hf hZ (lv_sub hl [1, 2] rfl)
  refine lv_iinc (pc := 84) (v := (x1 + (1 : Int32))) (lv' := [(1, .int (x1 + (1 : Int32))), (2, .int v13), (0, .ref (a0 5))]) hx hb dX0_findChains_84 hl (k := 2) rfl rfl (by decide) rfl (fun ls hl => ?_)
  refine lv_goto (pc := 87) (tgt := 59) hx hb dX0_findChains_87 (by decide) ?_
  exact ih ((x1 + (1 : Int32)), w14) hf H locs ls hZ (lv_sub hl [2, 0] rfl)
set_option maxHeartbeats 4000000 in
set_option maxRecDepth 100000 in
theorem cX0_findChains_ok (l : Launch) (D : va_G) (cy : Nat → ClassId) (a0 aT aP : Nat → Nat) (N : Nat)  (w0 : zS) (τ : zS) (hf : fX0_findChains N  w0 = some τ) : zMv l yX0_findChains cX0_findChains 3 none rmX0_findChains D cy shX 38 a0 aT aP w0 [.ref (a0 5)] τ (fun u => u = (aT, aP)) := by
  refine zmet_v (by decide +kernel) rfl (Nat.le_of_ble_eq_true rfl) ?_
  intro p e s m below meth c A Q ls hC hA hZ hl hE
  have hx := hC.1.1
  have hb := hC.1.2.1
  have hl : lv_has ls 3 [(0, .ref (a0 5))] := hl
  unfold fX0_findChains at hf
  refine lv_iconst (pc := 0) (v := (0 : Int32)) hx hb dX0_findChains_0 (by decide) ?_
  refine lv_istore_n (pc := 1) (lv' := [(1, .int (0 : Int32)), (0, .ref (a0 5))]) hx hb dX0_findChains_1 rfl hl (by decide) rfl (fun ls hl => ?_)
  refine wX0_findChains_2 (res := τ) N  hC hA hE N _ _ hf hZ (lv_sub hl [1, 0] rfl) (fun y10 w11 H locs ls hf hZ hl => ?_)
  refine lv_iconst (pc := 57) (v := (0 : Int32)) hx hb dX0_findChains_57 (by decide) ?_
  refine lv_istore_n (pc := 58) (lv' := [(1, .int (0 : Int32)), (0, .ref (a0 5))]) hx hb dX0_findChains_58 rfl hl (by decide) rfl (fun ls hl => ?_)
  refine wX0_findChains_59 (res := τ) N  hC hA hE N _ _ hf hZ (lv_sub hl [1, 0] rfl) (fun y16 w17 H locs ls hf hZ hl => ?_)
  obtain rfl := Option.some.inj hf
  exact hE _ _ _ _ _ _ rfl hZ dX0_findChains_90
section ZK
variable {p : Program} {l : Launch} {e : Env} {R : Room} {s : State} {m : MethodId} {args : Array Value} {below : List Frame} {meth : Method} {c : Code} {H : Heap} {locs : List Loc} {cells slots : Nat} {Q : State → Prop}
variable {pc : Nat} {ls : Array Slot} {rest : List Value} {A : Nat → Prop} {H0 : Heap} {D : va_G} {cy : Nat → ClassId} {a0 aT aP : Nat → Nat} {σ : zS} {cc : ByteArray} {nL : Nat} {α : Type} {res : α}
theorem vkX0_64 : zVk RX0 64 yX0_findChains cX0_findChains 3 none 0 := ⟨by decide +kernel, by decide +kernel, by decide +kernel, by decide +kernel, by decide +kernel, by decide +kernel⟩
theorem kX0_64 (hC : zC p s m args c RX0 cc nL D cy) (hA : ∀ q, H0.size ≤ q → A q) (hZ : zW D cy shX 38 a0 aT aP A H0 σ H locs) {N : Nat}  {k : zS → Option α} (hf : zbv (fX0_findChains N  σ) k = some res) (hsz : ls.size = nL) (hW : (rest.map fun v => v.category).sum ≤ 8) (hR : rmX0_findChains.frames + 1 ≤ R.frames ∧ 8 + (3 + 11) + rmX0_findChains.locals ≤ R.locals) (hcs : cells ≤ R.cells ∧ slots ≤ R.slots) (hdg : decode cc pc = .ok (.invokevirtual 64, 3)) (kk : ∀ (τ : zS) (H1 : Heap) (locs1 : List Loc), k τ = some res → zW D cy shX 38 a0 aT aP A H0 τ H1 locs1 → W p l e R s m args below meth c H1 locs1 cells slots Q (F0 m (pc + 3) ls (rest))) : W p l e R s m args below meth c H locs cells slots Q (F0 m pc ls (.ref (a0 5) :: rest)) := by
  cases hq : fX0_findChains N  σ with
  | none => rw [hq] at hf; cases hf
  | some q =>
    rw [hq] at hf
    exact zcallv hA hZ (zrun hC hZ vkX0_64 rfl (zw0 (by decide)) (cX0_findChains_ok l D cy a0 aT aP N  σ q hq H.size) hR rfl hsz rfl hW hcs hdg) (fun u H1 locs1 hU hZ1 => by subst hU; exact kk q H1 locs1 hf hZ1)
end ZK
