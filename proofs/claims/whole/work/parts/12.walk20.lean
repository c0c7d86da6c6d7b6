set_option maxHeartbeats 4000000 in
set_option maxRecDepth 100000 in
theorem cX8_drop_ok (l : Launch) (D : va_G) (cy : Nat → ClassId) (a0 aT aP : Nat → Nat) (N : Nat) (x1 : Int32) (w0 : zS) (rv : Int32) (τ : zS) (hf : fX8_drop N x1 w0 = some (rv, τ)) : zMi l yX8_drop cX8_drop 2 (some .int) rmX8_drop D cy shM 35 a0 aT aP w0 [.ref (a0 0), .int x1] rv τ (fun u => u = (aT, aP)) := by
  refine zmet_i (by decide +kernel) (Or.inl rfl) (Nat.le_of_ble_eq_true rfl) ?_
  intro p e s m below meth c A Q ls hC hA hZ hl hE
  have hx := hC.1.1
  have hb := hC.1.2.1
  have hl : lv_has ls 2 [(0, .ref (a0 0)), (1, .int x1)] := hl
  unfold fX8_drop at hf
  refine lv_iload_n (pc := 0) hx hb dX8_drop_0 rfl (lv_at hl 1 rfl) ?_
  refine lv_iconst (pc := 1) (v := (0 : Int32)) hx hb dX8_drop_1 (by decide) ?_
  refine lv_aload_n (pc := 2) hx hb dX8_drop_2 rfl (lv_at hl 0 rfl) ?_
  refine gfX8_158 (pc := 3) hC hZ dX8_drop_3 ?_
  refine lv_iconst (pc := 6) (v := (1 : Int32)) hx hb dX8_drop_6 (by decide) ?_
  refine lv_isub (pc := 7) hx hb dX8_drop_7 ?_
  refine kX8_119 (pc := 8) hC hA hZ hf hl.1 (Nat.le_of_ble_eq_true rfl) ⟨Nat.le_of_ble_eq_true rfl, Nat.le_of_ble_eq_true rfl⟩ ⟨Nat.le_refl _, Nat.le_refl _⟩ dX8_drop_8 (fun v2 w1 H locs hf hZ => ?_)
  refine z_ne0 (pc := 11) (tgt := 20) hC hf dX8_drop_11 (by decide) (fun hf => ?_) (fun hf => ?_)
  · refine lv_aload_n (pc := 14) hx hb dX8_drop_14 rfl (lv_at hl 0 rfl) ?_
    refine lv_iconst (pc := 15) (v := (-1 : Int32)) hx hb dX8_drop_15 (by decide) ?_
    refine kX8_126 (pc := 16) hC hA hZ hf hl.1 (Nat.le_of_ble_eq_true rfl) ⟨Nat.le_of_ble_eq_true rfl, Nat.le_of_ble_eq_true rfl⟩ ⟨Nat.le_refl _, Nat.le_refl _⟩ dX8_drop_16 (fun v4 w3 H locs hf hZ => ?_)
    obtain ⟨rfl, rfl⟩ := zinj hf
    exact hE _ _ _ _ _ _ rfl hZ dX8_drop_19
  refine lv_aload_n (pc := 20) hx hb dX8_drop_20 rfl (lv_at hl 0 rfl) ?_
  refine gfX8_54 (pc := 21) hC hZ dX8_drop_21 ?_
  refine lv_iload_n (pc := 24) hx hb dX8_drop_24 rfl (lv_at hl 1 rfl) ?_
  refine z_iald (pc := 25) hC hZ (by decide) rfl hf dX8_drop_25 (fun v5 hf => ?_)
  refine z_eq0 (pc := 26) (tgt := 36) hC hf dX8_drop_26 (by decide) (fun hf => ?_) (fun hf => ?_)
  · refine lv_aload_n (pc := 36) hx hb dX8_drop_36 rfl (lv_at hl 0 rfl) ?_
    refine gfX8_54 (pc := 37) hC hZ dX8_drop_37 ?_
    refine lv_iload_n (pc := 40) hx hb dX8_drop_40 rfl (lv_at hl 1 rfl) ?_
    refine lv_iconst (pc := 41) (v := (2 : Int32)) hx hb dX8_drop_41 (by decide) ?_
    refine z_iast (pc := 42) hC hZ (by decide) rfl hf dX8_drop_42 (fun w6 H locs hf hZ => ?_)
    refine lv_iconst (pc := 43) (v := (1 : Int32)) hx hb dX8_drop_43 (by decide) ?_
    obtain ⟨rfl, rfl⟩ := zinj hf
    exact hE _ _ _ _ _ _ rfl hZ dX8_drop_44
  refine lv_aload_n (pc := 29) hx hb dX8_drop_29 rfl (lv_at hl 0 rfl) ?_
  refine lv_bipush (pc := 30) (v := (-3 : Int32)) hx hb dX8_drop_30 (by decide) ?_
  refine kX8_126 (pc := 32) hC hA hZ hf hl.1 (Nat.le_of_ble_eq_true rfl) ⟨Nat.le_of_ble_eq_true rfl, Nat.le_of_ble_eq_true rfl⟩ ⟨Nat.le_refl _, Nat.le_refl _⟩ dX8_drop_32 (fun v8 w7 H locs hf hZ => ?_)
  obtain ⟨rfl, rfl⟩ := zinj hf
  exact hE _ _ _ _ _ _ rfl hZ dX8_drop_35
set_option maxHeartbeats 4000000 in
set_option maxRecDepth 100000 in
theorem cX8_rule_ok (l : Launch) (D : va_G) (cy : Nat → ClassId) (a0 aT aP : Nat → Nat) (N : Nat) (x1 : Int32) (w0 : zS) (rv : Int32) (τ : zS) (hf : fX8_rule N x1 w0 = some (rv, τ)) : zMi l yX8_rule cX8_rule 3 (some .int) rmX8_rule D cy shM 35 a0 aT aP w0 [.ref (a0 0), .int x1] rv τ (fun u => u = (aT, aP)) := by
  refine zmet_i (by decide +kernel) (Or.inl rfl) (Nat.le_of_ble_eq_true rfl) ?_
  intro p e s m below meth c A Q ls hC hA hZ hl hE
  have hx := hC.1.1
  have hb := hC.1.2.1
  have hl : lv_has ls 3 [(0, .ref (a0 0)), (1, .int x1)] := hl
  unfold fX8_rule at hf
  refine lv_iload_n (pc := 0) hx hb dX8_rule_0 rfl (lv_at hl 1 rfl) ?_
  refine lv_iconst (pc := 1) (v := (0 : Int32)) hx hb dX8_rule_1 (by decide) ?_
  refine lv_iconst (pc := 2) (v := (3 : Int32)) hx hb dX8_rule_2 (by decide) ?_
  refine kX8_119 (pc := 3) hC hA hZ hf hl.1 (Nat.le_of_ble_eq_true rfl) ⟨Nat.le_of_ble_eq_true rfl, Nat.le_of_ble_eq_true rfl⟩ ⟨Nat.le_refl _, Nat.le_refl _⟩ dX8_rule_3 (fun v2 w1 H locs hf hZ => ?_)
  refine z_ne0 (pc := 6) (tgt := 16) hC hf dX8_rule_6 (by decide) (fun hf => ?_) (fun hf => ?_)
  · refine lv_aload_n (pc := 9) hx hb dX8_rule_9 rfl (lv_at hl 0 rfl) ?_
    refine lv_bipush (pc := 10) (v := (-2 : Int32)) hx hb dX8_rule_10 (by decide) ?_
    refine kX8_126 (pc := 12) hC hA hZ hf hl.1 (Nat.le_of_ble_eq_true rfl) ⟨Nat.le_of_ble_eq_true rfl, Nat.le_of_ble_eq_true rfl⟩ ⟨Nat.le_refl _, Nat.le_refl _⟩ dX8_rule_12 (fun v4 w3 H locs hf hZ => ?_)
    obtain ⟨rfl, rfl⟩ := zinj hf
    exact hE _ _ _ _ _ _ rfl hZ dX8_rule_15
  refine lv_aload_n (pc := 16) hx hb dX8_rule_16 rfl (lv_at hl 0 rfl) ?_
  refine gfX8_161 (pc := 17) hC hZ dX8_rule_17 ?_
  refine lv_istore_n (pc := 20) (lv' := [(2, .int (w1.1 0 0 22)), (0, .ref (a0 0)), (1, .int x1)]) hx hb dX8_rule_20 rfl hl (by decide) rfl (fun ls hl => ?_)
  refine lv_aload_n (pc := 21) hx hb dX8_rule_21 rfl (lv_at hl 1 rfl) ?_
  refine lv_iload_n (pc := 22) hx hb dX8_rule_22 rfl (lv_at hl 2 rfl) ?_
  refine pfX8_161 (pc := 23) hC hZ hf dX8_rule_23 (fun w5 H locs hf hZ => ?_)
  refine lv_iload_n (pc := 26) hx hb dX8_rule_26 rfl (lv_at hl 0 rfl) ?_
  obtain ⟨rfl, rfl⟩ := zinj hf
  exact hE _ _ _ _ _ _ rfl hZ dX8_rule_27
set_option maxHeartbeats 4000000 in
set_option maxRecDepth 100000 in
theorem cX8_worthOf_ok (l : Launch) (D : va_G) (cy : Nat → ClassId) (a0 aT aP : Nat → Nat) (N : Nat) (x1 : Int32) (x2 : Int32) (w0 : zS) (rv : Int32) (τ : zS) (hf : fX8_worthOf N x1 x2 w0 = some (rv, τ)) : zMi l yX8_worthOf cX8_worthOf 4 (some .int) rmX8_worthOf D cy shM 35 a0 aT aP w0 [.ref (a0 0), .int x1, .int x2] rv τ (fun u => u = (aT, aP)) := by
  refine zmet_i (by decide +kernel) (Or.inl rfl) (Nat.le_of_ble_eq_true rfl) ?_
  intro p e s m below meth c A Q ls hC hA hZ hl hE
  have hx := hC.1.1
  have hb := hC.1.2.1
  have hl : lv_has ls 4 [(0, .ref (a0 0)), (1, .int x1), (2, .int x2)] := hl
  unfold fX8_worthOf at hf
  refine lv_aload_n (pc := 0) hx hb dX8_worthOf_0 rfl (lv_at hl 0 rfl) ?_
  refine gfX8_51 (pc := 1) hC hZ dX8_worthOf_1 ?_
  refine lv_aload_n (pc := 4) hx hb dX8_worthOf_4 rfl (lv_at hl 0 rfl) ?_
  refine gfX8_90 (pc := 5) hC hZ dX8_worthOf_5 ?_
  refine lv_iload_n (pc := 8) hx hb dX8_worthOf_8 rfl (lv_at hl 1 rfl) ?_
  refine z_iald (pc := 9) hC hZ (by decide) rfl hf dX8_worthOf_9 (fun v1 hf => ?_)
  refine z_iald (pc := 10) hC hZ (by decide) rfl hf dX8_worthOf_10 (fun v2 hf => ?_)
  refine lv_aload_n (pc := 11) hx hb dX8_worthOf_11 rfl (lv_at hl 0 rfl) ?_
  refine gfX8_51 (pc := 12) hC hZ dX8_worthOf_12 ?_
  refine lv_aload_n (pc := 15) hx hb dX8_worthOf_15 rfl (lv_at hl 0 rfl) ?_
  refine gfX8_93 (pc := 16) hC hZ dX8_worthOf_16 ?_
  refine lv_iload_n (pc := 19) hx hb dX8_worthOf_19 rfl (lv_at hl 2 rfl) ?_
  refine z_iald (pc := 20) hC hZ (by decide) rfl hf dX8_worthOf_20 (fun v3 hf => ?_)
  refine z_iald (pc := 21) hC hZ (by decide) rfl hf dX8_worthOf_21 (fun v4 hf => ?_)
  refine lv_isub (pc := 22) hx hb dX8_worthOf_22 ?_
  refine lv_istore_n (pc := 23) (lv' := [(3, .int (v2 - v4)), (0, .ref (a0 0)), (1, .int x1), (2, .int x2)]) hx hb dX8_worthOf_23 rfl hl (by decide) rfl (fun ls hl => ?_)
  refine lv_iload_n (pc := 24) hx hb dX8_worthOf_24 rfl (lv_at hl 0 rfl) ?_
  refine z_ge0 (pc := 25) (tgt := 33) hC hf dX8_worthOf_25 (by decide) (fun hf => ?_) (fun hf => ?_)
  · refine lv_iload_n (pc := 33) hx hb dX8_worthOf_33 rfl (lv_at hl 0 rfl) ?_
    refine lv_istore_n (pc := 34) (lv' := [(3, .int (v2 - v4)), (0, .ref (a0 0)), (1, .int x1), (2, .int x2)]) hx hb dX8_worthOf_34 rfl hl (by decide) rfl (fun ls hl => ?_)
    refine lv_iload_n (pc := 35) hx hb dX8_worthOf_35 rfl (lv_at hl 0 rfl) ?_
    refine lv_iconst (pc := 36) (v := (3 : Int32)) hx hb dX8_worthOf_36 (by decide) ?_
    refine z_ile (pc := 37) (tgt := 44) hC hf dX8_worthOf_37 (by decide) (fun hf => ?_) (fun hf => ?_)
    · refine lv_sipush (pc := 44) (v := (1000 : Int32)) hx hb dX8_worthOf_44 (by decide) ?_
      refine lv_iload_n (pc := 47) hx hb dX8_worthOf_47 rfl (lv_at hl 0 rfl) ?_
      refine lv_isub (pc := 48) hx hb dX8_worthOf_48 ?_
      obtain ⟨rfl, rfl⟩ := zinj hf
      exact hE _ _ _ _ _ _ rfl hZ dX8_worthOf_49
    refine lv_iconst (pc := 40) (v := (-1 : Int32)) hx hb dX8_worthOf_40 (by decide) ?_
    refine lv_goto (pc := 41) (tgt := 49) hx hb dX8_worthOf_41 (by decide) ?_
    obtain ⟨rfl, rfl⟩ := zinj hf
    exact hE _ _ _ _ _ _ rfl hZ dX8_worthOf_49
  refine lv_iload_n (pc := 28) hx hb dX8_worthOf_28 rfl (lv_at hl 0 rfl) ?_
  refine lv_ineg (pc := 29) hx hb dX8_worthOf_29 ?_
  refine lv_goto (pc := 30) (tgt := 34) hx hb dX8_worthOf_30 (by decide) ?_
  refine lv_istore_n (pc := 34) (lv' := [(3, .int (-(v2 - v4))), (0, .ref (a0 0)), (1, .int x1), (2, .int x2)]) hx hb dX8_worthOf_34 rfl hl (by decide) rfl (fun ls hl => ?_)
  refine lv_iload_n (pc := 35) hx hb dX8_worthOf_35 rfl (lv_at hl 0 rfl) ?_
  refine lv_iconst (pc := 36) (v := (3 : Int32)) hx hb dX8_worthOf_36 (by decide) ?_
  refine z_ile (pc := 37) (tgt := 44) hC hf dX8_worthOf_37 (by decide) (fun hf => ?_) (fun hf => ?_)
  · refine lv_sipush (pc := 44) (v := (1000 : Int32)) hx hb dX8_worthOf_44 (by decide) ?_
    refine lv_iload_n (pc := 47) hx hb dX8_worthOf_47 rfl (lv_at hl 0 rfl) ?_
    refine lv_isub (pc := 48) hx hb dX8_worthOf_48 ?_
    obtain ⟨rfl, rfl⟩ := zinj hf
    exact hE _ _ _ _ _ _ rfl hZ dX8_worthOf_49
  refine lv_iconst (pc := 40) (v := (-1 : Int32)) hx hb dX8_worthOf_40 (by decide) ?_
  refine lv_goto (pc := 41) (tgt := 49) hx hb dX8_worthOf_41 (by decide) ?_
  obtain ⟨rfl, rfl⟩ := zinj hf
  exact hE _ _ _ _ _ _ rfl hZ dX8_worthOf_49
section ZK
variable {p : Program} {l : Launch} {e : Env} {R : Room} {s : State} {m : MethodId} {args : Array Value} {below : List Frame} {meth : Method} {c : Code} {H : Heap} {locs : List Loc} {cells slots : Nat} {Q : State → Prop}
variable {pc : Nat} {ls : Array Slot} {rest : List Value} {A : Nat → Prop} {H0 : Heap} {D : va_G} {cy : Nat → ClassId} {a0 aT aP : Nat → Nat} {σ : zS} {cc : ByteArray} {nL : Nat} {α : Type} {res : α}
theorem vkX8_168 : zVk RX8 168 yX8_worthOf cX8_worthOf 4 (some .int) 2 := ⟨by decide +kernel, by decide +kernel, by decide +kernel, by decide +kernel, by decide +kernel, by decide +kernel⟩
theorem kX8_168 (hC : zC p s m args c RX8 cc nL D cy) (hA : ∀ q, H0.size ≤ q → A q) (hZ : zW D cy shM 35 a0 aT aP A H0 σ H locs) {N : Nat} {x1 : Int32} {x2 : Int32} {k : Int32 → zS → Option α} (hf : zbi (fX8_worthOf N x1 x2 σ) k = some res) (hsz : ls.size = nL) (hW : (rest.map fun v => v.category).sum ≤ 8) (hR : rmX8_worthOf.frames + 1 ≤ R.frames ∧ 8 + (4 + 11) + rmX8_worthOf.locals ≤ R.locals) (hcs : cells ≤ R.cells ∧ slots ≤ R.slots) (hdg : decode cc pc = .ok (.invokevirtual 168, 3)) (kk : ∀ (v : Int32) (τ : zS) (H1 : Heap) (locs1 : List Loc), k v τ = some res → zW D cy shM 35 a0 aT aP A H0 τ H1 locs1 → W p l e R s m args below meth c H1 locs1 cells slots Q (F0 m (pc + 3) ls (.int v :: rest))) : W p l e R s m args below meth c H locs cells slots Q (F0 m pc ls (.int x2 :: .int x1 :: .ref (a0 0) :: rest)) := by
  cases hq : fX8_worthOf N x1 x2 σ with
  | none => rw [hq] at hf; cases hf
  | some q =>
    rw [hq] at hf
    exact zcalli hA hZ (zrun hC hZ vkX8_168 rfl (zw0 (by decide)) (cX8_worthOf_ok l D cy a0 aT aP N x1 x2 σ q.1 q.2 hq H.size) hR rfl hsz rfl hW hcs hdg) (fun u H1 locs1 hU hZ1 => by subst hU; exact kk q.1 q.2 H1 locs1 hf hZ1)
end ZK
set_option maxHeartbeats 4000000 in
set_option maxRecDepth 100000 in
theorem wX8_gather_c27_6 {p : Program} {l : Launch} {e : Env} {s : State} {m : MethodId} {args : Array Value} {below : List Frame} {meth : Method} {c : Code} {Q : State → Prop} {A : Nat → Prop} {H0 : Heap} {D : va_G} {cy : Nat → ClassId} {a0 aT aP : Nat → Nat} {res : Int32 × zS} {K : Int32 → Int32 → zS → Option (Int32 × zS)} (N : Nat) (x1 : Int32) (x2 : Int32) (x3 : Int32) (x4 : Int32) (hC : zC p s m args c RX8 cX8_gather 8 D cy) (hA : ∀ q, H0.size ≤ q → A q) (hE : zEnd p l e rmX8_gather_c27 s m args below meth c Q D cy shM 35 a0 A H0 res.2 (fun u => u = (aT, aP)) cX8_gather .ireturn [.int res.1]) (n : Nat) (x6 : Int32) (x7 : Int32) (w0 : zS) {H : Heap} {locs : List Loc} {ls : Array Slot} (hf : lX8_gather_c27_6 N x1 x2 x3 x4 K n (x6, x7, w0) = some res) (hZ : zW D cy shM 35 a0 aT aP A H0 w0 H locs) (hl : lv_has ls 8 [(0, .ref (a0 0)), (1, .int x1), (2, .int x2), (3, .int x3), (4, .int x4), (5, .ref (a0 27)), (6, .int x6), (7, .int x7)]) (hK : ∀ x6 : Int32, ∀ x7 : Int32, ∀ (w0 : zS) (H : Heap) (locs : List Loc) (ls : Array Slot), K x6 x7 w0 = some res → zW D cy shM 35 a0 aT aP A H0 w0 H locs → lv_has ls 8 [(0, .ref (a0 0)), (1, .int x1), (2, .int x2), (3, .int x3), (4, .int x4), (5, .ref (a0 27)), (6, .int x6), (7, .int x7)] → W p l e rmX8_gather_c27 s m args below meth c H locs 0 0 Q (F0 m 93 ls [])) : W p l e rmX8_gather_c27 s m args below meth c H locs 0 0 Q (F0 m 6 ls []) := by
  have hx := hC.1.1
  have hb := hC.1.2.1
  have hf2 : zlp (fun rc s1 => bX8_gather_c27_6 N x1 x2 x3 x4 K rc s1.1 s1.2.1 s1.2.2) n (x6, x7, w0) = some res := hf
  have key := zloop (S := Int32 × Int32 × zS) (α := Int32 × zS) (b := fun rc s1 => bX8_gather_c27_6 N x1 x2 x3 x4 K rc s1.1 s1.2.1 s1.2.2) (r := res) (Wd := fun s1 => ∀ (H : Heap) (locs : List Loc) (ls : Array Slot), zW D cy shM 35 a0 aT aP A H0 s1.2.2 H locs → lv_has ls 8 [(0, .ref (a0 0)), (1, .int x1), (2, .int x2), (3, .int x3), (4, .int x4), (5, .ref (a0 27)), (6, .int s1.1), (7, .int s1.2.1)] → W p l e rmX8_gather_c27 s m args below meth c H locs 0 0 Q (F0 m 6 ls []))
  refine key ?_ n (x6, x7, w0) hf2 H locs ls hZ hl
  clear hf hf2 hZ hl key
  rintro rc ⟨x6, x7, w0⟩ ih hf H locs ls hZ hl
  have hf : bX8_gather_c27_6 N x1 x2 x3 x4 K rc x6 x7 w0 = some res := hf
  have hl : lv_has ls 8 [(0, .ref (a0 0)), (1, .int x1), (2, .int x2), (3, .int x3), (4, .int x4), (5, .ref (a0 27)), (6, .int x6), (7, .int x7)] := hl
  unfold bX8_gather_c27_6 at hf
  refine lv_iload (pc := 6) hx hb dX8_gather_6 (lv_at hl 7 rfl) ?_
  refine lv_aload_n (pc := 8) hx hb dX8_gather_8 rfl (lv_at hl 0 rfl) ?_
  refine gfX8_158 (pc := 9) hC hZ dX8_gather_9 ?_
  refine z_ige (pc := 12) (tgt := 93) hC hf dX8_gather_12 (by decide) (fun hf => ?_) (fun hf => ?_)
  · exact hK x6 x7 w0 H locs ls hf hZ (lv_sub hl [0, 1, 2, 3, 4, 5, 6, 7] rfl)
  refine lv_iload (pc := 15) hx hb dX8_gather_15 (lv_at hl 6 rfl) ?_
  refine lv_bipush (pc := 17) (v := (8 : Int32)) hx hb dX8_gather_17 (by decide) ?_
  refine z_ige (pc := 19) (tgt := 93) hC hf dX8_gather_19 (by decide) (fun hf => ?_) (fun hf => ?_)
  · exact hK x6 x7 w0 H locs ls hf hZ (lv_sub hl [0, 1, 2, 3, 4, 5, 6, 7] rfl)
  refine lv_aload_n (pc := 22) hx hb dX8_gather_22 rfl (lv_at hl 0 rfl) ?_
  refine gfX8_35 (pc := 23) hC hZ dX8_gather_23 ?_
  refine lv_iload (pc := 26) hx hb dX8_gather_26 (lv_at hl 7 rfl) ?_
  refine z_zald (pc := 28) hC hZ (by decide) rfl hf dX8_gather_28 (fun v1 hf => ?_)
  refine lv_iload_n (pc := 29) hx hb dX8_gather_29 rfl (lv_at hl 1 rfl) ?_
  refine z_ine (pc := 30) (tgt := 87) hC hf dX8_gather_30 (by decide) (fun hf => ?_) (fun hf => ?_)
  · refine lv_aload_n (pc := 33) hx hb dX8_gather_33 rfl (lv_at hl 0 rfl) ?_
    refine gfX8_54 (pc := 34) hC hZ dX8_gather_34 ?_
    refine lv_iload (pc := 37) hx hb dX8_gather_37 (lv_at hl 7 rfl) ?_
    refine z_iald (pc := 39) hC hZ (by decide) rfl hf dX8_gather_39 (fun v2 hf => ?_)
    refine z_ne0 (pc := 40) (tgt := 87) hC hf dX8_gather_40 (by decide) (fun hf => ?_) (fun hf => ?_)
    · refine lv_aload_n (pc := 43) hx hb dX8_gather_43 rfl (lv_at hl 0 rfl) ?_
      refine gfX8_39 (pc := 44) hC hZ dX8_gather_44 ?_
      refine lv_iload (pc := 47) hx hb dX8_gather_47 (lv_at hl 7 rfl) ?_
      refine z_iald (pc := 49) hC hZ (by decide) rfl hf dX8_gather_49 (fun v3 hf => ?_)
      refine lv_iload_n (pc := 50) hx hb dX8_gather_50 rfl (lv_at hl 2 rfl) ?_
      refine z_ine (pc := 51) (tgt := 87) hC hf dX8_gather_51 (by decide) (fun hf => ?_) (fun hf => ?_)
      · refine lv_aload_n (pc := 54) hx hb dX8_gather_54 rfl (lv_at hl 0 rfl) ?_
        refine gfX8_42 (pc := 55) hC hZ dX8_gather_55 ?_
        refine lv_iload (pc := 58) hx hb dX8_gather_58 (lv_at hl 7 rfl) ?_
        refine z_iald (pc := 60) hC hZ (by decide) rfl hf dX8_gather_60 (fun v4 hf => ?_)
        refine lv_iload_n (pc := 61) hx hb dX8_gather_61 rfl (lv_at hl 3 rfl) ?_
        refine z_ine (pc := 62) (tgt := 87) hC hf dX8_gather_62 (by decide) (fun hf => ?_) (fun hf => ?_)
        · refine lv_aload_n (pc := 65) hx hb dX8_gather_65 rfl (lv_at hl 0 rfl) ?_
          refine gfX8_45 (pc := 66) hC hZ dX8_gather_66 ?_
          refine lv_iload (pc := 69) hx hb dX8_gather_69 (lv_at hl 7 rfl) ?_
          refine z_iald (pc := 71) hC hZ (by decide) rfl hf dX8_gather_71 (fun v5 hf => ?_)
          refine lv_iload (pc := 72) hx hb dX8_gather_72 (lv_at hl 4 rfl) ?_
          refine z_ine (pc := 74) (tgt := 87) hC hf dX8_gather_74 (by decide) (fun hf => ?_) (fun hf => ?_)
          · refine lv_aload (pc := 77) hx hb dX8_gather_77 (lv_at hl 5 rfl) ?_
            refine lv_iload (pc := 79) hx hb dX8_gather_79 (lv_at hl 6 rfl) ?_
            refine lv_iload (pc := 81) hx hb dX8_gather_81 (lv_at hl 7 rfl) ?_
            refine z_iast (pc := 83) hC hZ (by decide) rfl hf dX8_gather_83 (fun w6 H locs hf hZ => ?_)
            refine lv_iinc (pc := 84) (v := (x6 + (1 : Int32))) (lv' := [(6, .int (x6 + (1 : Int32))), (0, .ref (a0 0)), (1, .int x1), (2, .int x2), (3, .int x3), (4, .int x4), (5, .ref (a0 27)), (7, .int x7)]) hx hb dX8_gather_84 hl (k := 6) rfl rfl (by decide) rfl (fun ls hl => ?_)
            refine lv_iinc (pc := 87) (v := (x7 + (1 : Int32))) (lv' := [(7, .int (x7 + (1 : Int32))), (6, .int (x6 + (1 : Int32))), (0, .ref (a0 0)), (1, .int x1), (2, .int x2), (3, .int x3), (4, .int x4), (5, .ref (a0 27))]) hx hb dX8_gather_87 hl (k := 7) rfl rfl (by decide) rfl (fun ls hl => ?_)
            refine lv_goto (pc := 90) (tgt := 6) hx hb dX8_gather_90 (by decide) ?_
            exact ih ((x6 + (1 : Int32)), (x7 + (1 : Int32)), w6) hf H locs ls hZ (lv_sub hl [2, 3, 4, 5, 6, 7, 1, 0] rfl)
          refine lv_iinc (pc := 87) (v := (x7 + (1 : Int32))) (lv' := [(7, .int (x7 + (1 : Int32))), (0, .ref (a0 0)), (1, .int x1), (2, .int x2), (3, .int x3), (4, .int x4), (5, .ref (a0 27)), (6, .int x6)]) hx hb dX8_gather_87 hl (k := 7) rfl rfl (by decide) rfl (fun ls hl => ?_)
          refine lv_goto (pc := 90) (tgt := 6) hx hb dX8_gather_90 (by decide) ?_
          exact ih (x6, (x7 + (1 : Int32)), w0) hf H locs ls hZ (lv_sub hl [1, 2, 3, 4, 5, 6, 7, 0] rfl)
        refine lv_iinc (pc := 87) (v := (x7 + (1 : Int32))) (lv' := [(7, .int (x7 + (1 : Int32))), (0, .ref (a0 0)), (1, .int x1), (2, .int x2), (3, .int x3), (4, .int x4), (5, .ref (a0 27)), (6, .int x6)]) hx hb dX8_gather_87 hl (k := 7) rfl rfl (by decide) rfl (fun ls hl => ?_)
        refine lv_goto (pc := 90) (tgt := 6) hx hb dX8_gather_90 (by decide) ?_
        exact ih (x6, (x7 + (1 : Int32)), w0) hf H locs ls hZ (lv_sub hl [1, 2, 3, 4, 5, 6, 7, 0] rfl)
      refine lv_iinc (pc := 87) (v := (x7 + (1 : Int32))) (lv' := [(7, .int (x7 + (1 : Int32))), (0, .ref (a0 0)), (1, .int x1), (2, .int x2), (3, .int x3), (4, .int x4), (5, .ref (a0 27)), (6, .int x6)]) hx hb dX8_gather_87 hl (k := 7) rfl rfl (by decide) rfl (fun ls hl => ?_)
      refine lv_goto (pc := 90) (tgt := 6) hx hb dX8_gather_90 (by decide) ?_
      exact ih (x6, (x7 + (1 : Int32)), w0) hf H locs ls hZ (lv_sub hl [1, 2, 3, 4, 5, 6, 7, 0] rfl)
    refine lv_iinc (pc := 87) (v := (x7 + (1 : Int32))) (lv' := [(7, .int (x7 + (1 : Int32))), (0, .ref (a0 0)), (1, .int x1), (2, .int x2), (3, .int x3), (4, .int x4), (5, .ref (a0 27)), (6, .int x6)]) hx hb dX8_gather_87 hl (k := 7) rfl rfl (by decide) rfl (fun ls hl => ?_)
    refine lv_goto (pc := 90) (tgt := 6) hx hb dX8_gather_90 (by decide) ?_
    exact ih (x6, (x7 + (1 : Int32)), w0) hf H locs ls hZ (lv_sub hl [1, 2, 3, 4, 5, 6, 7, 0] rfl)
  refine lv_iinc (pc := 87) (v := (x7 + (1 : Int32))) (lv' := [(7, .int (x7 + (1 : Int32))), (0, .ref (a0 0)), (1, .int x1), (2, .int x2), (3, .int x3), (4, .int x4), (5, .ref (a0 27)), (6, .int x6)]) hx hb dX8_gather_87 hl (k := 7) rfl rfl (by decide) rfl (fun ls hl => ?_)
  refine lv_goto (pc := 90) (tgt := 6) hx hb dX8_gather_90 (by decide) ?_
  exact ih (x6, (x7 + (1 : Int32)), w0) hf H locs ls hZ (lv_sub hl [1, 2, 3, 4, 5, 6, 7, 0] rfl)
set_option maxHeartbeats 4000000 in
set_option maxRecDepth 100000 in
theorem cX8_gather_c27_ok (l : Launch) (D : va_G) (cy : Nat → ClassId) (a0 aT aP : Nat → Nat) (N : Nat) (x1 : Int32) (x2 : Int32) (x3 : Int32) (x4 : Int32) (w0 : zS) (rv : Int32) (τ : zS) (hf : fX8_gather_c27 N x1 x2 x3 x4 w0 = some (rv, τ)) : zMi l yX8_gather cX8_gather 8 (some .int) rmX8_gather_c27 D cy shM 35 a0 aT aP w0 [.ref (a0 0), .int x1, .int x2, .int x3, .int x4, .ref (a0 27)] rv τ (fun u => u = (aT, aP)) := by
  refine zmet_i (by decide +kernel) (Or.inl rfl) (Nat.le_of_ble_eq_true rfl) ?_
  intro p e s m below meth c A Q ls hC hA hZ hl hE
  have hx := hC.1.1
  have hb := hC.1.2.1
  have hl : lv_has ls 8 [(0, .ref (a0 0)), (1, .int x1), (2, .int x2), (3, .int x3), (4, .int x4), (5, .ref (a0 27))] := hl
  unfold fX8_gather_c27 at hf
  refine lv_iconst (pc := 0) (v := (0 : Int32)) hx hb dX8_gather_0 (by decide) ?_
  refine lv_istore (pc := 1) (lv' := [(6, .int (0 : Int32)), (0, .ref (a0 0)), (1, .int x1), (2, .int x2), (3, .int x3), (4, .int x4), (5, .ref (a0 27))]) hx hb dX8_gather_1 hl (by decide) rfl (fun ls hl => ?_)
  refine lv_iconst (pc := 3) (v := (0 : Int32)) hx hb dX8_gather_3 (by decide) ?_
  refine lv_istore (pc := 4) (lv' := [(7, .int (0 : Int32)), (6, .int (0 : Int32)), (0, .ref (a0 0)), (1, .int x1), (2, .int x2), (3, .int x3), (4, .int x4), (5, .ref (a0 27))]) hx hb dX8_gather_4 hl (by decide) rfl (fun ls hl => ?_)
  refine wX8_gather_c27_6 (res := (rv, τ)) N x1 x2 x3 x4 hC hA hE N _ _ _ hf hZ (lv_sub hl [2, 3, 4, 5, 6, 7, 1, 0] rfl) (fun y7 y8 w9 H locs ls hf hZ hl => ?_)
  refine lv_iload (pc := 93) hx hb dX8_gather_93 (lv_at hl 6 rfl) ?_
  obtain ⟨rfl, rfl⟩ := zinj hf
  exact hE _ _ _ _ _ _ rfl hZ dX8_gather_95
section ZK
variable {p : Program} {l : Launch} {e : Env} {R : Room} {s : State} {m : MethodId} {args : Array Value} {below : List Frame} {meth : Method} {c : Code} {H : Heap} {locs : List Loc} {cells slots : Nat} {Q : State → Prop}
variable {pc : Nat} {ls : Array Slot} {rest : List Value} {A : Nat → Prop} {H0 : Heap} {D : va_G} {cy : Nat → ClassId} {a0 aT aP : Nat → Nat} {σ : zS} {cc : ByteArray} {nL : Nat} {α : Type} {res : α}
theorem vkX8_164 : zVk RX8 164 yX8_gather cX8_gather 8 (some .int) 5 := ⟨by decide +kernel, by decide +kernel, by decide +kernel, by decide +kernel, by decide +kernel, by decide +kernel⟩
theorem kX8_164_X8_gather_c27 (hC : zC p s m args c RX8 cc nL D cy) (hA : ∀ q, H0.size ≤ q → A q) (hZ : zW D cy shM 35 a0 aT aP A H0 σ H locs) {N : Nat} {x1 : Int32} {x2 : Int32} {x3 : Int32} {x4 : Int32} {k : Int32 → zS → Option α} (hf : zbi (fX8_gather_c27 N x1 x2 x3 x4 σ) k = some res) (hsz : ls.size = nL) (hW : (rest.map fun v => v.category).sum ≤ 8) (hR : rmX8_gather_c27.frames + 1 ≤ R.frames ∧ 8 + (8 + 11) + rmX8_gather_c27.locals ≤ R.locals) (hcs : cells ≤ R.cells ∧ slots ≤ R.slots) (hdg : decode cc pc = .ok (.invokevirtual 164, 3)) (kk : ∀ (v : Int32) (τ : zS) (H1 : Heap) (locs1 : List Loc), k v τ = some res → zW D cy shM 35 a0 aT aP A H0 τ H1 locs1 → W p l e R s m args below meth c H1 locs1 cells slots Q (F0 m (pc + 3) ls (.int v :: rest))) : W p l e R s m args below meth c H locs cells slots Q (F0 m pc ls (.ref (a0 27) :: .int x4 :: .int x3 :: .int x2 :: .int x1 :: .ref (a0 0) :: rest)) := by
  cases hq : fX8_gather_c27 N x1 x2 x3 x4 σ with
  | none => rw [hq] at hf; cases hf
  | some q =>
    rw [hq] at hf
    exact zcalli hA hZ (zrun hC hZ vkX8_164 rfl (zw0 (by decide)) (cX8_gather_c27_ok l D cy a0 aT aP N x1 x2 x3 x4 σ q.1 q.2 hq H.size) hR rfl hsz rfl hW hcs hdg) (fun u H1 locs1 hU hZ1 => by subst hU; exact kk q.1 q.2 H1 locs1 hf hZ1)
end ZK
set_option maxHeartbeats 4000000 in
set_option maxRecDepth 100000 in
theorem wX8_gather_c28_6 {p : Program} {l : Launch} {e : Env} {s : State} {m : MethodId} {args : Array Value} {below : List Frame} {meth : Method} {c : Code} {Q : State → Prop} {A : Nat → Prop} {H0 : Heap} {D : va_G} {cy : Nat → ClassId} {a0 aT aP : Nat → Nat} {res : Int32 × zS} {K : Int32 → Int32 → zS → Option (Int32 × zS)} (N : Nat) (x1 : Int32) (x2 : Int32) (x3 : Int32) (x4 : Int32) (hC : zC p s m args c RX8 cX8_gather 8 D cy) (hA : ∀ q, H0.size ≤ q → A q) (hE : zEnd p l e rmX8_gather_c28 s m args below meth c Q D cy shM 35 a0 A H0 res.2 (fun u => u = (aT, aP)) cX8_gather .ireturn [.int res.1]) (n : Nat) (x6 : Int32) (x7 : Int32) (w0 : zS) {H : Heap} {locs : List Loc} {ls : Array Slot} (hf : lX8_gather_c28_6 N x1 x2 x3 x4 K n (x6, x7, w0) = some res) (hZ : zW D cy shM 35 a0 aT aP A H0 w0 H locs) (hl : lv_has ls 8 [(0, .ref (a0 0)), (1, .int x1), (2, .int x2), (3, .int x3), (4, .int x4), (5, .ref (a0 28)), (6, .int x6), (7, .int x7)]) (hK : ∀ x6 : Int32, ∀ x7 : Int32, ∀ (w0 : zS) (H : Heap) (locs : List Loc) (ls : Array Slot), K x6 x7 w0 = some res → zW D cy shM 35 a0 aT aP A H0 w0 H locs → lv_has ls 8 [(0, .ref (a0 0)), (1, .int x1), (2, .int x2), (3, .int x3), (4, .int x4), (5, .ref (a0 28)), (6, .int x6), (7, .int x7)] → W p l e rmX8_gather_c28 s m args below meth c H locs 0 0 Q (F0 m 93 ls [])) : W p l e rmX8_gather_c28 s m args below meth c H locs 0 0 Q (F0 m 6 ls []) := by
  have hx := hC.1.1
  have hb := hC.1.2.1
  have hf2 : zlp (fun rc s1 => bX8_gather_c28_6 N x1 x2 x3 x4 K rc s1.1 s1.2.1 s1.2.2) n (x6, x7, w0) = some res := hf
  have key := zloop (S := Int32 × Int32 × zS) (α := Int32 × zS) (b := fun rc s1 => bX8_gather_c28_6 N x1 x2 x3 x4 K rc s1.1 s1.2.1 s1.2.2) (r := res) (Wd := fun s1 => ∀ (H : Heap) (locs : List Loc) (ls : Array Slot), zW D cy shM 35 a0 aT aP A H0 s1.2.2 H locs → lv_has ls 8 [(0, .ref (a0 0)), (1, .int x1), (2, .int x2), (3, .int x3), (4, .int x4), (5, .ref (a0 28)), (6, .int s1.1), (7, .int s1.2.1)] → W p l e rmX8_gather_c28 s m args below meth c H locs 0 0 Q (F0 m 6 ls []))
  refine key ?_ n (x6, x7, w0) hf2 H locs ls hZ hl
  clear hf hf2 hZ hl key
  rintro rc ⟨x6, x7, w0⟩ ih hf H locs ls hZ hl
  have hf : bX8_gather_c28_6 N x1 x2 x3 x4 K rc x6 x7 w0 = some res := hf
  have hl : lv_has ls 8 [(0, .ref (a0 0)), (1, .int x1), (2, .int x2), (3, .int x3), (4, .int x4), (5, .ref (a0 28)), (6, .int x6), (7, .int x7)] := hl
  unfold bX8_gather_c28_6 at hf
  refine lv_iload (pc := 6) hx hb dX8_gather_6 (lv_at hl 7 rfl) ?_
  refine lv_aload_n (pc := 8) hx hb dX8_gather_8 rfl (lv_at hl 0 rfl) ?_
  refine gfX8_158 (pc := 9) hC hZ dX8_gather_9 ?_
  refine z_ige (pc := 12) (tgt := 93) hC hf dX8_gather_12 (by decide) (fun hf => ?_) (fun hf => ?_)
  · exact hK x6 x7 w0 H locs ls hf hZ (lv_sub hl [0, 1, 2, 3, 4, 5, 6, 7] rfl)
  refine lv_iload (pc := 15) hx hb dX8_gather_15 (lv_at hl 6 rfl) ?_
  refine lv_bipush (pc := 17) (v := (8 : Int32)) hx hb dX8_gather_17 (by decide) ?_
  refine z_ige (pc := 19) (tgt := 93) hC hf dX8_gather_19 (by decide) (fun hf => ?_) (fun hf => ?_)
  · exact hK x6 x7 w0 H locs ls hf hZ (lv_sub hl [0, 1, 2, 3, 4, 5, 6, 7] rfl)
  refine lv_aload_n (pc := 22) hx hb dX8_gather_22 rfl (lv_at hl 0 rfl) ?_
  refine gfX8_35 (pc := 23) hC hZ dX8_gather_23 ?_
  refine lv_iload (pc := 26) hx hb dX8_gather_26 (lv_at hl 7 rfl) ?_
  refine z_zald (pc := 28) hC hZ (by decide) rfl hf dX8_gather_28 (fun v1 hf => ?_)
  refine lv_iload_n (pc := 29) hx hb dX8_gather_29 rfl (lv_at hl 1 rfl) ?_
  refine z_ine (pc := 30) (tgt := 87) hC hf dX8_gather_30 (by decide) (fun hf => ?_) (fun hf => ?_)
  · refine lv_aload_n (pc := 33) hx hb dX8_gather_33 rfl (lv_at hl 0 rfl) ?_
    refine gfX8_54 (pc := 34) hC hZ dX8_gather_34 ?_
    refine lv_iload (pc := 37) hx hb dX8_gather_37 (lv_at hl 7 rfl) ?_
    refine z_iald (pc := 39) hC hZ (by decide) rfl hf dX8_gather_39 (fun v2 hf => ?_)
    refine z_ne0 (pc := 40) (tgt := 87) hC hf dX8_gather_40 (by decide) (fun hf => ?_) (fun hf => ?_)
    · refine lv_aload_n (pc := 43) hx hb dX8_gather_43 rfl (lv_at hl 0 rfl) ?_
      refine gfX8_39 (pc := 44) hC hZ dX8_gather_44 ?_
      refine lv_iload (pc := 47) hx hb dX8_gather_47 (lv_at hl 7 rfl) ?_
      refine z_iald (pc := 49) hC hZ (by decide) rfl hf dX8_gather_49 (fun v3 hf => ?_)
      refine lv_iload_n (pc := 50) hx hb dX8_gather_50 rfl (lv_at hl 2 rfl) ?_
      refine z_ine (pc := 51) (tgt := 87) hC hf dX8_gather_51 (by decide) (fun hf => ?_) (fun hf => ?_)
      · refine lv_aload_n (pc := 54) hx hb dX8_gather_54 rfl (lv_at hl 0 rfl) ?_
        refine gfX8_42 (pc := 55) hC hZ dX8_gather_55 ?_
        refine lv_iload (pc := 58) hx hb dX8_gather_58 (lv_at hl 7 rfl) ?_
        refine z_iald (pc := 60) hC hZ (by decide) rfl hf dX8_gather_60 (fun v4 hf => ?_)
        refine lv_iload_n (pc := 61) hx hb dX8_gather_61 rfl (lv_at hl 3 rfl) ?_
        refine z_ine (pc := 62) (tgt := 87) hC hf dX8_gather_62 (by decide) (fun hf => ?_) (fun hf => ?_)
        · refine lv_aload_n (pc := 65) hx hb dX8_gather_65 rfl (lv_at hl 0 rfl) ?_
          refine gfX8_45 (pc := 66) hC hZ dX8_gather_66 ?_
          refine lv_iload (pc := 69) hx hb dX8_gather_69 (lv_at hl 7 rfl) ?_
          refine z_iald (pc := 71) hC hZ (by decide) rfl hf dX8_gather_71 (fun v5 hf => ?_)
          refine lv_iload (pc := 72) hx hb dX8_gather_72 (lv_at hl 4 rfl) ?_
          refine z_ine (pc := 74) (tgt := 87) hC hf dX8_gather_74 (by decide) (fun hf => ?_) (fun hf => ?_)
          · refine lv_aload (pc := 77) hx hb dX8_gather_77 (lv_at hl 5 rfl) ?_
            refine lv_iload (pc := 79) hx hb dX8_gather_79 (lv_at hl 6 rfl) ?_
            refine lv_iload (pc := 81) hx hb dX8_gather_81 (lv_at hl 7 rfl) ?_
            refine z_iast (pc := 83) hC hZ (by decide) rfl hf dX8_gather_83 (fun w6 H locs hf hZ => ?_)
            refine lv_iinc (pc := 84) (v := (x6 + (1 : Int32))) (lv' := [(6, .int (x6 + (1 : Int32))), (0, .ref (a0 0)), (1, .int x1), (2, .int x2), (3, .int x3), (4, .int x4), (5, .ref (a0 28)), (7, .int x7)]) hx hb dX8_gather_84 hl (k := 6) rfl rfl (by decide) rfl (fun ls hl => ?_)
            refine lv_iinc (pc := 87) (v := (x7 + (1 : Int32))) (lv' := [(7, .int (x7 + (1 : Int32))), (6, .int (x6 + (1 : Int32))), (0, .ref (a0 0)), (1, .int x1), (2, .int x2), (3, .int x3), (4, .int x4), (5, .ref (a0 28))]) hx hb dX8_gather_87 hl (k := 7) rfl rfl (by decide) rfl (fun ls hl => ?_)
            refine lv_goto (pc := 90) (tgt := 6) hx hb dX8_gather_90 (by decide) ?_
            exact ih ((x6 + (1 : Int32)), (x7 + (1 : Int32)), w6) hf H locs ls hZ (lv_sub hl [2, 3, 4, 5, 6, 7, 1, 0] rfl)
          refine lv_iinc (pc := 87) (v := (x7 + (1 : Int32))) (lv' := [(7, .int (x7 + (1 : Int32))), (0, .ref (a0 0)), (1, .int x1), (2, .int x2), (3, .int x3), (4, .int x4), (5, .ref (a0 28)), (6, .int x6)]) hx hb dX8_gather_87 hl (k := 7) rfl rfl (by decide) rfl (fun ls hl => ?_)
          refine lv_goto (pc := 90) (tgt := 6) hx hb dX8_gather_90 (by decide) ?_
          exact ih (x6, (x7 + (1 : Int32)), w0) hf H locs ls hZ (lv_sub hl [1, 2, 3, 4, 5, 6, 7, 0] rfl)
        refine lv_iinc (pc := 87) (v := (x7 + (1 : Int32))) (lv' := [(7, .int (x7 + (1 : Int32))), (0, .ref (a0 0)), (1, .int x1), (2, .int x2), (3, .int x3), (4, .int x4), (5, .ref (a0 28)), (6, .int x6)]) hx hb dX8_gather_87 hl (k := 7) rfl rfl (by decide) rfl (fun ls hl => ?_)
        refine lv_goto (pc := 90) (tgt := 6) hx hb dX8_gather_90 (by decide) ?_
        exact ih (x6, (x7 + (1 : Int32)), w0) hf H locs ls hZ (lv_sub hl [1, 2, 3, 4, 5, 6, 7, 0] rfl)
      refine lv_iinc (pc := 87) (v := (x7 + (1 : Int32))) (lv' := [(7, .int (x7 + (1 : Int32))), (0, .ref (a0 0)), (1, .int x1), (2, .int x2), (3, .int x3), (4, .int x4), (5, .ref (a0 28)), (6, .int x6)]) hx hb dX8_gather_87 hl (k := 7) rfl rfl (by decide) rfl (fun ls hl => ?_)
      refine lv_goto (pc := 90) (tgt := 6) hx hb dX8_gather_90 (by decide) ?_
      exact ih (x6, (x7 + (1 : Int32)), w0) hf H locs ls hZ (lv_sub hl [1, 2, 3, 4, 5, 6, 7, 0] rfl)
    refine lv_iinc (pc := 87) (v := (x7 + (1 : Int32))) (lv' := [(7, .int (x7 + (1 : Int32))), (0, .ref (a0 0)), (1, .int x1), (2, .int x2), (3, .int x3), (4, .int x4), (5, .ref (a0 28)), (6, .int x6)]) hx hb dX8_gather_87 hl (k := 7) rfl rfl (by decide) rfl (fun ls hl => ?_)
    refine lv_goto (pc := 90) (tgt := 6) hx hb dX8_gather_90 (by decide) ?_
    exact ih (x6, (x7 + (1 : Int32)), w0) hf H locs ls hZ (lv_sub hl [1, 2, 3, 4, 5, 6, 7, 0] rfl)
  refine lv_iinc (pc := 87) (v := (x7 + (1 : Int32))) (lv' := [(7, .int (x7 + (1 : Int32))), (0, .ref (a0 0)), (1, .int x1), (2, .int x2), (3, .int x3), (4, .int x4), (5, .ref (a0 28)), (6, .int x6)]) hx hb dX8_gather_87 hl (k := 7) rfl rfl (by decide) rfl (fun ls hl => ?_)
  refine lv_goto (pc := 90) (tgt := 6) hx hb dX8_gather_90 (by decide) ?_
  exact ih (x6, (x7 + (1 : Int32)), w0) hf H locs ls hZ (lv_sub hl [1, 2, 3, 4, 5, 6, 7, 0] rfl)
set_option maxHeartbeats 4000000 in
set_option maxRecDepth 100000 in
theorem cX8_gather_c28_ok (l : Launch) (D : va_G) (cy : Nat → ClassId) (a0 aT aP : Nat → Nat) (N : Nat) (x1 : Int32) (x2 : Int32) (x3 : Int32) (x4 : Int32) (w0 : zS) (rv : Int32) (τ : zS) (hf : fX8_gather_c28 N x1 x2 x3 x4 w0 = some (rv, τ)) : zMi l yX8_gather cX8_gather 8 (some .int) rmX8_gather_c28 D cy shM 35 a0 aT aP w0 [.ref (a0 0), .int x1, .int x2, .int x3, .int x4, .ref (a0 28)] rv τ (fun u => u = (aT, aP)) := by
  refine zmet_i (by decide +kernel) (Or.inl rfl) (Nat.le_of_ble_eq_true rfl) ?_
  intro p e s m below meth c A Q ls hC hA hZ hl hE
  have hx := hC.1.1
  have hb := hC.1.2.1
  have hl : lv_has ls 8 [(0, .ref (a0 0)), (1, .int x1), (2, .int x2), (3, .int x3), (4, .int x4), (5, .ref (a0 28))] := hl
  unfold fX8_gather_c28 at hf
  refine lv_iconst (pc := 0) (v := (0 : Int32)) hx hb dX8_gather_0 (by decide) ?_
  refine lv_istore (pc := 1) (lv' := [(6, .int (0 : Int32)), (0, .ref (a0 0)), (1, .int x1), (2, .int x2), (3, .int x3), (4, .int x4), (5, .ref (a0 28))]) hx hb dX8_gather_1 hl (by decide) rfl (fun ls hl => ?_)
  refine lv_iconst (pc := 3) (v := (0 : Int32)) hx hb dX8_gather_3 (by decide) ?_
  refine lv_istore (pc := 4) (lv' := [(7, .int (0 : Int32)), (6, .int (0 : Int32)), (0, .ref (a0 0)), (1, .int x1), (2, .int x2), (3, .int x3), (4, .int x4), (5, .ref (a0 28))]) hx hb dX8_gather_4 hl (by decide) rfl (fun ls hl => ?_)
  refine wX8_gather_c28_6 (res := (rv, τ)) N x1 x2 x3 x4 hC hA hE N _ _ _ hf hZ (lv_sub hl [2, 3, 4, 5, 6, 7, 1, 0] rfl) (fun y7 y8 w9 H locs ls hf hZ hl => ?_)
  refine lv_iload (pc := 93) hx hb dX8_gather_93 (lv_at hl 6 rfl) ?_
  obtain ⟨rfl, rfl⟩ := zinj hf
  exact hE _ _ _ _ _ _ rfl hZ dX8_gather_95
section ZK
variable {p : Program} {l : Launch} {e : Env} {R : Room} {s : State} {m : MethodId} {args : Array Value} {below : List Frame} {meth : Method} {c : Code} {H : Heap} {locs : List Loc} {cells slots : Nat} {Q : State → Prop}
variable {pc : Nat} {ls : Array Slot} {rest : List Value} {A : Nat → Prop} {H0 : Heap} {D : va_G} {cy : Nat → ClassId} {a0 aT aP : Nat → Nat} {σ : zS} {cc : ByteArray} {nL : Nat} {α : Type} {res : α}
theorem kX8_164_X8_gather_c28 (hC : zC p s m args c RX8 cc nL D cy) (hA : ∀ q, H0.size ≤ q → A q) (hZ : zW D cy shM 35 a0 aT aP A H0 σ H locs) {N : Nat} {x1 : Int32} {x2 : Int32} {x3 : Int32} {x4 : Int32} {k : Int32 → zS → Option α} (hf : zbi (fX8_gather_c28 N x1 x2 x3 x4 σ) k = some res) (hsz : ls.size = nL) (hW : (rest.map fun v => v.category).sum ≤ 8) (hR : rmX8_gather_c28.frames + 1 ≤ R.frames ∧ 8 + (8 + 11) + rmX8_gather_c28.locals ≤ R.locals) (hcs : cells ≤ R.cells ∧ slots ≤ R.slots) (hdg : decode cc pc = .ok (.invokevirtual 164, 3)) (kk : ∀ (v : Int32) (τ : zS) (H1 : Heap) (locs1 : List Loc), k v τ = some res → zW D cy shM 35 a0 aT aP A H0 τ H1 locs1 → W p l e R s m args below meth c H1 locs1 cells slots Q (F0 m (pc + 3) ls (.int v :: rest))) : W p l e R s m args below meth c H locs cells slots Q (F0 m pc ls (.ref (a0 28) :: .int x4 :: .int x3 :: .int x2 :: .int x1 :: .ref (a0 0) :: rest)) := by
  cases hq : fX8_gather_c28 N x1 x2 x3 x4 σ with
  | none => rw [hq] at hf; cases hf
  | some q =>
    rw [hq] at hf
    exact zcalli hA hZ (zrun hC hZ vkX8_164 rfl (zw0 (by decide)) (cX8_gather_c28_ok l D cy a0 aT aP N x1 x2 x3 x4 σ q.1 q.2 hq H.size) hR rfl hsz rfl hW hcs hdg) (fun u H1 locs1 hU hZ1 => by subst hU; exact kk q.1 q.2 H1 locs1 hf hZ1)
end ZK
