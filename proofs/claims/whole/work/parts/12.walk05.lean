set_option maxHeartbeats 4000000 in
set_option maxRecDepth 100000 in
theorem cX7_share_ok (l : Launch) (D : va_G) (cy : Nat → ClassId) (a0 aT aP : Nat → Nat) (N : Nat) (x1 : Int32) (x2 : Int32) (w0 : zS) (rv : Int32) (τ : zS) (hf : fX7_share N x1 x2 w0 = some (rv, τ)) : zMi l yX7_share cX7_share 3 (some .int) rmX7_share D cy shX 38 a0 aT aP w0 [.ref (a0 0), .int x1, .int x2] rv τ (fun u => u = (aT, aP)) := by
  refine zmet_i (by decide +kernel) (Or.inl rfl) (Nat.le_of_ble_eq_true rfl) ?_
  intro p e s m below meth c A Q ls hC hA hZ hl hE
  have hx := hC.1.1
  have hb := hC.1.2.1
  have hl : lv_has ls 3 [(0, .ref (a0 0)), (1, .int x1), (2, .int x2)] := hl
  unfold fX7_share at hf
  refine lv_aload_n (pc := 0) hx hb dX7_share_0 rfl (lv_at hl 0 rfl) ?_
  refine lv_iload_n (pc := 1) hx hb dX7_share_1 rfl (lv_at hl 1 rfl) ?_
  refine kX7_77 (pc := 2) hC hA hZ hf hl.1 (Nat.le_of_ble_eq_true rfl) ⟨Nat.le_of_ble_eq_true rfl, Nat.le_of_ble_eq_true rfl⟩ ⟨Nat.le_refl _, Nat.le_refl _⟩ dX7_share_2 (fun v2 w1 H locs hf hZ => ?_)
  refine z_eq0 (pc := 5) (tgt := 16) hC hf dX7_share_5 (by decide) (fun hf => ?_) (fun hf => ?_)
  · refine lv_aload_n (pc := 16) hx hb dX7_share_16 rfl (lv_at hl 0 rfl) ?_
    refine lv_iconst (pc := 17) (v := (-1 : Int32)) hx hb dX7_share_17 (by decide) ?_
    refine kX7_73 (pc := 18) hC hA hZ hf hl.1 (Nat.le_of_ble_eq_true rfl) ⟨Nat.le_of_ble_eq_true rfl, Nat.le_of_ble_eq_true rfl⟩ ⟨Nat.le_refl _, Nat.le_refl _⟩ dX7_share_18 (fun v4 w3 H locs hf hZ => ?_)
    obtain ⟨rfl, rfl⟩ := zinj hf
    exact hE _ _ _ _ _ _ rfl hZ dX7_share_21
  refine lv_aload_n (pc := 8) hx hb dX7_share_8 rfl (lv_at hl 0 rfl) ?_
  refine lv_iload_n (pc := 9) hx hb dX7_share_9 rfl (lv_at hl 2 rfl) ?_
  refine kX7_81 (pc := 10) hC hA hZ hf hl.1 (Nat.le_of_ble_eq_true rfl) ⟨Nat.le_of_ble_eq_true rfl, Nat.le_of_ble_eq_true rfl⟩ ⟨Nat.le_refl _, Nat.le_refl _⟩ dX7_share_10 (fun v6 w5 H locs hf hZ => ?_)
  refine z_ne0 (pc := 13) (tgt := 22) hC hf dX7_share_13 (by decide) (fun hf => ?_) (fun hf => ?_)
  · refine lv_aload_n (pc := 16) hx hb dX7_share_16 rfl (lv_at hl 0 rfl) ?_
    refine lv_iconst (pc := 17) (v := (-1 : Int32)) hx hb dX7_share_17 (by decide) ?_
    refine kX7_73 (pc := 18) hC hA hZ hf hl.1 (Nat.le_of_ble_eq_true rfl) ⟨Nat.le_of_ble_eq_true rfl, Nat.le_of_ble_eq_true rfl⟩ ⟨Nat.le_refl _, Nat.le_refl _⟩ dX7_share_18 (fun v8 w7 H locs hf hZ => ?_)
    obtain ⟨rfl, rfl⟩ := zinj hf
    exact hE _ _ _ _ _ _ rfl hZ dX7_share_21
  refine lv_aload_n (pc := 22) hx hb dX7_share_22 rfl (lv_at hl 0 rfl) ?_
  refine lv_iload_n (pc := 23) hx hb dX7_share_23 rfl (lv_at hl 1 rfl) ?_
  refine lv_iload_n (pc := 24) hx hb dX7_share_24 rfl (lv_at hl 2 rfl) ?_
  refine lv_aload_n (pc := 25) hx hb dX7_share_25 rfl (lv_at hl 0 rfl) ?_
  refine lv_iload_n (pc := 26) hx hb dX7_share_26 rfl (lv_at hl 2 rfl) ?_
  refine kX7_157 (pc := 27) hC hA hZ hf hl.1 (Nat.le_of_ble_eq_true rfl) ⟨Nat.le_of_ble_eq_true rfl, Nat.le_of_ble_eq_true rfl⟩ ⟨Nat.le_refl _, Nat.le_refl _⟩ dX7_share_27 (fun v10 w9 H locs hf hZ => ?_)
  refine lv_i2l (pc := 30) hx hb dX7_share_30 rfl ?_
  refine lv_aload_n (pc := 31) hx hb dX7_share_31 rfl (lv_at hl 0 rfl) ?_
  refine gfX7_9 (pc := 32) hC hZ dX7_share_32 ?_
  refine lv_iload_n (pc := 35) hx hb dX7_share_35 rfl (lv_at hl 2 rfl) ?_
  refine z_iald (pc := 36) hC hZ (by decide) rfl hf dX7_share_36 (fun v11 hf => ?_)
  refine lv_i2l (pc := 37) hx hb dX7_share_37 rfl ?_
  refine lv_lmul (pc := 38) hx hb dX7_share_38 ?_
  refine kX7_160 (pc := 39) hC hA hZ hf hl.1 (Nat.le_of_ble_eq_true rfl) ⟨Nat.le_of_ble_eq_true rfl, Nat.le_of_ble_eq_true rfl⟩ ⟨Nat.le_refl _, Nat.le_refl _⟩ dX7_share_39 (fun v13 w12 H locs hf hZ => ?_)
  obtain ⟨rfl, rfl⟩ := zinj hf
  exact hE _ _ _ _ _ _ rfl hZ dX7_share_42
set_option maxHeartbeats 4000000 in
set_option maxRecDepth 100000 in
theorem cX7_whyNoMonth_ok (l : Launch) (D : va_G) (cy : Nat → ClassId) (a0 aT aP : Nat → Nat) (N : Nat) (x1 : Int32) (x2 : Int32) (w0 : zS) (rv : Int32) (τ : zS) (hf : fX7_whyNoMonth N x1 x2 w0 = some (rv, τ)) : zMi l yX7_whyNoMonth cX7_whyNoMonth 3 (some .int) rmX7_whyNoMonth D cy shX 38 a0 aT aP w0 [.ref (a0 0), .int x1, .int x2] rv τ (fun u => u = (aT, aP)) := by
  refine zmet_i (by decide +kernel) (Or.inl rfl) (Nat.le_of_ble_eq_true rfl) ?_
  intro p e s m below meth c A Q ls hC hA hZ hl hE
  have hx := hC.1.1
  have hb := hC.1.2.1
  have hl : lv_has ls 3 [(0, .ref (a0 0)), (1, .int x1), (2, .int x2)] := hl
  unfold fX7_whyNoMonth at hf
  refine lv_aload_n (pc := 0) hx hb dX7_whyNoMonth_0 rfl (lv_at hl 0 rfl) ?_
  refine lv_iload_n (pc := 1) hx hb dX7_whyNoMonth_1 rfl (lv_at hl 1 rfl) ?_
  refine kX7_77 (pc := 2) hC hA hZ hf hl.1 (Nat.le_of_ble_eq_true rfl) ⟨Nat.le_of_ble_eq_true rfl, Nat.le_of_ble_eq_true rfl⟩ ⟨Nat.le_refl _, Nat.le_refl _⟩ dX7_whyNoMonth_2 (fun v2 w1 H locs hf hZ => ?_)
  refine z_ne0 (pc := 5) (tgt := 10) hC hf dX7_whyNoMonth_5 (by decide) (fun hf => ?_) (fun hf => ?_)
  · refine lv_iconst (pc := 8) (v := (-1 : Int32)) hx hb dX7_whyNoMonth_8 (by decide) ?_
    obtain ⟨rfl, rfl⟩ := zinj hf
    exact hE _ _ _ _ _ _ rfl hZ dX7_whyNoMonth_9
  refine lv_iload_n (pc := 10) hx hb dX7_whyNoMonth_10 rfl (lv_at hl 2 rfl) ?_
  refine z_ge0 (pc := 11) (tgt := 17) hC hf dX7_whyNoMonth_11 (by decide) (fun hf => ?_) (fun hf => ?_)
  · refine lv_iload_n (pc := 17) hx hb dX7_whyNoMonth_17 rfl (lv_at hl 2 rfl) ?_
    refine lv_bipush (pc := 18) (v := (20 : Int32)) hx hb dX7_whyNoMonth_18 (by decide) ?_
    refine z_ilt (pc := 20) (tgt := 28) hC hf dX7_whyNoMonth_20 (by decide) (fun hf => ?_) (fun hf => ?_)
    · refine lv_iconst (pc := 28) (v := (0 : Int32)) hx hb dX7_whyNoMonth_28 (by decide) ?_
      obtain ⟨rfl, rfl⟩ := zinj hf
      exact hE _ _ _ _ _ _ rfl hZ dX7_whyNoMonth_29
    refine lv_bipush (pc := 23) (v := (-6 : Int32)) hx hb dX7_whyNoMonth_23 (by decide) ?_
    refine lv_goto (pc := 25) (tgt := 29) hx hb dX7_whyNoMonth_25 (by decide) ?_
    obtain ⟨rfl, rfl⟩ := zinj hf
    exact hE _ _ _ _ _ _ rfl hZ dX7_whyNoMonth_29
  refine lv_bipush (pc := 14) (v := (-4 : Int32)) hx hb dX7_whyNoMonth_14 (by decide) ?_
  obtain ⟨rfl, rfl⟩ := zinj hf
  exact hE _ _ _ _ _ _ rfl hZ dX7_whyNoMonth_16
section ZK
variable {p : Program} {l : Launch} {e : Env} {R : Room} {s : State} {m : MethodId} {args : Array Value} {below : List Frame} {meth : Method} {c : Code} {H : Heap} {locs : List Loc} {cells slots : Nat} {Q : State → Prop}
variable {pc : Nat} {ls : Array Slot} {rest : List Value} {A : Nat → Prop} {H0 : Heap} {D : va_G} {cy : Nat → ClassId} {a0 aT aP : Nat → Nat} {σ : zS} {cc : ByteArray} {nL : Nat} {α : Type} {res : α}
theorem vkX7_164 : zVk RX7 164 yX7_whyNoMonth cX7_whyNoMonth 3 (some .int) 2 := ⟨by decide +kernel, by decide +kernel, by decide +kernel, by decide +kernel, by decide +kernel, by decide +kernel⟩
theorem kX7_164 (hC : zC p s m args c RX7 cc nL D cy) (hA : ∀ q, H0.size ≤ q → A q) (hZ : zW D cy shX 38 a0 aT aP A H0 σ H locs) {N : Nat} {x1 : Int32} {x2 : Int32} {k : Int32 → zS → Option α} (hf : zbi (fX7_whyNoMonth N x1 x2 σ) k = some res) (hsz : ls.size = nL) (hW : (rest.map fun v => v.category).sum ≤ 8) (hR : rmX7_whyNoMonth.frames + 1 ≤ R.frames ∧ 8 + (3 + 11) + rmX7_whyNoMonth.locals ≤ R.locals) (hcs : cells ≤ R.cells ∧ slots ≤ R.slots) (hdg : decode cc pc = .ok (.invokevirtual 164, 3)) (kk : ∀ (v : Int32) (τ : zS) (H1 : Heap) (locs1 : List Loc), k v τ = some res → zW D cy shX 38 a0 aT aP A H0 τ H1 locs1 → W p l e R s m args below meth c H1 locs1 cells slots Q (F0 m (pc + 3) ls (.int v :: rest))) : W p l e R s m args below meth c H locs cells slots Q (F0 m pc ls (.int x2 :: .int x1 :: .ref (a0 0) :: rest)) := by
  cases hq : fX7_whyNoMonth N x1 x2 σ with
  | none => rw [hq] at hf; cases hf
  | some q =>
    rw [hq] at hf
    exact zcalli hA hZ (zrun hC hZ vkX7_164 rfl (zw0 (by decide)) (cX7_whyNoMonth_ok l D cy a0 aT aP N x1 x2 σ q.1 q.2 hq H.size) hR rfl hsz rfl hW hcs hdg) (fun u H1 locs1 hU hZ1 => by subst hU; exact kk q.1 q.2 H1 locs1 hf hZ1)
end ZK
set_option maxHeartbeats 4000000 in
set_option maxRecDepth 100000 in
theorem wJ7_fill_53178_c16_5 {p : Program} {l : Launch} {e : Env} {s : State} {m : MethodId} {args : Array Value} {below : List Frame} {meth : Method} {c : Code} {Q : State → Prop} {A : Nat → Prop} {H0 : Heap} {D : va_G} {cy : Nat → ClassId} {a0 aT aP : Nat → Nat} {res : zS} {K : Int32 → zS → Option (zS)} (N : Nat) (x1 : Int32) (x3 : Int32) (hC : zC p s m args c RJ7 cJ7_fill_53178 4 D cy) (hA : ∀ q, H0.size ≤ q → A q) (hE : zEnd p l e rmJ7_fill_53178_c16 s m args below meth c Q D cy shX 38 a0 A H0 res (fun u => u = (aT, aP)) cJ7_fill_53178 .return_ []) (n : Nat) (x2 : Int32) (w0 : zS) {H : Heap} {locs : List Loc} {ls : Array Slot} (hf : lJ7_fill_53178_c16_5 N x1 x3 K n (x2, w0) = some res) (hZ : zW D cy shX 38 a0 aT aP A H0 w0 H locs) (hl : lv_has ls 4 [(0, .ref (a0 16)), (1, .int x1), (2, .int x2), (3, .int x3)]) (hK : ∀ x2 : Int32, ∀ (w0 : zS) (H : Heap) (locs : List Loc) (ls : Array Slot), K x2 w0 = some res → zW D cy shX 38 a0 aT aP A H0 w0 H locs → lv_has ls 4 [(0, .ref (a0 16)), (1, .int x1), (2, .int x2), (3, .int x3)] → W p l e rmJ7_fill_53178_c16 s m args below meth c H locs 0 0 Q (F0 m 20 ls [])) : W p l e rmJ7_fill_53178_c16 s m args below meth c H locs 0 0 Q (F0 m 5 ls []) := by
  have hx := hC.1.1
  have hb := hC.1.2.1
  have hf2 : zlp (fun rc s1 => bJ7_fill_53178_c16_5 N x1 x3 K rc s1.1 s1.2) n (x2, w0) = some res := hf
  have key := zloop (S := Int32 × zS) (α := zS) (b := fun rc s1 => bJ7_fill_53178_c16_5 N x1 x3 K rc s1.1 s1.2) (r := res) (Wd := fun s1 => ∀ (H : Heap) (locs : List Loc) (ls : Array Slot), zW D cy shX 38 a0 aT aP A H0 s1.2 H locs → lv_has ls 4 [(0, .ref (a0 16)), (1, .int x1), (2, .int s1.1), (3, .int x3)] → W p l e rmJ7_fill_53178_c16 s m args below meth c H locs 0 0 Q (F0 m 5 ls []))
  refine key ?_ n (x2, w0) hf2 H locs ls hZ hl
  clear hf hf2 hZ hl key
  rintro rc ⟨x2, w0⟩ ih hf H locs ls hZ hl
  have hf : bJ7_fill_53178_c16_5 N x1 x3 K rc x2 w0 = some res := hf
  have hl : lv_has ls 4 [(0, .ref (a0 16)), (1, .int x1), (2, .int x2), (3, .int x3)] := hl
  unfold bJ7_fill_53178_c16_5 at hf
  refine lv_iload_n (pc := 5) hx hb dJ7_fill_53178_5 rfl (lv_at hl 2 rfl) ?_
  refine lv_iload_n (pc := 6) hx hb dJ7_fill_53178_6 rfl (lv_at hl 3 rfl) ?_
  refine z_ige (pc := 7) (tgt := 20) hC hf dJ7_fill_53178_7 (by decide) (fun hf => ?_) (fun hf => ?_)
  · exact hK x2 w0 H locs ls hf hZ (lv_sub hl [0, 1, 2, 3] rfl)
  refine lv_aload_n (pc := 10) hx hb dJ7_fill_53178_10 rfl (lv_at hl 0 rfl) ?_
  refine lv_iload_n (pc := 11) hx hb dJ7_fill_53178_11 rfl (lv_at hl 2 rfl) ?_
  refine lv_iload_n (pc := 12) hx hb dJ7_fill_53178_12 rfl (lv_at hl 1 rfl) ?_
  refine z_iast (pc := 13) hC hZ (by decide) rfl hf dJ7_fill_53178_13 (fun w1 H locs hf hZ => ?_)
  refine lv_iinc (pc := 14) (v := (x2 + (1 : Int32))) (lv' := [(2, .int (x2 + (1 : Int32))), (0, .ref (a0 16)), (1, .int x1), (3, .int x3)]) hx hb dJ7_fill_53178_14 hl (k := 2) rfl rfl (by decide) rfl (fun ls hl => ?_)
  refine lv_goto (pc := 17) (tgt := 5) hx hb dJ7_fill_53178_17 (by decide) ?_
  exact ih ((x2 + (1 : Int32)), w1) hf H locs ls hZ (lv_sub hl [1, 2, 0, 3] rfl)
set_option maxHeartbeats 4000000 in
set_option maxRecDepth 100000 in
theorem cJ7_fill_53178_c16_ok (l : Launch) (D : va_G) (cy : Nat → ClassId) (a0 aT aP : Nat → Nat) (N : Nat) (x1 : Int32) (w0 : zS) (τ : zS) (hf : fJ7_fill_53178_c16 N x1 w0 = some τ) : zMv l yJ7_fill_53178 cJ7_fill_53178 4 none rmJ7_fill_53178_c16 D cy shX 38 a0 aT aP w0 [.ref (a0 16), .int x1] τ (fun u => u = (aT, aP)) := by
  refine zmet_v (by decide +kernel) rfl (Nat.le_of_ble_eq_true rfl) ?_
  intro p e s m below meth c A Q ls hC hA hZ hl hE
  have hx := hC.1.1
  have hb := hC.1.2.1
  have hl : lv_has ls 4 [(0, .ref (a0 16)), (1, .int x1)] := hl
  unfold fJ7_fill_53178_c16 at hf
  refine lv_iconst (pc := 0) (v := (0 : Int32)) hx hb dJ7_fill_53178_0 (by decide) ?_
  refine lv_istore_n (pc := 1) (lv' := [(2, .int (0 : Int32)), (0, .ref (a0 16)), (1, .int x1)]) hx hb dJ7_fill_53178_1 rfl hl (by decide) rfl (fun ls hl => ?_)
  refine lv_aload_n (pc := 2) hx hb dJ7_fill_53178_2 rfl (lv_at hl 1 rfl) ?_
  refine z_alen (pc := 3) (v := (180 : Int32)) hC hZ (by decide) rfl rfl (by decide) dJ7_fill_53178_3 ?_
  refine lv_istore_n (pc := 4) (lv' := [(3, .int (180 : Int32)), (2, .int (0 : Int32)), (0, .ref (a0 16)), (1, .int x1)]) hx hb dJ7_fill_53178_4 rfl hl (by decide) rfl (fun ls hl => ?_)
  refine wJ7_fill_53178_c16_5 (res := τ) N x1 (180 : Int32) hC hA hE N _ _ hf hZ (lv_sub hl [2, 3, 1, 0] rfl) (fun y2 w3 H locs ls hf hZ hl => ?_)
  obtain rfl := Option.some.inj hf
  exact hE _ _ _ _ _ _ rfl hZ dJ7_fill_53178_20
section ZK
variable {p : Program} {l : Launch} {e : Env} {R : Room} {s : State} {m : MethodId} {args : Array Value} {below : List Frame} {meth : Method} {c : Code} {H : Heap} {locs : List Loc} {cells slots : Nat} {Q : State → Prop}
variable {pc : Nat} {ls : Array Slot} {rest : List Value} {A : Nat → Prop} {H0 : Heap} {D : va_G} {cy : Nat → ClassId} {a0 aT aP : Nat → Nat} {σ : zS} {cc : ByteArray} {nL : Nat} {α : Type} {res : α}
theorem vkX3_45 : zSk RX3 45 yJ7_fill_53178 cJ7_fill_53178 4 none 2 := ⟨by decide +kernel, by decide +kernel, by decide +kernel, by decide +kernel, by decide +kernel⟩
theorem kX3_45_J7_fill_53178_c16 (hC : zC p s m args c RX3 cc nL D cy) (hA : ∀ q, H0.size ≤ q → A q) (hZ : zW D cy shX 38 a0 aT aP A H0 σ H locs) {N : Nat} {x1 : Int32} {k : zS → Option α} (hf : zbv (fJ7_fill_53178_c16 N x1 σ) k = some res) (hsz : ls.size = nL) (hW : (rest.map fun v => v.category).sum ≤ 8) (hR : rmJ7_fill_53178_c16.frames + 1 ≤ R.frames ∧ 8 + (4 + 11) + rmJ7_fill_53178_c16.locals ≤ R.locals) (hcs : cells ≤ R.cells ∧ slots ≤ R.slots) (hdg : decode cc pc = .ok (.invokestatic 45, 3)) (kk : ∀ (τ : zS) (H1 : Heap) (locs1 : List Loc), k τ = some res → zW D cy shX 38 a0 aT aP A H0 τ H1 locs1 → W p l e R s m args below meth c H1 locs1 cells slots Q (F0 m (pc + 3) ls (rest))) : W p l e R s m args below meth c H locs cells slots Q (F0 m pc ls (.int x1 :: .ref (a0 16) :: rest)) := by
  cases hq : fJ7_fill_53178_c16 N x1 σ with
  | none => rw [hq] at hf; cases hf
  | some q =>
    rw [hq] at hf
    exact zcallv hA hZ (zrunS hC hZ vkX3_45 (cJ7_fill_53178_c16_ok l D cy a0 aT aP N x1 σ q hq H.size) hR rfl hsz rfl hW hcs hdg) (fun u H1 locs1 hU hZ1 => by subst hU; exact kk q H1 locs1 hf hZ1)
end ZK
set_option maxHeartbeats 4000000 in
set_option maxRecDepth 100000 in
theorem wX3_gatherChanges_10 {p : Program} {l : Launch} {e : Env} {s : State} {m : MethodId} {args : Array Value} {below : List Frame} {meth : Method} {c : Code} {Q : State → Prop} {A : Nat → Prop} {H0 : Heap} {D : va_G} {cy : Nat → ClassId} {a0 aT aP : Nat → Nat} {res : zS} {K : Int32 → zS → Option (zS)} (N : Nat) (x1 : Int32) (x2 : Int32) (hC : zC p s m args c RX3 cX3_gatherChanges 6 D cy) (hA : ∀ q, H0.size ≤ q → A q) (hE : zEnd p l e rmX3_gatherChanges s m args below meth c Q D cy shX 38 a0 A H0 res (fun u => u = (aT, aP)) cX3_gatherChanges .return_ []) (n : Nat) (x3 : Int32) (w0 : zS) {H : Heap} {locs : List Loc} {ls : Array Slot} (hf : lX3_gatherChanges_10 N x1 x2 K n (x3, w0) = some res) (hZ : zW D cy shX 38 a0 aT aP A H0 w0 H locs) (hl : lv_has ls 6 [(0, .ref (a0 1)), (1, .int x1), (2, .int x2), (3, .int x3)]) (hK : ∀ x3 : Int32, ∀ (w0 : zS) (H : Heap) (locs : List Loc) (ls : Array Slot), K x3 w0 = some res → zW D cy shX 38 a0 aT aP A H0 w0 H locs → lv_has ls 6 [(0, .ref (a0 1)), (1, .int x1), (2, .int x2), (3, .int x3)] → W p l e rmX3_gatherChanges s m args below meth c H locs 0 0 Q (F0 m 92 ls [])) : W p l e rmX3_gatherChanges s m args below meth c H locs 0 0 Q (F0 m 10 ls []) := by
  have hx := hC.1.1
  have hb := hC.1.2.1
  have hf2 : zlp (fun rc s1 => bX3_gatherChanges_10 N x1 x2 K rc s1.1 s1.2) n (x3, w0) = some res := hf
  have key := zloop (S := Int32 × zS) (α := zS) (b := fun rc s1 => bX3_gatherChanges_10 N x1 x2 K rc s1.1 s1.2) (r := res) (Wd := fun s1 => ∀ (H : Heap) (locs : List Loc) (ls : Array Slot), zW D cy shX 38 a0 aT aP A H0 s1.2 H locs → lv_has ls 6 [(0, .ref (a0 1)), (1, .int x1), (2, .int x2), (3, .int s1.1)] → W p l e rmX3_gatherChanges s m args below meth c H locs 0 0 Q (F0 m 10 ls []))
  refine key ?_ n (x3, w0) hf2 H locs ls hZ hl
  clear hf hf2 hZ hl key
  rintro rc ⟨x3, w0⟩ ih hf H locs ls hZ hl
  have hf : bX3_gatherChanges_10 N x1 x2 K rc x3 w0 = some res := hf
  have hl : lv_has ls 6 [(0, .ref (a0 1)), (1, .int x1), (2, .int x2), (3, .int x3)] := hl
  unfold bX3_gatherChanges_10 at hf
  refine lv_iload_n (pc := 10) hx hb dX3_gatherChanges_10 rfl (lv_at hl 3 rfl) ?_
  refine lv_aload_n (pc := 11) hx hb dX3_gatherChanges_11 rfl (lv_at hl 0 rfl) ?_
  refine gfX3_24 (pc := 12) hC hZ dX3_gatherChanges_12 ?_
  refine z_ige (pc := 15) (tgt := 92) hC hf dX3_gatherChanges_15 (by decide) (fun hf => ?_) (fun hf => ?_)
  · exact hK x3 w0 H locs ls hf hZ (lv_sub hl [0, 1, 2, 3] rfl)
  refine lv_aload_n (pc := 18) hx hb dX3_gatherChanges_18 rfl (lv_at hl 0 rfl) ?_
  refine gfX3_9 (pc := 19) hC hZ dX3_gatherChanges_19 ?_
  refine lv_iload_n (pc := 22) hx hb dX3_gatherChanges_22 rfl (lv_at hl 3 rfl) ?_
  refine z_iald (pc := 23) hC hZ (by decide) rfl hf dX3_gatherChanges_23 (fun v2 hf => ?_)
  refine lv_iload_n (pc := 24) hx hb dX3_gatherChanges_24 rfl (lv_at hl 1 rfl) ?_
  refine lv_bipush (pc := 25) (v := (6 : Int32)) hx hb dX3_gatherChanges_25 (by decide) ?_
  refine lv_imul (pc := 27) hx hb dX3_gatherChanges_27 ?_
  refine lv_isub (pc := 28) hx hb dX3_gatherChanges_28 ?_
  refine lv_istore (pc := 29) (lv' := [(4, .int (v2 - (x1 * (6 : Int32)))), (0, .ref (a0 1)), (1, .int x1), (2, .int x2), (3, .int x3)]) hx hb dX3_gatherChanges_29 hl (by decide) rfl (fun ls hl => ?_)
  refine lv_aload_n (pc := 31) hx hb dX3_gatherChanges_31 rfl (lv_at hl 1 rfl) ?_
  refine gfX3_15 (pc := 32) hC hZ dX3_gatherChanges_32 ?_
  refine lv_iload_n (pc := 35) hx hb dX3_gatherChanges_35 rfl (lv_at hl 4 rfl) ?_
  refine z_iald (pc := 36) hC hZ (by decide) rfl hf dX3_gatherChanges_36 (fun v3 hf => ?_)
  refine lv_iload_n (pc := 37) hx hb dX3_gatherChanges_37 rfl (lv_at hl 3 rfl) ?_
  refine lv_isub (pc := 38) hx hb dX3_gatherChanges_38 ?_
  refine lv_iconst (pc := 39) (v := (0 : Int32)) hx hb dX3_gatherChanges_39 (by decide) ?_
  refine z_max (pc := 40) hC mkX3_31 hl.1 (Nat.le_of_ble_eq_true rfl) (Nat.le_of_ble_eq_true rfl) ⟨Nat.le_refl _, Nat.le_refl _⟩ dX3_gatherChanges_40 ?_
  refine lv_istore (pc := 43) (lv' := [(5, .int (if (v3 - x2) < (0 : Int32) then (0 : Int32) else (v3 - x2))), (4, .int (v2 - (x1 * (6 : Int32)))), (0, .ref (a0 1)), (1, .int x1), (2, .int x2), (3, .int x3)]) hx hb dX3_gatherChanges_43 hl (by decide) rfl (fun ls hl => ?_)
  refine lv_iload (pc := 45) hx hb dX3_gatherChanges_45 (lv_at hl 1 rfl) ?_
  refine z_lt0 (pc := 47) (tgt := 86) hC hf dX3_gatherChanges_47 (by decide) (fun hf => ?_) (fun hf => ?_)
  · refine lv_iinc (pc := 86) (v := (x3 + (1 : Int32))) (lv' := [(3, .int (x3 + (1 : Int32))), (5, .int (if (v3 - x2) < (0 : Int32) then (0 : Int32) else (v3 - x2))), (4, .int (v2 - (x1 * (6 : Int32)))), (0, .ref (a0 1)), (1, .int x1), (2, .int x2)]) hx hb dX3_gatherChanges_86 hl (k := 5) rfl rfl (by decide) rfl (fun ls hl => ?_)
    refine lv_goto (pc := 89) (tgt := 10) hx hb dX3_gatherChanges_89 (by decide) ?_
    exact ih ((x3 + (1 : Int32)), w0) hf H locs ls hZ (lv_sub hl [3, 4, 5, 0] rfl)
  refine lv_iload (pc := 50) hx hb dX3_gatherChanges_50 (lv_at hl 1 rfl) ?_
  refine lv_bipush (pc := 52) (v := (6 : Int32)) hx hb dX3_gatherChanges_52 (by decide) ?_
  refine z_ige (pc := 54) (tgt := 86) hC hf dX3_gatherChanges_54 (by decide) (fun hf => ?_) (fun hf => ?_)
  · refine lv_iinc (pc := 86) (v := (x3 + (1 : Int32))) (lv' := [(3, .int (x3 + (1 : Int32))), (5, .int (if (v3 - x2) < (0 : Int32) then (0 : Int32) else (v3 - x2))), (4, .int (v2 - (x1 * (6 : Int32)))), (0, .ref (a0 1)), (1, .int x1), (2, .int x2)]) hx hb dX3_gatherChanges_86 hl (k := 5) rfl rfl (by decide) rfl (fun ls hl => ?_)
    refine lv_goto (pc := 89) (tgt := 10) hx hb dX3_gatherChanges_89 (by decide) ?_
    exact ih ((x3 + (1 : Int32)), w0) hf H locs ls hZ (lv_sub hl [3, 4, 5, 0] rfl)
  refine lv_iload (pc := 57) hx hb dX3_gatherChanges_57 (lv_at hl 0 rfl) ?_
  refine lv_bipush (pc := 59) (v := (30 : Int32)) hx hb dX3_gatherChanges_59 (by decide) ?_
  refine z_ige (pc := 61) (tgt := 86) hC hf dX3_gatherChanges_61 (by decide) (fun hf => ?_) (fun hf => ?_)
  · refine lv_iinc (pc := 86) (v := (x3 + (1 : Int32))) (lv' := [(3, .int (x3 + (1 : Int32))), (5, .int (if (v3 - x2) < (0 : Int32) then (0 : Int32) else (v3 - x2))), (4, .int (v2 - (x1 * (6 : Int32)))), (0, .ref (a0 1)), (1, .int x1), (2, .int x2)]) hx hb dX3_gatherChanges_86 hl (k := 5) rfl rfl (by decide) rfl (fun ls hl => ?_)
    refine lv_goto (pc := 89) (tgt := 10) hx hb dX3_gatherChanges_89 (by decide) ?_
    exact ih ((x3 + (1 : Int32)), w0) hf H locs ls hZ (lv_sub hl [3, 4, 5, 0] rfl)
  refine lv_aload_n (pc := 64) hx hb dX3_gatherChanges_64 rfl (lv_at hl 2 rfl) ?_
  refine gfX3_21 (pc := 65) hC hZ dX3_gatherChanges_65 ?_
  refine lv_iload (pc := 68) hx hb dX3_gatherChanges_68 (lv_at hl 1 rfl) ?_
  refine lv_bipush (pc := 70) (v := (30 : Int32)) hx hb dX3_gatherChanges_70 (by decide) ?_
  refine lv_imul (pc := 72) hx hb dX3_gatherChanges_72 ?_
  refine lv_iload (pc := 73) hx hb dX3_gatherChanges_73 (lv_at hl 0 rfl) ?_
  refine lv_iadd (pc := 75) hx hb dX3_gatherChanges_75 ?_
  refine lv_dup2_11 (pc := 76) hx hb dX3_gatherChanges_76 rfl rfl ?_
  refine z_iald (pc := 77) hC hZ (by decide) rfl hf dX3_gatherChanges_77 (fun v4 hf => ?_)
  refine lv_aload_n (pc := 78) hx hb dX3_gatherChanges_78 rfl (lv_at hl 2 rfl) ?_
  refine gfX3_18 (pc := 79) hC hZ dX3_gatherChanges_79 ?_
  refine lv_iload_n (pc := 82) hx hb dX3_gatherChanges_82 rfl (lv_at hl 5 rfl) ?_
  refine z_iald (pc := 83) hC hZ (by decide) rfl hf dX3_gatherChanges_83 (fun v5 hf => ?_)
  refine lv_iadd (pc := 84) hx hb dX3_gatherChanges_84 ?_
  refine z_iast (pc := 85) hC hZ (by decide) rfl hf dX3_gatherChanges_85 (fun w6 H locs hf hZ => ?_)
  refine lv_iinc (pc := 86) (v := (x3 + (1 : Int32))) (lv' := [(3, .int (x3 + (1 : Int32))), (5, .int (if (v3 - x2) < (0 : Int32) then (0 : Int32) else (v3 - x2))), (4, .int (v2 - (x1 * (6 : Int32)))), (0, .ref (a0 1)), (1, .int x1), (2, .int x2)]) hx hb dX3_gatherChanges_86 hl (k := 5) rfl rfl (by decide) rfl (fun ls hl => ?_)
  refine lv_goto (pc := 89) (tgt := 10) hx hb dX3_gatherChanges_89 (by decide) ?_
  exact ih ((x3 + (1 : Int32)), w6) hf H locs ls hZ (lv_sub hl [3, 4, 5, 0] rfl)
set_option maxHeartbeats 4000000 in
set_option maxRecDepth 100000 in
theorem cX3_gatherChanges_ok (l : Launch) (D : va_G) (cy : Nat → ClassId) (a0 aT aP : Nat → Nat) (N : Nat) (x1 : Int32) (x2 : Int32) (w0 : zS) (τ : zS) (hf : fX3_gatherChanges N x1 x2 w0 = some τ) : zMv l yX3_gatherChanges cX3_gatherChanges 6 none rmX3_gatherChanges D cy shX 38 a0 aT aP w0 [.ref (a0 1), .int x1, .int x2] τ (fun u => u = (aT, aP)) := by
  refine zmet_v (by decide +kernel) rfl (Nat.le_of_ble_eq_true rfl) ?_
  intro p e s m below meth c A Q ls hC hA hZ hl hE
  have hx := hC.1.1
  have hb := hC.1.2.1
  have hl : lv_has ls 6 [(0, .ref (a0 1)), (1, .int x1), (2, .int x2)] := hl
  unfold fX3_gatherChanges at hf
  refine lv_aload_n (pc := 0) hx hb dX3_gatherChanges_0 rfl (lv_at hl 0 rfl) ?_
  refine gfX3_21 (pc := 1) hC hZ dX3_gatherChanges_1 ?_
  refine lv_iconst (pc := 4) (v := (0 : Int32)) hx hb dX3_gatherChanges_4 (by decide) ?_
  refine kX3_45_J7_fill_53178_c16 (pc := 5) hC hA hZ hf hl.1 (Nat.le_of_ble_eq_true rfl) ⟨Nat.le_of_ble_eq_true rfl, Nat.le_of_ble_eq_true rfl⟩ ⟨Nat.le_refl _, Nat.le_refl _⟩ dX3_gatherChanges_5 (fun w1 H locs hf hZ => ?_)
  refine lv_iconst (pc := 8) (v := (0 : Int32)) hx hb dX3_gatherChanges_8 (by decide) ?_
  refine lv_istore_n (pc := 9) (lv' := [(3, .int (0 : Int32)), (0, .ref (a0 1)), (1, .int x1), (2, .int x2)]) hx hb dX3_gatherChanges_9 rfl hl (by decide) rfl (fun ls hl => ?_)
  refine wX3_gatherChanges_10 (res := τ) N x1 x2 hC hA hE N _ _ hf hZ (lv_sub hl [1, 2, 3, 0] rfl) (fun y7 w8 H locs ls hf hZ hl => ?_)
  obtain rfl := Option.some.inj hf
  exact hE _ _ _ _ _ _ rfl hZ dX3_gatherChanges_92
section ZK
variable {p : Program} {l : Launch} {e : Env} {R : Room} {s : State} {m : MethodId} {args : Array Value} {below : List Frame} {meth : Method} {c : Code} {H : Heap} {locs : List Loc} {cells slots : Nat} {Q : State → Prop}
variable {pc : Nat} {ls : Array Slot} {rest : List Value} {A : Nat → Prop} {H0 : Heap} {D : va_G} {cy : Nat → ClassId} {a0 aT aP : Nat → Nat} {σ : zS} {cc : ByteArray} {nL : Nat} {α : Type} {res : α}
theorem vkX3_37 : zVk RX3 37 yX3_gatherChanges cX3_gatherChanges 6 none 2 := ⟨by decide +kernel, by decide +kernel, by decide +kernel, by decide +kernel, by decide +kernel, by decide +kernel⟩
theorem kX3_37 (hC : zC p s m args c RX3 cc nL D cy) (hA : ∀ q, H0.size ≤ q → A q) (hZ : zW D cy shX 38 a0 aT aP A H0 σ H locs) {N : Nat} {x1 : Int32} {x2 : Int32} {k : zS → Option α} (hf : zbv (fX3_gatherChanges N x1 x2 σ) k = some res) (hsz : ls.size = nL) (hW : (rest.map fun v => v.category).sum ≤ 8) (hR : rmX3_gatherChanges.frames + 1 ≤ R.frames ∧ 8 + (6 + 11) + rmX3_gatherChanges.locals ≤ R.locals) (hcs : cells ≤ R.cells ∧ slots ≤ R.slots) (hdg : decode cc pc = .ok (.invokevirtual 37, 3)) (kk : ∀ (τ : zS) (H1 : Heap) (locs1 : List Loc), k τ = some res → zW D cy shX 38 a0 aT aP A H0 τ H1 locs1 → W p l e R s m args below meth c H1 locs1 cells slots Q (F0 m (pc + 3) ls (rest))) : W p l e R s m args below meth c H locs cells slots Q (F0 m pc ls (.int x2 :: .int x1 :: .ref (a0 1) :: rest)) := by
  cases hq : fX3_gatherChanges N x1 x2 σ with
  | none => rw [hq] at hf; cases hf
  | some q =>
    rw [hq] at hf
    exact zcallv hA hZ (zrun hC hZ vkX3_37 rfl (zw0 (by decide)) (cX3_gatherChanges_ok l D cy a0 aT aP N x1 x2 σ q hq H.size) hR rfl hsz rfl hW hcs hdg) (fun u H1 locs1 hU hZ1 => by subst hU; exact kk q H1 locs1 hf hZ1)
end ZK
