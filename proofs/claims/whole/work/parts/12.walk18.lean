set_option maxHeartbeats 4000000 in
set_option maxRecDepth 100000 in
theorem cX8_days_ok (l : Launch) (D : va_G) (cy : Nat → ClassId) (a0 aT aP : Nat → Nat) (N : Nat) (x1 : Int32) (w0 : zS) (rv : Int32) (τ : zS) (hf : fX8_days N x1 w0 = some (rv, τ)) : zMi l yX8_days cX8_days 2 (some .int) rmX8_days D cy shM 35 a0 aT aP w0 [.ref (a0 0), .int x1] rv τ (fun u => u = (aT, aP)) := by
  refine zmet_i (by decide +kernel) (Or.inl rfl) (Nat.le_of_ble_eq_true rfl) ?_
  intro p e s m below meth c A Q ls hC hA hZ hl hE
  have hx := hC.1.1
  have hb := hC.1.2.1
  have hl : lv_has ls 2 [(0, .ref (a0 0)), (1, .int x1)] := hl
  unfold fX8_days at hf
  refine lv_iload_n (pc := 0) hx hb dX8_days_0 rfl (lv_at hl 1 rfl) ?_
  refine lv_iconst (pc := 1) (v := (1 : Int32)) hx hb dX8_days_1 (by decide) ?_
  refine z_ige (pc := 2) (tgt := 12) hC hf dX8_days_2 (by decide) (fun hf => ?_) (fun hf => ?_)
  · refine lv_iload_n (pc := 12) hx hb dX8_days_12 rfl (lv_at hl 1 rfl) ?_
    refine lv_sipush (pc := 13) (v := (599 : Int32)) hx hb dX8_days_13 (by decide) ?_
    refine lv_aload_n (pc := 16) hx hb dX8_days_16 rfl (lv_at hl 0 rfl) ?_
    refine gfX8_130 (pc := 17) hC hZ dX8_days_17 ?_
    refine lv_isub (pc := 20) hx hb dX8_days_20 ?_
    refine z_ile (pc := 21) (tgt := 31) hC hf dX8_days_21 (by decide) (fun hf => ?_) (fun hf => ?_)
    · refine lv_aload_n (pc := 31) hx hb dX8_days_31 rfl (lv_at hl 0 rfl) ?_
      refine lv_dup (pc := 32) hx hb dX8_days_32 rfl ?_
      refine gfX8_130 (pc := 33) hC hZ dX8_days_33 ?_
      refine lv_iload_n (pc := 36) hx hb dX8_days_36 rfl (lv_at hl 1 rfl) ?_
      refine lv_iadd (pc := 37) hx hb dX8_days_37 ?_
      refine pfX8_130 (pc := 38) hC hZ hf dX8_days_38 (fun w1 H locs hf hZ => ?_)
      refine lv_aload_n (pc := 41) hx hb dX8_days_41 rfl (lv_at hl 0 rfl) ?_
      refine gfX8_130 (pc := 42) hC hZ dX8_days_42 ?_
      obtain ⟨rfl, rfl⟩ := zinj hf
      exact hE _ _ _ _ _ _ rfl hZ dX8_days_45
    refine lv_aload_n (pc := 24) hx hb dX8_days_24 rfl (lv_at hl 0 rfl) ?_
    refine lv_bipush (pc := 25) (v := (-6 : Int32)) hx hb dX8_days_25 (by decide) ?_
    refine kX8_126 (pc := 27) hC hA hZ hf hl.1 (Nat.le_of_ble_eq_true rfl) ⟨Nat.le_of_ble_eq_true rfl, Nat.le_of_ble_eq_true rfl⟩ ⟨Nat.le_refl _, Nat.le_refl _⟩ dX8_days_27 (fun v3 w2 H locs hf hZ => ?_)
    obtain ⟨rfl, rfl⟩ := zinj hf
    exact hE _ _ _ _ _ _ rfl hZ dX8_days_30
  refine lv_aload_n (pc := 5) hx hb dX8_days_5 rfl (lv_at hl 0 rfl) ?_
  refine lv_bipush (pc := 6) (v := (-4 : Int32)) hx hb dX8_days_6 (by decide) ?_
  refine kX8_126 (pc := 8) hC hA hZ hf hl.1 (Nat.le_of_ble_eq_true rfl) ⟨Nat.le_of_ble_eq_true rfl, Nat.le_of_ble_eq_true rfl⟩ ⟨Nat.le_refl _, Nat.le_refl _⟩ dX8_days_8 (fun v5 w4 H locs hf hZ => ?_)
  obtain ⟨rfl, rfl⟩ := zinj hf
  exact hE _ _ _ _ _ _ rfl hZ dX8_days_11
set_option maxHeartbeats 4000000 in
set_option maxRecDepth 100000 in
theorem cX8_enter_ok (l : Launch) (D : va_G) (cy : Nat → ClassId) (a0 aT aP : Nat → Nat) (N : Nat) (x1 : Int32) (x2 : Int32) (x3 : Int32) (x4 : Int32) (w0 : zS) (τ : zS) (hf : fX8_enter N x1 x2 x3 x4 w0 = some τ) : zMv l yX8_enter cX8_enter 5 none rmX8_enter D cy shM 35 a0 aT aP w0 [.ref (a0 0), .int x1, .int x2, .int x3, .int x4] τ (fun u => u = (aT, aP)) := by
  refine zmet_v (by decide +kernel) rfl (Nat.le_of_ble_eq_true rfl) ?_
  intro p e s m below meth c A Q ls hC hA hZ hl hE
  have hx := hC.1.1
  have hb := hC.1.2.1
  have hl : lv_has ls 5 [(0, .ref (a0 0)), (1, .int x1), (2, .int x2), (3, .int x3), (4, .int x4)] := hl
  unfold fX8_enter at hf
  refine lv_aload_n (pc := 0) hx hb dX8_enter_0 rfl (lv_at hl 0 rfl) ?_
  refine gfX8_16 (pc := 1) hC hZ dX8_enter_1 ?_
  refine lv_aload_n (pc := 4) hx hb dX8_enter_4 rfl (lv_at hl 0 rfl) ?_
  refine gfX8_133 (pc := 5) hC hZ dX8_enter_5 ?_
  refine lv_iload_n (pc := 8) hx hb dX8_enter_8 rfl (lv_at hl 1 rfl) ?_
  refine z_iast (pc := 9) hC hZ (by decide) rfl hf dX8_enter_9 (fun w1 H locs hf hZ => ?_)
  refine lv_aload_n (pc := 10) hx hb dX8_enter_10 rfl (lv_at hl 0 rfl) ?_
  refine gfX8_19 (pc := 11) hC hZ dX8_enter_11 ?_
  refine lv_aload_n (pc := 14) hx hb dX8_enter_14 rfl (lv_at hl 0 rfl) ?_
  refine gfX8_133 (pc := 15) hC hZ dX8_enter_15 ?_
  refine lv_iload_n (pc := 18) hx hb dX8_enter_18 rfl (lv_at hl 2 rfl) ?_
  refine z_iast (pc := 19) hC hZ (by decide) rfl hf dX8_enter_19 (fun w2 H locs hf hZ => ?_)
  refine lv_aload_n (pc := 20) hx hb dX8_enter_20 rfl (lv_at hl 0 rfl) ?_
  refine gfX8_22 (pc := 21) hC hZ dX8_enter_21 ?_
  refine lv_aload_n (pc := 24) hx hb dX8_enter_24 rfl (lv_at hl 0 rfl) ?_
  refine gfX8_133 (pc := 25) hC hZ dX8_enter_25 ?_
  refine lv_iload_n (pc := 28) hx hb dX8_enter_28 rfl (lv_at hl 3 rfl) ?_
  refine lv_bipush (pc := 29) (v := (30 : Int32)) hx hb dX8_enter_29 (by decide) ?_
  refine lv_aload_n (pc := 31) hx hb dX8_enter_31 rfl (lv_at hl 0 rfl) ?_
  refine gfX8_136 (pc := 32) hC hZ dX8_enter_32 ?_
  refine lv_imul (pc := 35) hx hb dX8_enter_35 ?_
  refine z_ige (pc := 36) (tgt := 49) hC hf dX8_enter_36 (by decide) (fun hf => ?_) (fun hf => ?_)
  · refine lv_iload_n (pc := 49) hx hb dX8_enter_49 rfl (lv_at hl 3 rfl) ?_
    refine z_iast (pc := 50) hC hZ (by decide) rfl hf dX8_enter_50 (fun w3 H locs hf hZ => ?_)
    refine lv_aload_n (pc := 51) hx hb dX8_enter_51 rfl (lv_at hl 0 rfl) ?_
    refine gfX8_25 (pc := 52) hC hZ dX8_enter_52 ?_
    refine lv_aload_n (pc := 55) hx hb dX8_enter_55 rfl (lv_at hl 0 rfl) ?_
    refine gfX8_133 (pc := 56) hC hZ dX8_enter_56 ?_
    refine lv_iload (pc := 59) hx hb dX8_enter_59 (lv_at hl 4 rfl) ?_
    refine z_iast (pc := 61) hC hZ (by decide) rfl hf dX8_enter_61 (fun w4 H locs hf hZ => ?_)
    refine lv_aload_n (pc := 62) hx hb dX8_enter_62 rfl (lv_at hl 0 rfl) ?_
    refine lv_dup (pc := 63) hx hb dX8_enter_63 rfl ?_
    refine gfX8_133 (pc := 64) hC hZ dX8_enter_64 ?_
    refine lv_iconst (pc := 67) (v := (1 : Int32)) hx hb dX8_enter_67 (by decide) ?_
    refine lv_iadd (pc := 68) hx hb dX8_enter_68 ?_
    refine pfX8_133 (pc := 69) hC hZ hf dX8_enter_69 (fun w5 H locs hf hZ => ?_)
    obtain rfl := Option.some.inj hf
    exact hE _ _ _ _ _ _ rfl hZ dX8_enter_72
  refine lv_bipush (pc := 39) (v := (30 : Int32)) hx hb dX8_enter_39 (by decide) ?_
  refine lv_aload_n (pc := 41) hx hb dX8_enter_41 rfl (lv_at hl 0 rfl) ?_
  refine gfX8_136 (pc := 42) hC hZ dX8_enter_42 ?_
  refine lv_imul (pc := 45) hx hb dX8_enter_45 ?_
  refine lv_goto (pc := 46) (tgt := 50) hx hb dX8_enter_46 (by decide) ?_
  refine z_iast (pc := 50) hC hZ (by decide) rfl hf dX8_enter_50 (fun w6 H locs hf hZ => ?_)
  refine lv_aload_n (pc := 51) hx hb dX8_enter_51 rfl (lv_at hl 0 rfl) ?_
  refine gfX8_25 (pc := 52) hC hZ dX8_enter_52 ?_
  refine lv_aload_n (pc := 55) hx hb dX8_enter_55 rfl (lv_at hl 0 rfl) ?_
  refine gfX8_133 (pc := 56) hC hZ dX8_enter_56 ?_
  refine lv_iload (pc := 59) hx hb dX8_enter_59 (lv_at hl 4 rfl) ?_
  refine z_iast (pc := 61) hC hZ (by decide) rfl hf dX8_enter_61 (fun w7 H locs hf hZ => ?_)
  refine lv_aload_n (pc := 62) hx hb dX8_enter_62 rfl (lv_at hl 0 rfl) ?_
  refine lv_dup (pc := 63) hx hb dX8_enter_63 rfl ?_
  refine gfX8_133 (pc := 64) hC hZ dX8_enter_64 ?_
  refine lv_iconst (pc := 67) (v := (1 : Int32)) hx hb dX8_enter_67 (by decide) ?_
  refine lv_iadd (pc := 68) hx hb dX8_enter_68 ?_
  refine pfX8_133 (pc := 69) hC hZ hf dX8_enter_69 (fun w8 H locs hf hZ => ?_)
  obtain rfl := Option.some.inj hf
  exact hE _ _ _ _ _ _ rfl hZ dX8_enter_72
section ZK
variable {p : Program} {l : Launch} {e : Env} {R : Room} {s : State} {m : MethodId} {args : Array Value} {below : List Frame} {meth : Method} {c : Code} {H : Heap} {locs : List Loc} {cells slots : Nat} {Q : State → Prop}
variable {pc : Nat} {ls : Array Slot} {rest : List Value} {A : Nat → Prop} {H0 : Heap} {D : va_G} {cy : Nat → ClassId} {a0 aT aP : Nat → Nat} {σ : zS} {cc : ByteArray} {nL : Nat} {α : Type} {res : α}
theorem vkX8_153 : zVk RX8 153 yX8_enter cX8_enter 5 none 4 := ⟨by decide +kernel, by decide +kernel, by decide +kernel, by decide +kernel, by decide +kernel, by decide +kernel⟩
theorem kX8_153 (hC : zC p s m args c RX8 cc nL D cy) (hA : ∀ q, H0.size ≤ q → A q) (hZ : zW D cy shM 35 a0 aT aP A H0 σ H locs) {N : Nat} {x1 : Int32} {x2 : Int32} {x3 : Int32} {x4 : Int32} {k : zS → Option α} (hf : zbv (fX8_enter N x1 x2 x3 x4 σ) k = some res) (hsz : ls.size = nL) (hW : (rest.map fun v => v.category).sum ≤ 8) (hR : rmX8_enter.frames + 1 ≤ R.frames ∧ 8 + (5 + 11) + rmX8_enter.locals ≤ R.locals) (hcs : cells ≤ R.cells ∧ slots ≤ R.slots) (hdg : decode cc pc = .ok (.invokevirtual 153, 3)) (kk : ∀ (τ : zS) (H1 : Heap) (locs1 : List Loc), k τ = some res → zW D cy shM 35 a0 aT aP A H0 τ H1 locs1 → W p l e R s m args below meth c H1 locs1 cells slots Q (F0 m (pc + 3) ls (rest))) : W p l e R s m args below meth c H locs cells slots Q (F0 m pc ls (.int x4 :: .int x3 :: .int x2 :: .int x1 :: .ref (a0 0) :: rest)) := by
  cases hq : fX8_enter N x1 x2 x3 x4 σ with
  | none => rw [hq] at hf; cases hf
  | some q =>
    rw [hq] at hf
    exact zcallv hA hZ (zrun hC hZ vkX8_153 rfl (zw0 (by decide)) (cX8_enter_ok l D cy a0 aT aP N x1 x2 x3 x4 σ q hq H.size) hR rfl hsz rfl hW hcs hdg) (fun u H1 locs1 hU hZ1 => by subst hU; exact kk q H1 locs1 hf hZ1)
end ZK
set_option maxHeartbeats 4000000 in
set_option maxRecDepth 100000 in
theorem wX8_accountOf_6 {p : Program} {l : Launch} {e : Env} {s : State} {m : MethodId} {args : Array Value} {below : List Frame} {meth : Method} {c : Code} {Q : State → Prop} {A : Nat → Prop} {H0 : Heap} {D : va_G} {cy : Nat → ClassId} {a0 aT aP : Nat → Nat} {res : Int32 × zS} {K : Int32 → Int32 → zS → Option (Int32 × zS)} (N : Nat) (x1 : Int32) (x2 : Int32) (x3 : Int32) (hC : zC p s m args c RX8 cX8_accountOf 6 D cy) (hA : ∀ q, H0.size ≤ q → A q) (hE : zEnd p l e rmX8_accountOf s m args below meth c Q D cy shM 35 a0 A H0 res.2 (fun u => u = (aT, aP)) cX8_accountOf .ireturn [.int res.1]) (n : Nat) (x4 : Int32) (x5 : Int32) (w0 : zS) {H : Heap} {locs : List Loc} {ls : Array Slot} (hf : lX8_accountOf_6 N x1 x2 x3 K n (x4, x5, w0) = some res) (hZ : zW D cy shM 35 a0 aT aP A H0 w0 H locs) (hl : lv_has ls 6 [(0, .ref (a0 0)), (1, .int x1), (2, .int x2), (3, .int x3), (4, .int x4), (5, .int x5)]) (hK : ∀ x4 : Int32, ∀ x5 : Int32, ∀ (w0 : zS) (H : Heap) (locs : List Loc) (ls : Array Slot), K x4 x5 w0 = some res → zW D cy shM 35 a0 aT aP A H0 w0 H locs → lv_has ls 6 [(0, .ref (a0 0)), (1, .int x1), (2, .int x2), (3, .int x3), (4, .int x4), (5, .int x5)] → W p l e rmX8_accountOf s m args below meth c H locs 0 0 Q (F0 m 70 ls [])) : W p l e rmX8_accountOf s m args below meth c H locs 0 0 Q (F0 m 6 ls []) := by
  have hx := hC.1.1
  have hb := hC.1.2.1
  have hf2 : zlp (fun rc s1 => bX8_accountOf_6 N x1 x2 x3 K rc s1.1 s1.2.1 s1.2.2) n (x4, x5, w0) = some res := hf
  have key := zloop (S := Int32 × Int32 × zS) (α := Int32 × zS) (b := fun rc s1 => bX8_accountOf_6 N x1 x2 x3 K rc s1.1 s1.2.1 s1.2.2) (r := res) (Wd := fun s1 => ∀ (H : Heap) (locs : List Loc) (ls : Array Slot), zW D cy shM 35 a0 aT aP A H0 s1.2.2 H locs → lv_has ls 6 [(0, .ref (a0 0)), (1, .int x1), (2, .int x2), (3, .int x3), (4, .int s1.1), (5, .int s1.2.1)] → W p l e rmX8_accountOf s m args below meth c H locs 0 0 Q (F0 m 6 ls []))
  refine key ?_ n (x4, x5, w0) hf2 H locs ls hZ hl
  clear hf hf2 hZ hl key
  rintro rc ⟨x4, x5, w0⟩ ih hf H locs ls hZ hl
  have hf : bX8_accountOf_6 N x1 x2 x3 K rc x4 x5 w0 = some res := hf
  have hl : lv_has ls 6 [(0, .ref (a0 0)), (1, .int x1), (2, .int x2), (3, .int x3), (4, .int x4), (5, .int x5)] := hl
  unfold bX8_accountOf_6 at hf
  refine lv_iload (pc := 6) hx hb dX8_accountOf_6 (lv_at hl 5 rfl) ?_
  refine lv_aload_n (pc := 8) hx hb dX8_accountOf_8 rfl (lv_at hl 0 rfl) ?_
  refine gfX8_133 (pc := 9) hC hZ dX8_accountOf_9 ?_
  refine z_ige (pc := 12) (tgt := 70) hC hf dX8_accountOf_12 (by decide) (fun hf => ?_) (fun hf => ?_)
  · exact hK x4 x5 w0 H locs ls hf hZ (lv_sub hl [0, 1, 2, 3, 4, 5] rfl)
  refine lv_iload (pc := 15) hx hb dX8_accountOf_15 (lv_at hl 4 rfl) ?_
  refine lv_aload_n (pc := 17) hx hb dX8_accountOf_17 rfl (lv_at hl 0 rfl) ?_
  refine gfX8_16 (pc := 18) hC hZ dX8_accountOf_18 ?_
  refine lv_iload (pc := 21) hx hb dX8_accountOf_21 (lv_at hl 5 rfl) ?_
  refine z_iald (pc := 23) hC hZ (by decide) rfl hf dX8_accountOf_23 (fun v1 hf => ?_)
  refine lv_iload_n (pc := 24) hx hb dX8_accountOf_24 rfl (lv_at hl 1 rfl) ?_
  refine z_ine (pc := 25) (tgt := 60) hC hf dX8_accountOf_25 (by decide) (fun hf => ?_) (fun hf => ?_)
  · refine lv_aload_n (pc := 28) hx hb dX8_accountOf_28 rfl (lv_at hl 0 rfl) ?_
    refine gfX8_19 (pc := 29) hC hZ dX8_accountOf_29 ?_
    refine lv_iload (pc := 32) hx hb dX8_accountOf_32 (lv_at hl 5 rfl) ?_
    refine z_iald (pc := 34) hC hZ (by decide) rfl hf dX8_accountOf_34 (fun v2 hf => ?_)
    refine lv_iload_n (pc := 35) hx hb dX8_accountOf_35 rfl (lv_at hl 2 rfl) ?_
    refine z_ine (pc := 36) (tgt := 60) hC hf dX8_accountOf_36 (by decide) (fun hf => ?_) (fun hf => ?_)
    · refine lv_aload_n (pc := 39) hx hb dX8_accountOf_39 rfl (lv_at hl 0 rfl) ?_
      refine gfX8_22 (pc := 40) hC hZ dX8_accountOf_40 ?_
      refine lv_iload (pc := 43) hx hb dX8_accountOf_43 (lv_at hl 5 rfl) ?_
      refine z_iald (pc := 45) hC hZ (by decide) rfl hf dX8_accountOf_45 (fun v3 hf => ?_)
      refine lv_iload_n (pc := 46) hx hb dX8_accountOf_46 rfl (lv_at hl 3 rfl) ?_
      refine z_igt (pc := 47) (tgt := 60) hC hf dX8_accountOf_47 (by decide) (fun hf => ?_) (fun hf => ?_)
      · refine lv_iconst (pc := 60) (v := (0 : Int32)) hx hb dX8_accountOf_60 (by decide) ?_
        refine lv_iadd (pc := 61) hx hb dX8_accountOf_61 ?_
        refine lv_istore (pc := 62) (lv' := [(4, .int (x4 + (0 : Int32))), (0, .ref (a0 0)), (1, .int x1), (2, .int x2), (3, .int x3), (5, .int x5)]) hx hb dX8_accountOf_62 hl (by decide) rfl (fun ls hl => ?_)
        refine lv_iinc (pc := 64) (v := (x5 + (1 : Int32))) (lv' := [(5, .int (x5 + (1 : Int32))), (4, .int (x4 + (0 : Int32))), (0, .ref (a0 0)), (1, .int x1), (2, .int x2), (3, .int x3)]) hx hb dX8_accountOf_64 hl (k := 5) rfl rfl (by decide) rfl (fun ls hl => ?_)
        refine lv_goto (pc := 67) (tgt := 6) hx hb dX8_accountOf_67 (by decide) ?_
        exact ih ((x4 + (0 : Int32)), (x5 + (1 : Int32)), w0) hf H locs ls hZ (lv_sub hl [2, 3, 4, 5, 1, 0] rfl)
      refine lv_aload_n (pc := 50) hx hb dX8_accountOf_50 rfl (lv_at hl 0 rfl) ?_
      refine gfX8_25 (pc := 51) hC hZ dX8_accountOf_51 ?_
      refine lv_iload (pc := 54) hx hb dX8_accountOf_54 (lv_at hl 5 rfl) ?_
      refine z_iald (pc := 56) hC hZ (by decide) rfl hf dX8_accountOf_56 (fun v4 hf => ?_)
      refine lv_goto (pc := 57) (tgt := 61) hx hb dX8_accountOf_57 (by decide) ?_
      refine lv_iadd (pc := 61) hx hb dX8_accountOf_61 ?_
      refine lv_istore (pc := 62) (lv' := [(4, .int (x4 + v4)), (0, .ref (a0 0)), (1, .int x1), (2, .int x2), (3, .int x3), (5, .int x5)]) hx hb dX8_accountOf_62 hl (by decide) rfl (fun ls hl => ?_)
      refine lv_iinc (pc := 64) (v := (x5 + (1 : Int32))) (lv' := [(5, .int (x5 + (1 : Int32))), (4, .int (x4 + v4)), (0, .ref (a0 0)), (1, .int x1), (2, .int x2), (3, .int x3)]) hx hb dX8_accountOf_64 hl (k := 5) rfl rfl (by decide) rfl (fun ls hl => ?_)
      refine lv_goto (pc := 67) (tgt := 6) hx hb dX8_accountOf_67 (by decide) ?_
      exact ih ((x4 + v4), (x5 + (1 : Int32)), w0) hf H locs ls hZ (lv_sub hl [2, 3, 4, 5, 1, 0] rfl)
    refine lv_iconst (pc := 60) (v := (0 : Int32)) hx hb dX8_accountOf_60 (by decide) ?_
    refine lv_iadd (pc := 61) hx hb dX8_accountOf_61 ?_
    refine lv_istore (pc := 62) (lv' := [(4, .int (x4 + (0 : Int32))), (0, .ref (a0 0)), (1, .int x1), (2, .int x2), (3, .int x3), (5, .int x5)]) hx hb dX8_accountOf_62 hl (by decide) rfl (fun ls hl => ?_)
    refine lv_iinc (pc := 64) (v := (x5 + (1 : Int32))) (lv' := [(5, .int (x5 + (1 : Int32))), (4, .int (x4 + (0 : Int32))), (0, .ref (a0 0)), (1, .int x1), (2, .int x2), (3, .int x3)]) hx hb dX8_accountOf_64 hl (k := 5) rfl rfl (by decide) rfl (fun ls hl => ?_)
    refine lv_goto (pc := 67) (tgt := 6) hx hb dX8_accountOf_67 (by decide) ?_
    exact ih ((x4 + (0 : Int32)), (x5 + (1 : Int32)), w0) hf H locs ls hZ (lv_sub hl [2, 3, 4, 5, 1, 0] rfl)
  refine lv_iconst (pc := 60) (v := (0 : Int32)) hx hb dX8_accountOf_60 (by decide) ?_
  refine lv_iadd (pc := 61) hx hb dX8_accountOf_61 ?_
  refine lv_istore (pc := 62) (lv' := [(4, .int (x4 + (0 : Int32))), (0, .ref (a0 0)), (1, .int x1), (2, .int x2), (3, .int x3), (5, .int x5)]) hx hb dX8_accountOf_62 hl (by decide) rfl (fun ls hl => ?_)
  refine lv_iinc (pc := 64) (v := (x5 + (1 : Int32))) (lv' := [(5, .int (x5 + (1 : Int32))), (4, .int (x4 + (0 : Int32))), (0, .ref (a0 0)), (1, .int x1), (2, .int x2), (3, .int x3)]) hx hb dX8_accountOf_64 hl (k := 5) rfl rfl (by decide) rfl (fun ls hl => ?_)
  refine lv_goto (pc := 67) (tgt := 6) hx hb dX8_accountOf_67 (by decide) ?_
  exact ih ((x4 + (0 : Int32)), (x5 + (1 : Int32)), w0) hf H locs ls hZ (lv_sub hl [2, 3, 4, 5, 1, 0] rfl)
set_option maxHeartbeats 4000000 in
set_option maxRecDepth 100000 in
theorem cX8_accountOf_ok (l : Launch) (D : va_G) (cy : Nat → ClassId) (a0 aT aP : Nat → Nat) (N : Nat) (x1 : Int32) (x2 : Int32) (x3 : Int32) (w0 : zS) (rv : Int32) (τ : zS) (hf : fX8_accountOf N x1 x2 x3 w0 = some (rv, τ)) : zMi l yX8_accountOf cX8_accountOf 6 (some .int) rmX8_accountOf D cy shM 35 a0 aT aP w0 [.ref (a0 0), .int x1, .int x2, .int x3] rv τ (fun u => u = (aT, aP)) := by
  refine zmet_i (by decide +kernel) (Or.inl rfl) (Nat.le_of_ble_eq_true rfl) ?_
  intro p e s m below meth c A Q ls hC hA hZ hl hE
  have hx := hC.1.1
  have hb := hC.1.2.1
  have hl : lv_has ls 6 [(0, .ref (a0 0)), (1, .int x1), (2, .int x2), (3, .int x3)] := hl
  unfold fX8_accountOf at hf
  refine lv_iconst (pc := 0) (v := (0 : Int32)) hx hb dX8_accountOf_0 (by decide) ?_
  refine lv_istore (pc := 1) (lv' := [(4, .int (0 : Int32)), (0, .ref (a0 0)), (1, .int x1), (2, .int x2), (3, .int x3)]) hx hb dX8_accountOf_1 hl (by decide) rfl (fun ls hl => ?_)
  refine lv_iconst (pc := 3) (v := (0 : Int32)) hx hb dX8_accountOf_3 (by decide) ?_
  refine lv_istore (pc := 4) (lv' := [(5, .int (0 : Int32)), (4, .int (0 : Int32)), (0, .ref (a0 0)), (1, .int x1), (2, .int x2), (3, .int x3)]) hx hb dX8_accountOf_4 hl (by decide) rfl (fun ls hl => ?_)
  refine wX8_accountOf_6 (res := (rv, τ)) N x1 x2 x3 hC hA hE N _ _ _ hf hZ (lv_sub hl [2, 3, 4, 5, 1, 0] rfl) (fun y5 y6 w7 H locs ls hf hZ hl => ?_)
  refine lv_iload (pc := 70) hx hb dX8_accountOf_70 (lv_at hl 4 rfl) ?_
  obtain ⟨rfl, rfl⟩ := zinj hf
  exact hE _ _ _ _ _ _ rfl hZ dX8_accountOf_72
section ZK
variable {p : Program} {l : Launch} {e : Env} {R : Room} {s : State} {m : MethodId} {args : Array Value} {below : List Frame} {meth : Method} {c : Code} {H : Heap} {locs : List Loc} {cells slots : Nat} {Q : State → Prop}
variable {pc : Nat} {ls : Array Slot} {rest : List Value} {A : Nat → Prop} {H0 : Heap} {D : va_G} {cy : Nat → ClassId} {a0 aT aP : Nat → Nat} {σ : zS} {cc : ByteArray} {nL : Nat} {α : Type} {res : α}
theorem vkX8_149 : zVk RX8 149 yX8_accountOf cX8_accountOf 6 (some .int) 3 := ⟨by decide +kernel, by decide +kernel, by decide +kernel, by decide +kernel, by decide +kernel, by decide +kernel⟩
theorem kX8_149 (hC : zC p s m args c RX8 cc nL D cy) (hA : ∀ q, H0.size ≤ q → A q) (hZ : zW D cy shM 35 a0 aT aP A H0 σ H locs) {N : Nat} {x1 : Int32} {x2 : Int32} {x3 : Int32} {k : Int32 → zS → Option α} (hf : zbi (fX8_accountOf N x1 x2 x3 σ) k = some res) (hsz : ls.size = nL) (hW : (rest.map fun v => v.category).sum ≤ 8) (hR : rmX8_accountOf.frames + 1 ≤ R.frames ∧ 8 + (6 + 11) + rmX8_accountOf.locals ≤ R.locals) (hcs : cells ≤ R.cells ∧ slots ≤ R.slots) (hdg : decode cc pc = .ok (.invokevirtual 149, 3)) (kk : ∀ (v : Int32) (τ : zS) (H1 : Heap) (locs1 : List Loc), k v τ = some res → zW D cy shM 35 a0 aT aP A H0 τ H1 locs1 → W p l e R s m args below meth c H1 locs1 cells slots Q (F0 m (pc + 3) ls (.int v :: rest))) : W p l e R s m args below meth c H locs cells slots Q (F0 m pc ls (.int x3 :: .int x2 :: .int x1 :: .ref (a0 0) :: rest)) := by
  cases hq : fX8_accountOf N x1 x2 x3 σ with
  | none => rw [hq] at hf; cases hf
  | some q =>
    rw [hq] at hf
    exact zcalli hA hZ (zrun hC hZ vkX8_149 rfl (zw0 (by decide)) (cX8_accountOf_ok l D cy a0 aT aP N x1 x2 x3 σ q.1 q.2 hq H.size) hR rfl hsz rfl hW hcs hdg) (fun u H1 locs1 hU hZ1 => by subst hU; exact kk q.1 q.2 H1 locs1 hf hZ1)
end ZK
set_option maxHeartbeats 4000000 in
set_option maxRecDepth 100000 in
theorem cX8_account_ok (l : Launch) (D : va_G) (cy : Nat → ClassId) (a0 aT aP : Nat → Nat) (N : Nat) (x1 : Int32) (x2 : Int32) (x3 : Int32) (w0 : zS) (rv : Int32) (τ : zS) (hf : fX8_account N x1 x2 x3 w0 = some (rv, τ)) : zMi l yX8_account cX8_account 4 (some .int) rmX8_account D cy shM 35 a0 aT aP w0 [.ref (a0 0), .int x1, .int x2, .int x3] rv τ (fun u => u = (aT, aP)) := by
  refine zmet_i (by decide +kernel) (Or.inl rfl) (Nat.le_of_ble_eq_true rfl) ?_
  intro p e s m below meth c A Q ls hC hA hZ hl hE
  have hx := hC.1.1
  have hb := hC.1.2.1
  have hl : lv_has ls 4 [(0, .ref (a0 0)), (1, .int x1), (2, .int x2), (3, .int x3)] := hl
  unfold fX8_account at hf
  refine lv_aload_n (pc := 0) hx hb dX8_account_0 rfl (lv_at hl 0 rfl) ?_
  refine lv_iload_n (pc := 1) hx hb dX8_account_1 rfl (lv_at hl 1 rfl) ?_
  refine kX8_139 (pc := 2) hC hA hZ hf hl.1 (Nat.le_of_ble_eq_true rfl) ⟨Nat.le_of_ble_eq_true rfl, Nat.le_of_ble_eq_true rfl⟩ ⟨Nat.le_refl _, Nat.le_refl _⟩ dX8_account_2 (fun v2 w1 H locs hf hZ => ?_)
  refine z_eq0 (pc := 5) (tgt := 16) hC hf dX8_account_5 (by decide) (fun hf => ?_) (fun hf => ?_)
  · refine lv_aload_n (pc := 16) hx hb dX8_account_16 rfl (lv_at hl 0 rfl) ?_
    refine lv_iconst (pc := 17) (v := (-1 : Int32)) hx hb dX8_account_17 (by decide) ?_
    refine kX8_146 (pc := 18) hC hA hZ hf hl.1 (Nat.le_of_ble_eq_true rfl) ⟨Nat.le_of_ble_eq_true rfl, Nat.le_of_ble_eq_true rfl⟩ ⟨Nat.le_refl _, Nat.le_refl _⟩ dX8_account_18 (fun v4 w3 H locs hf hZ => ?_)
    obtain ⟨rfl, rfl⟩ := zinj hf
    exact hE _ _ _ _ _ _ rfl hZ dX8_account_21
  refine lv_aload_n (pc := 8) hx hb dX8_account_8 rfl (lv_at hl 0 rfl) ?_
  refine lv_iload_n (pc := 9) hx hb dX8_account_9 rfl (lv_at hl 2 rfl) ?_
  refine kX8_143 (pc := 10) hC hA hZ hf hl.1 (Nat.le_of_ble_eq_true rfl) ⟨Nat.le_of_ble_eq_true rfl, Nat.le_of_ble_eq_true rfl⟩ ⟨Nat.le_refl _, Nat.le_refl _⟩ dX8_account_10 (fun v6 w5 H locs hf hZ => ?_)
  refine z_ne0 (pc := 13) (tgt := 22) hC hf dX8_account_13 (by decide) (fun hf => ?_) (fun hf => ?_)
  · refine lv_aload_n (pc := 16) hx hb dX8_account_16 rfl (lv_at hl 0 rfl) ?_
    refine lv_iconst (pc := 17) (v := (-1 : Int32)) hx hb dX8_account_17 (by decide) ?_
    refine kX8_146 (pc := 18) hC hA hZ hf hl.1 (Nat.le_of_ble_eq_true rfl) ⟨Nat.le_of_ble_eq_true rfl, Nat.le_of_ble_eq_true rfl⟩ ⟨Nat.le_refl _, Nat.le_refl _⟩ dX8_account_18 (fun v8 w7 H locs hf hZ => ?_)
    obtain ⟨rfl, rfl⟩ := zinj hf
    exact hE _ _ _ _ _ _ rfl hZ dX8_account_21
  refine lv_iload_n (pc := 22) hx hb dX8_account_22 rfl (lv_at hl 3 rfl) ?_
  refine z_ge0 (pc := 23) (tgt := 33) hC hf dX8_account_23 (by decide) (fun hf => ?_) (fun hf => ?_)
  · refine lv_iload_n (pc := 33) hx hb dX8_account_33 rfl (lv_at hl 3 rfl) ?_
    refine lv_sipush (pc := 34) (v := (599 : Int32)) hx hb dX8_account_34 (by decide) ?_
    refine z_ile (pc := 37) (tgt := 49) hC hf dX8_account_37 (by decide) (fun hf => ?_) (fun hf => ?_)
    · refine lv_aload_n (pc := 49) hx hb dX8_account_49 rfl (lv_at hl 0 rfl) ?_
      refine lv_iload_n (pc := 50) hx hb dX8_account_50 rfl (lv_at hl 1 rfl) ?_
      refine lv_iload_n (pc := 51) hx hb dX8_account_51 rfl (lv_at hl 2 rfl) ?_
      refine lv_iload_n (pc := 52) hx hb dX8_account_52 rfl (lv_at hl 3 rfl) ?_
      refine kX8_149 (pc := 53) hC hA hZ hf hl.1 (Nat.le_of_ble_eq_true rfl) ⟨Nat.le_of_ble_eq_true rfl, Nat.le_of_ble_eq_true rfl⟩ ⟨Nat.le_refl _, Nat.le_refl _⟩ dX8_account_53 (fun v10 w9 H locs hf hZ => ?_)
      obtain ⟨rfl, rfl⟩ := zinj hf
      exact hE _ _ _ _ _ _ rfl hZ dX8_account_56
    refine lv_aload_n (pc := 40) hx hb dX8_account_40 rfl (lv_at hl 0 rfl) ?_
    refine lv_bipush (pc := 41) (v := (-6 : Int32)) hx hb dX8_account_41 (by decide) ?_
    refine kX8_146 (pc := 43) hC hA hZ hf hl.1 (Nat.le_of_ble_eq_true rfl) ⟨Nat.le_of_ble_eq_true rfl, Nat.le_of_ble_eq_true rfl⟩ ⟨Nat.le_refl _, Nat.le_refl _⟩ dX8_account_43 (fun v12 w11 H locs hf hZ => ?_)
    refine lv_goto (pc := 46) (tgt := 56) hx hb dX8_account_46 (by decide) ?_
    obtain ⟨rfl, rfl⟩ := zinj hf
    exact hE _ _ _ _ _ _ rfl hZ dX8_account_56
  refine lv_aload_n (pc := 26) hx hb dX8_account_26 rfl (lv_at hl 0 rfl) ?_
  refine lv_bipush (pc := 27) (v := (-4 : Int32)) hx hb dX8_account_27 (by decide) ?_
  refine kX8_146 (pc := 29) hC hA hZ hf hl.1 (Nat.le_of_ble_eq_true rfl) ⟨Nat.le_of_ble_eq_true rfl, Nat.le_of_ble_eq_true rfl⟩ ⟨Nat.le_refl _, Nat.le_refl _⟩ dX8_account_29 (fun v14 w13 H locs hf hZ => ?_)
  obtain ⟨rfl, rfl⟩ := zinj hf
  exact hE _ _ _ _ _ _ rfl hZ dX8_account_32
set_option maxHeartbeats 4000000 in
set_option maxRecDepth 100000 in
theorem cX8_buy_ok (l : Launch) (D : va_G) (cy : Nat → ClassId) (a0 aT aP : Nat → Nat) (N : Nat) (x1 : Int32) (x2 : Int32) (x3 : Int32) (w0 : zS) (rv : Int32) (τ : zS) (hf : fX8_buy N x1 x2 x3 w0 = some (rv, τ)) : zMi l yX8_buy cX8_buy 4 (some .int) rmX8_buy D cy shM 35 a0 aT aP w0 [.ref (a0 0), .int x1, .int x2, .int x3] rv τ (fun u => u = (aT, aP)) := by
  refine zmet_i (by decide +kernel) (Or.inl rfl) (Nat.le_of_ble_eq_true rfl) ?_
  intro p e s m below meth c A Q ls hC hA hZ hl hE
  have hx := hC.1.1
  have hb := hC.1.2.1
  have hl : lv_has ls 4 [(0, .ref (a0 0)), (1, .int x1), (2, .int x2), (3, .int x3)] := hl
  unfold fX8_buy at hf
  refine lv_aload_n (pc := 0) hx hb dX8_buy_0 rfl (lv_at hl 0 rfl) ?_
  refine lv_iload_n (pc := 1) hx hb dX8_buy_1 rfl (lv_at hl 1 rfl) ?_
  refine kX8_139 (pc := 2) hC hA hZ hf hl.1 (Nat.le_of_ble_eq_true rfl) ⟨Nat.le_of_ble_eq_true rfl, Nat.le_of_ble_eq_true rfl⟩ ⟨Nat.le_refl _, Nat.le_refl _⟩ dX8_buy_2 (fun v2 w1 H locs hf hZ => ?_)
  refine z_eq0 (pc := 5) (tgt := 16) hC hf dX8_buy_5 (by decide) (fun hf => ?_) (fun hf => ?_)
  · refine lv_aload_n (pc := 16) hx hb dX8_buy_16 rfl (lv_at hl 0 rfl) ?_
    refine lv_iconst (pc := 17) (v := (-1 : Int32)) hx hb dX8_buy_17 (by decide) ?_
    refine kX8_146 (pc := 18) hC hA hZ hf hl.1 (Nat.le_of_ble_eq_true rfl) ⟨Nat.le_of_ble_eq_true rfl, Nat.le_of_ble_eq_true rfl⟩ ⟨Nat.le_refl _, Nat.le_refl _⟩ dX8_buy_18 (fun v4 w3 H locs hf hZ => ?_)
    obtain ⟨rfl, rfl⟩ := zinj hf
    exact hE _ _ _ _ _ _ rfl hZ dX8_buy_21
  refine lv_aload_n (pc := 8) hx hb dX8_buy_8 rfl (lv_at hl 0 rfl) ?_
  refine lv_iload_n (pc := 9) hx hb dX8_buy_9 rfl (lv_at hl 2 rfl) ?_
  refine kX8_143 (pc := 10) hC hA hZ hf hl.1 (Nat.le_of_ble_eq_true rfl) ⟨Nat.le_of_ble_eq_true rfl, Nat.le_of_ble_eq_true rfl⟩ ⟨Nat.le_refl _, Nat.le_refl _⟩ dX8_buy_10 (fun v6 w5 H locs hf hZ => ?_)
  refine z_ne0 (pc := 13) (tgt := 22) hC hf dX8_buy_13 (by decide) (fun hf => ?_) (fun hf => ?_)
  · refine lv_aload_n (pc := 16) hx hb dX8_buy_16 rfl (lv_at hl 0 rfl) ?_
    refine lv_iconst (pc := 17) (v := (-1 : Int32)) hx hb dX8_buy_17 (by decide) ?_
    refine kX8_146 (pc := 18) hC hA hZ hf hl.1 (Nat.le_of_ble_eq_true rfl) ⟨Nat.le_of_ble_eq_true rfl, Nat.le_of_ble_eq_true rfl⟩ ⟨Nat.le_refl _, Nat.le_refl _⟩ dX8_buy_18 (fun v8 w7 H locs hf hZ => ?_)
    obtain ⟨rfl, rfl⟩ := zinj hf
    exact hE _ _ _ _ _ _ rfl hZ dX8_buy_21
  refine lv_iload_n (pc := 22) hx hb dX8_buy_22 rfl (lv_at hl 3 rfl) ?_
  refine lv_iconst (pc := 23) (v := (1 : Int32)) hx hb dX8_buy_23 (by decide) ?_
  refine z_ige (pc := 24) (tgt := 34) hC hf dX8_buy_24 (by decide) (fun hf => ?_) (fun hf => ?_)
  · refine lv_iload_n (pc := 34) hx hb dX8_buy_34 rfl (lv_at hl 3 rfl) ?_
    refine lv_sipush (pc := 35) (v := (1000 : Int32)) hx hb dX8_buy_35 (by decide) ?_
    refine z_igt (pc := 38) (tgt := 51) hC hf dX8_buy_38 (by decide) (fun hf => ?_) (fun hf => ?_)
    · refine lv_aload_n (pc := 51) hx hb dX8_buy_51 rfl (lv_at hl 0 rfl) ?_
      refine lv_bipush (pc := 52) (v := (-6 : Int32)) hx hb dX8_buy_52 (by decide) ?_
      refine kX8_146 (pc := 54) hC hA hZ hf hl.1 (Nat.le_of_ble_eq_true rfl) ⟨Nat.le_of_ble_eq_true rfl, Nat.le_of_ble_eq_true rfl⟩ ⟨Nat.le_refl _, Nat.le_refl _⟩ dX8_buy_54 (fun v10 w9 H locs hf hZ => ?_)
      obtain ⟨rfl, rfl⟩ := zinj hf
      exact hE _ _ _ _ _ _ rfl hZ dX8_buy_57
    refine lv_aload_n (pc := 41) hx hb dX8_buy_41 rfl (lv_at hl 0 rfl) ?_
    refine gfX8_133 (pc := 42) hC hZ dX8_buy_42 ?_
    refine lv_sipush (pc := 45) (v := (2000 : Int32)) hx hb dX8_buy_45 (by decide) ?_
    refine z_ine (pc := 48) (tgt := 58) hC hf dX8_buy_48 (by decide) (fun hf => ?_) (fun hf => ?_)
    · refine lv_aload_n (pc := 51) hx hb dX8_buy_51 rfl (lv_at hl 0 rfl) ?_
      refine lv_bipush (pc := 52) (v := (-6 : Int32)) hx hb dX8_buy_52 (by decide) ?_
      refine kX8_146 (pc := 54) hC hA hZ hf hl.1 (Nat.le_of_ble_eq_true rfl) ⟨Nat.le_of_ble_eq_true rfl, Nat.le_of_ble_eq_true rfl⟩ ⟨Nat.le_refl _, Nat.le_refl _⟩ dX8_buy_54 (fun v12 w11 H locs hf hZ => ?_)
      obtain ⟨rfl, rfl⟩ := zinj hf
      exact hE _ _ _ _ _ _ rfl hZ dX8_buy_57
    refine lv_aload_n (pc := 58) hx hb dX8_buy_58 rfl (lv_at hl 0 rfl) ?_
    refine lv_iload_n (pc := 59) hx hb dX8_buy_59 rfl (lv_at hl 1 rfl) ?_
    refine lv_iload_n (pc := 60) hx hb dX8_buy_60 rfl (lv_at hl 2 rfl) ?_
    refine lv_aload_n (pc := 61) hx hb dX8_buy_61 rfl (lv_at hl 0 rfl) ?_
    refine gfX8_130 (pc := 62) hC hZ dX8_buy_62 ?_
    refine lv_iload_n (pc := 65) hx hb dX8_buy_65 rfl (lv_at hl 3 rfl) ?_
    refine kX8_153 (pc := 66) hC hA hZ hf hl.1 (Nat.le_of_ble_eq_true rfl) ⟨Nat.le_of_ble_eq_true rfl, Nat.le_of_ble_eq_true rfl⟩ ⟨Nat.le_refl _, Nat.le_refl _⟩ dX8_buy_66 (fun w13 H locs hf hZ => ?_)
    refine lv_aload_n (pc := 69) hx hb dX8_buy_69 rfl (lv_at hl 0 rfl) ?_
    refine gfX8_28 (pc := 70) hC hZ dX8_buy_70 ?_
    refine lv_iload_n (pc := 73) hx hb dX8_buy_73 rfl (lv_at hl 2 rfl) ?_
    refine lv_dup2_11 (pc := 74) hx hb dX8_buy_74 rfl rfl ?_
    refine z_lald (pc := 75) hC hZ (by decide) rfl hf dX8_buy_75 (fun v14 hf => ?_)
    refine lv_iload_n (pc := 76) hx hb dX8_buy_76 rfl (lv_at hl 3 rfl) ?_
    refine lv_i2l (pc := 77) hx hb dX8_buy_77 rfl ?_
    refine lv_ladd (pc := 78) hx hb dX8_buy_78 ?_
    refine z_last (pc := 79) hC hZ (by decide) rfl hf dX8_buy_79 (fun w15 H locs hf hZ => ?_)
    refine lv_aload_n (pc := 80) hx hb dX8_buy_80 rfl (lv_at hl 0 rfl) ?_
    refine lv_iload_n (pc := 81) hx hb dX8_buy_81 rfl (lv_at hl 1 rfl) ?_
    refine lv_iload_n (pc := 82) hx hb dX8_buy_82 rfl (lv_at hl 2 rfl) ?_
    refine lv_aload_n (pc := 83) hx hb dX8_buy_83 rfl (lv_at hl 0 rfl) ?_
    refine gfX8_130 (pc := 84) hC hZ dX8_buy_84 ?_
    refine kX8_149 (pc := 87) hC hA hZ hf hl.1 (Nat.le_of_ble_eq_true rfl) ⟨Nat.le_of_ble_eq_true rfl, Nat.le_of_ble_eq_true rfl⟩ ⟨Nat.le_refl _, Nat.le_refl _⟩ dX8_buy_87 (fun v17 w16 H locs hf hZ => ?_)
    obtain ⟨rfl, rfl⟩ := zinj hf
    exact hE _ _ _ _ _ _ rfl hZ dX8_buy_90
  refine lv_aload_n (pc := 27) hx hb dX8_buy_27 rfl (lv_at hl 0 rfl) ?_
  refine lv_bipush (pc := 28) (v := (-4 : Int32)) hx hb dX8_buy_28 (by decide) ?_
  refine kX8_146 (pc := 30) hC hA hZ hf hl.1 (Nat.le_of_ble_eq_true rfl) ⟨Nat.le_of_ble_eq_true rfl, Nat.le_of_ble_eq_true rfl⟩ ⟨Nat.le_refl _, Nat.le_refl _⟩ dX8_buy_30 (fun v19 w18 H locs hf hZ => ?_)
  obtain ⟨rfl, rfl⟩ := zinj hf
  exact hE _ _ _ _ _ _ rfl hZ dX8_buy_33
