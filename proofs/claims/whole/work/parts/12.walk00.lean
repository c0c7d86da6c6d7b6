set_option maxHeartbeats 4000000 in
set_option maxRecDepth 100000 in
theorem cX7_refuse_ok (l : Launch) (D : va_G) (cy : Nat → ClassId) (a0 aT aP : Nat → Nat) (N : Nat) (x1 : Int32) (w0 : zS) (rv : Int32) (τ : zS) (hf : fX7_refuse N x1 w0 = some (rv, τ)) : zMi l yX7_refuse cX7_refuse 2 (some .int) rmX7_refuse D cy shX 38 a0 aT aP w0 [.ref (a0 0), .int x1] rv τ (fun u => u = (aT, aP)) := by
  refine zmet_i (by decide +kernel) (Or.inl rfl) (Nat.le_of_ble_eq_true rfl) ?_
  intro p e s m below meth c A Q ls hC hA hZ hl hE
  have hx := hC.1.1
  have hb := hC.1.2.1
  have hl : lv_has ls 2 [(0, .ref (a0 0)), (1, .int x1)] := hl
  unfold fX7_refuse at hf
  refine lv_iload_n (pc := 0) hx hb dX7_refuse_0 rfl (lv_at hl 1 rfl) ?_
  refine lv_bipush (pc := 1) (v := (-6 : Int32)) hx hb dX7_refuse_1 (by decide) ?_
  refine z_ilt (pc := 3) (tgt := 22) hC hf dX7_refuse_3 (by decide) (fun hf => ?_) (fun hf => ?_)
  · refine lv_iload_n (pc := 22) hx hb dX7_refuse_22 rfl (lv_at hl 1 rfl) ?_
    obtain ⟨rfl, rfl⟩ := zinj hf
    exact hE _ _ _ _ _ _ rfl hZ dX7_refuse_23
  refine lv_iload_n (pc := 6) hx hb dX7_refuse_6 rfl (lv_at hl 1 rfl) ?_
  refine lv_iconst (pc := 7) (v := (-1 : Int32)) hx hb dX7_refuse_7 (by decide) ?_
  refine z_igt (pc := 8) (tgt := 22) hC hf dX7_refuse_8 (by decide) (fun hf => ?_) (fun hf => ?_)
  · refine lv_iload_n (pc := 22) hx hb dX7_refuse_22 rfl (lv_at hl 1 rfl) ?_
    obtain ⟨rfl, rfl⟩ := zinj hf
    exact hE _ _ _ _ _ _ rfl hZ dX7_refuse_23
  refine lv_aload_n (pc := 11) hx hb dX7_refuse_11 rfl (lv_at hl 0 rfl) ?_
  refine gfX7_25 (pc := 12) hC hZ dX7_refuse_12 ?_
  refine lv_iload_n (pc := 15) hx hb dX7_refuse_15 rfl (lv_at hl 1 rfl) ?_
  refine lv_ineg (pc := 16) hx hb dX7_refuse_16 ?_
  refine lv_dup2_11 (pc := 17) hx hb dX7_refuse_17 rfl rfl ?_
  refine z_iald (pc := 18) hC hZ (by decide) rfl hf dX7_refuse_18 (fun v1 hf => ?_)
  refine lv_iconst (pc := 19) (v := (1 : Int32)) hx hb dX7_refuse_19 (by decide) ?_
  refine lv_iadd (pc := 20) hx hb dX7_refuse_20 ?_
  refine z_iast (pc := 21) hC hZ (by decide) rfl hf dX7_refuse_21 (fun w2 H locs hf hZ => ?_)
  refine lv_iload_n (pc := 22) hx hb dX7_refuse_22 rfl (lv_at hl 1 rfl) ?_
  obtain ⟨rfl, rfl⟩ := zinj hf
  exact hE _ _ _ _ _ _ rfl hZ dX7_refuse_23
section ZK
variable {p : Program} {l : Launch} {e : Env} {R : Room} {s : State} {m : MethodId} {args : Array Value} {below : List Frame} {meth : Method} {c : Code} {H : Heap} {locs : List Loc} {cells slots : Nat} {Q : State → Prop}
variable {pc : Nat} {ls : Array Slot} {rest : List Value} {A : Nat → Prop} {H0 : Heap} {D : va_G} {cy : Nat → ClassId} {a0 aT aP : Nat → Nat} {σ : zS} {cc : ByteArray} {nL : Nat} {α : Type} {res : α}
theorem vkX7_73 : zVk RX7 73 yX7_refuse cX7_refuse 2 (some .int) 1 := ⟨by decide +kernel, by decide +kernel, by decide +kernel, by decide +kernel, by decide +kernel, by decide +kernel⟩
theorem kX7_73 (hC : zC p s m args c RX7 cc nL D cy) (hA : ∀ q, H0.size ≤ q → A q) (hZ : zW D cy shX 38 a0 aT aP A H0 σ H locs) {N : Nat} {x1 : Int32} {k : Int32 → zS → Option α} (hf : zbi (fX7_refuse N x1 σ) k = some res) (hsz : ls.size = nL) (hW : (rest.map fun v => v.category).sum ≤ 8) (hR : rmX7_refuse.frames + 1 ≤ R.frames ∧ 8 + (2 + 11) + rmX7_refuse.locals ≤ R.locals) (hcs : cells ≤ R.cells ∧ slots ≤ R.slots) (hdg : decode cc pc = .ok (.invokevirtual 73, 3)) (kk : ∀ (v : Int32) (τ : zS) (H1 : Heap) (locs1 : List Loc), k v τ = some res → zW D cy shX 38 a0 aT aP A H0 τ H1 locs1 → W p l e R s m args below meth c H1 locs1 cells slots Q (F0 m (pc + 3) ls (.int v :: rest))) : W p l e R s m args below meth c H locs cells slots Q (F0 m pc ls (.int x1 :: .ref (a0 0) :: rest)) := by
  cases hq : fX7_refuse N x1 σ with
  | none => rw [hq] at hf; cases hf
  | some q =>
    rw [hq] at hf
    exact zcalli hA hZ (zrun hC hZ vkX7_73 rfl (zw0 (by decide)) (cX7_refuse_ok l D cy a0 aT aP N x1 σ q.1 q.2 hq H.size) hR rfl hsz rfl hW hcs hdg) (fun u H1 locs1 hU hZ1 => by subst hU; exact kk q.1 q.2 H1 locs1 hf hZ1)
end ZK
set_option maxHeartbeats 4000000 in
set_option maxRecDepth 100000 in
theorem cX7_house_ok (l : Launch) (D : va_G) (cy : Nat → ClassId) (a0 aT aP : Nat → Nat) (N : Nat)  (w0 : zS) (rv : Int32) (τ : zS) (hf : fX7_house N  w0 = some (rv, τ)) : zMi l yX7_house cX7_house 1 (some .int) rmX7_house D cy shX 38 a0 aT aP w0 [.ref (a0 0)] rv τ (fun u => u = (aT, aP)) := by
  refine zmet_i (by decide +kernel) (Or.inl rfl) (Nat.le_of_ble_eq_true rfl) ?_
  intro p e s m below meth c A Q ls hC hA hZ hl hE
  have hx := hC.1.1
  have hb := hC.1.2.1
  have hl : lv_has ls 1 [(0, .ref (a0 0))] := hl
  unfold fX7_house at hf
  refine lv_aload_n (pc := 0) hx hb dX7_house_0 rfl (lv_at hl 0 rfl) ?_
  refine gfX7_64 (pc := 1) hC hZ dX7_house_1 ?_
  refine lv_bipush (pc := 4) (v := (10 : Int32)) hx hb dX7_house_4 (by decide) ?_
  refine z_ilt (pc := 6) (tgt := 16) hC hf dX7_house_6 (by decide) (fun hf => ?_) (fun hf => ?_)
  · refine lv_aload_n (pc := 16) hx hb dX7_house_16 rfl (lv_at hl 0 rfl) ?_
    refine lv_dup (pc := 17) hx hb dX7_house_17 rfl ?_
    refine gfX7_64 (pc := 18) hC hZ dX7_house_18 ?_
    refine lv_iconst (pc := 21) (v := (1 : Int32)) hx hb dX7_house_21 (by decide) ?_
    refine lv_iadd (pc := 22) hx hb dX7_house_22 ?_
    refine pfX7_64 (pc := 23) hC hZ hf dX7_house_23 (fun w1 H locs hf hZ => ?_)
    refine lv_aload_n (pc := 26) hx hb dX7_house_26 rfl (lv_at hl 0 rfl) ?_
    refine gfX7_64 (pc := 27) hC hZ dX7_house_27 ?_
    refine lv_iconst (pc := 30) (v := (1 : Int32)) hx hb dX7_house_30 (by decide) ?_
    refine lv_isub (pc := 31) hx hb dX7_house_31 ?_
    obtain ⟨rfl, rfl⟩ := zinj hf
    exact hE _ _ _ _ _ _ rfl hZ dX7_house_32
  refine lv_aload_n (pc := 9) hx hb dX7_house_9 rfl (lv_at hl 0 rfl) ?_
  refine lv_bipush (pc := 10) (v := (-6 : Int32)) hx hb dX7_house_10 (by decide) ?_
  refine kX7_73 (pc := 12) hC hA hZ hf hl.1 (Nat.le_of_ble_eq_true rfl) ⟨Nat.le_of_ble_eq_true rfl, Nat.le_of_ble_eq_true rfl⟩ ⟨Nat.le_refl _, Nat.le_refl _⟩ dX7_house_12 (fun v3 w2 H locs hf hZ => ?_)
  obtain ⟨rfl, rfl⟩ := zinj hf
  exact hE _ _ _ _ _ _ rfl hZ dX7_house_15
set_option maxHeartbeats 4000000 in
set_option maxRecDepth 100000 in
theorem cX7_kind_ok (l : Launch) (D : va_G) (cy : Nat → ClassId) (a0 aT aP : Nat → Nat) (N : Nat) (x1 : Int32) (x2 : Int32) (w0 : zS) (rv : Int32) (τ : zS) (hf : fX7_kind N x1 x2 w0 = some (rv, τ)) : zMi l yX7_kind cX7_kind 3 (some .int) rmX7_kind D cy shX 38 a0 aT aP w0 [.ref (a0 0), .int x1, .int x2] rv τ (fun u => u = (aT, aP)) := by
  refine zmet_i (by decide +kernel) (Or.inl rfl) (Nat.le_of_ble_eq_true rfl) ?_
  intro p e s m below meth c A Q ls hC hA hZ hl hE
  have hx := hC.1.1
  have hb := hC.1.2.1
  have hl : lv_has ls 3 [(0, .ref (a0 0)), (1, .int x1), (2, .int x2)] := hl
  unfold fX7_kind at hf
  refine lv_iload_n (pc := 0) hx hb dX7_kind_0 rfl (lv_at hl 1 rfl) ?_
  refine lv_iconst (pc := 1) (v := (1 : Int32)) hx hb dX7_kind_1 (by decide) ?_
  refine z_ilt (pc := 2) (tgt := 9) hC hf dX7_kind_2 (by decide) (fun hf => ?_) (fun hf => ?_)
  · refine lv_aload_n (pc := 9) hx hb dX7_kind_9 rfl (lv_at hl 0 rfl) ?_
    refine lv_bipush (pc := 10) (v := (-4 : Int32)) hx hb dX7_kind_10 (by decide) ?_
    refine kX7_73 (pc := 12) hC hA hZ hf hl.1 (Nat.le_of_ble_eq_true rfl) ⟨Nat.le_of_ble_eq_true rfl, Nat.le_of_ble_eq_true rfl⟩ ⟨Nat.le_refl _, Nat.le_refl _⟩ dX7_kind_12 (fun v2 w1 H locs hf hZ => ?_)
    obtain ⟨rfl, rfl⟩ := zinj hf
    exact hE _ _ _ _ _ _ rfl hZ dX7_kind_15
  refine lv_iload_n (pc := 5) hx hb dX7_kind_5 rfl (lv_at hl 2 rfl) ?_
  refine z_ge0 (pc := 6) (tgt := 16) hC hf dX7_kind_6 (by decide) (fun hf => ?_) (fun hf => ?_)
  · refine lv_iload_n (pc := 16) hx hb dX7_kind_16 rfl (lv_at hl 1 rfl) ?_
    refine lv_sipush (pc := 17) (v := (1000 : Int32)) hx hb dX7_kind_17 (by decide) ?_
    refine z_igt (pc := 20) (tgt := 38) hC hf dX7_kind_20 (by decide) (fun hf => ?_) (fun hf => ?_)
    · refine lv_aload_n (pc := 38) hx hb dX7_kind_38 rfl (lv_at hl 0 rfl) ?_
      refine lv_bipush (pc := 39) (v := (-6 : Int32)) hx hb dX7_kind_39 (by decide) ?_
      refine kX7_73 (pc := 41) hC hA hZ hf hl.1 (Nat.le_of_ble_eq_true rfl) ⟨Nat.le_of_ble_eq_true rfl, Nat.le_of_ble_eq_true rfl⟩ ⟨Nat.le_refl _, Nat.le_refl _⟩ dX7_kind_41 (fun v4 w3 H locs hf hZ => ?_)
      obtain ⟨rfl, rfl⟩ := zinj hf
      exact hE _ _ _ _ _ _ rfl hZ dX7_kind_44
    refine lv_iload_n (pc := 23) hx hb dX7_kind_23 rfl (lv_at hl 2 rfl) ?_
    refine lv_bipush (pc := 24) (v := (100 : Int32)) hx hb dX7_kind_24 (by decide) ?_
    refine z_igt (pc := 26) (tgt := 38) hC hf dX7_kind_26 (by decide) (fun hf => ?_) (fun hf => ?_)
    · refine lv_aload_n (pc := 38) hx hb dX7_kind_38 rfl (lv_at hl 0 rfl) ?_
      refine lv_bipush (pc := 39) (v := (-6 : Int32)) hx hb dX7_kind_39 (by decide) ?_
      refine kX7_73 (pc := 41) hC hA hZ hf hl.1 (Nat.le_of_ble_eq_true rfl) ⟨Nat.le_of_ble_eq_true rfl, Nat.le_of_ble_eq_true rfl⟩ ⟨Nat.le_refl _, Nat.le_refl _⟩ dX7_kind_41 (fun v6 w5 H locs hf hZ => ?_)
      obtain ⟨rfl, rfl⟩ := zinj hf
      exact hE _ _ _ _ _ _ rfl hZ dX7_kind_44
    refine lv_aload_n (pc := 29) hx hb dX7_kind_29 rfl (lv_at hl 0 rfl) ?_
    refine gfX7_67 (pc := 30) hC hZ dX7_kind_30 ?_
    refine lv_bipush (pc := 33) (v := (6 : Int32)) hx hb dX7_kind_33 (by decide) ?_
    refine z_ilt (pc := 35) (tgt := 45) hC hf dX7_kind_35 (by decide) (fun hf => ?_) (fun hf => ?_)
    · refine lv_aload_n (pc := 45) hx hb dX7_kind_45 rfl (lv_at hl 0 rfl) ?_
      refine gfX7_9 (pc := 46) hC hZ dX7_kind_46 ?_
      refine lv_aload_n (pc := 49) hx hb dX7_kind_49 rfl (lv_at hl 0 rfl) ?_
      refine gfX7_67 (pc := 50) hC hZ dX7_kind_50 ?_
      refine lv_iload_n (pc := 53) hx hb dX7_kind_53 rfl (lv_at hl 1 rfl) ?_
      refine z_iast (pc := 54) hC hZ (by decide) rfl hf dX7_kind_54 (fun w7 H locs hf hZ => ?_)
      refine lv_aload_n (pc := 55) hx hb dX7_kind_55 rfl (lv_at hl 0 rfl) ?_
      refine gfX7_13 (pc := 56) hC hZ dX7_kind_56 ?_
      refine lv_aload_n (pc := 59) hx hb dX7_kind_59 rfl (lv_at hl 0 rfl) ?_
      refine gfX7_67 (pc := 60) hC hZ dX7_kind_60 ?_
      refine lv_iload_n (pc := 63) hx hb dX7_kind_63 rfl (lv_at hl 2 rfl) ?_
      refine z_iast (pc := 64) hC hZ (by decide) rfl hf dX7_kind_64 (fun w8 H locs hf hZ => ?_)
      refine lv_aload_n (pc := 65) hx hb dX7_kind_65 rfl (lv_at hl 0 rfl) ?_
      refine lv_dup (pc := 66) hx hb dX7_kind_66 rfl ?_
      refine gfX7_67 (pc := 67) hC hZ dX7_kind_67 ?_
      refine lv_iconst (pc := 70) (v := (1 : Int32)) hx hb dX7_kind_70 (by decide) ?_
      refine lv_iadd (pc := 71) hx hb dX7_kind_71 ?_
      refine pfX7_67 (pc := 72) hC hZ hf dX7_kind_72 (fun w9 H locs hf hZ => ?_)
      refine lv_aload_n (pc := 75) hx hb dX7_kind_75 rfl (lv_at hl 0 rfl) ?_
      refine gfX7_67 (pc := 76) hC hZ dX7_kind_76 ?_
      refine lv_iconst (pc := 79) (v := (1 : Int32)) hx hb dX7_kind_79 (by decide) ?_
      refine lv_isub (pc := 80) hx hb dX7_kind_80 ?_
      obtain ⟨rfl, rfl⟩ := zinj hf
      exact hE _ _ _ _ _ _ rfl hZ dX7_kind_81
    refine lv_aload_n (pc := 38) hx hb dX7_kind_38 rfl (lv_at hl 0 rfl) ?_
    refine lv_bipush (pc := 39) (v := (-6 : Int32)) hx hb dX7_kind_39 (by decide) ?_
    refine kX7_73 (pc := 41) hC hA hZ hf hl.1 (Nat.le_of_ble_eq_true rfl) ⟨Nat.le_of_ble_eq_true rfl, Nat.le_of_ble_eq_true rfl⟩ ⟨Nat.le_refl _, Nat.le_refl _⟩ dX7_kind_41 (fun v11 w10 H locs hf hZ => ?_)
    obtain ⟨rfl, rfl⟩ := zinj hf
    exact hE _ _ _ _ _ _ rfl hZ dX7_kind_44
  refine lv_aload_n (pc := 9) hx hb dX7_kind_9 rfl (lv_at hl 0 rfl) ?_
  refine lv_bipush (pc := 10) (v := (-4 : Int32)) hx hb dX7_kind_10 (by decide) ?_
  refine kX7_73 (pc := 12) hC hA hZ hf hl.1 (Nat.le_of_ble_eq_true rfl) ⟨Nat.le_of_ble_eq_true rfl, Nat.le_of_ble_eq_true rfl⟩ ⟨Nat.le_refl _, Nat.le_refl _⟩ dX7_kind_12 (fun v13 w12 H locs hf hZ => ?_)
  obtain ⟨rfl, rfl⟩ := zinj hf
  exact hE _ _ _ _ _ _ rfl hZ dX7_kind_15
set_option maxHeartbeats 4000000 in
set_option maxRecDepth 100000 in
theorem cX7_days_ok (l : Launch) (D : va_G) (cy : Nat → ClassId) (a0 aT aP : Nat → Nat) (N : Nat) (x1 : Int32) (w0 : zS) (rv : Int32) (τ : zS) (hf : fX7_days N x1 w0 = some (rv, τ)) : zMi l yX7_days cX7_days 2 (some .int) rmX7_days D cy shX 38 a0 aT aP w0 [.ref (a0 0), .int x1] rv τ (fun u => u = (aT, aP)) := by
  refine zmet_i (by decide +kernel) (Or.inl rfl) (Nat.le_of_ble_eq_true rfl) ?_
  intro p e s m below meth c A Q ls hC hA hZ hl hE
  have hx := hC.1.1
  have hb := hC.1.2.1
  have hl : lv_has ls 2 [(0, .ref (a0 0)), (1, .int x1)] := hl
  unfold fX7_days at hf
  refine lv_iload_n (pc := 0) hx hb dX7_days_0 rfl (lv_at hl 1 rfl) ?_
  refine lv_iconst (pc := 1) (v := (1 : Int32)) hx hb dX7_days_1 (by decide) ?_
  refine z_ige (pc := 2) (tgt := 12) hC hf dX7_days_2 (by decide) (fun hf => ?_) (fun hf => ?_)
  · refine lv_iload_n (pc := 12) hx hb dX7_days_12 rfl (lv_at hl 1 rfl) ?_
    refine lv_sipush (pc := 13) (v := (599 : Int32)) hx hb dX7_days_13 (by decide) ?_
    refine lv_aload_n (pc := 16) hx hb dX7_days_16 rfl (lv_at hl 0 rfl) ?_
    refine gfX7_60 (pc := 17) hC hZ dX7_days_17 ?_
    refine lv_isub (pc := 20) hx hb dX7_days_20 ?_
    refine z_ile (pc := 21) (tgt := 31) hC hf dX7_days_21 (by decide) (fun hf => ?_) (fun hf => ?_)
    · refine lv_aload_n (pc := 31) hx hb dX7_days_31 rfl (lv_at hl 0 rfl) ?_
      refine lv_dup (pc := 32) hx hb dX7_days_32 rfl ?_
      refine gfX7_60 (pc := 33) hC hZ dX7_days_33 ?_
      refine lv_iload_n (pc := 36) hx hb dX7_days_36 rfl (lv_at hl 1 rfl) ?_
      refine lv_iadd (pc := 37) hx hb dX7_days_37 ?_
      refine pfX7_60 (pc := 38) hC hZ hf dX7_days_38 (fun w1 H locs hf hZ => ?_)
      refine lv_aload_n (pc := 41) hx hb dX7_days_41 rfl (lv_at hl 0 rfl) ?_
      refine gfX7_60 (pc := 42) hC hZ dX7_days_42 ?_
      obtain ⟨rfl, rfl⟩ := zinj hf
      exact hE _ _ _ _ _ _ rfl hZ dX7_days_45
    refine lv_aload_n (pc := 24) hx hb dX7_days_24 rfl (lv_at hl 0 rfl) ?_
    refine lv_bipush (pc := 25) (v := (-6 : Int32)) hx hb dX7_days_25 (by decide) ?_
    refine kX7_73 (pc := 27) hC hA hZ hf hl.1 (Nat.le_of_ble_eq_true rfl) ⟨Nat.le_of_ble_eq_true rfl, Nat.le_of_ble_eq_true rfl⟩ ⟨Nat.le_refl _, Nat.le_refl _⟩ dX7_days_27 (fun v3 w2 H locs hf hZ => ?_)
    obtain ⟨rfl, rfl⟩ := zinj hf
    exact hE _ _ _ _ _ _ rfl hZ dX7_days_30
  refine lv_aload_n (pc := 5) hx hb dX7_days_5 rfl (lv_at hl 0 rfl) ?_
  refine lv_bipush (pc := 6) (v := (-4 : Int32)) hx hb dX7_days_6 (by decide) ?_
  refine kX7_73 (pc := 8) hC hA hZ hf hl.1 (Nat.le_of_ble_eq_true rfl) ⟨Nat.le_of_ble_eq_true rfl, Nat.le_of_ble_eq_true rfl⟩ ⟨Nat.le_refl _, Nat.le_refl _⟩ dX7_days_8 (fun v5 w4 H locs hf hZ => ?_)
  obtain ⟨rfl, rfl⟩ := zinj hf
  exact hE _ _ _ _ _ _ rfl hZ dX7_days_11
set_option maxHeartbeats 4000000 in
set_option maxRecDepth 100000 in
theorem cX7_isHouse_ok (l : Launch) (D : va_G) (cy : Nat → ClassId) (a0 aT aP : Nat → Nat) (N : Nat) (x1 : Int32) (w0 : zS) (rv : Int32) (τ : zS) (hf : fX7_isHouse N x1 w0 = some (rv, τ)) : zMi l yX7_isHouse cX7_isHouse 2 (some .boolean) rmX7_isHouse D cy shX 38 a0 aT aP w0 [.ref (a0 0), .int x1] rv τ (fun u => u = (aT, aP)) := by
  refine zmet_z (by decide +kernel) rfl (Nat.le_of_ble_eq_true rfl) ?_
  intro p e s m below meth c A Q ls hC hA hZ hl hE
  have hx := hC.1.1
  have hb := hC.1.2.1
  have hl : lv_has ls 2 [(0, .ref (a0 0)), (1, .int x1)] := hl
  unfold fX7_isHouse at hf
  refine lv_iload_n (pc := 0) hx hb dX7_isHouse_0 rfl (lv_at hl 1 rfl) ?_
  refine z_lt0 (pc := 1) (tgt := 16) hC hf dX7_isHouse_1 (by decide) (fun hf => ?_) (fun hf => ?_)
  · refine lv_iconst (pc := 16) (v := (0 : Int32)) hx hb dX7_isHouse_16 (by decide) ?_
    obtain ⟨rfl, rfl⟩ := zinj hf
    exact hE (by decide) _ _ _ _ _ _ rfl hZ dX7_isHouse_17
  refine lv_iload_n (pc := 4) hx hb dX7_isHouse_4 rfl (lv_at hl 1 rfl) ?_
  refine lv_aload_n (pc := 5) hx hb dX7_isHouse_5 rfl (lv_at hl 0 rfl) ?_
  refine gfX7_64 (pc := 6) hC hZ dX7_isHouse_6 ?_
  refine z_ige (pc := 9) (tgt := 16) hC hf dX7_isHouse_9 (by decide) (fun hf => ?_) (fun hf => ?_)
  · refine lv_iconst (pc := 16) (v := (0 : Int32)) hx hb dX7_isHouse_16 (by decide) ?_
    obtain ⟨rfl, rfl⟩ := zinj hf
    exact hE (by decide) _ _ _ _ _ _ rfl hZ dX7_isHouse_17
  refine lv_iconst (pc := 12) (v := (1 : Int32)) hx hb dX7_isHouse_12 (by decide) ?_
  refine lv_goto (pc := 13) (tgt := 17) hx hb dX7_isHouse_13 (by decide) ?_
  obtain ⟨rfl, rfl⟩ := zinj hf
  exact hE (by decide) _ _ _ _ _ _ rfl hZ dX7_isHouse_17
section ZK
variable {p : Program} {l : Launch} {e : Env} {R : Room} {s : State} {m : MethodId} {args : Array Value} {below : List Frame} {meth : Method} {c : Code} {H : Heap} {locs : List Loc} {cells slots : Nat} {Q : State → Prop}
variable {pc : Nat} {ls : Array Slot} {rest : List Value} {A : Nat → Prop} {H0 : Heap} {D : va_G} {cy : Nat → ClassId} {a0 aT aP : Nat → Nat} {σ : zS} {cc : ByteArray} {nL : Nat} {α : Type} {res : α}
theorem vkX7_77 : zVk RX7 77 yX7_isHouse cX7_isHouse 2 (some .boolean) 1 := ⟨by decide +kernel, by decide +kernel, by decide +kernel, by decide +kernel, by decide +kernel, by decide +kernel⟩
theorem kX7_77 (hC : zC p s m args c RX7 cc nL D cy) (hA : ∀ q, H0.size ≤ q → A q) (hZ : zW D cy shX 38 a0 aT aP A H0 σ H locs) {N : Nat} {x1 : Int32} {k : Int32 → zS → Option α} (hf : zbi (fX7_isHouse N x1 σ) k = some res) (hsz : ls.size = nL) (hW : (rest.map fun v => v.category).sum ≤ 8) (hR : rmX7_isHouse.frames + 1 ≤ R.frames ∧ 8 + (2 + 11) + rmX7_isHouse.locals ≤ R.locals) (hcs : cells ≤ R.cells ∧ slots ≤ R.slots) (hdg : decode cc pc = .ok (.invokevirtual 77, 3)) (kk : ∀ (v : Int32) (τ : zS) (H1 : Heap) (locs1 : List Loc), k v τ = some res → zW D cy shX 38 a0 aT aP A H0 τ H1 locs1 → W p l e R s m args below meth c H1 locs1 cells slots Q (F0 m (pc + 3) ls (.int v :: rest))) : W p l e R s m args below meth c H locs cells slots Q (F0 m pc ls (.int x1 :: .ref (a0 0) :: rest)) := by
  cases hq : fX7_isHouse N x1 σ with
  | none => rw [hq] at hf; cases hf
  | some q =>
    rw [hq] at hf
    exact zcalli hA hZ (zrun hC hZ vkX7_77 rfl (zw0 (by decide)) (cX7_isHouse_ok l D cy a0 aT aP N x1 σ q.1 q.2 hq H.size) hR rfl hsz rfl hW hcs hdg) (fun u H1 locs1 hU hZ1 => by subst hU; exact kk q.1 q.2 H1 locs1 hf hZ1)
end ZK
set_option maxHeartbeats 4000000 in
set_option maxRecDepth 100000 in
theorem cX7_refuseAmount_ok (l : Launch) (D : va_G) (cy : Nat → ClassId) (a0 aT aP : Nat → Nat) (N : Nat) (x1 : Int32) (w0 : zS) (rv : Int32) (τ : zS) (hf : fX7_refuseAmount N x1 w0 = some (rv, τ)) : zMi l yX7_refuseAmount cX7_refuseAmount 2 (some .int) rmX7_refuseAmount D cy shX 38 a0 aT aP w0 [.ref (a0 0), .int x1] rv τ (fun u => u = (aT, aP)) := by
  refine zmet_i (by decide +kernel) (Or.inl rfl) (Nat.le_of_ble_eq_true rfl) ?_
  intro p e s m below meth c A Q ls hC hA hZ hl hE
  have hx := hC.1.1
  have hb := hC.1.2.1
  have hl : lv_has ls 2 [(0, .ref (a0 0)), (1, .int x1)] := hl
  unfold fX7_refuseAmount at hf
  refine lv_ldc (pc := 0) (v := (1000000000 : Int32)) hx hb hC.1.2.2.2.1 (hC.1.2.2.2.2 _ kcX7_247) dX7_refuseAmount_0 ?_
  refine lv_aload_n (pc := 2) hx hb dX7_refuseAmount_2 rfl (lv_at hl 0 rfl) ?_
  refine lv_iload_n (pc := 3) hx hb dX7_refuseAmount_3 rfl (lv_at hl 1 rfl) ?_
  refine kX7_73 (pc := 4) hC hA hZ hf hl.1 (Nat.le_of_ble_eq_true rfl) ⟨Nat.le_of_ble_eq_true rfl, Nat.le_of_ble_eq_true rfl⟩ ⟨Nat.le_refl _, Nat.le_refl _⟩ dX7_refuseAmount_4 (fun v2 w1 H locs hf hZ => ?_)
  refine lv_isub (pc := 7) hx hb dX7_refuseAmount_7 ?_
  obtain ⟨rfl, rfl⟩ := zinj hf
  exact hE _ _ _ _ _ _ rfl hZ dX7_refuseAmount_8
section ZK
variable {p : Program} {l : Launch} {e : Env} {R : Room} {s : State} {m : MethodId} {args : Array Value} {below : List Frame} {meth : Method} {c : Code} {H : Heap} {locs : List Loc} {cells slots : Nat} {Q : State → Prop}
variable {pc : Nat} {ls : Array Slot} {rest : List Value} {A : Nat → Prop} {H0 : Heap} {D : va_G} {cy : Nat → ClassId} {a0 aT aP : Nat → Nat} {σ : zS} {cc : ByteArray} {nL : Nat} {α : Type} {res : α}
theorem vkX7_84 : zVk RX7 84 yX7_refuseAmount cX7_refuseAmount 2 (some .int) 1 := ⟨by decide +kernel, by decide +kernel, by decide +kernel, by decide +kernel, by decide +kernel, by decide +kernel⟩
theorem kX7_84 (hC : zC p s m args c RX7 cc nL D cy) (hA : ∀ q, H0.size ≤ q → A q) (hZ : zW D cy shX 38 a0 aT aP A H0 σ H locs) {N : Nat} {x1 : Int32} {k : Int32 → zS → Option α} (hf : zbi (fX7_refuseAmount N x1 σ) k = some res) (hsz : ls.size = nL) (hW : (rest.map fun v => v.category).sum ≤ 8) (hR : rmX7_refuseAmount.frames + 1 ≤ R.frames ∧ 8 + (2 + 11) + rmX7_refuseAmount.locals ≤ R.locals) (hcs : cells ≤ R.cells ∧ slots ≤ R.slots) (hdg : decode cc pc = .ok (.invokevirtual 84, 3)) (kk : ∀ (v : Int32) (τ : zS) (H1 : Heap) (locs1 : List Loc), k v τ = some res → zW D cy shX 38 a0 aT aP A H0 τ H1 locs1 → W p l e R s m args below meth c H1 locs1 cells slots Q (F0 m (pc + 3) ls (.int v :: rest))) : W p l e R s m args below meth c H locs cells slots Q (F0 m pc ls (.int x1 :: .ref (a0 0) :: rest)) := by
  cases hq : fX7_refuseAmount N x1 σ with
  | none => rw [hq] at hf; cases hf
  | some q =>
    rw [hq] at hf
    exact zcalli hA hZ (zrun hC hZ vkX7_84 rfl (zw0 (by decide)) (cX7_refuseAmount_ok l D cy a0 aT aP N x1 σ q.1 q.2 hq H.size) hR rfl hsz rfl hW hcs hdg) (fun u H1 locs1 hU hZ1 => by subst hU; exact kk q.1 q.2 H1 locs1 hf hZ1)
end ZK
set_option maxHeartbeats 4000000 in
set_option maxRecDepth 100000 in
theorem cX7_isKind_ok (l : Launch) (D : va_G) (cy : Nat → ClassId) (a0 aT aP : Nat → Nat) (N : Nat) (x1 : Int32) (w0 : zS) (rv : Int32) (τ : zS) (hf : fX7_isKind N x1 w0 = some (rv, τ)) : zMi l yX7_isKind cX7_isKind 2 (some .boolean) rmX7_isKind D cy shX 38 a0 aT aP w0 [.ref (a0 0), .int x1] rv τ (fun u => u = (aT, aP)) := by
  refine zmet_z (by decide +kernel) rfl (Nat.le_of_ble_eq_true rfl) ?_
  intro p e s m below meth c A Q ls hC hA hZ hl hE
  have hx := hC.1.1
  have hb := hC.1.2.1
  have hl : lv_has ls 2 [(0, .ref (a0 0)), (1, .int x1)] := hl
  unfold fX7_isKind at hf
  refine lv_iload_n (pc := 0) hx hb dX7_isKind_0 rfl (lv_at hl 1 rfl) ?_
  refine z_lt0 (pc := 1) (tgt := 16) hC hf dX7_isKind_1 (by decide) (fun hf => ?_) (fun hf => ?_)
  · refine lv_iconst (pc := 16) (v := (0 : Int32)) hx hb dX7_isKind_16 (by decide) ?_
    obtain ⟨rfl, rfl⟩ := zinj hf
    exact hE (by decide) _ _ _ _ _ _ rfl hZ dX7_isKind_17
  refine lv_iload_n (pc := 4) hx hb dX7_isKind_4 rfl (lv_at hl 1 rfl) ?_
  refine lv_aload_n (pc := 5) hx hb dX7_isKind_5 rfl (lv_at hl 0 rfl) ?_
  refine gfX7_67 (pc := 6) hC hZ dX7_isKind_6 ?_
  refine z_ige (pc := 9) (tgt := 16) hC hf dX7_isKind_9 (by decide) (fun hf => ?_) (fun hf => ?_)
  · refine lv_iconst (pc := 16) (v := (0 : Int32)) hx hb dX7_isKind_16 (by decide) ?_
    obtain ⟨rfl, rfl⟩ := zinj hf
    exact hE (by decide) _ _ _ _ _ _ rfl hZ dX7_isKind_17
  refine lv_iconst (pc := 12) (v := (1 : Int32)) hx hb dX7_isKind_12 (by decide) ?_
  refine lv_goto (pc := 13) (tgt := 17) hx hb dX7_isKind_13 (by decide) ?_
  obtain ⟨rfl, rfl⟩ := zinj hf
  exact hE (by decide) _ _ _ _ _ _ rfl hZ dX7_isKind_17
section ZK
variable {p : Program} {l : Launch} {e : Env} {R : Room} {s : State} {m : MethodId} {args : Array Value} {below : List Frame} {meth : Method} {c : Code} {H : Heap} {locs : List Loc} {cells slots : Nat} {Q : State → Prop}
variable {pc : Nat} {ls : Array Slot} {rest : List Value} {A : Nat → Prop} {H0 : Heap} {D : va_G} {cy : Nat → ClassId} {a0 aT aP : Nat → Nat} {σ : zS} {cc : ByteArray} {nL : Nat} {α : Type} {res : α}
theorem vkX7_81 : zVk RX7 81 yX7_isKind cX7_isKind 2 (some .boolean) 1 := ⟨by decide +kernel, by decide +kernel, by decide +kernel, by decide +kernel, by decide +kernel, by decide +kernel⟩
theorem kX7_81 (hC : zC p s m args c RX7 cc nL D cy) (hA : ∀ q, H0.size ≤ q → A q) (hZ : zW D cy shX 38 a0 aT aP A H0 σ H locs) {N : Nat} {x1 : Int32} {k : Int32 → zS → Option α} (hf : zbi (fX7_isKind N x1 σ) k = some res) (hsz : ls.size = nL) (hW : (rest.map fun v => v.category).sum ≤ 8) (hR : rmX7_isKind.frames + 1 ≤ R.frames ∧ 8 + (2 + 11) + rmX7_isKind.locals ≤ R.locals) (hcs : cells ≤ R.cells ∧ slots ≤ R.slots) (hdg : decode cc pc = .ok (.invokevirtual 81, 3)) (kk : ∀ (v : Int32) (τ : zS) (H1 : Heap) (locs1 : List Loc), k v τ = some res → zW D cy shX 38 a0 aT aP A H0 τ H1 locs1 → W p l e R s m args below meth c H1 locs1 cells slots Q (F0 m (pc + 3) ls (.int v :: rest))) : W p l e R s m args below meth c H locs cells slots Q (F0 m pc ls (.int x1 :: .ref (a0 0) :: rest)) := by
  cases hq : fX7_isKind N x1 σ with
  | none => rw [hq] at hf; cases hf
  | some q =>
    rw [hq] at hf
    exact zcalli hA hZ (zrun hC hZ vkX7_81 rfl (zw0 (by decide)) (cX7_isKind_ok l D cy a0 aT aP N x1 σ q.1 q.2 hq H.size) hR rfl hsz rfl hW hcs hdg) (fun u H1 locs1 hU hZ1 => by subst hU; exact kk q.1 q.2 H1 locs1 hf hZ1)
end ZK
set_option maxHeartbeats 4000000 in
set_option maxRecDepth 100000 in
theorem cX3_room_ok (l : Launch) (D : va_G) (cy : Nat → ClassId) (a0 aT aP : Nat → Nat) (N : Nat)  (w0 : zS) (rv : Int32) (τ : zS) (hf : fX3_room N  w0 = some (rv, τ)) : zMi l yX3_room cX3_room 1 (some .int) rmX3_room D cy shX 38 a0 aT aP w0 [.ref (a0 1)] rv τ (fun u => u = (aT, aP)) := by
  refine zmet_i (by decide +kernel) (Or.inl rfl) (Nat.le_of_ble_eq_true rfl) ?_
  intro p e s m below meth c A Q ls hC hA hZ hl hE
  have hx := hC.1.1
  have hb := hC.1.2.1
  have hl : lv_has ls 1 [(0, .ref (a0 1))] := hl
  unfold fX3_room at hf
  refine lv_sipush (pc := 0) (v := (2000 : Int32)) hx hb dX3_room_0 (by decide) ?_
  refine lv_aload_n (pc := 3) hx hb dX3_room_3 rfl (lv_at hl 0 rfl) ?_
  refine gfX3_24 (pc := 4) hC hZ dX3_room_4 ?_
  refine lv_isub (pc := 7) hx hb dX3_room_7 ?_
  obtain ⟨rfl, rfl⟩ := zinj hf
  exact hE _ _ _ _ _ _ rfl hZ dX3_room_8
section ZK
variable {p : Program} {l : Launch} {e : Env} {R : Room} {s : State} {m : MethodId} {args : Array Value} {below : List Frame} {meth : Method} {c : Code} {H : Heap} {locs : List Loc} {cells slots : Nat} {Q : State → Prop}
variable {pc : Nat} {ls : Array Slot} {rest : List Value} {A : Nat → Prop} {H0 : Heap} {D : va_G} {cy : Nat → ClassId} {a0 aT aP : Nat → Nat} {σ : zS} {cc : ByteArray} {nL : Nat} {α : Type} {res : α}
theorem vkX7_87 : zVk RX7 87 yX3_room cX3_room 1 (some .int) 0 := ⟨by decide +kernel, by decide +kernel, by decide +kernel, by decide +kernel, by decide +kernel, by decide +kernel⟩
theorem kX7_87 (hC : zC p s m args c RX7 cc nL D cy) (hA : ∀ q, H0.size ≤ q → A q) (hZ : zW D cy shX 38 a0 aT aP A H0 σ H locs) {N : Nat}  {k : Int32 → zS → Option α} (hf : zbi (fX3_room N  σ) k = some res) (hsz : ls.size = nL) (hW : (rest.map fun v => v.category).sum ≤ 8) (hR : rmX3_room.frames + 1 ≤ R.frames ∧ 8 + (1 + 11) + rmX3_room.locals ≤ R.locals) (hcs : cells ≤ R.cells ∧ slots ≤ R.slots) (hdg : decode cc pc = .ok (.invokevirtual 87, 3)) (kk : ∀ (v : Int32) (τ : zS) (H1 : Heap) (locs1 : List Loc), k v τ = some res → zW D cy shX 38 a0 aT aP A H0 τ H1 locs1 → W p l e R s m args below meth c H1 locs1 cells slots Q (F0 m (pc + 3) ls (.int v :: rest))) : W p l e R s m args below meth c H locs cells slots Q (F0 m pc ls (.ref (a0 1) :: rest)) := by
  cases hq : fX3_room N  σ with
  | none => rw [hq] at hf; cases hf
  | some q =>
    rw [hq] at hf
    exact zcalli hA hZ (zrun hC hZ vkX7_87 rfl (zw0 (by decide)) (cX3_room_ok l D cy a0 aT aP N  σ q.1 q.2 hq H.size) hR rfl hsz rfl hW hcs hdg) (fun u H1 locs1 hU hZ1 => by subst hU; exact kk q.1 q.2 H1 locs1 hf hZ1)
end ZK
