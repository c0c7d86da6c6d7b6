set_option maxHeartbeats 4000000 in
set_option maxRecDepth 100000 in
theorem cX2_tellingAt_ok (l : Launch) (D : va_G) (cy : Nat → ClassId) (a0 aT aP : Nat → Nat) (N : Nat) (x1 : Int32) (w0 : zS) (rv : Option Nat) (τ : zS) (hf : fX2_tellingAt N x1 w0 = some (rv, τ)) : zMq l yX2_tellingAt cX2_tellingAt 2 (some (.object "CarrierPool$Telling")) rmX2_tellingAt D cy shX 38 a0 aT aP w0 [.ref (a0 2), .int x1] (rv.map aT) τ (fun u => u = (aT, aP)) := by
  refine zmet_q (by decide +kernel) rfl (Nat.le_of_ble_eq_true rfl) ?_
  intro p e s m below meth c A Q ls hC hA hZ hl hE
  have hx := hC.1.1
  have hb := hC.1.2.1
  have hl : lv_has ls 2 [(0, .ref (a0 2)), (1, .int x1)] := hl
  unfold fX2_tellingAt at hf
  refine lv_iload_n (pc := 0) hx hb dX2_tellingAt_0 rfl (lv_at hl 1 rfl) ?_
  refine z_lt0 (pc := 1) (tgt := 21) hC hf dX2_tellingAt_1 (by decide) (fun hf => ?_) (fun hf => ?_)
  · refine lv_null (pc := 21) hx hb dX2_tellingAt_21 ?_
    refine W.eq (g2 := F0 m 22 ls [va_rf ((none : Option Nat).map aT)]) rfl ?_
    obtain ⟨rfl, rfl⟩ := zinj hf
    exact hE _ _ _ _ _ _ rfl hZ dX2_tellingAt_22
  refine lv_iload_n (pc := 4) hx hb dX2_tellingAt_4 rfl (lv_at hl 1 rfl) ?_
  refine lv_aload_n (pc := 5) hx hb dX2_tellingAt_5 rfl (lv_at hl 0 rfl) ?_
  refine gfX2_33 (pc := 6) hC hZ dX2_tellingAt_6 ?_
  refine z_ige (pc := 9) (tgt := 21) hC hf dX2_tellingAt_9 (by decide) (fun hf => ?_) (fun hf => ?_)
  · refine lv_null (pc := 21) hx hb dX2_tellingAt_21 ?_
    refine W.eq (g2 := F0 m 22 ls [va_rf ((none : Option Nat).map aT)]) rfl ?_
    obtain ⟨rfl, rfl⟩ := zinj hf
    exact hE _ _ _ _ _ _ rfl hZ dX2_tellingAt_22
  refine lv_aload_n (pc := 12) hx hb dX2_tellingAt_12 rfl (lv_at hl 0 rfl) ?_
  refine gfX2_11 (pc := 13) hC hZ dX2_tellingAt_13 ?_
  refine lv_iload_n (pc := 16) hx hb dX2_tellingAt_16 rfl (lv_at hl 1 rfl) ?_
  refine z_aaldT (pc := 17) hC hZ (by decide) rfl hf dX2_tellingAt_17 (fun v1 hf => ?_)
  refine lv_goto (pc := 18) (tgt := 22) hx hb dX2_tellingAt_18 (by decide) ?_
  obtain ⟨rfl, rfl⟩ := zinj hf
  exact hE _ _ _ _ _ _ rfl hZ dX2_tellingAt_22
section ZK
variable {p : Program} {l : Launch} {e : Env} {R : Room} {s : State} {m : MethodId} {args : Array Value} {below : List Frame} {meth : Method} {c : Code} {H : Heap} {locs : List Loc} {cells slots : Nat} {Q : State → Prop}
variable {pc : Nat} {ls : Array Slot} {rest : List Value} {A : Nat → Prop} {H0 : Heap} {D : va_G} {cy : Nat → ClassId} {a0 aT aP : Nat → Nat} {σ : zS} {cc : ByteArray} {nL : Nat} {α : Type} {res : α}
theorem vkX7_115 : zVk RX7 115 yX2_tellingAt cX2_tellingAt 2 (some (.object "CarrierPool$Telling")) 1 := ⟨by decide +kernel, by decide +kernel, by decide +kernel, by decide +kernel, by decide +kernel, by decide +kernel⟩
theorem kX7_115 (hC : zC p s m args c RX7 cc nL D cy) (hA : ∀ q, H0.size ≤ q → A q) (hZ : zW D cy shX 38 a0 aT aP A H0 σ H locs) {N : Nat} {x1 : Int32} {k : Option Nat → zS → Option α} (hf : zbi (fX2_tellingAt N x1 σ) k = some res) (hsz : ls.size = nL) (hW : (rest.map fun v => v.category).sum ≤ 8) (hR : rmX2_tellingAt.frames + 1 ≤ R.frames ∧ 8 + (2 + 11) + rmX2_tellingAt.locals ≤ R.locals) (hcs : cells ≤ R.cells ∧ slots ≤ R.slots) (hdg : decode cc pc = .ok (.invokevirtual 115, 3)) (kk : ∀ (v : Option Nat) (τ : zS) (H1 : Heap) (locs1 : List Loc), k v τ = some res → zW D cy shX 38 a0 aT aP A H0 τ H1 locs1 → W p l e R s m args below meth c H1 locs1 cells slots Q (F0 m (pc + 3) ls (va_rf (v.map aT) :: rest))) : W p l e R s m args below meth c H locs cells slots Q (F0 m pc ls (.int x1 :: .ref (a0 2) :: rest)) := by
  cases hq : fX2_tellingAt N x1 σ with
  | none => rw [hq] at hf; cases hf
  | some q =>
    rw [hq] at hf
    exact zcallq hA hZ (zrun hC hZ vkX7_115 rfl (zw0 (by decide)) (cX2_tellingAt_ok l D cy a0 aT aP N x1 σ q.1 q.2 hq H.size) hR rfl hsz rfl hW hcs hdg) (fun u H1 locs1 hU hZ1 => by subst hU; exact kk q.1 q.2 H1 locs1 hf hZ1)
end ZK
set_option maxHeartbeats 4000000 in
set_option maxRecDepth 100000 in
theorem cX7_drop_ok (l : Launch) (D : va_G) (cy : Nat → ClassId) (a0 aT aP : Nat → Nat) (N : Nat) (x1 : Int32) (w0 : zS) (rv : Int32) (τ : zS) (hf : fX7_drop N x1 w0 = some (rv, τ)) : zMi l yX7_drop cX7_drop 3 (some .int) rmX7_drop D cy shX 38 a0 aT aP w0 [.ref (a0 0), .int x1] rv τ (fun u => u = (aT, aP)) := by
  refine zmet_i (by decide +kernel) (Or.inl rfl) (Nat.le_of_ble_eq_true rfl) ?_
  intro p e s m below meth c A Q ls hC hA hZ hl hE
  have hx := hC.1.1
  have hb := hC.1.2.1
  have hl : lv_has ls 3 [(0, .ref (a0 0)), (1, .int x1)] := hl
  unfold fX7_drop at hf
  refine lv_aload_n (pc := 0) hx hb dX7_drop_0 rfl (lv_at hl 0 rfl) ?_
  refine gfX7_42 (pc := 1) hC hZ dX7_drop_1 ?_
  refine lv_iload_n (pc := 4) hx hb dX7_drop_4 rfl (lv_at hl 1 rfl) ?_
  refine kX7_115 (pc := 5) hC hA hZ hf hl.1 (Nat.le_of_ble_eq_true rfl) ⟨Nat.le_of_ble_eq_true rfl, Nat.le_of_ble_eq_true rfl⟩ ⟨Nat.le_refl _, Nat.le_refl _⟩ dX7_drop_5 (fun v2 w1 H locs hf hZ => ?_)
  refine z_astore_n (pc := 8) (i := 2) (lv' := [(2, va_rf (v2.map aT)), (0, .ref (a0 0)), (1, .int x1)]) hC dX7_drop_8 rfl hl (by decide) (zadj_cons (Or.inl (Nat.ne_of_beq_eq_false rfl)) (zadj_cons (Or.inr rfl) zadj_nil)) rfl (fun ls hl => ?_)
  refine z_aload_n (pc := 9) hC dX7_drop_9 rfl (lv_at hl 0 rfl) ?_
  refine z_ifnonnull (pc := 10) (tgt := 19) hC hf dX7_drop_10 (by decide) (fun hf => ?_) (fun hf => ?_)
  · refine lv_aload_n (pc := 13) hx hb dX7_drop_13 rfl (lv_at hl 1 rfl) ?_
    refine lv_iconst (pc := 14) (v := (-1 : Int32)) hx hb dX7_drop_14 (by decide) ?_
    refine kX7_73 (pc := 15) hC hA hZ hf hl.1 (Nat.le_of_ble_eq_true rfl) ⟨Nat.le_of_ble_eq_true rfl, Nat.le_of_ble_eq_true rfl⟩ ⟨Nat.le_refl _, Nat.le_refl _⟩ dX7_drop_15 (fun v4 w3 H locs hf hZ => ?_)
    obtain ⟨rfl, rfl⟩ := zinj hf
    exact hE _ _ _ _ _ _ rfl hZ dX7_drop_18
  refine z_aload_n (pc := 19) hC dX7_drop_19 rfl (lv_at hl 0 rfl) ?_
  refine z_gT (pc := 20) hC hZ fkX7_119 rfl hf dX7_drop_20 (fun v5 hf => ?_)
  refine z_eq0 (pc := 23) (tgt := 33) hC hf dX7_drop_23 (by decide) (fun hf => ?_) (fun hf => ?_)
  · refine z_aload_n (pc := 33) hC dX7_drop_33 rfl (lv_at hl 0 rfl) ?_
    refine lv_iconst (pc := 34) (v := (2 : Int32)) hx hb dX7_drop_34 (by decide) ?_
    refine z_pT (pc := 35) hC hZ fkX7_119 rfl hf dX7_drop_35 (fun w6 H locs hf hZ => ?_)
    refine lv_iconst (pc := 38) (v := (1 : Int32)) hx hb dX7_drop_38 (by decide) ?_
    obtain ⟨rfl, rfl⟩ := zinj hf
    exact hE _ _ _ _ _ _ rfl hZ dX7_drop_39
  refine lv_aload_n (pc := 26) hx hb dX7_drop_26 rfl (lv_at hl 1 rfl) ?_
  refine lv_bipush (pc := 27) (v := (-3 : Int32)) hx hb dX7_drop_27 (by decide) ?_
  refine kX7_73 (pc := 29) hC hA hZ hf hl.1 (Nat.le_of_ble_eq_true rfl) ⟨Nat.le_of_ble_eq_true rfl, Nat.le_of_ble_eq_true rfl⟩ ⟨Nat.le_refl _, Nat.le_refl _⟩ dX7_drop_29 (fun v8 w7 H locs hf hZ => ?_)
  obtain ⟨rfl, rfl⟩ := zinj hf
  exact hE _ _ _ _ _ _ rfl hZ dX7_drop_32
set_option maxHeartbeats 4000000 in
set_option maxRecDepth 100000 in
theorem cX7_rule_ok (l : Launch) (D : va_G) (cy : Nat → ClassId) (a0 aT aP : Nat → Nat) (N : Nat) (x1 : Int32) (w0 : zS) (rv : Int32) (τ : zS) (hf : fX7_rule N x1 w0 = some (rv, τ)) : zMi l yX7_rule cX7_rule 3 (some .int) rmX7_rule D cy shX 38 a0 aT aP w0 [.ref (a0 0), .int x1] rv τ (fun u => u = (aT, aP)) := by
  refine zmet_i (by decide +kernel) (Or.inl rfl) (Nat.le_of_ble_eq_true rfl) ?_
  intro p e s m below meth c A Q ls hC hA hZ hl hE
  have hx := hC.1.1
  have hb := hC.1.2.1
  have hl : lv_has ls 3 [(0, .ref (a0 0)), (1, .int x1)] := hl
  unfold fX7_rule at hf
  refine lv_iload_n (pc := 0) hx hb dX7_rule_0 rfl (lv_at hl 1 rfl) ?_
  refine z_lt0 (pc := 1) (tgt := 9) hC hf dX7_rule_1 (by decide) (fun hf => ?_) (fun hf => ?_)
  · refine lv_aload_n (pc := 9) hx hb dX7_rule_9 rfl (lv_at hl 0 rfl) ?_
    refine lv_bipush (pc := 10) (v := (-2 : Int32)) hx hb dX7_rule_10 (by decide) ?_
    refine kX7_73 (pc := 12) hC hA hZ hf hl.1 (Nat.le_of_ble_eq_true rfl) ⟨Nat.le_of_ble_eq_true rfl, Nat.le_of_ble_eq_true rfl⟩ ⟨Nat.le_refl _, Nat.le_refl _⟩ dX7_rule_12 (fun v2 w1 H locs hf hZ => ?_)
    obtain ⟨rfl, rfl⟩ := zinj hf
    exact hE _ _ _ _ _ _ rfl hZ dX7_rule_15
  refine lv_iload_n (pc := 4) hx hb dX7_rule_4 rfl (lv_at hl 1 rfl) ?_
  refine lv_iconst (pc := 5) (v := (3 : Int32)) hx hb dX7_rule_5 (by decide) ?_
  refine z_ile (pc := 6) (tgt := 16) hC hf dX7_rule_6 (by decide) (fun hf => ?_) (fun hf => ?_)
  · refine lv_aload_n (pc := 16) hx hb dX7_rule_16 rfl (lv_at hl 0 rfl) ?_
    refine gfX7_70 (pc := 17) hC hZ dX7_rule_17 ?_
    refine lv_istore_n (pc := 20) (lv' := [(2, .int (w0.1 0 0 3)), (0, .ref (a0 0)), (1, .int x1)]) hx hb dX7_rule_20 rfl hl (by decide) rfl (fun ls hl => ?_)
    refine lv_aload_n (pc := 21) hx hb dX7_rule_21 rfl (lv_at hl 1 rfl) ?_
    refine lv_iload_n (pc := 22) hx hb dX7_rule_22 rfl (lv_at hl 2 rfl) ?_
    refine pfX7_70 (pc := 23) hC hZ hf dX7_rule_23 (fun w3 H locs hf hZ => ?_)
    refine lv_iload_n (pc := 26) hx hb dX7_rule_26 rfl (lv_at hl 0 rfl) ?_
    obtain ⟨rfl, rfl⟩ := zinj hf
    exact hE _ _ _ _ _ _ rfl hZ dX7_rule_27
  refine lv_aload_n (pc := 9) hx hb dX7_rule_9 rfl (lv_at hl 0 rfl) ?_
  refine lv_bipush (pc := 10) (v := (-2 : Int32)) hx hb dX7_rule_10 (by decide) ?_
  refine kX7_73 (pc := 12) hC hA hZ hf hl.1 (Nat.le_of_ble_eq_true rfl) ⟨Nat.le_of_ble_eq_true rfl, Nat.le_of_ble_eq_true rfl⟩ ⟨Nat.le_refl _, Nat.le_refl _⟩ dX7_rule_12 (fun v5 w4 H locs hf hZ => ?_)
  obtain ⟨rfl, rfl⟩ := zinj hf
  exact hE _ _ _ _ _ _ rfl hZ dX7_rule_15
set_option maxHeartbeats 4000000 in
set_option maxRecDepth 100000 in
theorem cX2_pairAt_ok (l : Launch) (D : va_G) (cy : Nat → ClassId) (a0 aT aP : Nat → Nat) (N : Nat) (x1 : Int32) (w0 : zS) (rv : Option Nat) (τ : zS) (hf : fX2_pairAt N x1 w0 = some (rv, τ)) : zMq l yX2_pairAt cX2_pairAt 2 (some (.object "CarrierPool$Pair")) rmX2_pairAt D cy shX 38 a0 aT aP w0 [.ref (a0 2), .int x1] (rv.map aP) τ (fun u => u = (aT, aP)) := by
  refine zmet_q (by decide +kernel) rfl (Nat.le_of_ble_eq_true rfl) ?_
  intro p e s m below meth c A Q ls hC hA hZ hl hE
  have hx := hC.1.1
  have hb := hC.1.2.1
  have hl : lv_has ls 2 [(0, .ref (a0 2)), (1, .int x1)] := hl
  unfold fX2_pairAt at hf
  refine lv_iload_n (pc := 0) hx hb dX2_pairAt_0 rfl (lv_at hl 1 rfl) ?_
  refine z_lt0 (pc := 1) (tgt := 21) hC hf dX2_pairAt_1 (by decide) (fun hf => ?_) (fun hf => ?_)
  · refine lv_null (pc := 21) hx hb dX2_pairAt_21 ?_
    refine W.eq (g2 := F0 m 22 ls [va_rf ((none : Option Nat).map aT)]) rfl ?_
    obtain ⟨rfl, rfl⟩ := zinj hf
    exact hE _ _ _ _ _ _ rfl hZ dX2_pairAt_22
  refine lv_iload_n (pc := 4) hx hb dX2_pairAt_4 rfl (lv_at hl 1 rfl) ?_
  refine lv_aload_n (pc := 5) hx hb dX2_pairAt_5 rfl (lv_at hl 0 rfl) ?_
  refine gfX2_37 (pc := 6) hC hZ dX2_pairAt_6 ?_
  refine z_ige (pc := 9) (tgt := 21) hC hf dX2_pairAt_9 (by decide) (fun hf => ?_) (fun hf => ?_)
  · refine lv_null (pc := 21) hx hb dX2_pairAt_21 ?_
    refine W.eq (g2 := F0 m 22 ls [va_rf ((none : Option Nat).map aT)]) rfl ?_
    obtain ⟨rfl, rfl⟩ := zinj hf
    exact hE _ _ _ _ _ _ rfl hZ dX2_pairAt_22
  refine lv_aload_n (pc := 12) hx hb dX2_pairAt_12 rfl (lv_at hl 0 rfl) ?_
  refine gfX2_19 (pc := 13) hC hZ dX2_pairAt_13 ?_
  refine lv_iload_n (pc := 16) hx hb dX2_pairAt_16 rfl (lv_at hl 1 rfl) ?_
  refine z_aaldP (pc := 17) hC hZ (by decide) rfl hf dX2_pairAt_17 (fun v1 hf => ?_)
  refine lv_goto (pc := 18) (tgt := 22) hx hb dX2_pairAt_18 (by decide) ?_
  obtain ⟨rfl, rfl⟩ := zinj hf
  exact hE _ _ _ _ _ _ rfl hZ dX2_pairAt_22
section ZK
variable {p : Program} {l : Launch} {e : Env} {R : Room} {s : State} {m : MethodId} {args : Array Value} {below : List Frame} {meth : Method} {c : Code} {H : Heap} {locs : List Loc} {cells slots : Nat} {Q : State → Prop}
variable {pc : Nat} {ls : Array Slot} {rest : List Value} {A : Nat → Prop} {H0 : Heap} {D : va_G} {cy : Nat → ClassId} {a0 aT aP : Nat → Nat} {σ : zS} {cc : ByteArray} {nL : Nat} {α : Type} {res : α}
theorem vkX7_131 : zVk RX7 131 yX2_pairAt cX2_pairAt 2 (some (.object "CarrierPool$Pair")) 1 := ⟨by decide +kernel, by decide +kernel, by decide +kernel, by decide +kernel, by decide +kernel, by decide +kernel⟩
theorem kX7_131 (hC : zC p s m args c RX7 cc nL D cy) (hA : ∀ q, H0.size ≤ q → A q) (hZ : zW D cy shX 38 a0 aT aP A H0 σ H locs) {N : Nat} {x1 : Int32} {k : Option Nat → zS → Option α} (hf : zbi (fX2_pairAt N x1 σ) k = some res) (hsz : ls.size = nL) (hW : (rest.map fun v => v.category).sum ≤ 8) (hR : rmX2_pairAt.frames + 1 ≤ R.frames ∧ 8 + (2 + 11) + rmX2_pairAt.locals ≤ R.locals) (hcs : cells ≤ R.cells ∧ slots ≤ R.slots) (hdg : decode cc pc = .ok (.invokevirtual 131, 3)) (kk : ∀ (v : Option Nat) (τ : zS) (H1 : Heap) (locs1 : List Loc), k v τ = some res → zW D cy shX 38 a0 aT aP A H0 τ H1 locs1 → W p l e R s m args below meth c H1 locs1 cells slots Q (F0 m (pc + 3) ls (va_rf (v.map aP) :: rest))) : W p l e R s m args below meth c H locs cells slots Q (F0 m pc ls (.int x1 :: .ref (a0 2) :: rest)) := by
  cases hq : fX2_pairAt N x1 σ with
  | none => rw [hq] at hf; cases hf
  | some q =>
    rw [hq] at hf
    exact zcallq hA hZ (zrun hC hZ vkX7_131 rfl (zw0 (by decide)) (cX2_pairAt_ok l D cy a0 aT aP N x1 σ q.1 q.2 hq H.size) hR rfl hsz rfl hW hcs hdg) (fun u H1 locs1 hU hZ1 => by subst hU; exact kk q.1 q.2 H1 locs1 hf hZ1)
end ZK
set_option maxHeartbeats 4000000 in
set_option maxRecDepth 100000 in
theorem cX5_isQuarrel_ok (l : Launch) (D : va_G) (cy : Nat → ClassId) (a0 aT aP : Nat → Nat) (N : Nat) (x0 : Option Nat) (w0 : zS) (rv : Int32) (τ : zS) (hf : fX5_isQuarrel N x0 w0 = some (rv, τ)) : zMi l yX5_isQuarrel cX5_isQuarrel 1 (some .boolean) rmX5_isQuarrel D cy shX 38 a0 aT aP w0 [va_rf (x0.map aP)] rv τ (fun u => u = (aT, aP)) := by
  refine zmet_z (by decide +kernel) rfl (by simp [lg_sl, zcat, zcI, zcR, zcL]) ?_
  intro p e s m below meth c A Q ls hC hA hZ hl hE
  have hx := hC.1.1
  have hb := hC.1.2.1
  have hl : lv_has ls 1 [(0, va_rf (x0.map aP))] := by simpa [lv_args, zcat, zcI, zcR, zcL] using hl
  unfold fX5_isQuarrel at hf
  refine z_aload_n (pc := 0) hC dX5_isQuarrel_0 rfl (lv_at hl 0 rfl) ?_
  refine z_gPR (pc := 1) hC hZ fkX5_7 rfl hf dX5_isQuarrel_1 (fun v1 hf => ?_)
  refine z_gT (pc := 4) hC hZ fkX5_20 rfl hf dX5_isQuarrel_4 (fun v2 hf => ?_)
  refine z_aload_n (pc := 7) hC dX5_isQuarrel_7 rfl (lv_at hl 0 rfl) ?_
  refine z_gPR (pc := 8) hC hZ fkX5_13 rfl hf dX5_isQuarrel_8 (fun v3 hf => ?_)
  refine z_gT (pc := 11) hC hZ fkX5_20 rfl hf dX5_isQuarrel_11 (fun v4 hf => ?_)
  refine z_ieq (pc := 14) (tgt := 21) hC hf dX5_isQuarrel_14 (by decide) (fun hf => ?_) (fun hf => ?_)
  · refine lv_iconst (pc := 21) (v := (0 : Int32)) hx hb dX5_isQuarrel_21 (by decide) ?_
    obtain ⟨rfl, rfl⟩ := zinj hf
    exact hE (by decide) _ _ _ _ _ _ rfl hZ dX5_isQuarrel_22
  refine lv_iconst (pc := 17) (v := (1 : Int32)) hx hb dX5_isQuarrel_17 (by decide) ?_
  refine lv_goto (pc := 18) (tgt := 22) hx hb dX5_isQuarrel_18 (by decide) ?_
  obtain ⟨rfl, rfl⟩ := zinj hf
  exact hE (by decide) _ _ _ _ _ _ rfl hZ dX5_isQuarrel_22
section ZK
variable {p : Program} {l : Launch} {e : Env} {R : Room} {s : State} {m : MethodId} {args : Array Value} {below : List Frame} {meth : Method} {c : Code} {H : Heap} {locs : List Loc} {cells slots : Nat} {Q : State → Prop}
variable {pc : Nat} {ls : Array Slot} {rest : List Value} {A : Nat → Prop} {H0 : Heap} {D : va_G} {cy : Nat → ClassId} {a0 aT aP : Nat → Nat} {σ : zS} {cc : ByteArray} {nL : Nat} {α : Type} {res : α}
theorem vkX7_144 : zVk RX7 144 yX5_isQuarrel cX5_isQuarrel 1 (some .boolean) 0 := ⟨by decide +kernel, by decide +kernel, by decide +kernel, by decide +kernel, by decide +kernel, by decide +kernel⟩
theorem kX7_144 (hC : zC p s m args c RX7 cc nL D cy) (hA : ∀ q, H0.size ≤ q → A q) (hZ : zW D cy shX 38 a0 aT aP A H0 σ H locs) {N : Nat} {x0 : Option Nat} {k : Int32 → zS → Option α} (hf : zrP σ x0 (zbi (fX5_isQuarrel N x0 σ) k) = some res) (hsz : ls.size = nL) (hW : (rest.map fun v => v.category).sum ≤ 8) (hR : rmX5_isQuarrel.frames + 1 ≤ R.frames ∧ 8 + (1 + 11) + rmX5_isQuarrel.locals ≤ R.locals) (hcs : cells ≤ R.cells ∧ slots ≤ R.slots) (hdg : decode cc pc = .ok (.invokevirtual 144, 3)) (kk : ∀ (v : Int32) (τ : zS) (H1 : Heap) (locs1 : List Loc), k v τ = some res → zW D cy shX 38 a0 aT aP A H0 τ H1 locs1 → W p l e R s m args below meth c H1 locs1 cells slots Q (F0 m (pc + 3) ls (.int v :: rest))) : W p l e R s m args below meth c H locs cells slots Q (F0 m pc ls (va_rf (x0.map aP) :: rest)) := by
  cases x0 with
  | none => cases hf
  | some t =>
    simp only [zrP] at hf
    by_cases ht : t < σ.2.2.2.2
    · rw [if_pos ht] at hf
      cases hq : fX5_isQuarrel N (some t) σ with
      | none => rw [hq] at hf; cases hf
      | some q =>
        rw [hq] at hf
        exact zcalli hA hZ (zrun hC hZ vkX7_144 rfl (zw2 ht) (cX5_isQuarrel_ok l D cy a0 aT aP N (some t) σ q.1 q.2 hq H.size) hR rfl hsz rfl hW hcs hdg) (fun u H1 locs1 hU hZ1 => by subst hU; exact kk q.1 q.2 H1 locs1 hf hZ1)
    · rw [if_neg ht] at hf; cases hf
theorem vkX2_43 : zVk RX2 43 yX5_isQuarrel cX5_isQuarrel 1 (some .boolean) 0 := ⟨by decide +kernel, by decide +kernel, by decide +kernel, by decide +kernel, by decide +kernel, by decide +kernel⟩
theorem kX2_43 (hC : zC p s m args c RX2 cc nL D cy) (hA : ∀ q, H0.size ≤ q → A q) (hZ : zW D cy shX 38 a0 aT aP A H0 σ H locs) {N : Nat} {x0 : Option Nat} {k : Int32 → zS → Option α} (hf : zrP σ x0 (zbi (fX5_isQuarrel N x0 σ) k) = some res) (hsz : ls.size = nL) (hW : (rest.map fun v => v.category).sum ≤ 8) (hR : rmX5_isQuarrel.frames + 1 ≤ R.frames ∧ 8 + (1 + 11) + rmX5_isQuarrel.locals ≤ R.locals) (hcs : cells ≤ R.cells ∧ slots ≤ R.slots) (hdg : decode cc pc = .ok (.invokevirtual 43, 3)) (kk : ∀ (v : Int32) (τ : zS) (H1 : Heap) (locs1 : List Loc), k v τ = some res → zW D cy shX 38 a0 aT aP A H0 τ H1 locs1 → W p l e R s m args below meth c H1 locs1 cells slots Q (F0 m (pc + 3) ls (.int v :: rest))) : W p l e R s m args below meth c H locs cells slots Q (F0 m pc ls (va_rf (x0.map aP) :: rest)) := by
  cases x0 with
  | none => cases hf
  | some t =>
    simp only [zrP] at hf
    by_cases ht : t < σ.2.2.2.2
    · rw [if_pos ht] at hf
      cases hq : fX5_isQuarrel N (some t) σ with
      | none => rw [hq] at hf; cases hf
      | some q =>
        rw [hq] at hf
        exact zcalli hA hZ (zrun hC hZ vkX2_43 rfl (zw2 ht) (cX5_isQuarrel_ok l D cy a0 aT aP N (some t) σ q.1 q.2 hq H.size) hR rfl hsz rfl hW hcs hdg) (fun u H1 locs1 hU hZ1 => by subst hU; exact kk q.1 q.2 H1 locs1 hf hZ1)
    · rw [if_neg ht] at hf; cases hf
end ZK
set_option maxHeartbeats 4000000 in
set_option maxRecDepth 100000 in
theorem cX7_enterMove_ok (l : Launch) (D : va_G) (cy : Nat → ClassId) (a0 aT aP : Nat → Nat) (N : Nat) (x1 : Option Nat) (x2 : Int32) (w0 : zS) (τ : zS) (hf : fX7_enterMove N x1 x2 w0 = some τ) : zMv l yX7_enterMove cX7_enterMove 4 none rmX7_enterMove D cy shX 38 a0 aT aP w0 [.ref (a0 0), va_rf (x1.map aP), .int x2] τ (fun u => u = (aT, aP)) := by
  refine zmet_v (by decide +kernel) rfl (by simp [lg_sl, zcat, zcI, zcR, zcL]) ?_
  intro p e s m below meth c A Q ls hC hA hZ hl hE
  have hx := hC.1.1
  have hb := hC.1.2.1
  have hl : lv_has ls 4 [(0, .ref (a0 0)), (1, va_rf (x1.map aP)), (2, .int x2)] := by simpa [lv_args, zcat, zcI, zcR, zcL] using hl
  unfold fX7_enterMove at hf
  refine z_aload_n (pc := 0) hC dX7_enterMove_0 rfl (lv_at hl 1 rfl) ?_
  refine z_gPR (pc := 1) hC hZ fkX7_201 rfl hf dX7_enterMove_1 (fun v1 hf => ?_)
  refine z_astore_n (pc := 4) (i := 3) (lv' := [(3, va_rf (v1.map aT)), (0, .ref (a0 0)), (1, va_rf (x1.map aP)), (2, .int x2)]) hC dX7_enterMove_4 rfl hl (by decide) (zadj_cons (Or.inl (Nat.ne_of_beq_eq_false rfl)) (zadj_cons (Or.inl (Nat.ne_of_beq_eq_false rfl)) (zadj_cons (Or.inr rfl) zadj_nil))) rfl (fun ls hl => ?_)
  refine lv_aload_n (pc := 5) hx hb dX7_enterMove_5 rfl (lv_at hl 1 rfl) ?_
  refine gfX7_35 (pc := 6) hC hZ dX7_enterMove_6 ?_
  refine z_aload_n (pc := 9) hC dX7_enterMove_9 rfl (lv_at hl 0 rfl) ?_
  refine z_gT (pc := 10) hC hZ fkX7_177 rfl hf dX7_enterMove_10 (fun v2 hf => ?_)
  refine z_aload_n (pc := 13) hC dX7_enterMove_13 rfl (lv_at hl 0 rfl) ?_
  refine z_gT (pc := 14) hC hZ fkX7_183 rfl hf dX7_enterMove_14 (fun v3 hf => ?_)
  refine z_aload_n (pc := 17) hC dX7_enterMove_17 rfl (lv_at hl 0 rfl) ?_
  refine z_gT (pc := 18) hC hZ fkX7_189 rfl hf dX7_enterMove_18 (fun v4 hf => ?_)
  refine lv_iload_n (pc := 21) hx hb dX7_enterMove_21 rfl (lv_at hl 3 rfl) ?_
  refine lv_ineg (pc := 22) hx hb dX7_enterMove_22 ?_
  refine kX7_91 (pc := 23) hC hA hZ hf hl.1 (Nat.le_of_ble_eq_true rfl) ⟨Nat.le_of_ble_eq_true rfl, Nat.le_of_ble_eq_true rfl⟩ ⟨Nat.le_refl _, Nat.le_refl _⟩ dX7_enterMove_23 (fun w5 H locs hf hZ => ?_)
  refine lv_aload_n (pc := 26) hx hb dX7_enterMove_26 rfl (lv_at hl 1 rfl) ?_
  refine gfX7_35 (pc := 27) hC hZ dX7_enterMove_27 ?_
  refine z_aload_n (pc := 30) hC dX7_enterMove_30 rfl (lv_at hl 0 rfl) ?_
  refine z_gT (pc := 31) hC hZ fkX7_180 rfl hf dX7_enterMove_31 (fun v6 hf => ?_)
  refine z_aload_n (pc := 34) hC dX7_enterMove_34 rfl (lv_at hl 0 rfl) ?_
  refine z_gT (pc := 35) hC hZ fkX7_183 rfl hf dX7_enterMove_35 (fun v7 hf => ?_)
  refine z_aload_n (pc := 38) hC dX7_enterMove_38 rfl (lv_at hl 0 rfl) ?_
  refine z_gT (pc := 39) hC hZ fkX7_189 rfl hf dX7_enterMove_39 (fun v8 hf => ?_)
  refine lv_iload_n (pc := 42) hx hb dX7_enterMove_42 rfl (lv_at hl 3 rfl) ?_
  refine kX7_91 (pc := 43) hC hA hZ hf hl.1 (Nat.le_of_ble_eq_true rfl) ⟨Nat.le_of_ble_eq_true rfl, Nat.le_of_ble_eq_true rfl⟩ ⟨Nat.le_refl _, Nat.le_refl _⟩ dX7_enterMove_43 (fun w9 H locs hf hZ => ?_)
  obtain rfl := Option.some.inj hf
  exact hE _ _ _ _ _ _ rfl hZ dX7_enterMove_46
section ZK
variable {p : Program} {l : Launch} {e : Env} {R : Room} {s : State} {m : MethodId} {args : Array Value} {below : List Frame} {meth : Method} {c : Code} {H : Heap} {locs : List Loc} {cells slots : Nat} {Q : State → Prop}
variable {pc : Nat} {ls : Array Slot} {rest : List Value} {A : Nat → Prop} {H0 : Heap} {D : va_G} {cy : Nat → ClassId} {a0 aT aP : Nat → Nat} {σ : zS} {cc : ByteArray} {nL : Nat} {α : Type} {res : α}
theorem vkX7_140 : zVk RX7 140 yX7_enterMove cX7_enterMove 4 none 2 := ⟨by decide +kernel, by decide +kernel, by decide +kernel, by decide +kernel, by decide +kernel, by decide +kernel⟩
theorem kX7_140 (hC : zC p s m args c RX7 cc nL D cy) (hA : ∀ q, H0.size ≤ q → A q) (hZ : zW D cy shX 38 a0 aT aP A H0 σ H locs) {N : Nat} {x1 : Option Nat} {x2 : Int32} {k : zS → Option α} (hf : zbv (fX7_enterMove N x1 x2 σ) k = some res) (hsz : ls.size = nL) (hW : (rest.map fun v => v.category).sum ≤ 8) (hR : rmX7_enterMove.frames + 1 ≤ R.frames ∧ 8 + (4 + 11) + rmX7_enterMove.locals ≤ R.locals) (hcs : cells ≤ R.cells ∧ slots ≤ R.slots) (hdg : decode cc pc = .ok (.invokevirtual 140, 3)) (kk : ∀ (τ : zS) (H1 : Heap) (locs1 : List Loc), k τ = some res → zW D cy shX 38 a0 aT aP A H0 τ H1 locs1 → W p l e R s m args below meth c H1 locs1 cells slots Q (F0 m (pc + 3) ls (rest))) : W p l e R s m args below meth c H locs cells slots Q (F0 m pc ls (.int x2 :: va_rf (x1.map aP) :: .ref (a0 0) :: rest)) := by
  cases hq : fX7_enterMove N x1 x2 σ with
  | none => rw [hq] at hf; cases hf
  | some q =>
    rw [hq] at hf
    exact zcallv hA hZ (zrun hC hZ vkX7_140 rfl (zw0 (by decide)) (cX7_enterMove_ok l D cy a0 aT aP N x1 x2 σ q hq H.size) hR rfl hsz rfl hW hcs hdg) (fun u H1 locs1 hU hZ1 => by subst hU; exact kk q H1 locs1 hf hZ1)
end ZK
set_option maxHeartbeats 4000000 in
set_option maxRecDepth 100000 in
theorem cX7_judge_ok (l : Launch) (D : va_G) (cy : Nat → ClassId) (a0 aT aP : Nat → Nat) (N : Nat) (x1 : Int32) (x2 : Int32) (w0 : zS) (rv : Int32) (τ : zS) (hf : fX7_judge N x1 x2 w0 = some (rv, τ)) : zMi l yX7_judge cX7_judge 5 (some .int) rmX7_judge D cy shX 38 a0 aT aP w0 [.ref (a0 0), .int x1, .int x2] rv τ (fun u => u = (aT, aP)) := by
  refine zmet_i (by decide +kernel) (Or.inl rfl) (Nat.le_of_ble_eq_true rfl) ?_
  intro p e s m below meth c A Q ls hC hA hZ hl hE
  have hx := hC.1.1
  have hb := hC.1.2.1
  have hl : lv_has ls 5 [(0, .ref (a0 0)), (1, .int x1), (2, .int x2)] := hl
  unfold fX7_judge at hf
  refine lv_aload_n (pc := 0) hx hb dX7_judge_0 rfl (lv_at hl 0 rfl) ?_
  refine gfX7_42 (pc := 1) hC hZ dX7_judge_1 ?_
  refine lv_iload_n (pc := 4) hx hb dX7_judge_4 rfl (lv_at hl 1 rfl) ?_
  refine kX7_131 (pc := 5) hC hA hZ hf hl.1 (Nat.le_of_ble_eq_true rfl) ⟨Nat.le_of_ble_eq_true rfl, Nat.le_of_ble_eq_true rfl⟩ ⟨Nat.le_refl _, Nat.le_refl _⟩ dX7_judge_5 (fun v2 w1 H locs hf hZ => ?_)
  refine z_astore_n (pc := 8) (i := 3) (lv' := [(3, va_rf (v2.map aP)), (0, .ref (a0 0)), (1, .int x1), (2, .int x2)]) hC dX7_judge_8 rfl hl (by decide) (zadj_cons (Or.inl (Nat.ne_of_beq_eq_false rfl)) (zadj_cons (Or.inl (Nat.ne_of_beq_eq_false rfl)) (zadj_cons (Or.inr rfl) zadj_nil))) rfl (fun ls hl => ?_)
  refine z_aload_n (pc := 9) hC dX7_judge_9 rfl (lv_at hl 0 rfl) ?_
  refine z_ifnonnull (pc := 10) (tgt := 19) hC hf dX7_judge_10 (by decide) (fun hf => ?_) (fun hf => ?_)
  · refine lv_aload_n (pc := 13) hx hb dX7_judge_13 rfl (lv_at hl 1 rfl) ?_
    refine lv_iconst (pc := 14) (v := (-1 : Int32)) hx hb dX7_judge_14 (by decide) ?_
    refine kX7_73 (pc := 15) hC hA hZ hf hl.1 (Nat.le_of_ble_eq_true rfl) ⟨Nat.le_of_ble_eq_true rfl, Nat.le_of_ble_eq_true rfl⟩ ⟨Nat.le_refl _, Nat.le_refl _⟩ dX7_judge_15 (fun v4 w3 H locs hf hZ => ?_)
    obtain ⟨rfl, rfl⟩ := zinj hf
    exact hE _ _ _ _ _ _ rfl hZ dX7_judge_18
  refine z_aload_n (pc := 19) hC dX7_judge_19 rfl (lv_at hl 0 rfl) ?_
  refine kX7_144 (pc := 20) hC hA hZ hf hl.1 (Nat.le_of_ble_eq_true rfl) ⟨Nat.le_of_ble_eq_true rfl, Nat.le_of_ble_eq_true rfl⟩ ⟨Nat.le_refl _, Nat.le_refl _⟩ dX7_judge_20 (fun v6 w5 H locs hf hZ => ?_)
  refine z_ne0 (pc := 23) (tgt := 33) hC hf dX7_judge_23 (by decide) (fun hf => ?_) (fun hf => ?_)
  · refine lv_aload_n (pc := 26) hx hb dX7_judge_26 rfl (lv_at hl 1 rfl) ?_
    refine lv_bipush (pc := 27) (v := (-3 : Int32)) hx hb dX7_judge_27 (by decide) ?_
    refine kX7_73 (pc := 29) hC hA hZ hf hl.1 (Nat.le_of_ble_eq_true rfl) ⟨Nat.le_of_ble_eq_true rfl, Nat.le_of_ble_eq_true rfl⟩ ⟨Nat.le_refl _, Nat.le_refl _⟩ dX7_judge_29 (fun v8 w7 H locs hf hZ => ?_)
    obtain ⟨rfl, rfl⟩ := zinj hf
    exact hE _ _ _ _ _ _ rfl hZ dX7_judge_32
  refine lv_iload_n (pc := 33) hx hb dX7_judge_33 rfl (lv_at hl 3 rfl) ?_
  refine z_ge0 (pc := 34) (tgt := 44) hC hf dX7_judge_34 (by decide) (fun hf => ?_) (fun hf => ?_)
  · refine lv_iload_n (pc := 44) hx hb dX7_judge_44 rfl (lv_at hl 3 rfl) ?_
    refine lv_sipush (pc := 45) (v := (1000 : Int32)) hx hb dX7_judge_45 (by decide) ?_
    refine z_igt (pc := 48) (tgt := 62) hC hf dX7_judge_48 (by decide) (fun hf => ?_) (fun hf => ?_)
    · refine lv_aload_n (pc := 62) hx hb dX7_judge_62 rfl (lv_at hl 1 rfl) ?_
      refine lv_bipush (pc := 63) (v := (-6 : Int32)) hx hb dX7_judge_63 (by decide) ?_
      refine kX7_73 (pc := 65) hC hA hZ hf hl.1 (Nat.le_of_ble_eq_true rfl) ⟨Nat.le_of_ble_eq_true rfl, Nat.le_of_ble_eq_true rfl⟩ ⟨Nat.le_refl _, Nat.le_refl _⟩ dX7_judge_65 (fun v10 w9 H locs hf hZ => ?_)
      obtain ⟨rfl, rfl⟩ := zinj hf
      exact hE _ _ _ _ _ _ rfl hZ dX7_judge_68
    refine lv_aload_n (pc := 51) hx hb dX7_judge_51 rfl (lv_at hl 1 rfl) ?_
    refine gfX7_35 (pc := 52) hC hZ dX7_judge_52 ?_
    refine kX7_87 (pc := 55) hC hA hZ hf hl.1 (Nat.le_of_ble_eq_true rfl) ⟨Nat.le_of_ble_eq_true rfl, Nat.le_of_ble_eq_true rfl⟩ ⟨Nat.le_refl _, Nat.le_refl _⟩ dX7_judge_55 (fun v12 w11 H locs hf hZ => ?_)
    refine lv_iconst (pc := 58) (v := (2 : Int32)) hx hb dX7_judge_58 (by decide) ?_
    refine z_ige (pc := 59) (tgt := 69) hC hf dX7_judge_59 (by decide) (fun hf => ?_) (fun hf => ?_)
    · refine z_aload_n (pc := 69) hC dX7_judge_69 rfl (lv_at hl 0 rfl) ?_
      refine z_gP (pc := 70) hC hZ fkX7_135 rfl hf dX7_judge_70 (fun v13 hf => ?_)
      refine z_istore (pc := 73) (i := 4) (lv' := [(4, .int v13), (3, va_rf (v2.map aP)), (0, .ref (a0 0)), (1, .int x1), (2, .int x2)]) hC dX7_judge_73 hl (by decide) (zadj_cons (Or.inr (zcat _)) (zadj_cons (Or.inl (Nat.ne_of_beq_eq_false rfl)) (zadj_cons (Or.inl (Nat.ne_of_beq_eq_false rfl)) (zadj_cons (Or.inl (Nat.ne_of_beq_eq_false rfl)) zadj_nil)))) rfl (fun ls hl => ?_)
      refine lv_iload_n (pc := 75) hx hb dX7_judge_75 rfl (lv_at hl 4 rfl) ?_
      refine lv_iload (pc := 76) hx hb dX7_judge_76 (lv_at hl 0 rfl) ?_
      refine z_ieq (pc := 78) (tgt := 90) hC hf dX7_judge_78 (by decide) (fun hf => ?_) (fun hf => ?_)
      · refine z_aload_n (pc := 90) hC dX7_judge_90 rfl (lv_at hl 1 rfl) ?_
        refine lv_iload_n (pc := 91) hx hb dX7_judge_91 rfl (lv_at hl 4 rfl) ?_
        refine z_pP (pc := 92) hC hZ fkX7_135 rfl hf dX7_judge_92 (fun w14 H locs hf hZ => ?_)
        refine z_aload_n (pc := 95) hC dX7_judge_95 rfl (lv_at hl 1 rfl) ?_
        refine lv_iconst (pc := 96) (v := (1 : Int32)) hx hb dX7_judge_96 (by decide) ?_
        refine z_pPZ (pc := 97) hC hZ fkX7_148 rfl hf dX7_judge_97 (fun w15 H locs hf hZ => ?_)
        refine lv_iload (pc := 100) hx hb dX7_judge_100 (lv_at hl 0 rfl) ?_
        obtain ⟨rfl, rfl⟩ := zinj hf
        exact hE _ _ _ _ _ _ rfl hZ dX7_judge_102
      refine lv_aload_n (pc := 81) hx hb dX7_judge_81 rfl (lv_at hl 2 rfl) ?_
      refine z_aload_n (pc := 82) hC dX7_judge_82 rfl (lv_at hl 1 rfl) ?_
      refine lv_iload_n (pc := 83) hx hb dX7_judge_83 rfl (lv_at hl 4 rfl) ?_
      refine lv_iload (pc := 84) hx hb dX7_judge_84 (lv_at hl 0 rfl) ?_
      refine lv_isub (pc := 86) hx hb dX7_judge_86 ?_
      refine kX7_140 (pc := 87) hC hA hZ hf hl.1 (Nat.le_of_ble_eq_true rfl) ⟨Nat.le_of_ble_eq_true rfl, Nat.le_of_ble_eq_true rfl⟩ ⟨Nat.le_refl _, Nat.le_refl _⟩ dX7_judge_87 (fun w16 H locs hf hZ => ?_)
      refine z_aload_n (pc := 90) hC dX7_judge_90 rfl (lv_at hl 1 rfl) ?_
      refine lv_iload_n (pc := 91) hx hb dX7_judge_91 rfl (lv_at hl 4 rfl) ?_
      refine z_pP (pc := 92) hC hZ fkX7_135 rfl hf dX7_judge_92 (fun w17 H locs hf hZ => ?_)
      refine z_aload_n (pc := 95) hC dX7_judge_95 rfl (lv_at hl 1 rfl) ?_
      refine lv_iconst (pc := 96) (v := (1 : Int32)) hx hb dX7_judge_96 (by decide) ?_
      refine z_pPZ (pc := 97) hC hZ fkX7_148 rfl hf dX7_judge_97 (fun w18 H locs hf hZ => ?_)
      refine lv_iload (pc := 100) hx hb dX7_judge_100 (lv_at hl 0 rfl) ?_
      obtain ⟨rfl, rfl⟩ := zinj hf
      exact hE _ _ _ _ _ _ rfl hZ dX7_judge_102
    refine lv_aload_n (pc := 62) hx hb dX7_judge_62 rfl (lv_at hl 1 rfl) ?_
    refine lv_bipush (pc := 63) (v := (-6 : Int32)) hx hb dX7_judge_63 (by decide) ?_
    refine kX7_73 (pc := 65) hC hA hZ hf hl.1 (Nat.le_of_ble_eq_true rfl) ⟨Nat.le_of_ble_eq_true rfl, Nat.le_of_ble_eq_true rfl⟩ ⟨Nat.le_refl _, Nat.le_refl _⟩ dX7_judge_65 (fun v20 w19 H locs hf hZ => ?_)
    obtain ⟨rfl, rfl⟩ := zinj hf
    exact hE _ _ _ _ _ _ rfl hZ dX7_judge_68
  refine lv_aload_n (pc := 37) hx hb dX7_judge_37 rfl (lv_at hl 1 rfl) ?_
  refine lv_bipush (pc := 38) (v := (-4 : Int32)) hx hb dX7_judge_38 (by decide) ?_
  refine kX7_73 (pc := 40) hC hA hZ hf hl.1 (Nat.le_of_ble_eq_true rfl) ⟨Nat.le_of_ble_eq_true rfl, Nat.le_of_ble_eq_true rfl⟩ ⟨Nat.le_refl _, Nat.le_refl _⟩ dX7_judge_40 (fun v22 w21 H locs hf hZ => ?_)
  obtain ⟨rfl, rfl⟩ := zinj hf
  exact hE _ _ _ _ _ _ rfl hZ dX7_judge_43
