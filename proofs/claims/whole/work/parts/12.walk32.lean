set_option maxHeartbeats 4000000 in
set_option maxRecDepth 100000 in
theorem cX2_countedBy_ok (l : Launch) (D : va_G) (cy : Nat → ClassId) (a0 aT aP : Nat → Nat) (N : Nat) (x0 : Int32) (x1 : Option Nat) (x2 : Option Nat) (w0 : zS) (rv : Int32) (τ : zS) (hf : fX2_countedBy N x0 x1 x2 w0 = some (rv, τ)) : zMi l yX2_countedBy cX2_countedBy 3 (some .int) rmX2_countedBy D cy shX 38 a0 aT aP w0 [.int x0, va_rf (x1.map aT), va_rf (x2.map aT)] rv τ (fun u => u = (aT, aP)) := by
  refine zmet_i (by decide +kernel) (Or.inl rfl) (by simp [lg_sl, zcat, zcI, zcR, zcL]) ?_
  intro p e s m below meth c A Q ls hC hA hZ hl hE
  have hx := hC.1.1
  have hb := hC.1.2.1
  have hl : lv_has ls 3 [(0, .int x0), (1, va_rf (x1.map aT)), (2, va_rf (x2.map aT))] := by simpa [lv_args, zcat, zcI, zcR, zcL] using hl
  unfold fX2_countedBy at hf
  refine lv_iload_n (pc := 0) hx hb dX2_countedBy_0 rfl (lv_at hl 0 rfl) ?_
  by_cases n1 : x0 = (1 : Int32)
  · rw [if_pos n1] at hf
    refine z_tabIn (pc := 1) (tgt := 28) hC n1 dX2_countedBy_1 (by decide) (by decide) rfl (by decide) ?_
    refine z_aload_n (pc := 28) hC dX2_countedBy_28 rfl (lv_at hl 1 rfl) ?_
    refine z_gT (pc := 29) hC hZ fkX2_111 rfl hf dX2_countedBy_29 (fun v1 hf => ?_)
    refine z_aload_n (pc := 32) hC dX2_countedBy_32 rfl (lv_at hl 2 rfl) ?_
    refine z_gT (pc := 33) hC hZ fkX2_111 rfl hf dX2_countedBy_33 (fun v2 hf => ?_)
    refine z_min (pc := 36) hC mkX2_114 hl.1 (Nat.le_of_ble_eq_true rfl) (Nat.le_of_ble_eq_true rfl) ⟨Nat.le_refl _, Nat.le_refl _⟩ dX2_countedBy_36 ?_
    obtain ⟨rfl, rfl⟩ := zinj hf
    exact hE _ _ _ _ _ _ rfl hZ dX2_countedBy_39
  rw [if_neg n1] at hf
  by_cases n2 : x0 = (2 : Int32)
  · rw [if_pos n2] at hf
    refine z_tabIn (pc := 1) (tgt := 40) hC n2 dX2_countedBy_1 (by decide) (by decide) rfl (by decide) ?_
    refine z_aload_n (pc := 40) hC dX2_countedBy_40 rfl (lv_at hl 1 rfl) ?_
    refine z_gT (pc := 41) hC hZ fkX2_111 rfl hf dX2_countedBy_41 (fun v3 hf => ?_)
    refine z_aload_n (pc := 44) hC dX2_countedBy_44 rfl (lv_at hl 2 rfl) ?_
    refine z_gT (pc := 45) hC hZ fkX2_111 rfl hf dX2_countedBy_45 (fun v4 hf => ?_)
    refine z_max (pc := 48) hC mkX2_120 hl.1 (Nat.le_of_ble_eq_true rfl) (Nat.le_of_ble_eq_true rfl) ⟨Nat.le_refl _, Nat.le_refl _⟩ dX2_countedBy_48 ?_
    obtain ⟨rfl, rfl⟩ := zinj hf
    exact hE _ _ _ _ _ _ rfl hZ dX2_countedBy_51
  rw [if_neg n2] at hf
  by_cases n3 : x0 = (3 : Int32)
  · rw [if_pos n3] at hf
    refine z_tabIn (pc := 1) (tgt := 52) hC n3 dX2_countedBy_1 (by decide) (by decide) rfl (by decide) ?_
    refine z_aload_n (pc := 52) hC dX2_countedBy_52 rfl (lv_at hl 1 rfl) ?_
    refine z_gT (pc := 53) hC hZ fkX2_111 rfl hf dX2_countedBy_53 (fun v5 hf => ?_)
    obtain ⟨rfl, rfl⟩ := zinj hf
    exact hE _ _ _ _ _ _ rfl hZ dX2_countedBy_56
  rw [if_neg n3] at hf
  refine lv_tableOut (pc := 1) (tgt := 57) hx hb dX2_countedBy_1 (zsw_out (fun k h1 h2 h3 => by rcases (show k = 1 ∨ k = 2 ∨ k = 3 by omega) with rfl | rfl | rfl <;> first | exact n1 h3 | exact n2 h3 | exact n3 h3)) (by decide) ?_
  refine z_aload_n (pc := 57) hC dX2_countedBy_57 rfl (lv_at hl 2 rfl) ?_
  refine z_gT (pc := 58) hC hZ fkX2_111 rfl hf dX2_countedBy_58 (fun v6 hf => ?_)
  obtain ⟨rfl, rfl⟩ := zinj hf
  exact hE _ _ _ _ _ _ rfl hZ dX2_countedBy_61
set_option maxHeartbeats 4000000 in
set_option maxRecDepth 100000 in
theorem cX4_clear_ok (l : Launch) (D : va_G) (cy : Nat → ClassId) (a0 aT aP : Nat → Nat) (N : Nat)  (w0 : zS) (τ : zS) (hf : fX4_clear N  w0 = some τ) : zMv l yX4_clear cX4_clear 1 none rmX4_clear D cy shX 38 a0 aT aP w0 [.ref (a0 3)] τ (fun u => u = (aT, aP)) := by
  refine zmet_v (by decide +kernel) rfl (Nat.le_of_ble_eq_true rfl) ?_
  intro p e s m below meth c A Q ls hC hA hZ hl hE
  have hx := hC.1.1
  have hb := hC.1.2.1
  have hl : lv_has ls 1 [(0, .ref (a0 3))] := hl
  unfold fX4_clear at hf
  refine lv_aload_n (pc := 0) hx hb dX4_clear_0 rfl (lv_at hl 0 rfl) ?_
  refine lv_iconst (pc := 1) (v := (0 : Int32)) hx hb dX4_clear_1 (by decide) ?_
  refine pfX4_25 (pc := 2) hC hZ hf dX4_clear_2 (fun w1 H locs hf hZ => ?_)
  refine lv_aload_n (pc := 5) hx hb dX4_clear_5 rfl (lv_at hl 0 rfl) ?_
  refine lv_iconst (pc := 6) (v := (0 : Int32)) hx hb dX4_clear_6 (by decide) ?_
  refine pfX4_29 (pc := 7) hC hZ hf dX4_clear_7 (fun w2 H locs hf hZ => ?_)
  refine lv_aload_n (pc := 10) hx hb dX4_clear_10 rfl (lv_at hl 0 rfl) ?_
  refine lv_lconst (pc := 11) (v := (0 : Int64)) hx hb dX4_clear_11 (by decide) ?_
  refine pfX4_32 (pc := 12) hC hZ hf dX4_clear_12 (fun w3 H locs hf hZ => ?_)
  obtain rfl := Option.some.inj hf
  exact hE _ _ _ _ _ _ rfl hZ dX4_clear_15
set_option maxHeartbeats 4000000 in
set_option maxRecDepth 100000 in
theorem cX4_offer_ok (l : Launch) (D : va_G) (cy : Nat → ClassId) (a0 aT aP : Nat → Nat) (N : Nat) (x1 : Option Nat) (w0 : zS) (τ : zS) (hf : fX4_offer N x1 w0 = some τ) : zMv l yX4_offer cX4_offer 2 none rmX4_offer D cy shX 38 a0 aT aP w0 [.ref (a0 3), va_rf (x1.map aT)] τ (fun u => u = (aT, aP)) := by
  refine zmet_v (by decide +kernel) rfl (by simp [lg_sl, zcat, zcI, zcR, zcL]) ?_
  intro p e s m below meth c A Q ls hC hA hZ hl hE
  have hx := hC.1.1
  have hb := hC.1.2.1
  have hl : lv_has ls 2 [(0, .ref (a0 3)), (1, va_rf (x1.map aT))] := by simpa [lv_args, zcat, zcI, zcR, zcL] using hl
  unfold fX4_offer at hf
  refine z_aload_n (pc := 0) hC dX4_offer_0 rfl (lv_at hl 1 rfl) ?_
  refine z_gT (pc := 1) hC hZ fkX4_36 rfl hf dX4_offer_1 (fun v1 hf => ?_)
  refine z_eq0 (pc := 4) (tgt := 39) hC hf dX4_offer_4 (by decide) (fun hf => ?_) (fun hf => ?_)
  · refine z_aload_n (pc := 39) hC dX4_offer_39 rfl (lv_at hl 1 rfl) ?_
    refine z_gT (pc := 40) hC hZ fkX4_36 rfl hf dX4_offer_40 (fun v2 hf => ?_)
    refine z_ne0 (pc := 43) (tgt := 75) hC hf dX4_offer_43 (by decide) (fun hf => ?_) (fun hf => ?_)
    · refine lv_aload_n (pc := 46) hx hb dX4_offer_46 rfl (lv_at hl 0 rfl) ?_
      refine gfX4_29 (pc := 47) hC hZ dX4_offer_47 ?_
      refine lv_bipush (pc := 50) (v := (8 : Int32)) hx hb dX4_offer_50 (by decide) ?_
      refine z_ige (pc := 52) (tgt := 75) hC hf dX4_offer_52 (by decide) (fun hf => ?_) (fun hf => ?_)
      · obtain rfl := Option.some.inj hf
        exact hE _ _ _ _ _ _ rfl hZ dX4_offer_75
      refine lv_aload_n (pc := 55) hx hb dX4_offer_55 rfl (lv_at hl 0 rfl) ?_
      refine gfX4_15 (pc := 56) hC hZ dX4_offer_56 ?_
      refine lv_aload_n (pc := 59) hx hb dX4_offer_59 rfl (lv_at hl 0 rfl) ?_
      refine gfX4_29 (pc := 60) hC hZ dX4_offer_60 ?_
      refine z_aload_n (pc := 63) hC dX4_offer_63 rfl (lv_at hl 1 rfl) ?_
      refine z_aastT (pc := 64) hC hZ (by decide) rfl hf dX4_offer_64 (fun w3 H locs hf hZ => ?_)
      refine lv_aload_n (pc := 65) hx hb dX4_offer_65 rfl (lv_at hl 0 rfl) ?_
      refine lv_dup (pc := 66) hx hb dX4_offer_66 rfl ?_
      refine gfX4_29 (pc := 67) hC hZ dX4_offer_67 ?_
      refine lv_iconst (pc := 70) (v := (1 : Int32)) hx hb dX4_offer_70 (by decide) ?_
      refine lv_iadd (pc := 71) hx hb dX4_offer_71 ?_
      refine pfX4_29 (pc := 72) hC hZ hf dX4_offer_72 (fun w4 H locs hf hZ => ?_)
      obtain rfl := Option.some.inj hf
      exact hE _ _ _ _ _ _ rfl hZ dX4_offer_75
    obtain rfl := Option.some.inj hf
    exact hE _ _ _ _ _ _ rfl hZ dX4_offer_75
  refine lv_aload_n (pc := 7) hx hb dX4_offer_7 rfl (lv_at hl 0 rfl) ?_
  refine gfX4_25 (pc := 8) hC hZ dX4_offer_8 ?_
  refine lv_bipush (pc := 11) (v := (8 : Int32)) hx hb dX4_offer_11 (by decide) ?_
  refine z_ige (pc := 13) (tgt := 39) hC hf dX4_offer_13 (by decide) (fun hf => ?_) (fun hf => ?_)
  · refine z_aload_n (pc := 39) hC dX4_offer_39 rfl (lv_at hl 1 rfl) ?_
    refine z_gT (pc := 40) hC hZ fkX4_36 rfl hf dX4_offer_40 (fun v5 hf => ?_)
    refine z_ne0 (pc := 43) (tgt := 75) hC hf dX4_offer_43 (by decide) (fun hf => ?_) (fun hf => ?_)
    · refine lv_aload_n (pc := 46) hx hb dX4_offer_46 rfl (lv_at hl 0 rfl) ?_
      refine gfX4_29 (pc := 47) hC hZ dX4_offer_47 ?_
      refine lv_bipush (pc := 50) (v := (8 : Int32)) hx hb dX4_offer_50 (by decide) ?_
      refine z_ige (pc := 52) (tgt := 75) hC hf dX4_offer_52 (by decide) (fun hf => ?_) (fun hf => ?_)
      · obtain rfl := Option.some.inj hf
        exact hE _ _ _ _ _ _ rfl hZ dX4_offer_75
      refine lv_aload_n (pc := 55) hx hb dX4_offer_55 rfl (lv_at hl 0 rfl) ?_
      refine gfX4_15 (pc := 56) hC hZ dX4_offer_56 ?_
      refine lv_aload_n (pc := 59) hx hb dX4_offer_59 rfl (lv_at hl 0 rfl) ?_
      refine gfX4_29 (pc := 60) hC hZ dX4_offer_60 ?_
      refine z_aload_n (pc := 63) hC dX4_offer_63 rfl (lv_at hl 1 rfl) ?_
      refine z_aastT (pc := 64) hC hZ (by decide) rfl hf dX4_offer_64 (fun w6 H locs hf hZ => ?_)
      refine lv_aload_n (pc := 65) hx hb dX4_offer_65 rfl (lv_at hl 0 rfl) ?_
      refine lv_dup (pc := 66) hx hb dX4_offer_66 rfl ?_
      refine gfX4_29 (pc := 67) hC hZ dX4_offer_67 ?_
      refine lv_iconst (pc := 70) (v := (1 : Int32)) hx hb dX4_offer_70 (by decide) ?_
      refine lv_iadd (pc := 71) hx hb dX4_offer_71 ?_
      refine pfX4_29 (pc := 72) hC hZ hf dX4_offer_72 (fun w7 H locs hf hZ => ?_)
      obtain rfl := Option.some.inj hf
      exact hE _ _ _ _ _ _ rfl hZ dX4_offer_75
    obtain rfl := Option.some.inj hf
    exact hE _ _ _ _ _ _ rfl hZ dX4_offer_75
  refine lv_aload_n (pc := 16) hx hb dX4_offer_16 rfl (lv_at hl 0 rfl) ?_
  refine gfX4_11 (pc := 17) hC hZ dX4_offer_17 ?_
  refine lv_aload_n (pc := 20) hx hb dX4_offer_20 rfl (lv_at hl 0 rfl) ?_
  refine gfX4_25 (pc := 21) hC hZ dX4_offer_21 ?_
  refine z_aload_n (pc := 24) hC dX4_offer_24 rfl (lv_at hl 1 rfl) ?_
  refine z_aastT (pc := 25) hC hZ (by decide) rfl hf dX4_offer_25 (fun w8 H locs hf hZ => ?_)
  refine lv_aload_n (pc := 26) hx hb dX4_offer_26 rfl (lv_at hl 0 rfl) ?_
  refine lv_dup (pc := 27) hx hb dX4_offer_27 rfl ?_
  refine gfX4_25 (pc := 28) hC hZ dX4_offer_28 ?_
  refine lv_iconst (pc := 31) (v := (1 : Int32)) hx hb dX4_offer_31 (by decide) ?_
  refine lv_iadd (pc := 32) hx hb dX4_offer_32 ?_
  refine pfX4_25 (pc := 33) hC hZ hf dX4_offer_33 (fun w9 H locs hf hZ => ?_)
  refine lv_goto (pc := 36) (tgt := 75) hx hb dX4_offer_36 (by decide) ?_
  obtain rfl := Option.some.inj hf
  exact hE _ _ _ _ _ _ rfl hZ dX4_offer_75
set_option maxHeartbeats 4000000 in
set_option maxRecDepth 100000 in
theorem cX4_giveAt_ok (l : Launch) (D : va_G) (cy : Nat → ClassId) (a0 aT aP : Nat → Nat) (N : Nat) (x1 : Int32) (w0 : zS) (rv : Option Nat) (τ : zS) (hf : fX4_giveAt N x1 w0 = some (rv, τ)) : zMq l yX4_giveAt cX4_giveAt 2 (some (.object "CarrierPool$Telling")) rmX4_giveAt D cy shX 38 a0 aT aP w0 [.ref (a0 3), .int x1] (rv.map aT) τ (fun u => u = (aT, aP)) := by
  refine zmet_q (by decide +kernel) rfl (Nat.le_of_ble_eq_true rfl) ?_
  intro p e s m below meth c A Q ls hC hA hZ hl hE
  have hx := hC.1.1
  have hb := hC.1.2.1
  have hl : lv_has ls 2 [(0, .ref (a0 3)), (1, .int x1)] := hl
  unfold fX4_giveAt at hf
  refine lv_iload_n (pc := 0) hx hb dX4_giveAt_0 rfl (lv_at hl 1 rfl) ?_
  refine z_lt0 (pc := 1) (tgt := 21) hC hf dX4_giveAt_1 (by decide) (fun hf => ?_) (fun hf => ?_)
  · refine lv_null (pc := 21) hx hb dX4_giveAt_21 ?_
    refine W.eq (g2 := F0 m 22 ls [va_rf ((none : Option Nat).map aT)]) rfl ?_
    obtain ⟨rfl, rfl⟩ := zinj hf
    exact hE _ _ _ _ _ _ rfl hZ dX4_giveAt_22
  refine lv_iload_n (pc := 4) hx hb dX4_giveAt_4 rfl (lv_at hl 1 rfl) ?_
  refine lv_aload_n (pc := 5) hx hb dX4_giveAt_5 rfl (lv_at hl 0 rfl) ?_
  refine gfX4_25 (pc := 6) hC hZ dX4_giveAt_6 ?_
  refine z_ige (pc := 9) (tgt := 21) hC hf dX4_giveAt_9 (by decide) (fun hf => ?_) (fun hf => ?_)
  · refine lv_null (pc := 21) hx hb dX4_giveAt_21 ?_
    refine W.eq (g2 := F0 m 22 ls [va_rf ((none : Option Nat).map aT)]) rfl ?_
    obtain ⟨rfl, rfl⟩ := zinj hf
    exact hE _ _ _ _ _ _ rfl hZ dX4_giveAt_22
  refine lv_aload_n (pc := 12) hx hb dX4_giveAt_12 rfl (lv_at hl 0 rfl) ?_
  refine gfX4_11 (pc := 13) hC hZ dX4_giveAt_13 ?_
  refine lv_iload_n (pc := 16) hx hb dX4_giveAt_16 rfl (lv_at hl 1 rfl) ?_
  refine z_aaldT (pc := 17) hC hZ (by decide) rfl hf dX4_giveAt_17 (fun v1 hf => ?_)
  refine lv_goto (pc := 18) (tgt := 22) hx hb dX4_giveAt_18 (by decide) ?_
  obtain ⟨rfl, rfl⟩ := zinj hf
  exact hE _ _ _ _ _ _ rfl hZ dX4_giveAt_22
section ZK
variable {p : Program} {l : Launch} {e : Env} {R : Room} {s : State} {m : MethodId} {args : Array Value} {below : List Frame} {meth : Method} {c : Code} {H : Heap} {locs : List Loc} {cells slots : Nat} {Q : State → Prop}
variable {pc : Nat} {ls : Array Slot} {rest : List Value} {A : Nat → Prop} {H0 : Heap} {D : va_G} {cy : Nat → ClassId} {a0 aT aP : Nat → Nat} {σ : zS} {cc : ByteArray} {nL : Nat} {α : Type} {res : α}
theorem vkX4_40 : zVk RX4 40 yX4_giveAt cX4_giveAt 2 (some (.object "CarrierPool$Telling")) 1 := ⟨by decide +kernel, by decide +kernel, by decide +kernel, by decide +kernel, by decide +kernel, by decide +kernel⟩
theorem kX4_40 (hC : zC p s m args c RX4 cc nL D cy) (hA : ∀ q, H0.size ≤ q → A q) (hZ : zW D cy shX 38 a0 aT aP A H0 σ H locs) {N : Nat} {x1 : Int32} {k : Option Nat → zS → Option α} (hf : zbi (fX4_giveAt N x1 σ) k = some res) (hsz : ls.size = nL) (hW : (rest.map fun v => v.category).sum ≤ 8) (hR : rmX4_giveAt.frames + 1 ≤ R.frames ∧ 8 + (2 + 11) + rmX4_giveAt.locals ≤ R.locals) (hcs : cells ≤ R.cells ∧ slots ≤ R.slots) (hdg : decode cc pc = .ok (.invokevirtual 40, 3)) (kk : ∀ (v : Option Nat) (τ : zS) (H1 : Heap) (locs1 : List Loc), k v τ = some res → zW D cy shX 38 a0 aT aP A H0 τ H1 locs1 → W p l e R s m args below meth c H1 locs1 cells slots Q (F0 m (pc + 3) ls (va_rf (v.map aT) :: rest))) : W p l e R s m args below meth c H locs cells slots Q (F0 m pc ls (.int x1 :: .ref (a0 3) :: rest)) := by
  cases hq : fX4_giveAt N x1 σ with
  | none => rw [hq] at hf; cases hf
  | some q =>
    rw [hq] at hf
    exact zcallq hA hZ (zrun hC hZ vkX4_40 rfl (zw0 (by decide)) (cX4_giveAt_ok l D cy a0 aT aP N x1 σ q.1 q.2 hq H.size) hR rfl hsz rfl hW hcs hdg) (fun u H1 locs1 hU hZ1 => by subst hU; exact kk q.1 q.2 H1 locs1 hf hZ1)
end ZK
set_option maxHeartbeats 4000000 in
set_option maxRecDepth 100000 in
theorem cX4_takeAt_ok (l : Launch) (D : va_G) (cy : Nat → ClassId) (a0 aT aP : Nat → Nat) (N : Nat) (x1 : Int32) (w0 : zS) (rv : Option Nat) (τ : zS) (hf : fX4_takeAt N x1 w0 = some (rv, τ)) : zMq l yX4_takeAt cX4_takeAt 2 (some (.object "CarrierPool$Telling")) rmX4_takeAt D cy shX 38 a0 aT aP w0 [.ref (a0 3), .int x1] (rv.map aT) τ (fun u => u = (aT, aP)) := by
  refine zmet_q (by decide +kernel) rfl (Nat.le_of_ble_eq_true rfl) ?_
  intro p e s m below meth c A Q ls hC hA hZ hl hE
  have hx := hC.1.1
  have hb := hC.1.2.1
  have hl : lv_has ls 2 [(0, .ref (a0 3)), (1, .int x1)] := hl
  unfold fX4_takeAt at hf
  refine lv_iload_n (pc := 0) hx hb dX4_takeAt_0 rfl (lv_at hl 1 rfl) ?_
  refine z_lt0 (pc := 1) (tgt := 21) hC hf dX4_takeAt_1 (by decide) (fun hf => ?_) (fun hf => ?_)
  · refine lv_null (pc := 21) hx hb dX4_takeAt_21 ?_
    refine W.eq (g2 := F0 m 22 ls [va_rf ((none : Option Nat).map aT)]) rfl ?_
    obtain ⟨rfl, rfl⟩ := zinj hf
    exact hE _ _ _ _ _ _ rfl hZ dX4_takeAt_22
  refine lv_iload_n (pc := 4) hx hb dX4_takeAt_4 rfl (lv_at hl 1 rfl) ?_
  refine lv_aload_n (pc := 5) hx hb dX4_takeAt_5 rfl (lv_at hl 0 rfl) ?_
  refine gfX4_29 (pc := 6) hC hZ dX4_takeAt_6 ?_
  refine z_ige (pc := 9) (tgt := 21) hC hf dX4_takeAt_9 (by decide) (fun hf => ?_) (fun hf => ?_)
  · refine lv_null (pc := 21) hx hb dX4_takeAt_21 ?_
    refine W.eq (g2 := F0 m 22 ls [va_rf ((none : Option Nat).map aT)]) rfl ?_
    obtain ⟨rfl, rfl⟩ := zinj hf
    exact hE _ _ _ _ _ _ rfl hZ dX4_takeAt_22
  refine lv_aload_n (pc := 12) hx hb dX4_takeAt_12 rfl (lv_at hl 0 rfl) ?_
  refine gfX4_15 (pc := 13) hC hZ dX4_takeAt_13 ?_
  refine lv_iload_n (pc := 16) hx hb dX4_takeAt_16 rfl (lv_at hl 1 rfl) ?_
  refine z_aaldT (pc := 17) hC hZ (by decide) rfl hf dX4_takeAt_17 (fun v1 hf => ?_)
  refine lv_goto (pc := 18) (tgt := 22) hx hb dX4_takeAt_18 (by decide) ?_
  obtain ⟨rfl, rfl⟩ := zinj hf
  exact hE _ _ _ _ _ _ rfl hZ dX4_takeAt_22
section ZK
variable {p : Program} {l : Launch} {e : Env} {R : Room} {s : State} {m : MethodId} {args : Array Value} {below : List Frame} {meth : Method} {c : Code} {H : Heap} {locs : List Loc} {cells slots : Nat} {Q : State → Prop}
variable {pc : Nat} {ls : Array Slot} {rest : List Value} {A : Nat → Prop} {H0 : Heap} {D : va_G} {cy : Nat → ClassId} {a0 aT aP : Nat → Nat} {σ : zS} {cc : ByteArray} {nL : Nat} {α : Type} {res : α}
theorem vkX4_44 : zVk RX4 44 yX4_takeAt cX4_takeAt 2 (some (.object "CarrierPool$Telling")) 1 := ⟨by decide +kernel, by decide +kernel, by decide +kernel, by decide +kernel, by decide +kernel, by decide +kernel⟩
theorem kX4_44 (hC : zC p s m args c RX4 cc nL D cy) (hA : ∀ q, H0.size ≤ q → A q) (hZ : zW D cy shX 38 a0 aT aP A H0 σ H locs) {N : Nat} {x1 : Int32} {k : Option Nat → zS → Option α} (hf : zbi (fX4_takeAt N x1 σ) k = some res) (hsz : ls.size = nL) (hW : (rest.map fun v => v.category).sum ≤ 8) (hR : rmX4_takeAt.frames + 1 ≤ R.frames ∧ 8 + (2 + 11) + rmX4_takeAt.locals ≤ R.locals) (hcs : cells ≤ R.cells ∧ slots ≤ R.slots) (hdg : decode cc pc = .ok (.invokevirtual 44, 3)) (kk : ∀ (v : Option Nat) (τ : zS) (H1 : Heap) (locs1 : List Loc), k v τ = some res → zW D cy shX 38 a0 aT aP A H0 τ H1 locs1 → W p l e R s m args below meth c H1 locs1 cells slots Q (F0 m (pc + 3) ls (va_rf (v.map aT) :: rest))) : W p l e R s m args below meth c H locs cells slots Q (F0 m pc ls (.int x1 :: .ref (a0 3) :: rest)) := by
  cases hq : fX4_takeAt N x1 σ with
  | none => rw [hq] at hf; cases hf
  | some q =>
    rw [hq] at hf
    exact zcallq hA hZ (zrun hC hZ vkX4_44 rfl (zw0 (by decide)) (cX4_takeAt_ok l D cy a0 aT aP N x1 σ q.1 q.2 hq H.size) hR rfl hsz rfl hW hcs hdg) (fun u H1 locs1 hU hZ1 => by subst hU; exact kk q.1 q.2 H1 locs1 hf hZ1)
end ZK
set_option maxHeartbeats 4000000 in
set_option maxRecDepth 100000 in
theorem cX4_areNear_ok (l : Launch) (D : va_G) (cy : Nat → ClassId) (a0 aT aP : Nat → Nat) (N : Nat) (x0 : Option Nat) (x1 : Option Nat) (w0 : zS) (rv : Int32) (τ : zS) (hf : fX4_areNear N x0 x1 w0 = some (rv, τ)) : zMi l yX4_areNear cX4_areNear 2 (some .boolean) rmX4_areNear D cy shX 38 a0 aT aP w0 [va_rf (x0.map aT), va_rf (x1.map aT)] rv τ (fun u => u = (aT, aP)) := by
  refine zmet_z (by decide +kernel) rfl (by simp [lg_sl, zcat, zcI, zcR, zcL]) ?_
  intro p e s m below meth c A Q ls hC hA hZ hl hE
  have hx := hC.1.1
  have hb := hC.1.2.1
  have hl : lv_has ls 2 [(0, va_rf (x0.map aT)), (1, va_rf (x1.map aT))] := by simpa [lv_args, zcat, zcI, zcR, zcL] using hl
  unfold fX4_areNear at hf
  refine z_aload_n (pc := 0) hC dX4_areNear_0 rfl (lv_at hl 0 rfl) ?_
  refine z_ifnull (pc := 1) (tgt := 28) hC hf dX4_areNear_1 (by decide) (fun hf => ?_) (fun hf => ?_)
  · refine lv_iconst (pc := 28) (v := (0 : Int32)) hx hb dX4_areNear_28 (by decide) ?_
    obtain ⟨rfl, rfl⟩ := zinj hf
    exact hE (by decide) _ _ _ _ _ _ rfl hZ dX4_areNear_29
  refine z_aload_n (pc := 4) hC dX4_areNear_4 rfl (lv_at hl 1 rfl) ?_
  refine z_ifnull (pc := 5) (tgt := 28) hC hf dX4_areNear_5 (by decide) (fun hf => ?_) (fun hf => ?_)
  · refine lv_iconst (pc := 28) (v := (0 : Int32)) hx hb dX4_areNear_28 (by decide) ?_
    obtain ⟨rfl, rfl⟩ := zinj hf
    exact hE (by decide) _ _ _ _ _ _ rfl hZ dX4_areNear_29
  refine z_aload_n (pc := 8) hC dX4_areNear_8 rfl (lv_at hl 0 rfl) ?_
  refine z_gT (pc := 9) hC hZ fkX4_51 rfl hf dX4_areNear_9 (fun v1 hf => ?_)
  refine z_aload_n (pc := 12) hC dX4_areNear_12 rfl (lv_at hl 1 rfl) ?_
  refine z_gT (pc := 13) hC hZ fkX4_51 rfl hf dX4_areNear_13 (fun v2 hf => ?_)
  refine lv_isub (pc := 16) hx hb dX4_areNear_16 ?_
  refine z_abs (pc := 17) hC mkX4_54 hl.1 (Nat.le_of_ble_eq_true rfl) (Nat.le_of_ble_eq_true rfl) ⟨Nat.le_refl _, Nat.le_refl _⟩ dX4_areNear_17 ?_
  refine lv_iconst (pc := 20) (v := (3 : Int32)) hx hb dX4_areNear_20 (by decide) ?_
  refine z_igt (pc := 21) (tgt := 28) hC hf dX4_areNear_21 (by decide) (fun hf => ?_) (fun hf => ?_)
  · refine lv_iconst (pc := 28) (v := (0 : Int32)) hx hb dX4_areNear_28 (by decide) ?_
    obtain ⟨rfl, rfl⟩ := zinj hf
    exact hE (by decide) _ _ _ _ _ _ rfl hZ dX4_areNear_29
  refine lv_iconst (pc := 24) (v := (1 : Int32)) hx hb dX4_areNear_24 (by decide) ?_
  refine lv_goto (pc := 25) (tgt := 29) hx hb dX4_areNear_25 (by decide) ?_
  obtain ⟨rfl, rfl⟩ := zinj hf
  exact hE (by decide) _ _ _ _ _ _ rfl hZ dX4_areNear_29
section ZK
variable {p : Program} {l : Launch} {e : Env} {R : Room} {s : State} {m : MethodId} {args : Array Value} {below : List Frame} {meth : Method} {c : Code} {H : Heap} {locs : List Loc} {cells slots : Nat} {Q : State → Prop}
variable {pc : Nat} {ls : Array Slot} {rest : List Value} {A : Nat → Prop} {H0 : Heap} {D : va_G} {cy : Nat → ClassId} {a0 aT aP : Nat → Nat} {σ : zS} {cc : ByteArray} {nL : Nat} {α : Type} {res : α}
theorem vkX4_47 : zSk RX4 47 yX4_areNear cX4_areNear 2 (some .boolean) 2 := ⟨by decide +kernel, by decide +kernel, by decide +kernel, by decide +kernel, by decide +kernel⟩
theorem kX4_47 (hC : zC p s m args c RX4 cc nL D cy) (hA : ∀ q, H0.size ≤ q → A q) (hZ : zW D cy shX 38 a0 aT aP A H0 σ H locs) {N : Nat} {x0 : Option Nat} {x1 : Option Nat} {k : Int32 → zS → Option α} (hf : zbi (fX4_areNear N x0 x1 σ) k = some res) (hsz : ls.size = nL) (hW : (rest.map fun v => v.category).sum ≤ 8) (hR : rmX4_areNear.frames + 1 ≤ R.frames ∧ 8 + (2 + 11) + rmX4_areNear.locals ≤ R.locals) (hcs : cells ≤ R.cells ∧ slots ≤ R.slots) (hdg : decode cc pc = .ok (.invokestatic 47, 3)) (kk : ∀ (v : Int32) (τ : zS) (H1 : Heap) (locs1 : List Loc), k v τ = some res → zW D cy shX 38 a0 aT aP A H0 τ H1 locs1 → W p l e R s m args below meth c H1 locs1 cells slots Q (F0 m (pc + 3) ls (.int v :: rest))) : W p l e R s m args below meth c H locs cells slots Q (F0 m pc ls (va_rf (x1.map aT) :: va_rf (x0.map aT) :: rest)) := by
  cases hq : fX4_areNear N x0 x1 σ with
  | none => rw [hq] at hf; cases hf
  | some q =>
    rw [hq] at hf
    exact zcalli hA hZ (zrunS hC hZ vkX4_47 (cX4_areNear_ok l D cy a0 aT aP N x0 x1 σ q.1 q.2 hq H.size) hR rfl hsz rfl hW hcs hdg) (fun u H1 locs1 hU hZ1 => by subst hU; exact kk q.1 q.2 H1 locs1 hf hZ1)
end ZK
set_option maxHeartbeats 4000000 in
set_option maxRecDepth 100000 in
theorem wX4_hasNear_12 {p : Program} {l : Launch} {e : Env} {s : State} {m : MethodId} {args : Array Value} {below : List Frame} {meth : Method} {c : Code} {Q : State → Prop} {A : Nat → Prop} {H0 : Heap} {D : va_G} {cy : Nat → ClassId} {a0 aT aP : Nat → Nat} {res : Int32 × zS} {K : Int32 → zS → Option (Int32 × zS)} (N : Nat) (x1 : Int32) (hC : zC p s m args c RX4 cX4_hasNear 3 D cy) (hA : ∀ q, H0.size ≤ q → A q) (hE : (res.1 = 0 ∨ res.1 = 1) → zEnd p l e rmX4_hasNear s m args below meth c Q D cy shX 38 a0 A H0 res.2 (fun u => u = (aT, aP)) cX4_hasNear .ireturn [.int res.1]) (n : Nat) (x2 : Int32) (w0 : zS) {H : Heap} {locs : List Loc} {ls : Array Slot} (hf : lX4_hasNear_12 N x1 K n (x2, w0) = some res) (hZ : zW D cy shX 38 a0 aT aP A H0 w0 H locs) (hl : lv_has ls 3 [(0, .ref (a0 3)), (1, .int x1), (2, .int x2)]) (hK : ∀ x2 : Int32, ∀ (w0 : zS) (H : Heap) (locs : List Loc) (ls : Array Slot), K x2 w0 = some res → zW D cy shX 38 a0 aT aP A H0 w0 H locs → lv_has ls 3 [(0, .ref (a0 3)), (1, .int x1), (2, .int x2)] → W p l e rmX4_hasNear s m args below meth c H locs 0 0 Q (F0 m 44 ls [])) : W p l e rmX4_hasNear s m args below meth c H locs 0 0 Q (F0 m 12 ls []) := by
  have hx := hC.1.1
  have hb := hC.1.2.1
  have hf2 : zlp (fun rc s1 => bX4_hasNear_12 N x1 K rc s1.1 s1.2) n (x2, w0) = some res := hf
  have key := zloop (S := Int32 × zS) (α := Int32 × zS) (b := fun rc s1 => bX4_hasNear_12 N x1 K rc s1.1 s1.2) (r := res) (Wd := fun s1 => ∀ (H : Heap) (locs : List Loc) (ls : Array Slot), zW D cy shX 38 a0 aT aP A H0 s1.2 H locs → lv_has ls 3 [(0, .ref (a0 3)), (1, .int x1), (2, .int s1.1)] → W p l e rmX4_hasNear s m args below meth c H locs 0 0 Q (F0 m 12 ls []))
  refine key ?_ n (x2, w0) hf2 H locs ls hZ hl
  clear hf hf2 hZ hl key
  rintro rc ⟨x2, w0⟩ ih hf H locs ls hZ hl
  have hf : bX4_hasNear_12 N x1 K rc x2 w0 = some res := hf
  have hl : lv_has ls 3 [(0, .ref (a0 3)), (1, .int x1), (2, .int x2)] := hl
  unfold bX4_hasNear_12 at hf
  refine lv_iload_n (pc := 12) hx hb dX4_hasNear_12 rfl (lv_at hl 2 rfl) ?_
  refine lv_aload_n (pc := 13) hx hb dX4_hasNear_13 rfl (lv_at hl 0 rfl) ?_
  refine gfX4_29 (pc := 14) hC hZ dX4_hasNear_14 ?_
  refine z_ige (pc := 17) (tgt := 44) hC hf dX4_hasNear_17 (by decide) (fun hf => ?_) (fun hf => ?_)
  · exact hK x2 w0 H locs ls hf hZ (lv_sub hl [0, 1, 2] rfl)
  refine lv_aload_n (pc := 20) hx hb dX4_hasNear_20 rfl (lv_at hl 0 rfl) ?_
  refine lv_iload_n (pc := 21) hx hb dX4_hasNear_21 rfl (lv_at hl 1 rfl) ?_
  refine kX4_40 (pc := 22) hC hA hZ hf hl.1 (Nat.le_of_ble_eq_true rfl) ⟨Nat.le_of_ble_eq_true rfl, Nat.le_of_ble_eq_true rfl⟩ ⟨Nat.le_refl _, Nat.le_refl _⟩ dX4_hasNear_22 (fun v2 w1 H locs hf hZ => ?_)
  refine lv_aload_n (pc := 25) hx hb dX4_hasNear_25 rfl (lv_at hl 0 rfl) ?_
  refine lv_iload_n (pc := 26) hx hb dX4_hasNear_26 rfl (lv_at hl 2 rfl) ?_
  refine kX4_44 (pc := 27) hC hA hZ hf hl.1 (by simp [zcat, zcI, zcR, zcL]) ⟨Nat.le_of_ble_eq_true rfl, Nat.le_of_ble_eq_true rfl⟩ ⟨Nat.le_refl _, Nat.le_refl _⟩ dX4_hasNear_27 (fun v4 w3 H locs hf hZ => ?_)
  refine kX4_47 (pc := 30) hC hA hZ hf hl.1 (Nat.le_of_ble_eq_true rfl) ⟨Nat.le_of_ble_eq_true rfl, Nat.le_of_ble_eq_true rfl⟩ ⟨Nat.le_refl _, Nat.le_refl _⟩ dX4_hasNear_30 (fun v6 w5 H locs hf hZ => ?_)
  refine z_eq0 (pc := 33) (tgt := 38) hC hf dX4_hasNear_33 (by decide) (fun hf => ?_) (fun hf => ?_)
  · refine lv_iinc (pc := 38) (v := (x2 + (1 : Int32))) (lv' := [(2, .int (x2 + (1 : Int32))), (0, .ref (a0 3)), (1, .int x1)]) hx hb dX4_hasNear_38 hl (k := 2) rfl rfl (by decide) rfl (fun ls hl => ?_)
    refine lv_goto (pc := 41) (tgt := 12) hx hb dX4_hasNear_41 (by decide) ?_
    exact ih ((x2 + (1 : Int32)), w5) hf H locs ls hZ (lv_sub hl [1, 2, 0] rfl)
  refine lv_iconst (pc := 36) (v := (1 : Int32)) hx hb dX4_hasNear_36 (by decide) ?_
  obtain rfl := Option.some.inj hf
  exact hE (Or.inr rfl) _ _ _ _ _ _ rfl hZ dX4_hasNear_37
set_option maxHeartbeats 4000000 in
set_option maxRecDepth 100000 in
theorem wX4_hasNear_2 {p : Program} {l : Launch} {e : Env} {s : State} {m : MethodId} {args : Array Value} {below : List Frame} {meth : Method} {c : Code} {Q : State → Prop} {A : Nat → Prop} {H0 : Heap} {D : va_G} {cy : Nat → ClassId} {a0 aT aP : Nat → Nat} {res : Int32 × zS} {K : Int32 → zS → Option (Int32 × zS)} (N : Nat)  (hC : zC p s m args c RX4 cX4_hasNear 3 D cy) (hA : ∀ q, H0.size ≤ q → A q) (hE : (res.1 = 0 ∨ res.1 = 1) → zEnd p l e rmX4_hasNear s m args below meth c Q D cy shX 38 a0 A H0 res.2 (fun u => u = (aT, aP)) cX4_hasNear .ireturn [.int res.1]) (n : Nat) (x1 : Int32) (w0 : zS) {H : Heap} {locs : List Loc} {ls : Array Slot} (hf : lX4_hasNear_2 N  K n (x1, w0) = some res) (hZ : zW D cy shX 38 a0 aT aP A H0 w0 H locs) (hl : lv_has ls 3 [(0, .ref (a0 3)), (1, .int x1)]) (hK : ∀ x1 : Int32, ∀ (w0 : zS) (H : Heap) (locs : List Loc) (ls : Array Slot), K x1 w0 = some res → zW D cy shX 38 a0 aT aP A H0 w0 H locs → lv_has ls 3 [(0, .ref (a0 3)), (1, .int x1)] → W p l e rmX4_hasNear s m args below meth c H locs 0 0 Q (F0 m 50 ls [])) : W p l e rmX4_hasNear s m args below meth c H locs 0 0 Q (F0 m 2 ls []) := by
  have hx := hC.1.1
  have hb := hC.1.2.1
  have hf2 : zlp (fun rc s1 => bX4_hasNear_2 N  K rc s1.1 s1.2) n (x1, w0) = some res := hf
  have key := zloop (S := Int32 × zS) (α := Int32 × zS) (b := fun rc s1 => bX4_hasNear_2 N  K rc s1.1 s1.2) (r := res) (Wd := fun s1 => ∀ (H : Heap) (locs : List Loc) (ls : Array Slot), zW D cy shX 38 a0 aT aP A H0 s1.2 H locs → lv_has ls 3 [(0, .ref (a0 3)), (1, .int s1.1)] → W p l e rmX4_hasNear s m args below meth c H locs 0 0 Q (F0 m 2 ls []))
  refine key ?_ n (x1, w0) hf2 H locs ls hZ hl
  clear hf hf2 hZ hl key
  rintro rc ⟨x1, w0⟩ ih hf H locs ls hZ hl
  have hf : bX4_hasNear_2 N  K rc x1 w0 = some res := hf
  have hl : lv_has ls 3 [(0, .ref (a0 3)), (1, .int x1)] := hl
  unfold bX4_hasNear_2 at hf
  refine lv_iload_n (pc := 2) hx hb dX4_hasNear_2 rfl (lv_at hl 1 rfl) ?_
  refine lv_aload_n (pc := 3) hx hb dX4_hasNear_3 rfl (lv_at hl 0 rfl) ?_
  refine gfX4_25 (pc := 4) hC hZ dX4_hasNear_4 ?_
  refine z_ige (pc := 7) (tgt := 50) hC hf dX4_hasNear_7 (by decide) (fun hf => ?_) (fun hf => ?_)
  · exact hK x1 w0 H locs ls hf hZ (lv_sub hl [0, 1] rfl)
  refine lv_iconst (pc := 10) (v := (0 : Int32)) hx hb dX4_hasNear_10 (by decide) ?_
  refine lv_istore_n (pc := 11) (lv' := [(2, .int (0 : Int32)), (0, .ref (a0 3)), (1, .int x1)]) hx hb dX4_hasNear_11 rfl hl (by decide) rfl (fun ls hl => ?_)
  refine wX4_hasNear_12 (res := res) N x1 hC hA hE N _ _ hf hZ (lv_sub hl [1, 2, 0] rfl) (fun y7 w8 H locs ls hf hZ hl => ?_)
  refine lv_iinc (pc := 44) (v := (x1 + (1 : Int32))) (lv' := [(1, .int (x1 + (1 : Int32))), (0, .ref (a0 3)), (2, .int y7)]) hx hb dX4_hasNear_44 hl (k := 1) rfl rfl (by decide) rfl (fun ls hl => ?_)
  refine lv_goto (pc := 47) (tgt := 2) hx hb dX4_hasNear_47 (by decide) ?_
  exact ih ((x1 + (1 : Int32)), w8) hf H locs ls hZ (lv_sub hl [1, 0] rfl)
set_option maxHeartbeats 4000000 in
set_option maxRecDepth 100000 in
theorem cX4_hasNear_ok (l : Launch) (D : va_G) (cy : Nat → ClassId) (a0 aT aP : Nat → Nat) (N : Nat)  (w0 : zS) (rv : Int32) (τ : zS) (hf : fX4_hasNear N  w0 = some (rv, τ)) : zMi l yX4_hasNear cX4_hasNear 3 (some .boolean) rmX4_hasNear D cy shX 38 a0 aT aP w0 [.ref (a0 3)] rv τ (fun u => u = (aT, aP)) := by
  refine zmet_z (by decide +kernel) rfl (Nat.le_of_ble_eq_true rfl) ?_
  intro p e s m below meth c A Q ls hC hA hZ hl hE
  have hx := hC.1.1
  have hb := hC.1.2.1
  have hl : lv_has ls 3 [(0, .ref (a0 3))] := hl
  unfold fX4_hasNear at hf
  refine lv_iconst (pc := 0) (v := (0 : Int32)) hx hb dX4_hasNear_0 (by decide) ?_
  refine lv_istore_n (pc := 1) (lv' := [(1, .int (0 : Int32)), (0, .ref (a0 3))]) hx hb dX4_hasNear_1 rfl hl (by decide) rfl (fun ls hl => ?_)
  refine wX4_hasNear_2 (res := (rv, τ)) N  hC hA hE N _ _ hf hZ (lv_sub hl [1, 0] rfl) (fun y9 w10 H locs ls hf hZ hl => ?_)
  refine lv_iconst (pc := 50) (v := (0 : Int32)) hx hb dX4_hasNear_50 (by decide) ?_
  obtain ⟨rfl, rfl⟩ := zinj hf
  exact hE (by decide) _ _ _ _ _ _ rfl hZ dX4_hasNear_51
