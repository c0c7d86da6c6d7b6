set_option maxHeartbeats 4000000 in
set_option maxRecDepth 100000 in
theorem cX7_count_ok (l : Launch) (D : va_G) (cy : Nat → ClassId) (a0 aT aP : Nat → Nat) (N : Nat) (x1 : Int32) (w0 : zS) (rv : Int32) (τ : zS) (hf : fX7_count N x1 w0 = some (rv, τ)) : zMi l yX7_count cX7_count 2 (some .int) rmX7_count D cy shX 38 a0 aT aP w0 [.ref (a0 0), .int x1] rv τ (fun u => u = (aT, aP)) := by
  refine zmet_i (by decide +kernel) (Or.inl rfl) (Nat.le_of_ble_eq_true rfl) ?_
  intro p e s m below meth c A Q ls hC hA hZ hl hE
  have hx := hC.1.1
  have hb := hC.1.2.1
  have hl : lv_has ls 2 [(0, .ref (a0 0)), (1, .int x1)] := hl
  unfold fX7_count at hf
  refine lv_iload_n (pc := 0) hx hb dX7_count_0 rfl (lv_at hl 1 rfl) ?_
  by_cases n0 : x1 = (0 : Int32)
  · rw [if_pos n0] at hf
    refine z_tabIn (pc := 1) (tgt := 52) hC n0 dX7_count_1 (by decide) (by decide) rfl (by decide) ?_
    refine lv_aload_n (pc := 52) hx hb dX7_count_52 rfl (lv_at hl 0 rfl) ?_
    refine gfX7_60 (pc := 53) hC hZ dX7_count_53 ?_
    obtain ⟨rfl, rfl⟩ := zinj hf
    exact hE _ _ _ _ _ _ rfl hZ dX7_count_56
  rw [if_neg n0] at hf
  by_cases n1 : x1 = (1 : Int32)
  · rw [if_pos n1] at hf
    refine z_tabIn (pc := 1) (tgt := 57) hC n1 dX7_count_1 (by decide) (by decide) rfl (by decide) ?_
    refine lv_aload_n (pc := 57) hx hb dX7_count_57 rfl (lv_at hl 0 rfl) ?_
    refine gfX7_64 (pc := 58) hC hZ dX7_count_58 ?_
    obtain ⟨rfl, rfl⟩ := zinj hf
    exact hE _ _ _ _ _ _ rfl hZ dX7_count_61
  rw [if_neg n1] at hf
  by_cases n2 : x1 = (2 : Int32)
  · rw [if_pos n2] at hf
    refine z_tabIn (pc := 1) (tgt := 62) hC n2 dX7_count_1 (by decide) (by decide) rfl (by decide) ?_
    refine lv_aload_n (pc := 62) hx hb dX7_count_62 rfl (lv_at hl 0 rfl) ?_
    refine gfX7_67 (pc := 63) hC hZ dX7_count_63 ?_
    obtain ⟨rfl, rfl⟩ := zinj hf
    exact hE _ _ _ _ _ _ rfl hZ dX7_count_66
  rw [if_neg n2] at hf
  by_cases n3 : x1 = (3 : Int32)
  · rw [if_pos n3] at hf
    refine z_tabIn (pc := 1) (tgt := 67) hC n3 dX7_count_1 (by decide) (by decide) rfl (by decide) ?_
    refine lv_aload_n (pc := 67) hx hb dX7_count_67 rfl (lv_at hl 0 rfl) ?_
    refine gfX7_35 (pc := 68) hC hZ dX7_count_68 ?_
    refine gfX7_122 (pc := 71) hC hZ dX7_count_71 ?_
    obtain ⟨rfl, rfl⟩ := zinj hf
    exact hE _ _ _ _ _ _ rfl hZ dX7_count_74
  rw [if_neg n3] at hf
  by_cases n4 : x1 = (4 : Int32)
  · rw [if_pos n4] at hf
    refine z_tabIn (pc := 1) (tgt := 75) hC n4 dX7_count_1 (by decide) (by decide) rfl (by decide) ?_
    refine lv_aload_n (pc := 75) hx hb dX7_count_75 rfl (lv_at hl 0 rfl) ?_
    refine gfX7_42 (pc := 76) hC hZ dX7_count_76 ?_
    refine gfX7_103 (pc := 79) hC hZ dX7_count_79 ?_
    obtain ⟨rfl, rfl⟩ := zinj hf
    exact hE _ _ _ _ _ _ rfl hZ dX7_count_82
  rw [if_neg n4] at hf
  by_cases n5 : x1 = (5 : Int32)
  · rw [if_pos n5] at hf
    refine z_tabIn (pc := 1) (tgt := 83) hC n5 dX7_count_1 (by decide) (by decide) rfl (by decide) ?_
    refine lv_aload_n (pc := 83) hx hb dX7_count_83 rfl (lv_at hl 0 rfl) ?_
    refine gfX7_42 (pc := 84) hC hZ dX7_count_84 ?_
    refine kX7_238 (pc := 87) hC hA hZ hf hl.1 (Nat.le_of_ble_eq_true rfl) ⟨Nat.le_of_ble_eq_true rfl, Nat.le_of_ble_eq_true rfl⟩ ⟨Nat.le_refl _, Nat.le_refl _⟩ dX7_count_87 (fun v2 w1 H locs hf hZ => ?_)
    obtain ⟨rfl, rfl⟩ := zinj hf
    exact hE _ _ _ _ _ _ rfl hZ dX7_count_90
  rw [if_neg n5] at hf
  by_cases n6 : x1 = (6 : Int32)
  · rw [if_pos n6] at hf
    refine z_tabIn (pc := 1) (tgt := 91) hC n6 dX7_count_1 (by decide) (by decide) rfl (by decide) ?_
    refine lv_aload_n (pc := 91) hx hb dX7_count_91 rfl (lv_at hl 0 rfl) ?_
    refine gfX7_42 (pc := 92) hC hZ dX7_count_92 ?_
    refine gfX7_125 (pc := 95) hC hZ dX7_count_95 ?_
    obtain ⟨rfl, rfl⟩ := zinj hf
    exact hE _ _ _ _ _ _ rfl hZ dX7_count_98
  rw [if_neg n6] at hf
  by_cases n7 : x1 = (7 : Int32)
  · rw [if_pos n7] at hf
    refine z_tabIn (pc := 1) (tgt := 99) hC n7 dX7_count_1 (by decide) (by decide) rfl (by decide) ?_
    refine lv_aload_n (pc := 99) hx hb dX7_count_99 rfl (lv_at hl 0 rfl) ?_
    refine gfX7_42 (pc := 100) hC hZ dX7_count_100 ?_
    refine kX7_241 (pc := 103) hC hA hZ hf hl.1 (Nat.le_of_ble_eq_true rfl) ⟨Nat.le_of_ble_eq_true rfl, Nat.le_of_ble_eq_true rfl⟩ ⟨Nat.le_refl _, Nat.le_refl _⟩ dX7_count_103 (fun v4 w3 H locs hf hZ => ?_)
    obtain ⟨rfl, rfl⟩ := zinj hf
    exact hE _ _ _ _ _ _ rfl hZ dX7_count_106
  rw [if_neg n7] at hf
  by_cases n8 : x1 = (8 : Int32)
  · rw [if_pos n8] at hf
    refine z_tabIn (pc := 1) (tgt := 107) hC n8 dX7_count_1 (by decide) (by decide) rfl (by decide) ?_
    refine lv_aload_n (pc := 107) hx hb dX7_count_107 rfl (lv_at hl 0 rfl) ?_
    refine gfX7_35 (pc := 108) hC hZ dX7_count_108 ?_
    refine gfX7_171 (pc := 111) hC hZ dX7_count_111 ?_
    obtain ⟨rfl, rfl⟩ := zinj hf
    exact hE _ _ _ _ _ _ rfl hZ dX7_count_114
  rw [if_neg n8] at hf
  refine lv_tableOut (pc := 1) (tgt := 115) hx hb dX7_count_1 (zsw_out (fun k h1 h2 h3 => by rcases (show k = 0 ∨ k = 1 ∨ k = 2 ∨ k = 3 ∨ k = 4 ∨ k = 5 ∨ k = 6 ∨ k = 7 ∨ k = 8 by omega) with rfl | rfl | rfl | rfl | rfl | rfl | rfl | rfl | rfl <;> first | exact n0 h3 | exact n1 h3 | exact n2 h3 | exact n3 h3 | exact n4 h3 | exact n5 h3 | exact n6 h3 | exact n7 h3 | exact n8 h3)) (by decide) ?_
  refine lv_aload_n (pc := 115) hx hb dX7_count_115 rfl (lv_at hl 0 rfl) ?_
  refine lv_bipush (pc := 116) (v := (10 : Int32)) hx hb dX7_count_116 (by decide) ?_
  refine lv_iload_n (pc := 118) hx hb dX7_count_118 rfl (lv_at hl 1 rfl) ?_
  refine lv_isub (pc := 119) hx hb dX7_count_119 ?_
  refine kX7_244 (pc := 120) hC hA hZ hf hl.1 (Nat.le_of_ble_eq_true rfl) ⟨Nat.le_of_ble_eq_true rfl, Nat.le_of_ble_eq_true rfl⟩ ⟨Nat.le_refl _, Nat.le_refl _⟩ dX7_count_120 (fun v6 w5 H locs hf hZ => ?_)
  obtain ⟨rfl, rfl⟩ := zinj hf
  exact hE _ _ _ _ _ _ rfl hZ dX7_count_123
set_option maxHeartbeats 4000000 in
set_option maxRecDepth 100000 in
theorem cX8_in_ok (l : Launch) (D : va_G) (cy : Nat → ClassId) (a0 aT aP : Nat → Nat) (N : Nat) (x0 : Int32) (x1 : Int32) (x2 : Int32) (w0 : zS) (rv : Int32) (τ : zS) (hf : fX8_in N x0 x1 x2 w0 = some (rv, τ)) : zMi l yX8_in cX8_in 3 (some .boolean) rmX8_in D cy shM 35 a0 aT aP w0 [.int x0, .int x1, .int x2] rv τ (fun u => u = (aT, aP)) := by
  refine zmet_z (by decide +kernel) rfl (Nat.le_of_ble_eq_true rfl) ?_
  intro p e s m below meth c A Q ls hC hA hZ hl hE
  have hx := hC.1.1
  have hb := hC.1.2.1
  have hl : lv_has ls 3 [(0, .int x0), (1, .int x1), (2, .int x2)] := hl
  unfold fX8_in at hf
  refine lv_iload_n (pc := 0) hx hb dX8_in_0 rfl (lv_at hl 0 rfl) ?_
  refine lv_iload_n (pc := 1) hx hb dX8_in_1 rfl (lv_at hl 1 rfl) ?_
  refine z_ilt (pc := 2) (tgt := 14) hC hf dX8_in_2 (by decide) (fun hf => ?_) (fun hf => ?_)
  · refine lv_iconst (pc := 14) (v := (0 : Int32)) hx hb dX8_in_14 (by decide) ?_
    obtain ⟨rfl, rfl⟩ := zinj hf
    exact hE (by decide) _ _ _ _ _ _ rfl hZ dX8_in_15
  refine lv_iload_n (pc := 5) hx hb dX8_in_5 rfl (lv_at hl 0 rfl) ?_
  refine lv_iload_n (pc := 6) hx hb dX8_in_6 rfl (lv_at hl 2 rfl) ?_
  refine z_igt (pc := 7) (tgt := 14) hC hf dX8_in_7 (by decide) (fun hf => ?_) (fun hf => ?_)
  · refine lv_iconst (pc := 14) (v := (0 : Int32)) hx hb dX8_in_14 (by decide) ?_
    obtain ⟨rfl, rfl⟩ := zinj hf
    exact hE (by decide) _ _ _ _ _ _ rfl hZ dX8_in_15
  refine lv_iconst (pc := 10) (v := (1 : Int32)) hx hb dX8_in_10 (by decide) ?_
  refine lv_goto (pc := 11) (tgt := 15) hx hb dX8_in_11 (by decide) ?_
  obtain ⟨rfl, rfl⟩ := zinj hf
  exact hE (by decide) _ _ _ _ _ _ rfl hZ dX8_in_15
section ZK
variable {p : Program} {l : Launch} {e : Env} {R : Room} {s : State} {m : MethodId} {args : Array Value} {below : List Frame} {meth : Method} {c : Code} {H : Heap} {locs : List Loc} {cells slots : Nat} {Q : State → Prop}
variable {pc : Nat} {ls : Array Slot} {rest : List Value} {A : Nat → Prop} {H0 : Heap} {D : va_G} {cy : Nat → ClassId} {a0 aT aP : Nat → Nat} {σ : zS} {cc : ByteArray} {nL : Nat} {α : Type} {res : α}
theorem vkX8_119 : zSk RX8 119 yX8_in cX8_in 3 (some .boolean) 3 := ⟨by decide +kernel, by decide +kernel, by decide +kernel, by decide +kernel, by decide +kernel⟩
theorem kX8_119 (hC : zC p s m args c RX8 cc nL D cy) (hA : ∀ q, H0.size ≤ q → A q) (hZ : zW D cy shM 35 a0 aT aP A H0 σ H locs) {N : Nat} {x0 : Int32} {x1 : Int32} {x2 : Int32} {k : Int32 → zS → Option α} (hf : zbi (fX8_in N x0 x1 x2 σ) k = some res) (hsz : ls.size = nL) (hW : (rest.map fun v => v.category).sum ≤ 8) (hR : rmX8_in.frames + 1 ≤ R.frames ∧ 8 + (3 + 11) + rmX8_in.locals ≤ R.locals) (hcs : cells ≤ R.cells ∧ slots ≤ R.slots) (hdg : decode cc pc = .ok (.invokestatic 119, 3)) (kk : ∀ (v : Int32) (τ : zS) (H1 : Heap) (locs1 : List Loc), k v τ = some res → zW D cy shM 35 a0 aT aP A H0 τ H1 locs1 → W p l e R s m args below meth c H1 locs1 cells slots Q (F0 m (pc + 3) ls (.int v :: rest))) : W p l e R s m args below meth c H locs cells slots Q (F0 m pc ls (.int x2 :: .int x1 :: .int x0 :: rest)) := by
  cases hq : fX8_in N x0 x1 x2 σ with
  | none => rw [hq] at hf; cases hf
  | some q =>
    rw [hq] at hf
    exact zcalli hA hZ (zrunS hC hZ vkX8_119 (cX8_in_ok l D cy a0 aT aP N x0 x1 x2 σ q.1 q.2 hq H.size) hR rfl hsz rfl hW hcs hdg) (fun u H1 locs1 hU hZ1 => by subst hU; exact kk q.1 q.2 H1 locs1 hf hZ1)
end ZK
set_option maxHeartbeats 4000000 in
set_option maxRecDepth 100000 in
theorem cX8_refuse_ok (l : Launch) (D : va_G) (cy : Nat → ClassId) (a0 aT aP : Nat → Nat) (N : Nat) (x1 : Int32) (w0 : zS) (rv : Int32) (τ : zS) (hf : fX8_refuse N x1 w0 = some (rv, τ)) : zMi l yX8_refuse cX8_refuse 2 (some .int) rmX8_refuse D cy shM 35 a0 aT aP w0 [.ref (a0 0), .int x1] rv τ (fun u => u = (aT, aP)) := by
  refine zmet_i (by decide +kernel) (Or.inl rfl) (Nat.le_of_ble_eq_true rfl) ?_
  intro p e s m below meth c A Q ls hC hA hZ hl hE
  have hx := hC.1.1
  have hb := hC.1.2.1
  have hl : lv_has ls 2 [(0, .ref (a0 0)), (1, .int x1)] := hl
  unfold fX8_refuse at hf
  refine lv_aload_n (pc := 0) hx hb dX8_refuse_0 rfl (lv_at hl 0 rfl) ?_
  refine gfX8_87 (pc := 1) hC hZ dX8_refuse_1 ?_
  refine lv_iload_n (pc := 4) hx hb dX8_refuse_4 rfl (lv_at hl 1 rfl) ?_
  refine lv_ineg (pc := 5) hx hb dX8_refuse_5 ?_
  refine lv_dup2_11 (pc := 6) hx hb dX8_refuse_6 rfl rfl ?_
  refine z_iald (pc := 7) hC hZ (by decide) rfl hf dX8_refuse_7 (fun v1 hf => ?_)
  refine lv_iconst (pc := 8) (v := (1 : Int32)) hx hb dX8_refuse_8 (by decide) ?_
  refine lv_iadd (pc := 9) hx hb dX8_refuse_9 ?_
  refine z_iast (pc := 10) hC hZ (by decide) rfl hf dX8_refuse_10 (fun w2 H locs hf hZ => ?_)
  refine lv_iload_n (pc := 11) hx hb dX8_refuse_11 rfl (lv_at hl 1 rfl) ?_
  obtain ⟨rfl, rfl⟩ := zinj hf
  exact hE _ _ _ _ _ _ rfl hZ dX8_refuse_12
section ZK
variable {p : Program} {l : Launch} {e : Env} {R : Room} {s : State} {m : MethodId} {args : Array Value} {below : List Frame} {meth : Method} {c : Code} {H : Heap} {locs : List Loc} {cells slots : Nat} {Q : State → Prop}
variable {pc : Nat} {ls : Array Slot} {rest : List Value} {A : Nat → Prop} {H0 : Heap} {D : va_G} {cy : Nat → ClassId} {a0 aT aP : Nat → Nat} {σ : zS} {cc : ByteArray} {nL : Nat} {α : Type} {res : α}
theorem vkX8_126 : zVk RX8 126 yX8_refuse cX8_refuse 2 (some .int) 1 := ⟨by decide +kernel, by decide +kernel, by decide +kernel, by decide +kernel, by decide +kernel, by decide +kernel⟩
theorem kX8_126 (hC : zC p s m args c RX8 cc nL D cy) (hA : ∀ q, H0.size ≤ q → A q) (hZ : zW D cy shM 35 a0 aT aP A H0 σ H locs) {N : Nat} {x1 : Int32} {k : Int32 → zS → Option α} (hf : zbi (fX8_refuse N x1 σ) k = some res) (hsz : ls.size = nL) (hW : (rest.map fun v => v.category).sum ≤ 8) (hR : rmX8_refuse.frames + 1 ≤ R.frames ∧ 8 + (2 + 11) + rmX8_refuse.locals ≤ R.locals) (hcs : cells ≤ R.cells ∧ slots ≤ R.slots) (hdg : decode cc pc = .ok (.invokevirtual 126, 3)) (kk : ∀ (v : Int32) (τ : zS) (H1 : Heap) (locs1 : List Loc), k v τ = some res → zW D cy shM 35 a0 aT aP A H0 τ H1 locs1 → W p l e R s m args below meth c H1 locs1 cells slots Q (F0 m (pc + 3) ls (.int v :: rest))) : W p l e R s m args below meth c H locs cells slots Q (F0 m pc ls (.int x1 :: .ref (a0 0) :: rest)) := by
  cases hq : fX8_refuse N x1 σ with
  | none => rw [hq] at hf; cases hf
  | some q =>
    rw [hq] at hf
    exact zcalli hA hZ (zrun hC hZ vkX8_126 rfl (zw0 (by decide)) (cX8_refuse_ok l D cy a0 aT aP N x1 σ q.1 q.2 hq H.size) hR rfl hsz rfl hW hcs hdg) (fun u H1 locs1 hU hZ1 => by subst hU; exact kk q.1 q.2 H1 locs1 hf hZ1)
end ZK
set_option maxHeartbeats 4000000 in
set_option maxRecDepth 100000 in
theorem cX8_refuseBig_ok (l : Launch) (D : va_G) (cy : Nat → ClassId) (a0 aT aP : Nat → Nat) (N : Nat) (x1 : Int32) (w0 : zS) (rv : Int32) (τ : zS) (hf : fX8_refuseBig N x1 w0 = some (rv, τ)) : zMi l yX8_refuseBig cX8_refuseBig 2 (some .int) rmX8_refuseBig D cy shM 35 a0 aT aP w0 [.ref (a0 0), .int x1] rv τ (fun u => u = (aT, aP)) := by
  refine zmet_i (by decide +kernel) (Or.inl rfl) (Nat.le_of_ble_eq_true rfl) ?_
  intro p e s m below meth c A Q ls hC hA hZ hl hE
  have hx := hC.1.1
  have hb := hC.1.2.1
  have hl : lv_has ls 2 [(0, .ref (a0 0)), (1, .int x1)] := hl
  unfold fX8_refuseBig at hf
  refine lv_aload_n (pc := 0) hx hb dX8_refuseBig_0 rfl (lv_at hl 0 rfl) ?_
  refine gfX8_87 (pc := 1) hC hZ dX8_refuseBig_1 ?_
  refine lv_iload_n (pc := 4) hx hb dX8_refuseBig_4 rfl (lv_at hl 1 rfl) ?_
  refine lv_ineg (pc := 5) hx hb dX8_refuseBig_5 ?_
  refine lv_dup2_11 (pc := 6) hx hb dX8_refuseBig_6 rfl rfl ?_
  refine z_iald (pc := 7) hC hZ (by decide) rfl hf dX8_refuseBig_7 (fun v1 hf => ?_)
  refine lv_iconst (pc := 8) (v := (1 : Int32)) hx hb dX8_refuseBig_8 (by decide) ?_
  refine lv_iadd (pc := 9) hx hb dX8_refuseBig_9 ?_
  refine z_iast (pc := 10) hC hZ (by decide) rfl hf dX8_refuseBig_10 (fun w2 H locs hf hZ => ?_)
  refine lv_ldc (pc := 11) (v := (1000000000 : Int32)) hx hb hC.1.2.2.2.1 (hC.1.2.2.2.2 _ kcX8_114) dX8_refuseBig_11 ?_
  refine lv_iload_n (pc := 13) hx hb dX8_refuseBig_13 rfl (lv_at hl 1 rfl) ?_
  refine lv_isub (pc := 14) hx hb dX8_refuseBig_14 ?_
  obtain ⟨rfl, rfl⟩ := zinj hf
  exact hE _ _ _ _ _ _ rfl hZ dX8_refuseBig_15
section ZK
variable {p : Program} {l : Launch} {e : Env} {R : Room} {s : State} {m : MethodId} {args : Array Value} {below : List Frame} {meth : Method} {c : Code} {H : Heap} {locs : List Loc} {cells slots : Nat} {Q : State → Prop}
variable {pc : Nat} {ls : Array Slot} {rest : List Value} {A : Nat → Prop} {H0 : Heap} {D : va_G} {cy : Nat → ClassId} {a0 aT aP : Nat → Nat} {σ : zS} {cc : ByteArray} {nL : Nat} {α : Type} {res : α}
theorem vkX8_146 : zVk RX8 146 yX8_refuseBig cX8_refuseBig 2 (some .int) 1 := ⟨by decide +kernel, by decide +kernel, by decide +kernel, by decide +kernel, by decide +kernel, by decide +kernel⟩
theorem kX8_146 (hC : zC p s m args c RX8 cc nL D cy) (hA : ∀ q, H0.size ≤ q → A q) (hZ : zW D cy shM 35 a0 aT aP A H0 σ H locs) {N : Nat} {x1 : Int32} {k : Int32 → zS → Option α} (hf : zbi (fX8_refuseBig N x1 σ) k = some res) (hsz : ls.size = nL) (hW : (rest.map fun v => v.category).sum ≤ 8) (hR : rmX8_refuseBig.frames + 1 ≤ R.frames ∧ 8 + (2 + 11) + rmX8_refuseBig.locals ≤ R.locals) (hcs : cells ≤ R.cells ∧ slots ≤ R.slots) (hdg : decode cc pc = .ok (.invokevirtual 146, 3)) (kk : ∀ (v : Int32) (τ : zS) (H1 : Heap) (locs1 : List Loc), k v τ = some res → zW D cy shM 35 a0 aT aP A H0 τ H1 locs1 → W p l e R s m args below meth c H1 locs1 cells slots Q (F0 m (pc + 3) ls (.int v :: rest))) : W p l e R s m args below meth c H locs cells slots Q (F0 m pc ls (.int x1 :: .ref (a0 0) :: rest)) := by
  cases hq : fX8_refuseBig N x1 σ with
  | none => rw [hq] at hf; cases hf
  | some q =>
    rw [hq] at hf
    exact zcalli hA hZ (zrun hC hZ vkX8_146 rfl (zw0 (by decide)) (cX8_refuseBig_ok l D cy a0 aT aP N x1 σ q.1 q.2 hq H.size) hR rfl hsz rfl hW hcs hdg) (fun u H1 locs1 hU hZ1 => by subst hU; exact kk q.1 q.2 H1 locs1 hf hZ1)
end ZK
set_option maxHeartbeats 4000000 in
set_option maxRecDepth 100000 in
theorem cX8_isHouse_ok (l : Launch) (D : va_G) (cy : Nat → ClassId) (a0 aT aP : Nat → Nat) (N : Nat) (x1 : Int32) (w0 : zS) (rv : Int32) (τ : zS) (hf : fX8_isHouse N x1 w0 = some (rv, τ)) : zMi l yX8_isHouse cX8_isHouse 2 (some .boolean) rmX8_isHouse D cy shM 35 a0 aT aP w0 [.ref (a0 0), .int x1] rv τ (fun u => u = (aT, aP)) := by
  refine zmet_z (by decide +kernel) rfl (Nat.le_of_ble_eq_true rfl) ?_
  intro p e s m below meth c A Q ls hC hA hZ hl hE
  have hx := hC.1.1
  have hb := hC.1.2.1
  have hl : lv_has ls 2 [(0, .ref (a0 0)), (1, .int x1)] := hl
  unfold fX8_isHouse at hf
  refine lv_iload_n (pc := 0) hx hb dX8_isHouse_0 rfl (lv_at hl 1 rfl) ?_
  refine lv_iconst (pc := 1) (v := (0 : Int32)) hx hb dX8_isHouse_1 (by decide) ?_
  refine lv_aload_n (pc := 2) hx hb dX8_isHouse_2 rfl (lv_at hl 0 rfl) ?_
  refine gfX8_115 (pc := 3) hC hZ dX8_isHouse_3 ?_
  refine lv_iconst (pc := 6) (v := (1 : Int32)) hx hb dX8_isHouse_6 (by decide) ?_
  refine lv_isub (pc := 7) hx hb dX8_isHouse_7 ?_
  refine kX8_119 (pc := 8) hC hA hZ hf hl.1 (Nat.le_of_ble_eq_true rfl) ⟨Nat.le_of_ble_eq_true rfl, Nat.le_of_ble_eq_true rfl⟩ ⟨Nat.le_refl _, Nat.le_refl _⟩ dX8_isHouse_8 (fun v2 w1 H locs hf hZ => ?_)
  by_cases hz : v2 = 0 ∨ v2 = 1
  · rw [if_pos hz] at hf
    obtain ⟨rfl, rfl⟩ := zinj hf
    exact hE hz _ _ _ _ _ _ rfl hZ dX8_isHouse_11
  rw [if_neg hz] at hf
  cases hf
section ZK
variable {p : Program} {l : Launch} {e : Env} {R : Room} {s : State} {m : MethodId} {args : Array Value} {below : List Frame} {meth : Method} {c : Code} {H : Heap} {locs : List Loc} {cells slots : Nat} {Q : State → Prop}
variable {pc : Nat} {ls : Array Slot} {rest : List Value} {A : Nat → Prop} {H0 : Heap} {D : va_G} {cy : Nat → ClassId} {a0 aT aP : Nat → Nat} {σ : zS} {cc : ByteArray} {nL : Nat} {α : Type} {res : α}
theorem vkX8_139 : zVk RX8 139 yX8_isHouse cX8_isHouse 2 (some .boolean) 1 := ⟨by decide +kernel, by decide +kernel, by decide +kernel, by decide +kernel, by decide +kernel, by decide +kernel⟩
theorem kX8_139 (hC : zC p s m args c RX8 cc nL D cy) (hA : ∀ q, H0.size ≤ q → A q) (hZ : zW D cy shM 35 a0 aT aP A H0 σ H locs) {N : Nat} {x1 : Int32} {k : Int32 → zS → Option α} (hf : zbi (fX8_isHouse N x1 σ) k = some res) (hsz : ls.size = nL) (hW : (rest.map fun v => v.category).sum ≤ 8) (hR : rmX8_isHouse.frames + 1 ≤ R.frames ∧ 8 + (2 + 11) + rmX8_isHouse.locals ≤ R.locals) (hcs : cells ≤ R.cells ∧ slots ≤ R.slots) (hdg : decode cc pc = .ok (.invokevirtual 139, 3)) (kk : ∀ (v : Int32) (τ : zS) (H1 : Heap) (locs1 : List Loc), k v τ = some res → zW D cy shM 35 a0 aT aP A H0 τ H1 locs1 → W p l e R s m args below meth c H1 locs1 cells slots Q (F0 m (pc + 3) ls (.int v :: rest))) : W p l e R s m args below meth c H locs cells slots Q (F0 m pc ls (.int x1 :: .ref (a0 0) :: rest)) := by
  cases hq : fX8_isHouse N x1 σ with
  | none => rw [hq] at hf; cases hf
  | some q =>
    rw [hq] at hf
    exact zcalli hA hZ (zrun hC hZ vkX8_139 rfl (zw0 (by decide)) (cX8_isHouse_ok l D cy a0 aT aP N x1 σ q.1 q.2 hq H.size) hR rfl hsz rfl hW hcs hdg) (fun u H1 locs1 hU hZ1 => by subst hU; exact kk q.1 q.2 H1 locs1 hf hZ1)
end ZK
set_option maxHeartbeats 4000000 in
set_option maxRecDepth 100000 in
theorem cX8_isKind_ok (l : Launch) (D : va_G) (cy : Nat → ClassId) (a0 aT aP : Nat → Nat) (N : Nat) (x1 : Int32) (w0 : zS) (rv : Int32) (τ : zS) (hf : fX8_isKind N x1 w0 = some (rv, τ)) : zMi l yX8_isKind cX8_isKind 2 (some .boolean) rmX8_isKind D cy shM 35 a0 aT aP w0 [.ref (a0 0), .int x1] rv τ (fun u => u = (aT, aP)) := by
  refine zmet_z (by decide +kernel) rfl (Nat.le_of_ble_eq_true rfl) ?_
  intro p e s m below meth c A Q ls hC hA hZ hl hE
  have hx := hC.1.1
  have hb := hC.1.2.1
  have hl : lv_has ls 2 [(0, .ref (a0 0)), (1, .int x1)] := hl
  unfold fX8_isKind at hf
  refine lv_iload_n (pc := 0) hx hb dX8_isKind_0 rfl (lv_at hl 1 rfl) ?_
  refine lv_iconst (pc := 1) (v := (0 : Int32)) hx hb dX8_isKind_1 (by decide) ?_
  refine lv_aload_n (pc := 2) hx hb dX8_isKind_2 rfl (lv_at hl 0 rfl) ?_
  refine gfX8_123 (pc := 3) hC hZ dX8_isKind_3 ?_
  refine lv_iconst (pc := 6) (v := (1 : Int32)) hx hb dX8_isKind_6 (by decide) ?_
  refine lv_isub (pc := 7) hx hb dX8_isKind_7 ?_
  refine kX8_119 (pc := 8) hC hA hZ hf hl.1 (Nat.le_of_ble_eq_true rfl) ⟨Nat.le_of_ble_eq_true rfl, Nat.le_of_ble_eq_true rfl⟩ ⟨Nat.le_refl _, Nat.le_refl _⟩ dX8_isKind_8 (fun v2 w1 H locs hf hZ => ?_)
  by_cases hz : v2 = 0 ∨ v2 = 1
  · rw [if_pos hz] at hf
    obtain ⟨rfl, rfl⟩ := zinj hf
    exact hE hz _ _ _ _ _ _ rfl hZ dX8_isKind_11
  rw [if_neg hz] at hf
  cases hf
section ZK
variable {p : Program} {l : Launch} {e : Env} {R : Room} {s : State} {m : MethodId} {args : Array Value} {below : List Frame} {meth : Method} {c : Code} {H : Heap} {locs : List Loc} {cells slots : Nat} {Q : State → Prop}
variable {pc : Nat} {ls : Array Slot} {rest : List Value} {A : Nat → Prop} {H0 : Heap} {D : va_G} {cy : Nat → ClassId} {a0 aT aP : Nat → Nat} {σ : zS} {cc : ByteArray} {nL : Nat} {α : Type} {res : α}
theorem vkX8_143 : zVk RX8 143 yX8_isKind cX8_isKind 2 (some .boolean) 1 := ⟨by decide +kernel, by decide +kernel, by decide +kernel, by decide +kernel, by decide +kernel, by decide +kernel⟩
theorem kX8_143 (hC : zC p s m args c RX8 cc nL D cy) (hA : ∀ q, H0.size ≤ q → A q) (hZ : zW D cy shM 35 a0 aT aP A H0 σ H locs) {N : Nat} {x1 : Int32} {k : Int32 → zS → Option α} (hf : zbi (fX8_isKind N x1 σ) k = some res) (hsz : ls.size = nL) (hW : (rest.map fun v => v.category).sum ≤ 8) (hR : rmX8_isKind.frames + 1 ≤ R.frames ∧ 8 + (2 + 11) + rmX8_isKind.locals ≤ R.locals) (hcs : cells ≤ R.cells ∧ slots ≤ R.slots) (hdg : decode cc pc = .ok (.invokevirtual 143, 3)) (kk : ∀ (v : Int32) (τ : zS) (H1 : Heap) (locs1 : List Loc), k v τ = some res → zW D cy shM 35 a0 aT aP A H0 τ H1 locs1 → W p l e R s m args below meth c H1 locs1 cells slots Q (F0 m (pc + 3) ls (.int v :: rest))) : W p l e R s m args below meth c H locs cells slots Q (F0 m pc ls (.int x1 :: .ref (a0 0) :: rest)) := by
  cases hq : fX8_isKind N x1 σ with
  | none => rw [hq] at hf; cases hf
  | some q =>
    rw [hq] at hf
    exact zcalli hA hZ (zrun hC hZ vkX8_143 rfl (zw0 (by decide)) (cX8_isKind_ok l D cy a0 aT aP N x1 σ q.1 q.2 hq H.size) hR rfl hsz rfl hW hcs hdg) (fun u H1 locs1 hU hZ1 => by subst hU; exact kk q.1 q.2 H1 locs1 hf hZ1)
end ZK
set_option maxHeartbeats 4000000 in
set_option maxRecDepth 100000 in
theorem cX8_house_ok (l : Launch) (D : va_G) (cy : Nat → ClassId) (a0 aT aP : Nat → Nat) (N : Nat)  (w0 : zS) (rv : Int32) (τ : zS) (hf : fX8_house N  w0 = some (rv, τ)) : zMi l yX8_house cX8_house 1 (some .int) rmX8_house D cy shM 35 a0 aT aP w0 [.ref (a0 0)] rv τ (fun u => u = (aT, aP)) := by
  refine zmet_i (by decide +kernel) (Or.inl rfl) (Nat.le_of_ble_eq_true rfl) ?_
  intro p e s m below meth c A Q ls hC hA hZ hl hE
  have hx := hC.1.1
  have hb := hC.1.2.1
  have hl : lv_has ls 1 [(0, .ref (a0 0))] := hl
  unfold fX8_house at hf
  refine lv_aload_n (pc := 0) hx hb dX8_house_0 rfl (lv_at hl 0 rfl) ?_
  refine gfX8_115 (pc := 1) hC hZ dX8_house_1 ?_
  refine lv_bipush (pc := 4) (v := (10 : Int32)) hx hb dX8_house_4 (by decide) ?_
  refine z_ine (pc := 6) (tgt := 16) hC hf dX8_house_6 (by decide) (fun hf => ?_) (fun hf => ?_)
  · refine lv_aload_n (pc := 9) hx hb dX8_house_9 rfl (lv_at hl 0 rfl) ?_
    refine lv_bipush (pc := 10) (v := (-6 : Int32)) hx hb dX8_house_10 (by decide) ?_
    refine kX8_126 (pc := 12) hC hA hZ hf hl.1 (Nat.le_of_ble_eq_true rfl) ⟨Nat.le_of_ble_eq_true rfl, Nat.le_of_ble_eq_true rfl⟩ ⟨Nat.le_refl _, Nat.le_refl _⟩ dX8_house_12 (fun v2 w1 H locs hf hZ => ?_)
    obtain ⟨rfl, rfl⟩ := zinj hf
    exact hE _ _ _ _ _ _ rfl hZ dX8_house_15
  refine lv_aload_n (pc := 16) hx hb dX8_house_16 rfl (lv_at hl 0 rfl) ?_
  refine lv_dup (pc := 17) hx hb dX8_house_17 rfl ?_
  refine gfX8_115 (pc := 18) hC hZ dX8_house_18 ?_
  refine lv_iconst (pc := 21) (v := (1 : Int32)) hx hb dX8_house_21 (by decide) ?_
  refine lv_iadd (pc := 22) hx hb dX8_house_22 ?_
  refine pfX8_115 (pc := 23) hC hZ hf dX8_house_23 (fun w3 H locs hf hZ => ?_)
  refine lv_aload_n (pc := 26) hx hb dX8_house_26 rfl (lv_at hl 0 rfl) ?_
  refine gfX8_115 (pc := 27) hC hZ dX8_house_27 ?_
  refine lv_iconst (pc := 30) (v := (1 : Int32)) hx hb dX8_house_30 (by decide) ?_
  refine lv_isub (pc := 31) hx hb dX8_house_31 ?_
  obtain ⟨rfl, rfl⟩ := zinj hf
  exact hE _ _ _ _ _ _ rfl hZ dX8_house_32
set_option maxHeartbeats 4000000 in
set_option maxRecDepth 100000 in
theorem cX8_kind_ok (l : Launch) (D : va_G) (cy : Nat → ClassId) (a0 aT aP : Nat → Nat) (N : Nat) (x1 : Int32) (x2 : Int32) (w0 : zS) (rv : Int32) (τ : zS) (hf : fX8_kind N x1 x2 w0 = some (rv, τ)) : zMi l yX8_kind cX8_kind 3 (some .int) rmX8_kind D cy shM 35 a0 aT aP w0 [.ref (a0 0), .int x1, .int x2] rv τ (fun u => u = (aT, aP)) := by
  refine zmet_i (by decide +kernel) (Or.inl rfl) (Nat.le_of_ble_eq_true rfl) ?_
  intro p e s m below meth c A Q ls hC hA hZ hl hE
  have hx := hC.1.1
  have hb := hC.1.2.1
  have hl : lv_has ls 3 [(0, .ref (a0 0)), (1, .int x1), (2, .int x2)] := hl
  unfold fX8_kind at hf
  refine lv_iload_n (pc := 0) hx hb dX8_kind_0 rfl (lv_at hl 1 rfl) ?_
  refine lv_iconst (pc := 1) (v := (1 : Int32)) hx hb dX8_kind_1 (by decide) ?_
  refine z_ilt (pc := 2) (tgt := 9) hC hf dX8_kind_2 (by decide) (fun hf => ?_) (fun hf => ?_)
  · refine lv_aload_n (pc := 9) hx hb dX8_kind_9 rfl (lv_at hl 0 rfl) ?_
    refine lv_bipush (pc := 10) (v := (-4 : Int32)) hx hb dX8_kind_10 (by decide) ?_
    refine kX8_126 (pc := 12) hC hA hZ hf hl.1 (Nat.le_of_ble_eq_true rfl) ⟨Nat.le_of_ble_eq_true rfl, Nat.le_of_ble_eq_true rfl⟩ ⟨Nat.le_refl _, Nat.le_refl _⟩ dX8_kind_12 (fun v2 w1 H locs hf hZ => ?_)
    obtain ⟨rfl, rfl⟩ := zinj hf
    exact hE _ _ _ _ _ _ rfl hZ dX8_kind_15
  refine lv_iload_n (pc := 5) hx hb dX8_kind_5 rfl (lv_at hl 2 rfl) ?_
  refine z_ge0 (pc := 6) (tgt := 16) hC hf dX8_kind_6 (by decide) (fun hf => ?_) (fun hf => ?_)
  · refine lv_iload_n (pc := 16) hx hb dX8_kind_16 rfl (lv_at hl 1 rfl) ?_
    refine lv_sipush (pc := 17) (v := (1000 : Int32)) hx hb dX8_kind_17 (by decide) ?_
    refine z_igt (pc := 20) (tgt := 38) hC hf dX8_kind_20 (by decide) (fun hf => ?_) (fun hf => ?_)
    · refine lv_aload_n (pc := 38) hx hb dX8_kind_38 rfl (lv_at hl 0 rfl) ?_
      refine lv_bipush (pc := 39) (v := (-6 : Int32)) hx hb dX8_kind_39 (by decide) ?_
      refine kX8_126 (pc := 41) hC hA hZ hf hl.1 (Nat.le_of_ble_eq_true rfl) ⟨Nat.le_of_ble_eq_true rfl, Nat.le_of_ble_eq_true rfl⟩ ⟨Nat.le_refl _, Nat.le_refl _⟩ dX8_kind_41 (fun v4 w3 H locs hf hZ => ?_)
      obtain ⟨rfl, rfl⟩ := zinj hf
      exact hE _ _ _ _ _ _ rfl hZ dX8_kind_44
    refine lv_iload_n (pc := 23) hx hb dX8_kind_23 rfl (lv_at hl 2 rfl) ?_
    refine lv_bipush (pc := 24) (v := (100 : Int32)) hx hb dX8_kind_24 (by decide) ?_
    refine z_igt (pc := 26) (tgt := 38) hC hf dX8_kind_26 (by decide) (fun hf => ?_) (fun hf => ?_)
    · refine lv_aload_n (pc := 38) hx hb dX8_kind_38 rfl (lv_at hl 0 rfl) ?_
      refine lv_bipush (pc := 39) (v := (-6 : Int32)) hx hb dX8_kind_39 (by decide) ?_
      refine kX8_126 (pc := 41) hC hA hZ hf hl.1 (Nat.le_of_ble_eq_true rfl) ⟨Nat.le_of_ble_eq_true rfl, Nat.le_of_ble_eq_true rfl⟩ ⟨Nat.le_refl _, Nat.le_refl _⟩ dX8_kind_41 (fun v6 w5 H locs hf hZ => ?_)
      obtain ⟨rfl, rfl⟩ := zinj hf
      exact hE _ _ _ _ _ _ rfl hZ dX8_kind_44
    refine lv_aload_n (pc := 29) hx hb dX8_kind_29 rfl (lv_at hl 0 rfl) ?_
    refine gfX8_123 (pc := 30) hC hZ dX8_kind_30 ?_
    refine lv_bipush (pc := 33) (v := (6 : Int32)) hx hb dX8_kind_33 (by decide) ?_
    refine z_ine (pc := 35) (tgt := 45) hC hf dX8_kind_35 (by decide) (fun hf => ?_) (fun hf => ?_)
    · refine lv_aload_n (pc := 38) hx hb dX8_kind_38 rfl (lv_at hl 0 rfl) ?_
      refine lv_bipush (pc := 39) (v := (-6 : Int32)) hx hb dX8_kind_39 (by decide) ?_
      refine kX8_126 (pc := 41) hC hA hZ hf hl.1 (Nat.le_of_ble_eq_true rfl) ⟨Nat.le_of_ble_eq_true rfl, Nat.le_of_ble_eq_true rfl⟩ ⟨Nat.le_refl _, Nat.le_refl _⟩ dX8_kind_41 (fun v8 w7 H locs hf hZ => ?_)
      obtain ⟨rfl, rfl⟩ := zinj hf
      exact hE _ _ _ _ _ _ rfl hZ dX8_kind_44
    refine lv_aload_n (pc := 45) hx hb dX8_kind_45 rfl (lv_at hl 0 rfl) ?_
    refine gfX8_7 (pc := 46) hC hZ dX8_kind_46 ?_
    refine lv_aload_n (pc := 49) hx hb dX8_kind_49 rfl (lv_at hl 0 rfl) ?_
    refine gfX8_123 (pc := 50) hC hZ dX8_kind_50 ?_
    refine lv_iload_n (pc := 53) hx hb dX8_kind_53 rfl (lv_at hl 1 rfl) ?_
    refine z_iast (pc := 54) hC hZ (by decide) rfl hf dX8_kind_54 (fun w9 H locs hf hZ => ?_)
    refine lv_aload_n (pc := 55) hx hb dX8_kind_55 rfl (lv_at hl 0 rfl) ?_
    refine gfX8_13 (pc := 56) hC hZ dX8_kind_56 ?_
    refine lv_aload_n (pc := 59) hx hb dX8_kind_59 rfl (lv_at hl 0 rfl) ?_
    refine gfX8_123 (pc := 60) hC hZ dX8_kind_60 ?_
    refine lv_iload_n (pc := 63) hx hb dX8_kind_63 rfl (lv_at hl 2 rfl) ?_
    refine z_iast (pc := 64) hC hZ (by decide) rfl hf dX8_kind_64 (fun w10 H locs hf hZ => ?_)
    refine lv_aload_n (pc := 65) hx hb dX8_kind_65 rfl (lv_at hl 0 rfl) ?_
    refine lv_dup (pc := 66) hx hb dX8_kind_66 rfl ?_
    refine gfX8_123 (pc := 67) hC hZ dX8_kind_67 ?_
    refine lv_iconst (pc := 70) (v := (1 : Int32)) hx hb dX8_kind_70 (by decide) ?_
    refine lv_iadd (pc := 71) hx hb dX8_kind_71 ?_
    refine pfX8_123 (pc := 72) hC hZ hf dX8_kind_72 (fun w11 H locs hf hZ => ?_)
    refine lv_aload_n (pc := 75) hx hb dX8_kind_75 rfl (lv_at hl 0 rfl) ?_
    refine gfX8_123 (pc := 76) hC hZ dX8_kind_76 ?_
    refine lv_iconst (pc := 79) (v := (1 : Int32)) hx hb dX8_kind_79 (by decide) ?_
    refine lv_isub (pc := 80) hx hb dX8_kind_80 ?_
    obtain ⟨rfl, rfl⟩ := zinj hf
    exact hE _ _ _ _ _ _ rfl hZ dX8_kind_81
  refine lv_aload_n (pc := 9) hx hb dX8_kind_9 rfl (lv_at hl 0 rfl) ?_
  refine lv_bipush (pc := 10) (v := (-4 : Int32)) hx hb dX8_kind_10 (by decide) ?_
  refine kX8_126 (pc := 12) hC hA hZ hf hl.1 (Nat.le_of_ble_eq_true rfl) ⟨Nat.le_of_ble_eq_true rfl, Nat.le_of_ble_eq_true rfl⟩ ⟨Nat.le_refl _, Nat.le_refl _⟩ dX8_kind_12 (fun v13 w12 H locs hf hZ => ?_)
  obtain ⟨rfl, rfl⟩ := zinj hf
  exact hE _ _ _ _ _ _ rfl hZ dX8_kind_15
