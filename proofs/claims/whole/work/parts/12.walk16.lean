set_option maxHeartbeats 4000000 in
set_option maxRecDepth 100000 in
theorem cX7_check_ok (l : Launch) (D : va_G) (cy : Nat → ClassId) (a0 aT aP : Nat → Nat) (N : Nat) (x1 : Int32) (w0 : zS) (rv : Int32) (τ : zS) (hf : fX7_check N x1 w0 = some (rv, τ)) : zMi l yX7_check cX7_check 2 (some .boolean) rmX7_check D cy shX 38 a0 aT aP w0 [.ref (a0 0), .int x1] rv τ (fun u => u = (aT, aP)) := by
  refine zmet_z (by decide +kernel) rfl (Nat.le_of_ble_eq_true rfl) ?_
  intro p e s m below meth c A Q ls hC hA hZ hl hE
  have hx := hC.1.1
  have hb := hC.1.2.1
  have hl : lv_has ls 2 [(0, .ref (a0 0)), (1, .int x1)] := hl
  unfold fX7_check at hf
  refine lv_aload_n (pc := 0) hx hb dX7_check_0 rfl (lv_at hl 0 rfl) ?_
  refine lv_iload_n (pc := 1) hx hb dX7_check_1 rfl (lv_at hl 1 rfl) ?_
  refine kX7_81 (pc := 2) hC hA hZ hf hl.1 (Nat.le_of_ble_eq_true rfl) ⟨Nat.le_of_ble_eq_true rfl, Nat.le_of_ble_eq_true rfl⟩ ⟨Nat.le_refl _, Nat.le_refl _⟩ dX7_check_2 (fun v2 w1 H locs hf hZ => ?_)
  refine z_ne0 (pc := 5) (tgt := 10) hC hf dX7_check_5 (by decide) (fun hf => ?_) (fun hf => ?_)
  · refine lv_iconst (pc := 8) (v := (0 : Int32)) hx hb dX7_check_8 (by decide) ?_
    obtain ⟨rfl, rfl⟩ := zinj hf
    exact hE (by decide) _ _ _ _ _ _ rfl hZ dX7_check_9
  refine lv_aload_n (pc := 10) hx hb dX7_check_10 rfl (lv_at hl 0 rfl) ?_
  refine gfX7_16 (pc := 11) hC hZ dX7_check_11 ?_
  refine lv_iload_n (pc := 14) hx hb dX7_check_14 rfl (lv_at hl 1 rfl) ?_
  refine z_iald (pc := 15) hC hZ (by decide) rfl hf dX7_check_15 (fun v3 hf => ?_)
  refine lv_aload_n (pc := 16) hx hb dX7_check_16 rfl (lv_at hl 0 rfl) ?_
  refine gfX7_19 (pc := 17) hC hZ dX7_check_17 ?_
  refine lv_iload_n (pc := 20) hx hb dX7_check_20 rfl (lv_at hl 1 rfl) ?_
  refine z_iald (pc := 21) hC hZ (by decide) rfl hf dX7_check_21 (fun v4 hf => ?_)
  refine lv_isub (pc := 22) hx hb dX7_check_22 ?_
  refine lv_aload_n (pc := 23) hx hb dX7_check_23 rfl (lv_at hl 0 rfl) ?_
  refine gfX7_35 (pc := 24) hC hZ dX7_check_24 ?_
  refine lv_iload_n (pc := 27) hx hb dX7_check_27 rfl (lv_at hl 1 rfl) ?_
  refine kX7_235 (pc := 28) hC hA hZ hf hl.1 (Nat.le_of_ble_eq_true rfl) ⟨Nat.le_of_ble_eq_true rfl, Nat.le_of_ble_eq_true rfl⟩ ⟨Nat.le_refl _, Nat.le_refl _⟩ dX7_check_28 (fun v6 w5 H locs hf hZ => ?_)
  refine lv_aload_n (pc := 31) hx hb dX7_check_31 rfl (lv_at hl 0 rfl) ?_
  refine lv_iload_n (pc := 32) hx hb dX7_check_32 rfl (lv_at hl 1 rfl) ?_
  refine kX7_157 (pc := 33) hC hA hZ hf hl.1 (Nat.le_of_ble_eq_true rfl) ⟨Nat.le_of_ble_eq_true rfl, Nat.le_of_ble_eq_true rfl⟩ ⟨Nat.le_refl _, Nat.le_refl _⟩ dX7_check_33 (fun v8 w7 H locs hf hZ => ?_)
  refine lv_iadd (pc := 36) hx hb dX7_check_36 ?_
  refine z_ine (pc := 37) (tgt := 44) hC hf dX7_check_37 (by decide) (fun hf => ?_) (fun hf => ?_)
  · refine lv_iconst (pc := 40) (v := (1 : Int32)) hx hb dX7_check_40 (by decide) ?_
    refine lv_goto (pc := 41) (tgt := 45) hx hb dX7_check_41 (by decide) ?_
    obtain ⟨rfl, rfl⟩ := zinj hf
    exact hE (by decide) _ _ _ _ _ _ rfl hZ dX7_check_45
  refine lv_iconst (pc := 44) (v := (0 : Int32)) hx hb dX7_check_44 (by decide) ?_
  obtain ⟨rfl, rfl⟩ := zinj hf
  exact hE (by decide) _ _ _ _ _ _ rfl hZ dX7_check_45
set_option maxHeartbeats 4000000 in
set_option maxRecDepth 100000 in
theorem wX2_openTellings_4 {p : Program} {l : Launch} {e : Env} {s : State} {m : MethodId} {args : Array Value} {below : List Frame} {meth : Method} {c : Code} {Q : State → Prop} {A : Nat → Prop} {H0 : Heap} {D : va_G} {cy : Nat → ClassId} {a0 aT aP : Nat → Nat} {res : Int32 × zS} {K : Int32 → Int32 → zS → Option (Int32 × zS)} (N : Nat)  (hC : zC p s m args c RX2 cX2_openTellings 4 D cy) (hA : ∀ q, H0.size ≤ q → A q) (hE : zEnd p l e rmX2_openTellings s m args below meth c Q D cy shX 38 a0 A H0 res.2 (fun u => u = (aT, aP)) cX2_openTellings .ireturn [.int res.1]) (n : Nat) (x1 : Int32) (x2 : Int32) (w0 : zS) {H : Heap} {locs : List Loc} {ls : Array Slot} (hf : lX2_openTellings_4 N  K n (x1, x2, w0) = some res) (hZ : zW D cy shX 38 a0 aT aP A H0 w0 H locs) (hl : lv_has ls 4 [(0, .ref (a0 2)), (1, .int x1), (2, .int x2)]) (hK : ∀ x1 : Int32, ∀ x2 : Int32, ∀ (w0 : zS) (H : Heap) (locs : List Loc) (ls : Array Slot), K x1 x2 w0 = some res → zW D cy shX 38 a0 aT aP A H0 w0 H locs → lv_has ls 4 [(0, .ref (a0 2)), (1, .int x1), (2, .int x2)] → W p l e rmX2_openTellings s m args below meth c H locs 0 0 Q (F0 m 39 ls [])) : W p l e rmX2_openTellings s m args below meth c H locs 0 0 Q (F0 m 4 ls []) := by
  have hx := hC.1.1
  have hb := hC.1.2.1
  have hf2 : zlp (fun rc s1 => bX2_openTellings_4 N  K rc s1.1 s1.2.1 s1.2.2) n (x1, x2, w0) = some res := hf
  have key := zloop (S := Int32 × Int32 × zS) (α := Int32 × zS) (b := fun rc s1 => bX2_openTellings_4 N  K rc s1.1 s1.2.1 s1.2.2) (r := res) (Wd := fun s1 => ∀ (H : Heap) (locs : List Loc) (ls : Array Slot), zW D cy shX 38 a0 aT aP A H0 s1.2.2 H locs → lv_has ls 4 [(0, .ref (a0 2)), (1, .int s1.1), (2, .int s1.2.1)] → W p l e rmX2_openTellings s m args below meth c H locs 0 0 Q (F0 m 4 ls []))
  refine key ?_ n (x1, x2, w0) hf2 H locs ls hZ hl
  clear hf hf2 hZ hl key
  rintro rc ⟨x1, x2, w0⟩ ih hf H locs ls hZ hl
  have hf : bX2_openTellings_4 N  K rc x1 x2 w0 = some res := hf
  have hl : lv_has ls 4 [(0, .ref (a0 2)), (1, .int x1), (2, .int x2)] := hl
  unfold bX2_openTellings_4 at hf
  refine lv_iload_n (pc := 4) hx hb dX2_openTellings_4 rfl (lv_at hl 2 rfl) ?_
  refine lv_aload_n (pc := 5) hx hb dX2_openTellings_5 rfl (lv_at hl 0 rfl) ?_
  refine gfX2_33 (pc := 6) hC hZ dX2_openTellings_6 ?_
  refine z_ige (pc := 9) (tgt := 39) hC hf dX2_openTellings_9 (by decide) (fun hf => ?_) (fun hf => ?_)
  · exact hK x1 x2 w0 H locs ls hf hZ (lv_sub hl [0, 1, 2] rfl)
  refine lv_aload_n (pc := 12) hx hb dX2_openTellings_12 rfl (lv_at hl 0 rfl) ?_
  refine gfX2_11 (pc := 13) hC hZ dX2_openTellings_13 ?_
  refine lv_iload_n (pc := 16) hx hb dX2_openTellings_16 rfl (lv_at hl 2 rfl) ?_
  refine z_aaldT (pc := 17) hC hZ (by decide) rfl hf dX2_openTellings_17 (fun v1 hf => ?_)
  refine z_astore_n (pc := 18) (i := 3) (lv' := [(3, va_rf (v1.map aT)), (0, .ref (a0 2)), (1, .int x1), (2, .int x2)]) hC dX2_openTellings_18 rfl hl (by decide) (zadj_cons (Or.inl (Nat.ne_of_beq_eq_false rfl)) (zadj_cons (Or.inl (Nat.ne_of_beq_eq_false rfl)) (zadj_cons (Or.inr rfl) zadj_nil))) rfl (fun ls hl => ?_)
  refine z_aload_n (pc := 19) hC dX2_openTellings_19 rfl (lv_at hl 0 rfl) ?_
  refine z_ifnull (pc := 20) (tgt := 33) hC hf dX2_openTellings_20 (by decide) (fun hf => ?_) (fun hf => ?_)
  · refine z_iinc (pc := 33) (i := 2) (v := (x2 + (1 : Int32))) (lv' := [(2, .int (x2 + (1 : Int32))), (3, va_rf (v1.map aT)), (0, .ref (a0 2)), (1, .int x1)]) hC dX2_openTellings_33 hl (k := 3) rfl rfl (by decide) (zadj_cons (Or.inl (Nat.ne_of_beq_eq_false rfl)) (zadj_cons (Or.inl (Nat.ne_of_beq_eq_false rfl)) (zadj_cons (Or.inr rfl) (zadj_cons (Or.inl (Nat.ne_of_beq_eq_false rfl)) zadj_nil)))) rfl (fun ls hl => ?_)
    refine lv_goto (pc := 36) (tgt := 4) hx hb dX2_openTellings_36 (by decide) ?_
    exact ih (x1, (x2 + (1 : Int32)), w0) hf H locs ls hZ (lv_sub hl [2, 3, 0] rfl)
  refine z_aload_n (pc := 23) hC dX2_openTellings_23 rfl (lv_at hl 0 rfl) ?_
  refine z_gT (pc := 24) hC hZ fkX2_40 rfl hf dX2_openTellings_24 (fun v2 hf => ?_)
  refine z_ne0 (pc := 27) (tgt := 33) hC hf dX2_openTellings_27 (by decide) (fun hf => ?_) (fun hf => ?_)
  · refine z_iinc (pc := 30) (i := 1) (v := (x1 + (1 : Int32))) (lv' := [(1, .int (x1 + (1 : Int32))), (3, va_rf (v1.map aT)), (0, .ref (a0 2)), (2, .int x2)]) hC dX2_openTellings_30 hl (k := 2) rfl rfl (by decide) (zadj_cons (Or.inl (Nat.ne_of_beq_eq_false rfl)) (zadj_cons (Or.inr rfl) (zadj_cons (Or.inl (Nat.ne_of_beq_eq_false rfl)) (zadj_cons (Or.inl (Nat.ne_of_beq_eq_false rfl)) zadj_nil)))) rfl (fun ls hl => ?_)
    refine z_iinc (pc := 33) (i := 2) (v := (x2 + (1 : Int32))) (lv' := [(2, .int (x2 + (1 : Int32))), (1, .int (x1 + (1 : Int32))), (3, va_rf (v1.map aT)), (0, .ref (a0 2))]) hC dX2_openTellings_33 hl (k := 3) rfl rfl (by decide) (zadj_cons (Or.inr rfl) (zadj_cons (Or.inl (Nat.ne_of_beq_eq_false rfl)) (zadj_cons (Or.inl (Nat.ne_of_beq_eq_false rfl)) (zadj_cons (Or.inl (Nat.ne_of_beq_eq_false rfl)) zadj_nil)))) rfl (fun ls hl => ?_)
    refine lv_goto (pc := 36) (tgt := 4) hx hb dX2_openTellings_36 (by decide) ?_
    exact ih ((x1 + (1 : Int32)), (x2 + (1 : Int32)), w0) hf H locs ls hZ (lv_sub hl [3, 1, 0] rfl)
  refine z_iinc (pc := 33) (i := 2) (v := (x2 + (1 : Int32))) (lv' := [(2, .int (x2 + (1 : Int32))), (3, va_rf (v1.map aT)), (0, .ref (a0 2)), (1, .int x1)]) hC dX2_openTellings_33 hl (k := 3) rfl rfl (by decide) (zadj_cons (Or.inl (Nat.ne_of_beq_eq_false rfl)) (zadj_cons (Or.inl (Nat.ne_of_beq_eq_false rfl)) (zadj_cons (Or.inr rfl) (zadj_cons (Or.inl (Nat.ne_of_beq_eq_false rfl)) zadj_nil)))) rfl (fun ls hl => ?_)
  refine lv_goto (pc := 36) (tgt := 4) hx hb dX2_openTellings_36 (by decide) ?_
  exact ih (x1, (x2 + (1 : Int32)), w0) hf H locs ls hZ (lv_sub hl [2, 3, 0] rfl)
set_option maxHeartbeats 4000000 in
set_option maxRecDepth 100000 in
theorem cX2_openTellings_ok (l : Launch) (D : va_G) (cy : Nat → ClassId) (a0 aT aP : Nat → Nat) (N : Nat)  (w0 : zS) (rv : Int32) (τ : zS) (hf : fX2_openTellings N  w0 = some (rv, τ)) : zMi l yX2_openTellings cX2_openTellings 4 (some .int) rmX2_openTellings D cy shX 38 a0 aT aP w0 [.ref (a0 2)] rv τ (fun u => u = (aT, aP)) := by
  refine zmet_i (by decide +kernel) (Or.inl rfl) (Nat.le_of_ble_eq_true rfl) ?_
  intro p e s m below meth c A Q ls hC hA hZ hl hE
  have hx := hC.1.1
  have hb := hC.1.2.1
  have hl : lv_has ls 4 [(0, .ref (a0 2))] := hl
  unfold fX2_openTellings at hf
  refine lv_iconst (pc := 0) (v := (0 : Int32)) hx hb dX2_openTellings_0 (by decide) ?_
  refine lv_istore_n (pc := 1) (lv' := [(1, .int (0 : Int32)), (0, .ref (a0 2))]) hx hb dX2_openTellings_1 rfl hl (by decide) rfl (fun ls hl => ?_)
  refine lv_iconst (pc := 2) (v := (0 : Int32)) hx hb dX2_openTellings_2 (by decide) ?_
  refine lv_istore_n (pc := 3) (lv' := [(2, .int (0 : Int32)), (1, .int (0 : Int32)), (0, .ref (a0 2))]) hx hb dX2_openTellings_3 rfl hl (by decide) rfl (fun ls hl => ?_)
  refine wX2_openTellings_4 (res := (rv, τ)) N  hC hA hE N _ _ _ hf hZ (lv_sub hl [2, 1, 0] rfl) (fun y3 y4 w5 H locs ls hf hZ hl => ?_)
  refine lv_iload_n (pc := 39) hx hb dX2_openTellings_39 rfl (lv_at hl 1 rfl) ?_
  obtain ⟨rfl, rfl⟩ := zinj hf
  exact hE _ _ _ _ _ _ rfl hZ dX2_openTellings_40
section ZK
variable {p : Program} {l : Launch} {e : Env} {R : Room} {s : State} {m : MethodId} {args : Array Value} {below : List Frame} {meth : Method} {c : Code} {H : Heap} {locs : List Loc} {cells slots : Nat} {Q : State → Prop}
variable {pc : Nat} {ls : Array Slot} {rest : List Value} {A : Nat → Prop} {H0 : Heap} {D : va_G} {cy : Nat → ClassId} {a0 aT aP : Nat → Nat} {σ : zS} {cc : ByteArray} {nL : Nat} {α : Type} {res : α}
theorem vkX7_238 : zVk RX7 238 yX2_openTellings cX2_openTellings 4 (some .int) 0 := ⟨by decide +kernel, by decide +kernel, by decide +kernel, by decide +kernel, by decide +kernel, by decide +kernel⟩
theorem kX7_238 (hC : zC p s m args c RX7 cc nL D cy) (hA : ∀ q, H0.size ≤ q → A q) (hZ : zW D cy shX 38 a0 aT aP A H0 σ H locs) {N : Nat}  {k : Int32 → zS → Option α} (hf : zbi (fX2_openTellings N  σ) k = some res) (hsz : ls.size = nL) (hW : (rest.map fun v => v.category).sum ≤ 8) (hR : rmX2_openTellings.frames + 1 ≤ R.frames ∧ 8 + (4 + 11) + rmX2_openTellings.locals ≤ R.locals) (hcs : cells ≤ R.cells ∧ slots ≤ R.slots) (hdg : decode cc pc = .ok (.invokevirtual 238, 3)) (kk : ∀ (v : Int32) (τ : zS) (H1 : Heap) (locs1 : List Loc), k v τ = some res → zW D cy shX 38 a0 aT aP A H0 τ H1 locs1 → W p l e R s m args below meth c H1 locs1 cells slots Q (F0 m (pc + 3) ls (.int v :: rest))) : W p l e R s m args below meth c H locs cells slots Q (F0 m pc ls (.ref (a0 2) :: rest)) := by
  cases hq : fX2_openTellings N  σ with
  | none => rw [hq] at hf; cases hf
  | some q =>
    rw [hq] at hf
    exact zcalli hA hZ (zrun hC hZ vkX7_238 rfl (zw0 (by decide)) (cX2_openTellings_ok l D cy a0 aT aP N  σ q.1 q.2 hq H.size) hR rfl hsz rfl hW hcs hdg) (fun u H1 locs1 hU hZ1 => by subst hU; exact kk q.1 q.2 H1 locs1 hf hZ1)
end ZK
set_option maxHeartbeats 4000000 in
set_option maxRecDepth 100000 in
theorem wX2_openQuarrels_4 {p : Program} {l : Launch} {e : Env} {s : State} {m : MethodId} {args : Array Value} {below : List Frame} {meth : Method} {c : Code} {Q : State → Prop} {A : Nat → Prop} {H0 : Heap} {D : va_G} {cy : Nat → ClassId} {a0 aT aP : Nat → Nat} {res : Int32 × zS} {K : Int32 → Int32 → zS → Option (Int32 × zS)} (N : Nat)  (hC : zC p s m args c RX2 cX2_openQuarrels 4 D cy) (hA : ∀ q, H0.size ≤ q → A q) (hE : zEnd p l e rmX2_openQuarrels s m args below meth c Q D cy shX 38 a0 A H0 res.2 (fun u => u = (aT, aP)) cX2_openQuarrels .ireturn [.int res.1]) (n : Nat) (x1 : Int32) (x2 : Int32) (w0 : zS) {H : Heap} {locs : List Loc} {ls : Array Slot} (hf : lX2_openQuarrels_4 N  K n (x1, x2, w0) = some res) (hZ : zW D cy shX 38 a0 aT aP A H0 w0 H locs) (hl : lv_has ls 4 [(0, .ref (a0 2)), (1, .int x1), (2, .int x2)]) (hK : ∀ x1 : Int32, ∀ x2 : Int32, ∀ (w0 : zS) (H : Heap) (locs : List Loc) (ls : Array Slot), K x1 x2 w0 = some res → zW D cy shX 38 a0 aT aP A H0 w0 H locs → lv_has ls 4 [(0, .ref (a0 2)), (1, .int x1), (2, .int x2)] → W p l e rmX2_openQuarrels s m args below meth c H locs 0 0 Q (F0 m 46 ls [])) : W p l e rmX2_openQuarrels s m args below meth c H locs 0 0 Q (F0 m 4 ls []) := by
  have hx := hC.1.1
  have hb := hC.1.2.1
  have hf2 : zlp (fun rc s1 => bX2_openQuarrels_4 N  K rc s1.1 s1.2.1 s1.2.2) n (x1, x2, w0) = some res := hf
  have key := zloop (S := Int32 × Int32 × zS) (α := Int32 × zS) (b := fun rc s1 => bX2_openQuarrels_4 N  K rc s1.1 s1.2.1 s1.2.2) (r := res) (Wd := fun s1 => ∀ (H : Heap) (locs : List Loc) (ls : Array Slot), zW D cy shX 38 a0 aT aP A H0 s1.2.2 H locs → lv_has ls 4 [(0, .ref (a0 2)), (1, .int s1.1), (2, .int s1.2.1)] → W p l e rmX2_openQuarrels s m args below meth c H locs 0 0 Q (F0 m 4 ls []))
  refine key ?_ n (x1, x2, w0) hf2 H locs ls hZ hl
  clear hf hf2 hZ hl key
  rintro rc ⟨x1, x2, w0⟩ ih hf H locs ls hZ hl
  have hf : bX2_openQuarrels_4 N  K rc x1 x2 w0 = some res := hf
  have hl : lv_has ls 4 [(0, .ref (a0 2)), (1, .int x1), (2, .int x2)] := hl
  unfold bX2_openQuarrels_4 at hf
  refine lv_iload_n (pc := 4) hx hb dX2_openQuarrels_4 rfl (lv_at hl 2 rfl) ?_
  refine lv_aload_n (pc := 5) hx hb dX2_openQuarrels_5 rfl (lv_at hl 0 rfl) ?_
  refine gfX2_37 (pc := 6) hC hZ dX2_openQuarrels_6 ?_
  refine z_ige (pc := 9) (tgt := 46) hC hf dX2_openQuarrels_9 (by decide) (fun hf => ?_) (fun hf => ?_)
  · exact hK x1 x2 w0 H locs ls hf hZ (lv_sub hl [0, 1, 2] rfl)
  refine lv_aload_n (pc := 12) hx hb dX2_openQuarrels_12 rfl (lv_at hl 0 rfl) ?_
  refine gfX2_19 (pc := 13) hC hZ dX2_openQuarrels_13 ?_
  refine lv_iload_n (pc := 16) hx hb dX2_openQuarrels_16 rfl (lv_at hl 2 rfl) ?_
  refine z_aaldP (pc := 17) hC hZ (by decide) rfl hf dX2_openQuarrels_17 (fun v1 hf => ?_)
  refine z_astore_n (pc := 18) (i := 3) (lv' := [(3, va_rf (v1.map aP)), (0, .ref (a0 2)), (1, .int x1), (2, .int x2)]) hC dX2_openQuarrels_18 rfl hl (by decide) (zadj_cons (Or.inl (Nat.ne_of_beq_eq_false rfl)) (zadj_cons (Or.inl (Nat.ne_of_beq_eq_false rfl)) (zadj_cons (Or.inr rfl) zadj_nil))) rfl (fun ls hl => ?_)
  refine z_aload_n (pc := 19) hC dX2_openQuarrels_19 rfl (lv_at hl 0 rfl) ?_
  refine z_ifnull (pc := 20) (tgt := 40) hC hf dX2_openQuarrels_20 (by decide) (fun hf => ?_) (fun hf => ?_)
  · refine z_iinc (pc := 40) (i := 2) (v := (x2 + (1 : Int32))) (lv' := [(2, .int (x2 + (1 : Int32))), (3, va_rf (v1.map aP)), (0, .ref (a0 2)), (1, .int x1)]) hC dX2_openQuarrels_40 hl (k := 3) rfl rfl (by decide) (zadj_cons (Or.inl (Nat.ne_of_beq_eq_false rfl)) (zadj_cons (Or.inl (Nat.ne_of_beq_eq_false rfl)) (zadj_cons (Or.inr rfl) (zadj_cons (Or.inl (Nat.ne_of_beq_eq_false rfl)) zadj_nil)))) rfl (fun ls hl => ?_)
    refine lv_goto (pc := 43) (tgt := 4) hx hb dX2_openQuarrels_43 (by decide) ?_
    exact ih (x1, (x2 + (1 : Int32)), w0) hf H locs ls hZ (lv_sub hl [2, 3, 0] rfl)
  refine z_aload_n (pc := 23) hC dX2_openQuarrels_23 rfl (lv_at hl 0 rfl) ?_
  refine kX2_43 (pc := 24) hC hA hZ hf hl.1 (Nat.le_of_ble_eq_true rfl) ⟨Nat.le_of_ble_eq_true rfl, Nat.le_of_ble_eq_true rfl⟩ ⟨Nat.le_refl _, Nat.le_refl _⟩ dX2_openQuarrels_24 (fun v3 w2 H locs hf hZ => ?_)
  refine z_eq0 (pc := 27) (tgt := 40) hC hf dX2_openQuarrels_27 (by decide) (fun hf => ?_) (fun hf => ?_)
  · refine z_iinc (pc := 40) (i := 2) (v := (x2 + (1 : Int32))) (lv' := [(2, .int (x2 + (1 : Int32))), (3, va_rf (v1.map aP)), (0, .ref (a0 2)), (1, .int x1)]) hC dX2_openQuarrels_40 hl (k := 3) rfl rfl (by decide) (zadj_cons (Or.inl (Nat.ne_of_beq_eq_false rfl)) (zadj_cons (Or.inl (Nat.ne_of_beq_eq_false rfl)) (zadj_cons (Or.inr rfl) (zadj_cons (Or.inl (Nat.ne_of_beq_eq_false rfl)) zadj_nil)))) rfl (fun ls hl => ?_)
    refine lv_goto (pc := 43) (tgt := 4) hx hb dX2_openQuarrels_43 (by decide) ?_
    exact ih (x1, (x2 + (1 : Int32)), w2) hf H locs ls hZ (lv_sub hl [2, 3, 0] rfl)
  refine z_aload_n (pc := 30) hC dX2_openQuarrels_30 rfl (lv_at hl 0 rfl) ?_
  refine z_gP (pc := 31) hC hZ fkX2_47 rfl hf dX2_openQuarrels_31 (fun v4 hf => ?_)
  refine z_ne0 (pc := 34) (tgt := 40) hC hf dX2_openQuarrels_34 (by decide) (fun hf => ?_) (fun hf => ?_)
  · refine z_iinc (pc := 37) (i := 1) (v := (x1 + (1 : Int32))) (lv' := [(1, .int (x1 + (1 : Int32))), (3, va_rf (v1.map aP)), (0, .ref (a0 2)), (2, .int x2)]) hC dX2_openQuarrels_37 hl (k := 2) rfl rfl (by decide) (zadj_cons (Or.inl (Nat.ne_of_beq_eq_false rfl)) (zadj_cons (Or.inr rfl) (zadj_cons (Or.inl (Nat.ne_of_beq_eq_false rfl)) (zadj_cons (Or.inl (Nat.ne_of_beq_eq_false rfl)) zadj_nil)))) rfl (fun ls hl => ?_)
    refine z_iinc (pc := 40) (i := 2) (v := (x2 + (1 : Int32))) (lv' := [(2, .int (x2 + (1 : Int32))), (1, .int (x1 + (1 : Int32))), (3, va_rf (v1.map aP)), (0, .ref (a0 2))]) hC dX2_openQuarrels_40 hl (k := 3) rfl rfl (by decide) (zadj_cons (Or.inr rfl) (zadj_cons (Or.inl (Nat.ne_of_beq_eq_false rfl)) (zadj_cons (Or.inl (Nat.ne_of_beq_eq_false rfl)) (zadj_cons (Or.inl (Nat.ne_of_beq_eq_false rfl)) zadj_nil)))) rfl (fun ls hl => ?_)
    refine lv_goto (pc := 43) (tgt := 4) hx hb dX2_openQuarrels_43 (by decide) ?_
    exact ih ((x1 + (1 : Int32)), (x2 + (1 : Int32)), w2) hf H locs ls hZ (lv_sub hl [3, 1, 0] rfl)
  refine z_iinc (pc := 40) (i := 2) (v := (x2 + (1 : Int32))) (lv' := [(2, .int (x2 + (1 : Int32))), (3, va_rf (v1.map aP)), (0, .ref (a0 2)), (1, .int x1)]) hC dX2_openQuarrels_40 hl (k := 3) rfl rfl (by decide) (zadj_cons (Or.inl (Nat.ne_of_beq_eq_false rfl)) (zadj_cons (Or.inl (Nat.ne_of_beq_eq_false rfl)) (zadj_cons (Or.inr rfl) (zadj_cons (Or.inl (Nat.ne_of_beq_eq_false rfl)) zadj_nil)))) rfl (fun ls hl => ?_)
  refine lv_goto (pc := 43) (tgt := 4) hx hb dX2_openQuarrels_43 (by decide) ?_
  exact ih (x1, (x2 + (1 : Int32)), w2) hf H locs ls hZ (lv_sub hl [2, 3, 0] rfl)
set_option maxHeartbeats 4000000 in
set_option maxRecDepth 100000 in
theorem cX2_openQuarrels_ok (l : Launch) (D : va_G) (cy : Nat → ClassId) (a0 aT aP : Nat → Nat) (N : Nat)  (w0 : zS) (rv : Int32) (τ : zS) (hf : fX2_openQuarrels N  w0 = some (rv, τ)) : zMi l yX2_openQuarrels cX2_openQuarrels 4 (some .int) rmX2_openQuarrels D cy shX 38 a0 aT aP w0 [.ref (a0 2)] rv τ (fun u => u = (aT, aP)) := by
  refine zmet_i (by decide +kernel) (Or.inl rfl) (Nat.le_of_ble_eq_true rfl) ?_
  intro p e s m below meth c A Q ls hC hA hZ hl hE
  have hx := hC.1.1
  have hb := hC.1.2.1
  have hl : lv_has ls 4 [(0, .ref (a0 2))] := hl
  unfold fX2_openQuarrels at hf
  refine lv_iconst (pc := 0) (v := (0 : Int32)) hx hb dX2_openQuarrels_0 (by decide) ?_
  refine lv_istore_n (pc := 1) (lv' := [(1, .int (0 : Int32)), (0, .ref (a0 2))]) hx hb dX2_openQuarrels_1 rfl hl (by decide) rfl (fun ls hl => ?_)
  refine lv_iconst (pc := 2) (v := (0 : Int32)) hx hb dX2_openQuarrels_2 (by decide) ?_
  refine lv_istore_n (pc := 3) (lv' := [(2, .int (0 : Int32)), (1, .int (0 : Int32)), (0, .ref (a0 2))]) hx hb dX2_openQuarrels_3 rfl hl (by decide) rfl (fun ls hl => ?_)
  refine wX2_openQuarrels_4 (res := (rv, τ)) N  hC hA hE N _ _ _ hf hZ (lv_sub hl [2, 1, 0] rfl) (fun y5 y6 w7 H locs ls hf hZ hl => ?_)
  refine lv_iload_n (pc := 46) hx hb dX2_openQuarrels_46 rfl (lv_at hl 1 rfl) ?_
  obtain ⟨rfl, rfl⟩ := zinj hf
  exact hE _ _ _ _ _ _ rfl hZ dX2_openQuarrels_47
section ZK
variable {p : Program} {l : Launch} {e : Env} {R : Room} {s : State} {m : MethodId} {args : Array Value} {below : List Frame} {meth : Method} {c : Code} {H : Heap} {locs : List Loc} {cells slots : Nat} {Q : State → Prop}
variable {pc : Nat} {ls : Array Slot} {rest : List Value} {A : Nat → Prop} {H0 : Heap} {D : va_G} {cy : Nat → ClassId} {a0 aT aP : Nat → Nat} {σ : zS} {cc : ByteArray} {nL : Nat} {α : Type} {res : α}
theorem vkX7_241 : zVk RX7 241 yX2_openQuarrels cX2_openQuarrels 4 (some .int) 0 := ⟨by decide +kernel, by decide +kernel, by decide +kernel, by decide +kernel, by decide +kernel, by decide +kernel⟩
theorem kX7_241 (hC : zC p s m args c RX7 cc nL D cy) (hA : ∀ q, H0.size ≤ q → A q) (hZ : zW D cy shX 38 a0 aT aP A H0 σ H locs) {N : Nat}  {k : Int32 → zS → Option α} (hf : zbi (fX2_openQuarrels N  σ) k = some res) (hsz : ls.size = nL) (hW : (rest.map fun v => v.category).sum ≤ 8) (hR : rmX2_openQuarrels.frames + 1 ≤ R.frames ∧ 8 + (4 + 11) + rmX2_openQuarrels.locals ≤ R.locals) (hcs : cells ≤ R.cells ∧ slots ≤ R.slots) (hdg : decode cc pc = .ok (.invokevirtual 241, 3)) (kk : ∀ (v : Int32) (τ : zS) (H1 : Heap) (locs1 : List Loc), k v τ = some res → zW D cy shX 38 a0 aT aP A H0 τ H1 locs1 → W p l e R s m args below meth c H1 locs1 cells slots Q (F0 m (pc + 3) ls (.int v :: rest))) : W p l e R s m args below meth c H locs cells slots Q (F0 m pc ls (.ref (a0 2) :: rest)) := by
  cases hq : fX2_openQuarrels N  σ with
  | none => rw [hq] at hf; cases hf
  | some q =>
    rw [hq] at hf
    exact zcalli hA hZ (zrun hC hZ vkX7_241 rfl (zw0 (by decide)) (cX2_openQuarrels_ok l D cy a0 aT aP N  σ q.1 q.2 hq H.size) hR rfl hsz rfl hW hcs hdg) (fun u H1 locs1 hU hZ1 => by subst hU; exact kk q.1 q.2 H1 locs1 hf hZ1)
end ZK
set_option maxHeartbeats 4000000 in
set_option maxRecDepth 100000 in
theorem cX7_refusalsOf_ok (l : Launch) (D : va_G) (cy : Nat → ClassId) (a0 aT aP : Nat → Nat) (N : Nat) (x1 : Int32) (w0 : zS) (rv : Int32) (τ : zS) (hf : fX7_refusalsOf N x1 w0 = some (rv, τ)) : zMi l yX7_refusalsOf cX7_refusalsOf 2 (some .int) rmX7_refusalsOf D cy shX 38 a0 aT aP w0 [.ref (a0 0), .int x1] rv τ (fun u => u = (aT, aP)) := by
  refine zmet_i (by decide +kernel) (Or.inl rfl) (Nat.le_of_ble_eq_true rfl) ?_
  intro p e s m below meth c A Q ls hC hA hZ hl hE
  have hx := hC.1.1
  have hb := hC.1.2.1
  have hl : lv_has ls 2 [(0, .ref (a0 0)), (1, .int x1)] := hl
  unfold fX7_refusalsOf at hf
  refine lv_iload_n (pc := 0) hx hb dX7_refusalsOf_0 rfl (lv_at hl 1 rfl) ?_
  refine lv_bipush (pc := 1) (v := (-6 : Int32)) hx hb dX7_refusalsOf_1 (by decide) ?_
  refine z_ilt (pc := 3) (tgt := 11) hC hf dX7_refusalsOf_3 (by decide) (fun hf => ?_) (fun hf => ?_)
  · refine lv_bipush (pc := 11) (v := (-9 : Int32)) hx hb dX7_refusalsOf_11 (by decide) ?_
    obtain ⟨rfl, rfl⟩ := zinj hf
    exact hE _ _ _ _ _ _ rfl hZ dX7_refusalsOf_13
  refine lv_iload_n (pc := 6) hx hb dX7_refusalsOf_6 rfl (lv_at hl 1 rfl) ?_
  refine lv_iconst (pc := 7) (v := (-1 : Int32)) hx hb dX7_refusalsOf_7 (by decide) ?_
  refine z_ile (pc := 8) (tgt := 14) hC hf dX7_refusalsOf_8 (by decide) (fun hf => ?_) (fun hf => ?_)
  · refine lv_aload_n (pc := 14) hx hb dX7_refusalsOf_14 rfl (lv_at hl 0 rfl) ?_
    refine gfX7_25 (pc := 15) hC hZ dX7_refusalsOf_15 ?_
    refine lv_iload_n (pc := 18) hx hb dX7_refusalsOf_18 rfl (lv_at hl 1 rfl) ?_
    refine lv_ineg (pc := 19) hx hb dX7_refusalsOf_19 ?_
    refine z_iald (pc := 20) hC hZ (by decide) rfl hf dX7_refusalsOf_20 (fun v1 hf => ?_)
    obtain ⟨rfl, rfl⟩ := zinj hf
    exact hE _ _ _ _ _ _ rfl hZ dX7_refusalsOf_21
  refine lv_bipush (pc := 11) (v := (-9 : Int32)) hx hb dX7_refusalsOf_11 (by decide) ?_
  obtain ⟨rfl, rfl⟩ := zinj hf
  exact hE _ _ _ _ _ _ rfl hZ dX7_refusalsOf_13
section ZK
variable {p : Program} {l : Launch} {e : Env} {R : Room} {s : State} {m : MethodId} {args : Array Value} {below : List Frame} {meth : Method} {c : Code} {H : Heap} {locs : List Loc} {cells slots : Nat} {Q : State → Prop}
variable {pc : Nat} {ls : Array Slot} {rest : List Value} {A : Nat → Prop} {H0 : Heap} {D : va_G} {cy : Nat → ClassId} {a0 aT aP : Nat → Nat} {σ : zS} {cc : ByteArray} {nL : Nat} {α : Type} {res : α}
theorem vkX7_244 : zVk RX7 244 yX7_refusalsOf cX7_refusalsOf 2 (some .int) 1 := ⟨by decide +kernel, by decide +kernel, by decide +kernel, by decide +kernel, by decide +kernel, by decide +kernel⟩
theorem kX7_244 (hC : zC p s m args c RX7 cc nL D cy) (hA : ∀ q, H0.size ≤ q → A q) (hZ : zW D cy shX 38 a0 aT aP A H0 σ H locs) {N : Nat} {x1 : Int32} {k : Int32 → zS → Option α} (hf : zbi (fX7_refusalsOf N x1 σ) k = some res) (hsz : ls.size = nL) (hW : (rest.map fun v => v.category).sum ≤ 8) (hR : rmX7_refusalsOf.frames + 1 ≤ R.frames ∧ 8 + (2 + 11) + rmX7_refusalsOf.locals ≤ R.locals) (hcs : cells ≤ R.cells ∧ slots ≤ R.slots) (hdg : decode cc pc = .ok (.invokevirtual 244, 3)) (kk : ∀ (v : Int32) (τ : zS) (H1 : Heap) (locs1 : List Loc), k v τ = some res → zW D cy shX 38 a0 aT aP A H0 τ H1 locs1 → W p l e R s m args below meth c H1 locs1 cells slots Q (F0 m (pc + 3) ls (.int v :: rest))) : W p l e R s m args below meth c H locs cells slots Q (F0 m pc ls (.int x1 :: .ref (a0 0) :: rest)) := by
  cases hq : fX7_refusalsOf N x1 σ with
  | none => rw [hq] at hf; cases hf
  | some q =>
    rw [hq] at hf
    exact zcalli hA hZ (zrun hC hZ vkX7_244 rfl (zw0 (by decide)) (cX7_refusalsOf_ok l D cy a0 aT aP N x1 σ q.1 q.2 hq H.size) hR rfl hsz rfl hW hcs hdg) (fun u H1 locs1 hU hZ1 => by subst hU; exact kk q.1 q.2 H1 locs1 hf hZ1)
end ZK
