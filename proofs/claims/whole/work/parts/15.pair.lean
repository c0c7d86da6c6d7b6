section ZF3
variable {p : Program} {l : Launch} {e : Env} {R : Room} {s : State} {m : MethodId} {args : Array Value} {below : List Frame} {meth : Method} {c : Code} {H : Heap} {locs : List Loc} {cells slots : Nat} {Q : State → Prop}
variable {pc : Nat} {ls : Array Slot} {rest : List Value} {A : Nat → Prop} {H0 : Heap} {D : va_G} {cy : Nat → ClassId} {a0 aT aP : Nat → Nat} {σ : zS} {cc : ByteArray} {nL : Nat} {α : Type} {res : α}
theorem fkX2_29 : zFk RX2 29 2 3 (.object "CarrierPool$Matching") true := ⟨_, _, _, tyX2, rfl, izX2, by decide, Or.inl (by decide +kernel), rfl, tyX2_ok, nmX2, by decide +kernel, rfl⟩
theorem gfX2_29 (hC : zC p s m args c RX2 cc nL D cy) (hZ : zW D cy shX 38 a0 aT aP A H0 σ H locs) (hdg : decode cc pc = .ok (.getfield 29, 3)) (kk : W p l e R s m args below meth c H locs cells slots Q (F0 m (pc + 3) ls (.ref (a0 3) :: rest))) : W p l e R s m args below meth c H locs cells slots Q (F0 m pc ls (.ref (a0 2) :: rest)) := z_get0 (fd := 7) hC hZ fkX2_29 (by decide) rfl rfl hdg kk
end ZF3
section ZK4
variable {p : Program} {l : Launch} {e : Env} {R : Room} {s : State} {m : MethodId} {args : Array Value} {below : List Frame} {meth : Method} {c : Code} {H : Heap} {locs : List Loc} {cells slots : Nat} {Q : State → Prop}
variable {pc : Nat} {ls : Array Slot} {rest : List Value} {A : Nat → Prop} {H0 : Heap} {D : va_G} {cy : Nat → ClassId} {a0 aT aP : Nat → Nat} {σ : zS} {cc : ByteArray} {nL : Nat} {α : Type} {res : α}
theorem vkX2_78 : zVk RX2 78 yX4_clear cX4_clear 1 none 0 := ⟨by decide +kernel, by decide +kernel, by decide +kernel, by decide +kernel, by decide +kernel, by decide +kernel⟩
theorem kX2_78 (hC : zC p s m args c RX2 cc nL D cy) (hA : ∀ q, H0.size ≤ q → A q) (hZ : zW D cy shX 38 a0 aT aP A H0 σ H locs) {N : Nat}  {k : zS → Option α} (hf : zbv (fX4_clear N  σ) k = some res) (hsz : ls.size = nL) (hW : (rest.map fun v => v.category).sum ≤ 8) (hR : rmX4_clear.frames + 1 ≤ R.frames ∧ 8 + (1 + 11) + rmX4_clear.locals ≤ R.locals) (hcs : cells ≤ R.cells ∧ slots ≤ R.slots) (hdg : decode cc pc = .ok (.invokevirtual 78, 3)) (kk : ∀ (τ : zS) (H1 : Heap) (locs1 : List Loc), k τ = some res → zW D cy shX 38 a0 aT aP A H0 τ H1 locs1 → W p l e R s m args below meth c H1 locs1 cells slots Q (F0 m (pc + 3) ls (rest))) : W p l e R s m args below meth c H locs cells slots Q (F0 m pc ls (.ref (a0 3) :: rest)) := by
  cases hq : fX4_clear N  σ with
  | none => rw [hq] at hf; cases hf
  | some q =>
    rw [hq] at hf
    exact zcallv hA hZ (zrun hC hZ vkX2_78 rfl (zw0 (by decide)) (cX4_clear_ok l D cy a0 aT aP N  σ q hq H.size) hR rfl hsz rfl hW hcs hdg) (fun u H1 locs1 hU hZ1 => by subst hU; exact kk q H1 locs1 hf hZ1)
theorem vkX2_81 : zVk RX2 81 yX4_offer cX4_offer 2 none 1 := ⟨by decide +kernel, by decide +kernel, by decide +kernel, by decide +kernel, by decide +kernel, by decide +kernel⟩
theorem kX2_81 (hC : zC p s m args c RX2 cc nL D cy) (hA : ∀ q, H0.size ≤ q → A q) (hZ : zW D cy shX 38 a0 aT aP A H0 σ H locs) {N : Nat} {x1 : Option Nat} {k : zS → Option α} (hf : zbv (fX4_offer N x1 σ) k = some res) (hsz : ls.size = nL) (hW : (rest.map fun v => v.category).sum ≤ 8) (hR : rmX4_offer.frames + 1 ≤ R.frames ∧ 8 + (2 + 11) + rmX4_offer.locals ≤ R.locals) (hcs : cells ≤ R.cells ∧ slots ≤ R.slots) (hdg : decode cc pc = .ok (.invokevirtual 81, 3)) (kk : ∀ (τ : zS) (H1 : Heap) (locs1 : List Loc), k τ = some res → zW D cy shX 38 a0 aT aP A H0 τ H1 locs1 → W p l e R s m args below meth c H1 locs1 cells slots Q (F0 m (pc + 3) ls (rest))) : W p l e R s m args below meth c H locs cells slots Q (F0 m pc ls (va_rf (x1.map aT) :: .ref (a0 3) :: rest)) := by
  cases hq : fX4_offer N x1 σ with
  | none => rw [hq] at hf; cases hf
  | some q =>
    rw [hq] at hf
    exact zcallv hA hZ (zrun hC hZ vkX2_81 rfl (zw0 (by decide)) (cX4_offer_ok l D cy a0 aT aP N x1 σ q hq H.size) hR rfl hsz rfl hW hcs hdg) (fun u H1 locs1 hU hZ1 => by subst hU; exact kk q H1 locs1 hf hZ1)
theorem vkX2_85 : zVk RX2 85 yX4_hasNear cX4_hasNear 3 (some .boolean) 0 := ⟨by decide +kernel, by decide +kernel, by decide +kernel, by decide +kernel, by decide +kernel, by decide +kernel⟩
theorem kX2_85 (hC : zC p s m args c RX2 cc nL D cy) (hA : ∀ q, H0.size ≤ q → A q) (hZ : zW D cy shX 38 a0 aT aP A H0 σ H locs) {N : Nat}  {k : Int32 → zS → Option α} (hf : zbi (fX4_hasNear N  σ) k = some res) (hsz : ls.size = nL) (hW : (rest.map fun v => v.category).sum ≤ 8) (hR : rmX4_hasNear.frames + 1 ≤ R.frames ∧ 8 + (3 + 11) + rmX4_hasNear.locals ≤ R.locals) (hcs : cells ≤ R.cells ∧ slots ≤ R.slots) (hdg : decode cc pc = .ok (.invokevirtual 85, 3)) (kk : ∀ (v : Int32) (τ : zS) (H1 : Heap) (locs1 : List Loc), k v τ = some res → zW D cy shX 38 a0 aT aP A H0 τ H1 locs1 → W p l e R s m args below meth c H1 locs1 cells slots Q (F0 m (pc + 3) ls (.int v :: rest))) : W p l e R s m args below meth c H locs cells slots Q (F0 m pc ls (.ref (a0 3) :: rest)) := by
  cases hq : fX4_hasNear N  σ with
  | none => rw [hq] at hf; cases hf
  | some q =>
    rw [hq] at hf
    exact zcalli hA hZ (zrun hC hZ vkX2_85 rfl (zw0 (by decide)) (cX4_hasNear_ok l D cy a0 aT aP N  σ q.1 q.2 hq H.size) hR rfl hsz rfl hW hcs hdg) (fun u H1 locs1 hU hZ1 => by subst hU; exact kk q.1 q.2 H1 locs1 hf hZ1)
theorem vkX2_88 : zVk RX2 88 yX4_solve cX4_solve 4 none 0 := ⟨by decide +kernel, by decide +kernel, by decide +kernel, by decide +kernel, by decide +kernel, by decide +kernel⟩
theorem kX2_88 (hC : zC p s m args c RX2 cc nL D cy) (hA : ∀ q, H0.size ≤ q → A q) (hZ : zW D cy shX 38 a0 aT aP A H0 σ H locs) {N : Nat}  {k : zS → Option α} (hf : zbv (fX4_solve N  σ) k = some res) (hsz : ls.size = nL) (hW : (rest.map fun v => v.category).sum ≤ 8) (hR : rmX4_solve.frames + 1 ≤ R.frames ∧ 8 + (4 + 11) + rmX4_solve.locals ≤ R.locals) (hcs : cells ≤ R.cells ∧ slots ≤ R.slots) (hdg : decode cc pc = .ok (.invokevirtual 88, 3)) (kk : ∀ (τ : zS) (H1 : Heap) (locs1 : List Loc), k τ = some res → zW D cy shX 38 a0 aT aP A H0 τ H1 locs1 → W p l e R s m args below meth c H1 locs1 cells slots Q (F0 m (pc + 3) ls (rest))) : W p l e R s m args below meth c H locs cells slots Q (F0 m pc ls (.ref (a0 3) :: rest)) := by
  cases hq : fX4_solve N  σ with
  | none => rw [hq] at hf; cases hf
  | some q =>
    rw [hq] at hf
    exact zcallv hA hZ (zrun hC hZ vkX2_88 rfl (zw0 (by decide)) (cX4_solve_ok l D cy a0 aT aP N  σ q hq H.size) hR rfl hsz rfl hW hcs hdg) (fun u H1 locs1 hU hZ1 => by subst hU; exact kk q H1 locs1 hf hZ1)
theorem vkX2_91 : zVk RX2 91 yX4_giveAt cX4_giveAt 2 (some (.object "CarrierPool$Telling")) 1 := ⟨by decide +kernel, by decide +kernel, by decide +kernel, by decide +kernel, by decide +kernel, by decide +kernel⟩
theorem kX2_91 (hC : zC p s m args c RX2 cc nL D cy) (hA : ∀ q, H0.size ≤ q → A q) (hZ : zW D cy shX 38 a0 aT aP A H0 σ H locs) {N : Nat} {x1 : Int32} {k : Option Nat → zS → Option α} (hf : zbi (fX4_giveAt N x1 σ) k = some res) (hsz : ls.size = nL) (hW : (rest.map fun v => v.category).sum ≤ 8) (hR : rmX4_giveAt.frames + 1 ≤ R.frames ∧ 8 + (2 + 11) + rmX4_giveAt.locals ≤ R.locals) (hcs : cells ≤ R.cells ∧ slots ≤ R.slots) (hdg : decode cc pc = .ok (.invokevirtual 91, 3)) (kk : ∀ (v : Option Nat) (τ : zS) (H1 : Heap) (locs1 : List Loc), k v τ = some res → zW D cy shX 38 a0 aT aP A H0 τ H1 locs1 → W p l e R s m args below meth c H1 locs1 cells slots Q (F0 m (pc + 3) ls (va_rf (v.map aT) :: rest))) : W p l e R s m args below meth c H locs cells slots Q (F0 m pc ls (.int x1 :: .ref (a0 3) :: rest)) := by
  cases hq : fX4_giveAt N x1 σ with
  | none => rw [hq] at hf; cases hf
  | some q =>
    rw [hq] at hf
    exact zcallq hA hZ (zrun hC hZ vkX2_91 rfl (zw0 (by decide)) (cX4_giveAt_ok l D cy a0 aT aP N x1 σ q.1 q.2 hq H.size) hR rfl hsz rfl hW hcs hdg) (fun u H1 locs1 hU hZ1 => by subst hU; exact kk q.1 q.2 H1 locs1 hf hZ1)
theorem vkX2_95 : zVk RX2 95 yX4_takeFor cX4_takeFor 3 (some (.object "CarrierPool$Telling")) 1 := ⟨by decide +kernel, by decide +kernel, by decide +kernel, by decide +kernel, by decide +kernel, by decide +kernel⟩
theorem kX2_95 (hC : zC p s m args c RX2 cc nL D cy) (hA : ∀ q, H0.size ≤ q → A q) (hZ : zW D cy shX 38 a0 aT aP A H0 σ H locs) {N : Nat} {x1 : Int32} {k : Option Nat → zS → Option α} (hf : zbi (fX4_takeFor N x1 σ) k = some res) (hsz : ls.size = nL) (hW : (rest.map fun v => v.category).sum ≤ 8) (hR : rmX4_takeFor.frames + 1 ≤ R.frames ∧ 8 + (3 + 11) + rmX4_takeFor.locals ≤ R.locals) (hcs : cells ≤ R.cells ∧ slots ≤ R.slots) (hdg : decode cc pc = .ok (.invokevirtual 95, 3)) (kk : ∀ (v : Option Nat) (τ : zS) (H1 : Heap) (locs1 : List Loc), k v τ = some res → zW D cy shX 38 a0 aT aP A H0 τ H1 locs1 → W p l e R s m args below meth c H1 locs1 cells slots Q (F0 m (pc + 3) ls (va_rf (v.map aT) :: rest))) : W p l e R s m args below meth c H locs cells slots Q (F0 m pc ls (.int x1 :: .ref (a0 3) :: rest)) := by
  cases hq : fX4_takeFor N x1 σ with
  | none => rw [hq] at hf; cases hf
  | some q =>
    rw [hq] at hf
    exact zcallq hA hZ (zrun hC hZ vkX2_95 rfl (zw0 (by decide)) (cX4_takeFor_ok l D cy a0 aT aP N x1 σ q.1 q.2 hq H.size) hR rfl hsz rfl hW hcs hdg) (fun u H1 locs1 hU hZ1 => by subst hU; exact kk q.1 q.2 H1 locs1 hf hZ1)
theorem vkX2_98 : zVk RX2 98 yX2_keepPair cX2_keepPair 4 none 3 := ⟨by decide +kernel, by decide +kernel, by decide +kernel, by decide +kernel, by decide +kernel, by decide +kernel⟩
theorem kX2_98 (hC : zC p s m args c RX2 cc nL D cy) (hA : ∀ q, H0.size ≤ q → A q) (hZ : zW D cy shX 38 a0 aT aP A H0 σ H locs) {N : Nat} {x1 : Option Nat} {x2 : Option Nat} {x3 : Int32} {k : zS → Option α} (hf : zbv (fX2_keepPair N x1 x2 x3 σ) k = some res) (hsz : ls.size = nL) (hW : (rest.map fun v => v.category).sum ≤ 8) (hR : rmX2_keepPair.frames + 1 ≤ R.frames ∧ 8 + (4 + 11) + rmX2_keepPair.locals ≤ R.locals) (hcs : cells + 1 ≤ R.cells ∧ slots + 4 ≤ R.slots) (hdg : decode cc pc = .ok (.invokevirtual 98, 3)) (kk : ∀ (τ : zS) (aP' : Nat → Nat) (H1 : Heap) (locs1 : List Loc), k τ = some res → zW D cy shX 38 a0 aT aP' A H0 τ H1 locs1 → W p l e R s m args below meth c H1 locs1 (cells + 1) (slots + 4) Q (F0 m (pc + 3) ls (rest))) : W p l e R s m args below meth c H locs cells slots Q (F0 m pc ls (.int x3 :: va_rf (x2.map aT) :: va_rf (x1.map aT) :: .ref (a0 2) :: rest)) := by
  cases hq : fX2_keepPair N x1 x2 x3 σ with
  | none => rw [hq] at hf; cases hf
  | some q =>
    rw [hq] at hf
    exact zcallv hA hZ (zrun hC hZ vkX2_98 rfl (zw0 (by decide)) (cX2_keepPair_ok l D cy a0 aT aP N x1 x2 x3 σ q hq H.size) hR rfl hsz rfl hW hcs hdg) (fun u H1 locs1 hU hZ1 => by obtain ⟨u1, u2⟩ := u; dsimp only at hU; subst hU; exact kk q u2 H1 locs1 hf hZ1)
theorem vkX2_64 : zVk RX2 64 yX2_chainOpenTellings cX2_chainOpenTellings 4 none 0 := ⟨by decide +kernel, by decide +kernel, by decide +kernel, by decide +kernel, by decide +kernel, by decide +kernel⟩
theorem kX2_64 (hC : zC p s m args c RX2 cc nL D cy) (hA : ∀ q, H0.size ≤ q → A q) (hZ : zW D cy shX 38 a0 aT aP A H0 σ H locs) {N : Nat}  {k : zS → Option α} (hf : zbv (fX2_chainOpenTellings N  σ) k = some res) (hsz : ls.size = nL) (hW : (rest.map fun v => v.category).sum ≤ 8) (hR : rmX2_chainOpenTellings.frames + 1 ≤ R.frames ∧ 8 + (4 + 11) + rmX2_chainOpenTellings.locals ≤ R.locals) (hcs : cells ≤ R.cells ∧ slots ≤ R.slots) (hdg : decode cc pc = .ok (.invokevirtual 64, 3)) (kk : ∀ (τ : zS) (H1 : Heap) (locs1 : List Loc), k τ = some res → zW D cy shX 38 a0 aT aP A H0 τ H1 locs1 → W p l e R s m args below meth c H1 locs1 cells slots Q (F0 m (pc + 3) ls (rest))) : W p l e R s m args below meth c H locs cells slots Q (F0 m pc ls (.ref (a0 2) :: rest)) := by
  cases hq : fX2_chainOpenTellings N  σ with
  | none => rw [hq] at hf; cases hf
  | some q =>
    rw [hq] at hf
    exact zcallv hA hZ (zrun hC hZ vkX2_64 rfl (zw0 (by decide)) (cX2_chainOpenTellings_ok l D cy a0 aT aP N  σ q hq H.size) hR rfl hsz rfl hW hcs hdg) (fun u H1 locs1 hU hZ1 => by subst hU; exact kk q H1 locs1 hf hZ1)
end ZK4
theorem zbi_some {α β : Type} {x : Option (β × zS)} {k : β → zS → Option α} {r : α} (h : zbi x k = some r) : ∃ a w, x = some (a, w) ∧ k a w = some r := by
  cases x with
  | none => cases h
  | some q => exact ⟨q.1, q.2, rfl, h⟩
theorem zbv_some {α : Type} {x : Option zS} {k : zS → Option α} {r : α} (h : zbv x k = some r) : ∃ w, x = some w ∧ k w = some r := by
  cases x with
  | none => cases h
  | some q => exact ⟨q, rfl, h⟩
theorem zldR_some {α : Type} {σ : zS} {c n : Nat} {i : Int32} {k : Option Nat → Option α} {r : α} (h : zldR σ c n i k = some r) : ∃ v, k v = some r := by
  unfold zldR at h
  by_cases q : i < 0 ∨ n ≤ i.toNatClampNeg
  · rw [if_pos q] at h; cases h
  · rw [if_neg q] at h; exact ⟨_, h⟩
theorem zgTR_some {α : Type} {σ : zS} {x : Option Nat} {j : Nat} {k : Option Nat → Option α} {r : α} (h : zgTR σ x j k = some r) : ∃ v, k v = some r := by
  cases x with
  | none => cases h
  | some t =>
    simp only [zgTR] at h
    by_cases q : t < σ.2.2.2.1
    · rw [if_pos q] at h; exact ⟨_, h⟩
    · rw [if_neg q] at h; cases h
abbrev rmX2_pairGroup (rv : Int32) : Room := { frames := 4, cells := (if rv = 0 then 0 else 8), slots := (if rv = 0 then 0 else 32), locals := 96 }
noncomputable def bX2_pairGroup_15 (N : Nat) (x1 : Int32) (x2 : Int32) (x3 : Int32) (K : Option Nat → zS → Option (Int32 × zS)) (rc : Option Nat × zS → Option (Int32 × zS)) (x4 : Option Nat) (w0 : zS) : Option (Int32 × zS) := zon x4 (K x4 w0) (zbv (fX4_offer N x4 w0) fun w3 => zgTR w3 x4 9 fun v4 => rc (v4, w3))
noncomputable def lX2_pairGroup_15 (N : Nat) (x1 : Int32) (x2 : Int32) (x3 : Int32) (K : Option Nat → zS → Option (Int32 × zS)) (n : Nat) (s : Option Nat × zS) : Option (Int32 × zS) := zlp (fun rc s => bX2_pairGroup_15 N x1 x2 x3 K rc s.1 s.2) n s
noncomputable def bX2_pairGroup_64 (N : Nat) (x1 : Int32) (x2 : Int32) (x3 : Int32) (K : Int32 → Int32 → zS → Option (Int32 × zS)) (rc : Int32 × Int32 × zS → Option (Int32 × zS)) (x4 : Int32) (x5 : Int32) (w0 : zS) : Option (Int32 × zS) := if (8 : Int32) ≤ x5 then (K x4 x5 w0) else (if x3 ≤ x4 then (K x4 x5 w0) else (zbi (fX4_giveAt N x5 w0) fun v11 w10 => zbi (fX4_takeFor N x5 w10) fun v13 w12 => zon v11 (rc (x4, (x5 + (1 : Int32)), w12)) (zon v13 (rc (x4, (x5 + (1 : Int32)), w12)) (if (200 : Int32) ≤ (w12.1 0 2 5) then (rc (x4, (x5 + (1 : Int32)), w12)) else (zbv (fX2_keepPair N v11 v13 x2 w12) fun w14 => rc ((x4 + (1 : Int32)), (x5 + (1 : Int32)), w14))))))
noncomputable def lX2_pairGroup_64 (N : Nat) (x1 : Int32) (x2 : Int32) (x3 : Int32) (K : Int32 → Int32 → zS → Option (Int32 × zS)) (n : Nat) (s : Int32 × Int32 × zS) : Option (Int32 × zS) := zlp (fun rc s => bX2_pairGroup_64 N x1 x2 x3 K rc s.1 s.2.1 s.2.2) n s
noncomputable def fX2_pairGroup (N : Nat) (x1 : Int32) (x2 : Int32) (x3 : Int32) (w0 : zS) : Option (Int32 × zS) := zbv (fX4_clear N  w0) fun w1 => zldR w1 19 600 x1 fun v2 => lX2_pairGroup_15 N x1 x2 x3 (fun y5 w6 => zbi (fX4_hasNear N  w6) fun v8 w7 => if v8 = 0 then (some ((0 : Int32), w7)) else (zbv (fX4_solve N  w7) fun w9 => lX2_pairGroup_64 N x1 x2 x3 (fun y15 y16 w17 => some (y15, w17)) N ((0 : Int32), (0 : Int32), w9))) N (v2, w1)
theorem pg64_step {N : Nat} {x1 x2 x3 : Int32} {K : Int32 → Int32 → zS → Option (Int32 × zS)} {rc : Int32 × Int32 × zS → Option (Int32 × zS)} {res : Int32 × zS} (hKp : ∀ a b w, K a b w = some res → res.1 = a) (ih : ∀ s', rc s' = some res → ∀ c g : Nat, s'.1 = nI c → s'.2.1 = nI g → c ≤ g → g ≤ 8 → ∃ r, res.1 = nI r ∧ c ≤ r ∧ r ≤ 8) (x4 x5 : Int32) (w0 : zS) (hf : bX2_pairGroup_64 N x1 x2 x3 K rc x4 x5 w0 = some res) (c1 g1 : Nat) (e4 : x4 = nI c1) (e5 : x5 = nI g1) (hcg : c1 ≤ g1) (hg : g1 ≤ 8) : ∃ r, res.1 = nI r ∧ c1 ≤ r ∧ r ≤ 8 := by
  unfold bX2_pairGroup_64 at hf
  by_cases h1 : (8 : Int32) ≤ x5
  · rw [if_pos h1] at hf; exact ⟨c1, (hKp _ _ _ hf).trans e4, Nat.le_refl _, by omega⟩
  · rw [if_neg h1] at hf
    have hg2 : g1 < 8 := by
      rcases Nat.lt_or_ge g1 8 with q | q
      · exact q
      · have : g1 = 8 := by omega
        subst this
        exact absurd (by rw [e5]; decide) h1
    have e5' : x5 + 1 = nI (g1 + 1) := by rw [e5, nI_1]
    have e4' : x4 + 1 = nI (c1 + 1) := by rw [e4, nI_1]
    by_cases h2 : x3 ≤ x4
    · rw [if_pos h2] at hf; exact ⟨c1, (hKp _ _ _ hf).trans e4, Nat.le_refl _, by omega⟩
    · rw [if_neg h2] at hf
      obtain ⟨v11, w10, -, hf⟩ := zbi_some hf
      obtain ⟨v13, w12, -, hf⟩ := zbi_some hf
      have go : ∀ w, rc (x4, x5 + 1, w) = some res → ∃ r, res.1 = nI r ∧ c1 ≤ r ∧ r ≤ 8 := fun w h => ih _ h c1 (g1 + 1) e4 e5' (by omega) (by omega)
      cases v11 with
      | none => exact go _ hf
      | some a =>
        cases v13 with
        | none => exact go _ hf
        | some b =>
          simp only [zon] at hf
          by_cases h3 : (200 : Int32) ≤ w12.1 0 2 5
          · rw [if_pos h3] at hf; exact go _ hf
          · rw [if_neg h3] at hf
            obtain ⟨w14, -, hf⟩ := zbv_some hf
            obtain ⟨r, g1, g2, g3⟩ := ih _ hf (c1 + 1) _ e4' e5' (by omega) (by omega)
            exact ⟨r, g1, by omega, g3⟩
theorem pg64 {N : Nat} {x1 x2 x3 : Int32} {K : Int32 → Int32 → zS → Option (Int32 × zS)} {res : Int32 × zS} (hKp : ∀ a b w, K a b w = some res → res.1 = a) (n : Nat) (s1 : Int32 × Int32 × zS) (hf : lX2_pairGroup_64 N x1 x2 x3 K n s1 = some res) : ∀ c g : Nat, s1.1 = nI c → s1.2.1 = nI g → c ≤ g → g ≤ 8 → ∃ r, res.1 = nI r ∧ c ≤ r ∧ r ≤ 8 := by
  have key := zloop (S := Int32 × Int32 × zS) (α := Int32 × zS) (b := fun rc s1 => bX2_pairGroup_64 N x1 x2 x3 K rc s1.1 s1.2.1 s1.2.2) (r := res) (Wd := fun s1 => ∀ c g : Nat, s1.1 = nI c → s1.2.1 = nI g → c ≤ g → g ≤ 8 → ∃ r, res.1 = nI r ∧ c ≤ r ∧ r ≤ 8)
  exact key (fun rc s ih hf => pg64_step hKp ih s.1 s.2.1 s.2.2 hf) n s1 hf
theorem pg15 {N : Nat} {x1 x2 x3 : Int32} {K : Option Nat → zS → Option (Int32 × zS)} {res : Int32 × zS} (n : Nat) (s1 : Option Nat × zS) (hf : lX2_pairGroup_15 N x1 x2 x3 K n s1 = some res) : ∃ y w, K y w = some res := by
  have key := zloop (S := Option Nat × zS) (α := Int32 × zS) (b := fun rc s1 => bX2_pairGroup_15 N x1 x2 x3 K rc s1.1 s1.2) (r := res) (Wd := fun _ => ∃ y w, K y w = some res)
  refine key ?_ n s1 hf
  rintro rc ⟨x4, w0⟩ ih hf
  have hf : bX2_pairGroup_15 N x1 x2 x3 K rc x4 w0 = some res := hf
  unfold bX2_pairGroup_15 at hf
  cases x4 with
  | none => exact ⟨_, _, hf⟩
  | some t =>
    simp only [zon] at hf
    obtain ⟨w, -, hf⟩ := zbv_some hf
    obtain ⟨v, hf⟩ := zgTR_some hf
    exact ih _ hf
/-- how many pairs come of a group -/
theorem pg_most {N : Nat} {x1 x2 x3 : Int32} {w τ : zS} {rv : Int32} (hf : fX2_pairGroup N x1 x2 x3 w = some (rv, τ)) : ∃ r, rv = nI r ∧ r ≤ 8 := by
  unfold fX2_pairGroup at hf
  obtain ⟨w1, -, hf⟩ := zbv_some hf
  obtain ⟨v2, hf⟩ := zldR_some hf
  obtain ⟨y, w6, hf⟩ := pg15 _ _ hf
  obtain ⟨v8, w7, -, hf⟩ := zbi_some hf
  by_cases h : v8 = 0
  · rw [if_pos h] at hf
    exact ⟨0, (zinj hf).1.symm, by omega⟩
  · rw [if_neg h] at hf
    obtain ⟨w9, -, hf⟩ := zbv_some hf
    obtain ⟨r, g1, g2, g3⟩ := pg64 (fun a b w h => (zinj (b := rv) (y := τ) h).1.symm) _ _ hf 0 0 rfl rfl (Nat.le_refl _) (by omega)
    exact ⟨r, g1, g3⟩
section ZG2
variable {p : Program} {l : Launch} {e : Env} {R : Room} {s : State} {m : MethodId} {args : Array Value} {below : List Frame} {meth : Method} {c : Code} {H : Heap} {locs : List Loc} {cells slots : Nat} {Q : State → Prop}
variable {pc : Nat} {ls : Array Slot} {rest : List Value} {D : va_G} {cy : Nat → ClassId} {own : String} {cc : ByteArray} {nL : Nat} {α : Type} {res : α}
theorem z_ige2 (hC : zC p s m args c own cc nL D cy) {x y : Int32} {off : Int} {tgt : Nat} {X Y : Option α} (hf : (if y ≤ x then X else Y) = some res) (hdg : decode cc pc = .ok (.if_icmp .ge off, 3)) (ht : (pc : Int) + off = (tgt : Int)) (kt : y ≤ x → X = some res → W p l e R s m args below meth c H locs cells slots Q (F0 m tgt ls rest)) (kf : ¬ y ≤ x → Y = some res → W p l e R s m args below meth c H locs cells slots Q (F0 m (pc + 3) ls rest)) : W p l e R s m args below meth c H locs cells slots Q (F0 m pc ls (.int y :: .int x :: rest)) :=
  lv_icmp_ge hC.1.1 hC.1.2.1 hdg ht (fun h => kt h (by rwa [if_pos h] at hf)) (fun h => kf h (by rwa [if_neg h] at hf))
end ZG2
set_option maxHeartbeats 4000000 in
set_option maxRecDepth 100000 in
theorem wX2_pairGroup_15 {p : Program} {l : Launch} {e : Env} {s : State} {m : MethodId} {args : Array Value} {below : List Frame} {meth : Method} {c : Code} {Q : State → Prop} {A : Nat → Prop} {H0 : Heap} {D : va_G} {cy : Nat → ClassId} {a0 aT aP : Nat → Nat} {res : Int32 × zS} {K : Option Nat → zS → Option (Int32 × zS)} (N : Nat) (x1 : Int32) (x2 : Int32) (x3 : Int32) (hC : zC p s m args c RX2 cX2_pairGroup 8 D cy) (hA : ∀ q, H0.size ≤ q → A q) (n : Nat) (x4 : Option Nat) (w0 : zS) {H : Heap} {locs : List Loc} {ls : Array Slot} (hf : lX2_pairGroup_15 N x1 x2 x3 K n (x4, w0) = some res) (hZ : zW D cy shX 38 a0 aT aP A H0 w0 H locs) (hl : lv_has ls 8 [(0, .ref (a0 2)), (1, .int x1), (2, .int x2), (3, .int x3), (4, va_rf (x4.map aT))]) (hK : ∀ x4 : Option Nat, ∀ (w0 : zS) (H : Heap) (locs : List Loc) (ls : Array Slot), K x4 w0 = some res → zW D cy shX 38 a0 aT aP A H0 w0 H locs → lv_has ls 8 [(0, .ref (a0 2)), (1, .int x1), (2, .int x2), (3, .int x3), (4, va_rf (x4.map aT))] → W p l e (rmX2_pairGroup res.1) s m args below meth c H locs 0 0 Q (F0 m 39 ls [])) : W p l e (rmX2_pairGroup res.1) s m args below meth c H locs 0 0 Q (F0 m 15 ls []) := by
  have hx := hC.1.1
  have hb := hC.1.2.1
  have hf2 : zlp (fun rc s1 => bX2_pairGroup_15 N x1 x2 x3 K rc s1.1 s1.2) n (x4, w0) = some res := hf
  have key := zloop (S := Option Nat × zS) (α := Int32 × zS) (b := fun rc s1 => bX2_pairGroup_15 N x1 x2 x3 K rc s1.1 s1.2) (r := res) (Wd := fun s1 => ∀ (H : Heap) (locs : List Loc) (ls : Array Slot), zW D cy shX 38 a0 aT aP A H0 s1.2 H locs → lv_has ls 8 [(0, .ref (a0 2)), (1, .int x1), (2, .int x2), (3, .int x3), (4, va_rf (s1.1.map aT))] → W p l e (rmX2_pairGroup res.1) s m args below meth c H locs 0 0 Q (F0 m 15 ls []))
  refine key ?_ n (x4, w0) hf2 H locs ls hZ hl
  clear hf hf2 hZ hl key
  rintro rc ⟨x4, w0⟩ ih hf H locs ls hZ hl
  have hf : bX2_pairGroup_15 N x1 x2 x3 K rc x4 w0 = some res := hf
  have hl : lv_has ls 8 [(0, .ref (a0 2)), (1, .int x1), (2, .int x2), (3, .int x3), (4, va_rf (x4.map aT))] := hl
  unfold bX2_pairGroup_15 at hf
  refine z_aload (pc := 15) hC dX2_pairGroup_15 (lv_at hl 4 rfl) ?_
  refine z_ifnull (pc := 17) (tgt := 39) hC hf dX2_pairGroup_17 (by decide) (fun hf => ?_) (fun hf => ?_)
  · exact hK x4 w0 H locs ls hf hZ (lv_sub hl [0, 1, 2, 3, 4] rfl)
  refine lv_aload_n (pc := 20) hx hb dX2_pairGroup_20 rfl (lv_at hl 0 rfl) ?_
  refine gfX2_29 (pc := 21) hC hZ dX2_pairGroup_21 ?_
  refine z_aload (pc := 24) hC dX2_pairGroup_24 (lv_at hl 4 rfl) ?_
  refine kX2_81 (pc := 26) hC hA hZ hf hl.1 (Nat.le_of_ble_eq_true rfl) ⟨Nat.le_of_ble_eq_true rfl, Nat.le_of_ble_eq_true rfl⟩ ⟨Nat.zero_le _, Nat.zero_le _⟩ dX2_pairGroup_26 (fun w3 H locs hf hZ => ?_)
  refine z_aload (pc := 29) hC dX2_pairGroup_29 (lv_at hl 4 rfl) ?_
  refine z_gTR (pc := 31) hC hZ fkX2_75 rfl hf dX2_pairGroup_31 (fun v4 hf => ?_)
  refine z_astore (pc := 34) (i := 4) (lv' := [(4, va_rf (v4.map aT)), (0, .ref (a0 2)), (1, .int x1), (2, .int x2), (3, .int x3)]) hC dX2_pairGroup_34 hl (by decide) (zadj_cons (Or.inl (Nat.ne_of_beq_eq_false rfl)) (zadj_cons (Or.inl (Nat.ne_of_beq_eq_false rfl)) (zadj_cons (Or.inl (Nat.ne_of_beq_eq_false rfl)) (zadj_cons (Or.inr rfl) (zadj_cons (Or.inl (Nat.ne_of_beq_eq_false rfl)) zadj_nil))))) rfl (fun ls hl => ?_)
  refine lv_goto (pc := 36) (tgt := 15) hx hb dX2_pairGroup_36 (by decide) ?_
  exact ih (v4, w3) hf H locs ls hZ (lv_sub hl [1, 2, 3, 4, 0] rfl)
set_option maxHeartbeats 4000000 in
set_option maxRecDepth 100000 in
theorem wX2_pairGroup_64 {p : Program} {l : Launch} {e : Env} {s : State} {m : MethodId} {args : Array Value} {below : List Frame} {meth : Method} {c : Code} {Q : State → Prop} {A : Nat → Prop} {H0 : Heap} {D : va_G} {cy : Nat → ClassId} {a0 aT : Nat → Nat} {res : Int32 × zS} {K : Int32 → Int32 → zS → Option (Int32 × zS)} (N : Nat) (x1 x2 x3 : Int32) (hC : zC p s m args c RX2 cX2_pairGroup 8 D cy) (hA : ∀ q, H0.size ≤ q → A q) (hKp : ∀ a b w, K a b w = some res → res.1 = a) (hK : ∀ (aP : Nat → Nat) (x4 x5 : Int32) (w0 : zS) (H : Heap) (locs : List Loc) (ls : Array Slot), K x4 x5 w0 = some res → zW D cy shX 38 a0 aT aP A H0 w0 H locs → lv_has ls 8 [(0, .ref (a0 2)), (1, .int x1), (2, .int x2), (3, .int x3), (4, .int x4), (5, .int x5)] → W p l e (rmX2_pairGroup res.1) s m args below meth c H locs (rmX2_pairGroup res.1).cells (rmX2_pairGroup res.1).slots Q (F0 m 137 ls [])) : ∀ (n : Nat) (s1 : Int32 × Int32 × zS), lX2_pairGroup_64 N x1 x2 x3 K n s1 = some res → ∀ c1 g1 : Nat, s1.1 = nI c1 → s1.2.1 = nI g1 → c1 ≤ g1 → g1 ≤ 8 → (∃ r, res.1 = nI r ∧ c1 ≤ r ∧ r ≤ 8) ∧ ∀ (aP : Nat → Nat) (H : Heap) (locs : List Loc) (ls : Array Slot), zW D cy shX 38 a0 aT aP A H0 s1.2.2 H locs → lv_has ls 8 [(0, .ref (a0 2)), (1, .int x1), (2, .int x2), (3, .int x3), (4, .int s1.1), (5, .int s1.2.1)] → W p l e (rmX2_pairGroup res.1) s m args below meth c H locs (if res.1 = 0 then 0 else g1) (if res.1 = 0 then 0 else 4 * g1) Q (F0 m 64 ls []) := by
  have hx := hC.1.1
  have hb := hC.1.2.1
  intro n s1 hf
  have key := zloop (S := Int32 × Int32 × zS) (α := Int32 × zS) (b := fun rc s1 => bX2_pairGroup_64 N x1 x2 x3 K rc s1.1 s1.2.1 s1.2.2) (r := res) (Wd := fun s1 => ∀ c1 g1 : Nat, s1.1 = nI c1 → s1.2.1 = nI g1 → c1 ≤ g1 → g1 ≤ 8 → (∃ r, res.1 = nI r ∧ c1 ≤ r ∧ r ≤ 8) ∧ ∀ (aP : Nat → Nat) (H : Heap) (locs : List Loc) (ls : Array Slot), zW D cy shX 38 a0 aT aP A H0 s1.2.2 H locs → lv_has ls 8 [(0, .ref (a0 2)), (1, .int x1), (2, .int x2), (3, .int x3), (4, .int s1.1), (5, .int s1.2.1)] → W p l e (rmX2_pairGroup res.1) s m args below meth c H locs (if res.1 = 0 then 0 else g1) (if res.1 = 0 then 0 else 4 * g1) Q (F0 m 64 ls []))
  refine key ?_ n s1 hf
  clear hf key
  rintro rc ⟨x4, x5, w0⟩ ih hf c1 g1 e4 e5 hcg hg
  have e4 : x4 = nI c1 := e4
  have e5 : x5 = nI g1 := e5
  have hf : bX2_pairGroup_64 N x1 x2 x3 K rc x4 x5 w0 = some res := hf
  refine ⟨pg64_step hKp (fun s' h c g q1 q2 q3 q4 => (ih s' h c g q1 q2 q3 q4).1) x4 x5 w0 hf c1 g1 e4 e5 hcg hg, ?_⟩
  intro aP H locs ls hZ hl
  have hl : lv_has ls 8 [(0, .ref (a0 2)), (1, .int x1), (2, .int x2), (3, .int x3), (4, .int x4), (5, .int x5)] := hl
  have hc8 : (if res.1 = 0 then 0 else g1) ≤ (rmX2_pairGroup res.1).cells := by show _ ≤ (if res.1 = 0 then 0 else 8); split <;> omega
  have hs8 : (if res.1 = 0 then 0 else 4 * g1) ≤ (rmX2_pairGroup res.1).slots := by show _ ≤ (if res.1 = 0 then 0 else 32); split <;> omega
  have hcn : (if res.1 = 0 then 0 else g1) ≤ (if res.1 = 0 then 0 else (g1 + 1)) := by split <;> omega
  have hsn : (if res.1 = 0 then 0 else 4 * g1) ≤ (if res.1 = 0 then 0 else 4 * (g1 + 1)) := by split <;> omega
  have e5' : x5 + 1 = nI (g1 + 1) := by rw [e5, nI_1]
  have e4' : x4 + 1 = nI (c1 + 1) := by rw [e4, nI_1]
  unfold bX2_pairGroup_64 at hf
  refine lv_iload (pc := 64) hx hb dX2_pairGroup_64 (lv_at hl 5 rfl) ?_
  refine lv_bipush (pc := 66) (v := (8 : Int32)) hx hb dX2_pairGroup_66 (by decide) ?_
  refine z_ige2 (pc := 68) (tgt := 137) hC hf dX2_pairGroup_68 (by decide) (fun _ hf => ?_) (fun h1 hf => ?_)
  · exact W.widen hc8 hs8 (hK aP x4 x5 w0 H locs ls hf hZ (lv_sub hl [0, 1, 2, 3, 4, 5] rfl))
  have hg2 : g1 < 8 := by
    rcases Nat.lt_or_ge g1 8 with q | q
    · exact q
    · have : g1 = 8 := by omega
      subst this
      exact absurd (by rw [e5]; decide) h1
  refine lv_iload (pc := 71) hx hb dX2_pairGroup_71 (lv_at hl 4 rfl) ?_
  refine lv_iload_n (pc := 73) hx hb dX2_pairGroup_73 rfl (lv_at hl 3 rfl) ?_
  refine z_ige (pc := 74) (tgt := 137) hC hf dX2_pairGroup_74 (by decide) (fun hf => ?_) (fun hf => ?_)
  · exact W.widen hc8 hs8 (hK aP x4 x5 w0 H locs ls hf hZ (lv_sub hl [0, 1, 2, 3, 4, 5] rfl))
  refine lv_aload_n (pc := 77) hx hb dX2_pairGroup_77 rfl (lv_at hl 0 rfl) ?_
  refine gfX2_29 (pc := 78) hC hZ dX2_pairGroup_78 ?_
  refine lv_iload (pc := 81) hx hb dX2_pairGroup_81 (lv_at hl 5 rfl) ?_
  refine kX2_91 (pc := 83) hC hA hZ hf hl.1 (Nat.le_of_ble_eq_true rfl) ⟨Nat.le_of_ble_eq_true rfl, Nat.le_of_ble_eq_true rfl⟩ ⟨hc8, hs8⟩ dX2_pairGroup_83 (fun v11 w10 H locs hf hZ => ?_)
  refine z_astore (pc := 86) (i := 6) (lv' := [(6, va_rf (v11.map aT)), (0, .ref (a0 2)), (1, .int x1), (2, .int x2), (3, .int x3), (4, .int x4), (5, .int x5)]) hC dX2_pairGroup_86 hl (by decide) (zadj_cons (Or.inl (Nat.ne_of_beq_eq_false rfl)) (zadj_cons (Or.inl (Nat.ne_of_beq_eq_false rfl)) (zadj_cons (Or.inl (Nat.ne_of_beq_eq_false rfl)) (zadj_cons (Or.inl (Nat.ne_of_beq_eq_false rfl)) (zadj_cons (Or.inl (Nat.ne_of_beq_eq_false rfl)) (zadj_cons (Or.inr rfl) zadj_nil)))))) rfl (fun ls hl => ?_)
  refine lv_aload_n (pc := 88) hx hb dX2_pairGroup_88 rfl (lv_at hl 1 rfl) ?_
  refine gfX2_29 (pc := 89) hC hZ dX2_pairGroup_89 ?_
  refine lv_iload (pc := 92) hx hb dX2_pairGroup_92 (lv_at hl 6 rfl) ?_
  refine kX2_95 (pc := 94) hC hA hZ hf hl.1 (Nat.le_of_ble_eq_true rfl) ⟨Nat.le_of_ble_eq_true rfl, Nat.le_of_ble_eq_true rfl⟩ ⟨hc8, hs8⟩ dX2_pairGroup_94 (fun v13 w12 H locs hf hZ => ?_)
  refine z_astore (pc := 97) (i := 7) (lv' := [(7, va_rf (v13.map aT)), (6, va_rf (v11.map aT)), (0, .ref (a0 2)), (1, .int x1), (2, .int x2), (3, .int x3), (4, .int x4), (5, .int x5)]) hC dX2_pairGroup_97 hl (by decide) (zadj_cons (Or.inr (zcat _)) (zadj_cons (Or.inl (Nat.ne_of_beq_eq_false rfl)) (zadj_cons (Or.inl (Nat.ne_of_beq_eq_false rfl)) (zadj_cons (Or.inl (Nat.ne_of_beq_eq_false rfl)) (zadj_cons (Or.inl (Nat.ne_of_beq_eq_false rfl)) (zadj_cons (Or.inl (Nat.ne_of_beq_eq_false rfl)) (zadj_cons (Or.inl (Nat.ne_of_beq_eq_false rfl)) zadj_nil))))))) rfl (fun ls hl => ?_)
  refine z_aload (pc := 99) hC dX2_pairGroup_99 (lv_at hl 1 rfl) ?_
  refine z_ifnull (pc := 101) (tgt := 131) hC hf dX2_pairGroup_101 (by decide) (fun hf => ?_) (fun hf => ?_)
  · refine z_iinc (pc := 131) (i := 5) (v := (x5 + (1 : Int32))) (lv' := [(5, .int (x5 + (1 : Int32))), (7, va_rf (v13.map aT)), (6, va_rf (v11.map aT)), (0, .ref (a0 2)), (1, .int x1), (2, .int x2), (3, .int x3), (4, .int x4)]) hC dX2_pairGroup_131 hl (k := 7) rfl rfl (by decide) (zadj_cons (Or.inl (Nat.ne_of_beq_eq_false rfl)) (zadj_cons (Or.inl (Nat.ne_of_beq_eq_false rfl)) (zadj_cons (Or.inl (Nat.ne_of_beq_eq_false rfl)) (zadj_cons (Or.inl (Nat.ne_of_beq_eq_false rfl)) (zadj_cons (Or.inl (Nat.ne_of_beq_eq_false rfl)) (zadj_cons (Or.inl (Nat.ne_of_beq_eq_false rfl)) (zadj_cons (Or.inr rfl) (zadj_cons (Or.inl (Nat.ne_of_beq_eq_false rfl)) zadj_nil)))))))) rfl (fun ls hl => ?_)
    refine lv_goto (pc := 134) (tgt := 64) hx hb dX2_pairGroup_134 (by decide) ?_
    exact W.widen hcn hsn ((ih (x4, (x5 + (1 : Int32)), w12) hf c1 (g1 + 1) e4 e5' (by omega) (by omega)).2 aP H locs ls hZ (lv_sub hl [3, 4, 5, 6, 7, 0] rfl))
  refine z_aload (pc := 104) hC dX2_pairGroup_104 (lv_at hl 0 rfl) ?_
  refine z_ifnull (pc := 106) (tgt := 131) hC hf dX2_pairGroup_106 (by decide) (fun hf => ?_) (fun hf => ?_)
  · refine z_iinc (pc := 131) (i := 5) (v := (x5 + (1 : Int32))) (lv' := [(5, .int (x5 + (1 : Int32))), (7, va_rf (v13.map aT)), (6, va_rf (v11.map aT)), (0, .ref (a0 2)), (1, .int x1), (2, .int x2), (3, .int x3), (4, .int x4)]) hC dX2_pairGroup_131 hl (k := 7) rfl rfl (by decide) (zadj_cons (Or.inl (Nat.ne_of_beq_eq_false rfl)) (zadj_cons (Or.inl (Nat.ne_of_beq_eq_false rfl)) (zadj_cons (Or.inl (Nat.ne_of_beq_eq_false rfl)) (zadj_cons (Or.inl (Nat.ne_of_beq_eq_false rfl)) (zadj_cons (Or.inl (Nat.ne_of_beq_eq_false rfl)) (zadj_cons (Or.inl (Nat.ne_of_beq_eq_false rfl)) (zadj_cons (Or.inr rfl) (zadj_cons (Or.inl (Nat.ne_of_beq_eq_false rfl)) zadj_nil)))))))) rfl (fun ls hl => ?_)
    refine lv_goto (pc := 134) (tgt := 64) hx hb dX2_pairGroup_134 (by decide) ?_
    exact W.widen hcn hsn ((ih (x4, (x5 + (1 : Int32)), w12) hf c1 (g1 + 1) e4 e5' (by omega) (by omega)).2 aP H locs ls hZ (lv_sub hl [3, 4, 5, 6, 7, 0] rfl))
  refine lv_aload_n (pc := 109) hx hb dX2_pairGroup_109 rfl (lv_at hl 2 rfl) ?_
  refine gfX2_37 (pc := 110) hC hZ dX2_pairGroup_110 ?_
  refine lv_sipush (pc := 113) (v := (200 : Int32)) hx hb dX2_pairGroup_113 (by decide) ?_
  refine z_ige (pc := 116) (tgt := 131) hC hf dX2_pairGroup_116 (by decide) (fun hf => ?_) (fun hf => ?_)
  · refine z_iinc (pc := 131) (i := 5) (v := (x5 + (1 : Int32))) (lv' := [(5, .int (x5 + (1 : Int32))), (7, va_rf (v13.map aT)), (6, va_rf (v11.map aT)), (0, .ref (a0 2)), (1, .int x1), (2, .int x2), (3, .int x3), (4, .int x4)]) hC dX2_pairGroup_131 hl (k := 7) rfl rfl (by decide) (zadj_cons (Or.inl (Nat.ne_of_beq_eq_false rfl)) (zadj_cons (Or.inl (Nat.ne_of_beq_eq_false rfl)) (zadj_cons (Or.inl (Nat.ne_of_beq_eq_false rfl)) (zadj_cons (Or.inl (Nat.ne_of_beq_eq_false rfl)) (zadj_cons (Or.inl (Nat.ne_of_beq_eq_false rfl)) (zadj_cons (Or.inl (Nat.ne_of_beq_eq_false rfl)) (zadj_cons (Or.inr rfl) (zadj_cons (Or.inl (Nat.ne_of_beq_eq_false rfl)) zadj_nil)))))))) rfl (fun ls hl => ?_)
    refine lv_goto (pc := 134) (tgt := 64) hx hb dX2_pairGroup_134 (by decide) ?_
    exact W.widen hcn hsn ((ih (x4, (x5 + (1 : Int32)), w12) hf c1 (g1 + 1) e4 e5' (by omega) (by omega)).2 aP H locs ls hZ (lv_sub hl [3, 4, 5, 6, 7, 0] rfl))
  refine lv_aload_n (pc := 119) hx hb dX2_pairGroup_119 rfl (lv_at hl 2 rfl) ?_
  refine z_aload (pc := 120) hC dX2_pairGroup_120 (lv_at hl 1 rfl) ?_
  refine z_aload (pc := 122) hC dX2_pairGroup_122 (lv_at hl 0 rfl) ?_
  refine lv_iload_n (pc := 124) hx hb dX2_pairGroup_124 rfl (lv_at hl 4 rfl) ?_
  have hne : ¬ res.1 = 0 := by
    obtain ⟨w14, -, h⟩ := zbv_some hf
    obtain ⟨r, q1, q2, q3⟩ := (ih _ h (c1 + 1) (g1 + 1) e4' e5' (by omega) (by omega)).1
    rw [q1]
    exact nI_ne0 (by omega) (by omega)
  refine kX2_98 (pc := 125) hC hA hZ hf hl.1 (Nat.le_of_ble_eq_true rfl) ⟨Nat.le_of_ble_eq_true rfl, Nat.le_of_ble_eq_true rfl⟩ ⟨by rw [if_neg hne]; show g1 + 1 ≤ (if res.1 = 0 then 0 else 8); rw [if_neg hne]; omega, by rw [if_neg hne]; show 4 * g1 + 4 ≤ (if res.1 = 0 then 0 else 32); rw [if_neg hne]; omega⟩ dX2_pairGroup_125 (fun w14 aP H locs hf hZ => ?_)
  refine z_iinc (pc := 128) (i := 4) (v := (x4 + (1 : Int32))) (lv' := [(4, .int (x4 + (1 : Int32))), (7, va_rf (v13.map aT)), (6, va_rf (v11.map aT)), (0, .ref (a0 2)), (1, .int x1), (2, .int x2), (3, .int x3), (5, .int x5)]) hC dX2_pairGroup_128 hl (k := 6) rfl rfl (by decide) (zadj_cons (Or.inl (Nat.ne_of_beq_eq_false rfl)) (zadj_cons (Or.inl (Nat.ne_of_beq_eq_false rfl)) (zadj_cons (Or.inl (Nat.ne_of_beq_eq_false rfl)) (zadj_cons (Or.inl (Nat.ne_of_beq_eq_false rfl)) (zadj_cons (Or.inl (Nat.ne_of_beq_eq_false rfl)) (zadj_cons (Or.inr rfl) (zadj_cons (Or.inl (Nat.ne_of_beq_eq_false rfl)) (zadj_cons (Or.inl (Nat.ne_of_beq_eq_false rfl)) zadj_nil)))))))) rfl (fun ls hl => ?_)
  refine z_iinc (pc := 131) (i := 5) (v := (x5 + (1 : Int32))) (lv' := [(5, .int (x5 + (1 : Int32))), (4, .int (x4 + (1 : Int32))), (7, va_rf (v13.map aT)), (6, va_rf (v11.map aT)), (0, .ref (a0 2)), (1, .int x1), (2, .int x2), (3, .int x3)]) hC dX2_pairGroup_131 hl (k := 7) rfl rfl (by decide) (zadj_cons (Or.inr rfl) (zadj_cons (Or.inl (Nat.ne_of_beq_eq_false rfl)) (zadj_cons (Or.inl (Nat.ne_of_beq_eq_false rfl)) (zadj_cons (Or.inl (Nat.ne_of_beq_eq_false rfl)) (zadj_cons (Or.inl (Nat.ne_of_beq_eq_false rfl)) (zadj_cons (Or.inl (Nat.ne_of_beq_eq_false rfl)) (zadj_cons (Or.inl (Nat.ne_of_beq_eq_false rfl)) (zadj_cons (Or.inl (Nat.ne_of_beq_eq_false rfl)) zadj_nil)))))))) rfl (fun ls hl => ?_)
  refine lv_goto (pc := 134) (tgt := 64) hx hb dX2_pairGroup_134 (by decide) ?_
  refine W.widen (k := if res.1 = 0 then 0 else g1 + 1) (n := if res.1 = 0 then 0 else 4 * (g1 + 1)) (by simp [hne]) (by simp [hne]; omega) ?_
  exact (ih ((x4 + (1 : Int32)), (x5 + (1 : Int32)), w14) hf (c1 + 1) (g1 + 1) e4' e5' (by omega) (by omega)).2 aP H locs ls hZ (lv_sub hl [4, 5, 6, 7, 1, 0] rfl)
set_option maxHeartbeats 4000000 in
set_option maxRecDepth 100000 in
theorem cX2_pairGroup_ok (l : Launch) (D : va_G) (cy : Nat → ClassId) (a0 aT aP : Nat → Nat) (N : Nat) (x1 : Int32) (x2 : Int32) (x3 : Int32) (w0 : zS) (rv : Int32) (τ : zS) (hf : fX2_pairGroup N x1 x2 x3 w0 = some (rv, τ)) : zMi l yX2_pairGroup cX2_pairGroup 8 (some .int) (rmX2_pairGroup rv) D cy shX 38 a0 aT aP w0 [.ref (a0 2), .int x1, .int x2, .int x3] rv τ (fun u => u.1 = aT) := by
  refine zmet_i (by decide +kernel) (Or.inl rfl) (Nat.le_of_ble_eq_true rfl) ?_
  intro p e s m below meth c A Q ls hC hA hZ hl hE
  have hx := hC.1.1
  have hb := hC.1.2.1
  have hl : lv_has ls 8 [(0, .ref (a0 2)), (1, .int x1), (2, .int x2), (3, .int x3)] := hl
  unfold fX2_pairGroup at hf
  refine lv_aload_n (pc := 0) hx hb dX2_pairGroup_0 rfl (lv_at hl 0 rfl) ?_
  refine gfX2_29 (pc := 1) hC hZ dX2_pairGroup_1 ?_
  refine kX2_78 (pc := 4) hC hA hZ hf hl.1 (Nat.le_of_ble_eq_true rfl) ⟨Nat.le_of_ble_eq_true rfl, Nat.le_of_ble_eq_true rfl⟩ ⟨Nat.zero_le _, Nat.zero_le _⟩ dX2_pairGroup_4 (fun w1 H locs hf hZ => ?_)
  refine lv_aload_n (pc := 7) hx hb dX2_pairGroup_7 rfl (lv_at hl 0 rfl) ?_
  refine gfX2_23 (pc := 8) hC hZ dX2_pairGroup_8 ?_
  refine lv_iload_n (pc := 11) hx hb dX2_pairGroup_11 rfl (lv_at hl 1 rfl) ?_
  refine z_aaldT (pc := 12) hC hZ (by decide) rfl hf dX2_pairGroup_12 (fun v2 hf => ?_)
  refine z_astore (pc := 13) (i := 4) (lv' := [(4, va_rf (v2.map aT)), (0, .ref (a0 2)), (1, .int x1), (2, .int x2), (3, .int x3)]) hC dX2_pairGroup_13 hl (by decide) (zadj_cons (Or.inl (Nat.ne_of_beq_eq_false rfl)) (zadj_cons (Or.inl (Nat.ne_of_beq_eq_false rfl)) (zadj_cons (Or.inl (Nat.ne_of_beq_eq_false rfl)) (zadj_cons (Or.inr rfl) zadj_nil)))) rfl (fun ls hl => ?_)
  refine wX2_pairGroup_15 (res := (rv, τ)) N x1 x2 x3 hC hA N _ _ hf hZ (lv_sub hl [1, 2, 3, 4, 0] rfl) (fun y5 w6 H locs ls hf hZ hl => ?_)
  refine lv_aload_n (pc := 39) hx hb dX2_pairGroup_39 rfl (lv_at hl 0 rfl) ?_
  refine gfX2_29 (pc := 40) hC hZ dX2_pairGroup_40 ?_
  refine kX2_85 (pc := 43) hC hA hZ hf hl.1 (Nat.le_of_ble_eq_true rfl) ⟨Nat.le_of_ble_eq_true rfl, Nat.le_of_ble_eq_true rfl⟩ ⟨Nat.zero_le _, Nat.zero_le _⟩ dX2_pairGroup_43 (fun v8 w7 H locs hf hZ => ?_)
  refine z_ne0 (pc := 46) (tgt := 51) hC hf dX2_pairGroup_46 (by decide) (fun hf => ?_) (fun hf => ?_)
  · refine lv_iconst (pc := 49) (v := (0 : Int32)) hx hb dX2_pairGroup_49 (by decide) ?_
    obtain ⟨rfl, rfl⟩ := zinj hf
    exact hE _ _ _ _ _ _ rfl hZ dX2_pairGroup_50
  refine lv_aload_n (pc := 51) hx hb dX2_pairGroup_51 rfl (lv_at hl 0 rfl) ?_
  refine gfX2_29 (pc := 52) hC hZ dX2_pairGroup_52 ?_
  refine kX2_88 (pc := 55) hC hA hZ hf hl.1 (Nat.le_of_ble_eq_true rfl) ⟨Nat.le_of_ble_eq_true rfl, Nat.le_of_ble_eq_true rfl⟩ ⟨Nat.zero_le _, Nat.zero_le _⟩ dX2_pairGroup_55 (fun w9 H locs hf hZ => ?_)
  refine lv_iconst (pc := 58) (v := (0 : Int32)) hx hb dX2_pairGroup_58 (by decide) ?_
  refine z_istore (pc := 59) (i := 4) (lv' := [(4, .int (0 : Int32)), (0, .ref (a0 2)), (1, .int x1), (2, .int x2), (3, .int x3)]) hC dX2_pairGroup_59 hl (by decide) (zadj_cons (Or.inl (Nat.ne_of_beq_eq_false rfl)) (zadj_cons (Or.inl (Nat.ne_of_beq_eq_false rfl)) (zadj_cons (Or.inl (Nat.ne_of_beq_eq_false rfl)) (zadj_cons (Or.inr rfl) (zadj_cons (Or.inl (Nat.ne_of_beq_eq_false rfl)) zadj_nil))))) rfl (fun ls hl => ?_)
  refine lv_iconst (pc := 61) (v := (0 : Int32)) hx hb dX2_pairGroup_61 (by decide) ?_
  refine lv_istore (pc := 62) (lv' := [(5, .int (0 : Int32)), (4, .int (0 : Int32)), (0, .ref (a0 2)), (1, .int x1), (2, .int x2), (3, .int x3)]) hx hb dX2_pairGroup_62 hl (by decide) rfl (fun ls hl => ?_)
  have hz : W p l e (rmX2_pairGroup rv) s m #[.ref (a0 2), .int x1, .int x2, .int x3] below meth c H locs (if rv = 0 then 0 else 0) (if rv = 0 then 0 else 4 * 0) Q (F0 m 64 ls []) := by
    refine (wX2_pairGroup_64 (res := (rv, τ)) N x1 x2 x3 hC hA (fun a b w h => (zinj (b := rv) (y := τ) h).1.symm) (fun aP y15 y16 w17 H locs ls hf hZ hl => ?_) N _ hf 0 0 rfl rfl (Nat.le_refl _) (by omega)).2 aP H locs ls hZ (lv_sub hl [2, 3, 4, 5, 1, 0] rfl)
    refine lv_iload (pc := 137) hx hb dX2_pairGroup_137 (lv_at hl 4 rfl) ?_
    obtain ⟨rfl, rfl⟩ := zinj hf
    exact hE _ _ _ _ _ _ rfl hZ dX2_pairGroup_139
  exact W.widen (by split <;> omega) (by split <;> omega) hz

section ZK5
variable {p : Program} {l : Launch} {e : Env} {R : Room} {s : State} {m : MethodId} {args : Array Value} {below : List Frame} {meth : Method} {c : Code} {H : Heap} {locs : List Loc} {cells slots : Nat} {Q : State → Prop}
variable {pc : Nat} {ls : Array Slot} {rest : List Value} {A : Nat → Prop} {H0 : Heap} {D : va_G} {cy : Nat → ClassId} {a0 aT aP : Nat → Nat} {σ : zS} {cc : ByteArray} {nL : Nat} {α : Type} {res : α}
theorem vkX2_67 : zVk RX2 67 yX2_pairGroup cX2_pairGroup 8 (some .int) 3 := ⟨by decide +kernel, by decide +kernel, by decide +kernel, by decide +kernel, by decide +kernel, by decide +kernel⟩
theorem kX2_67 (hC : zC p s m args c RX2 cc nL D cy) (hA : ∀ q, H0.size ≤ q → A q) (hZ : zW D cy shX 38 a0 aT aP A H0 σ H locs) {N : Nat} {x1 x2 x3 : Int32} {k : Int32 → zS → Option α} (hf : zbi (fX2_pairGroup N x1 x2 x3 σ) k = some res) (hsz : ls.size = nL) (hW : (rest.map fun v => v.category).sum ≤ 8) (hR : 4 + 1 ≤ R.frames ∧ 8 + (8 + 11) + 96 ≤ R.locals) (hcs : cells + 8 ≤ R.cells ∧ slots + 32 ≤ R.slots) (hdg : decode cc pc = .ok (.invokevirtual 67, 3)) (kk : ∀ (v : Int32) (τ : zS) (aP' : Nat → Nat) (H1 : Heap) (locs1 : List Loc), fX2_pairGroup N x1 x2 x3 σ = some (v, τ) → k v τ = some res → zW D cy shX 38 a0 aT aP' A H0 τ H1 locs1 → W p l e R s m args below meth c H1 locs1 (cells + (if v = 0 then 0 else 8)) (slots + (if v = 0 then 0 else 32)) Q (F0 m (pc + 3) ls (.int v :: rest))) : W p l e R s m args below meth c H locs cells slots Q (F0 m pc ls (.int x3 :: .int x2 :: .int x1 :: .ref (a0 2) :: rest)) := by
  cases hq : fX2_pairGroup N x1 x2 x3 σ with
  | none => rw [hq] at hf; cases hf
  | some q =>
    rw [hq] at hf
    have h8 : (if q.1 = 0 then 0 else 8) ≤ 8 := by split <;> omega
    have h32 : (if q.1 = 0 then 0 else 32) ≤ 32 := by split <;> omega
    exact zcalli (rm := rmX2_pairGroup q.1) hA hZ (zrun (rm := rmX2_pairGroup q.1) hC hZ vkX2_67 rfl (zw0 (by decide)) (cX2_pairGroup_ok l D cy a0 aT aP N x1 x2 x3 σ q.1 q.2 hq H.size) hR rfl hsz rfl hW ⟨by show cells + (if q.1 = 0 then 0 else 8) ≤ _; omega, by show slots + (if q.1 = 0 then 0 else 32) ≤ _; omega⟩ hdg) (fun u H1 locs1 hU hZ1 => by obtain ⟨u1, u2⟩ := u; dsimp only at hU; subst hU; exact kk q.1 q.2 u2 H1 locs1 hq hf hZ1)
end ZK5
abbrev rmX2_pairUp : Room := { frames := 5, cells := 256, slots := 1024, locals := 123 }
noncomputable def bX2_pairUp_8 (N : Nat) (x1 : Int32) (K : Int32 → Int32 → zS → Option (Int32 × zS)) (rc : Int32 × Int32 × zS → Option (Int32 × zS)) (x2 : Int32) (x3 : Int32) (w0 : zS) : Option (Int32 × zS) := if (600 : Int32) ≤ x3 then (K x2 x3 w0) else (if (25 : Int32) ≤ x2 then (K x2 x3 w0) else (zldR w0 19 600 x3 fun v2 => zon v2 (rc (x2, (x3 + (1 : Int32)), w0)) (zbi (fX2_pairGroup N x3 x1 ((25 : Int32) - x2) w0) fun v4 w3 => rc ((x2 + v4), (x3 + (1 : Int32)), w3))))
noncomputable def lX2_pairUp_8 (N : Nat) (x1 : Int32) (K : Int32 → Int32 → zS → Option (Int32 × zS)) (n : Nat) (s : Int32 × Int32 × zS) : Option (Int32 × zS) := zlp (fun rc s => bX2_pairUp_8 N x1 K rc s.1 s.2.1 s.2.2) n s
noncomputable def fX2_pairUp (N : Nat) (x1 : Int32) (w0 : zS) : Option (Int32 × zS) := zbv (fX2_chainOpenTellings N  w0) fun w1 => lX2_pairUp_8 N x1 (fun y5 y6 w7 => some (y5, w7)) N ((0 : Int32), (0 : Int32), w1)
set_option maxHeartbeats 4000000 in
set_option maxRecDepth 100000 in
theorem wX2_pairUp_8 {p : Program} {l : Launch} {e : Env} {s : State} {m : MethodId} {args : Array Value} {below : List Frame} {meth : Method} {c : Code} {Q : State → Prop} {A : Nat → Prop} {H0 : Heap} {D : va_G} {cy : Nat → ClassId} {a0 aT : Nat → Nat} {res : Int32 × zS} {K : Int32 → Int32 → zS → Option (Int32 × zS)} (N : Nat) (x1 : Int32) (hC : zC p s m args c RX2 cX2_pairUp 4 D cy) (hA : ∀ q, H0.size ≤ q → A q) (hK : ∀ (aP : Nat → Nat) (x2 x3 : Int32) (w0 : zS) (H : Heap) (locs : List Loc) (ls : Array Slot), K x2 x3 w0 = some res → zW D cy shX 38 a0 aT aP A H0 w0 H locs → lv_has ls 4 [(0, .ref (a0 2)), (1, .int x1), (2, .int x2), (3, .int x3)] → W p l e rmX2_pairUp s m args below meth c H locs 256 1024 Q (F0 m 49 ls [])) : ∀ (n : Nat) (s1 : Int32 × Int32 × zS), lX2_pairUp_8 N x1 K n s1 = some res → ∀ c1 : Nat, s1.1 = nI c1 → c1 ≤ 32 → ∀ (aP : Nat → Nat) (H : Heap) (locs : List Loc) (ls : Array Slot), zW D cy shX 38 a0 aT aP A H0 s1.2.2 H locs → lv_has ls 4 [(0, .ref (a0 2)), (1, .int x1), (2, .int s1.1), (3, .int s1.2.1)] → W p l e rmX2_pairUp s m args below meth c H locs (8 * c1) (32 * c1) Q (F0 m 8 ls []) := by
  have hx := hC.1.1
  have hb := hC.1.2.1
  intro n s1 hf
  have key := zloop (S := Int32 × Int32 × zS) (α := Int32 × zS) (b := fun rc s1 => bX2_pairUp_8 N x1 K rc s1.1 s1.2.1 s1.2.2) (r := res) (Wd := fun s1 => ∀ c1 : Nat, s1.1 = nI c1 → c1 ≤ 32 → ∀ (aP : Nat → Nat) (H : Heap) (locs : List Loc) (ls : Array Slot), zW D cy shX 38 a0 aT aP A H0 s1.2.2 H locs → lv_has ls 4 [(0, .ref (a0 2)), (1, .int x1), (2, .int s1.1), (3, .int s1.2.1)] → W p l e rmX2_pairUp s m args below meth c H locs (8 * c1) (32 * c1) Q (F0 m 8 ls []))
  refine key ?_ n s1 hf
  clear hf key
  rintro rc ⟨x2, x3, w0⟩ ih hf c1 e2 hc1 aP H locs ls hZ hl
  have e2 : x2 = nI c1 := e2
  have hf : bX2_pairUp_8 N x1 K rc x2 x3 w0 = some res := hf
  have hl : lv_has ls 4 [(0, .ref (a0 2)), (1, .int x1), (2, .int x2), (3, .int x3)] := hl
  unfold bX2_pairUp_8 at hf
  refine lv_iload_n (pc := 8) hx hb dX2_pairUp_8 rfl (lv_at hl 3 rfl) ?_
  refine lv_sipush (pc := 9) (v := (600 : Int32)) hx hb dX2_pairUp_9 (by decide) ?_
  refine z_ige (pc := 12) (tgt := 49) hC hf dX2_pairUp_12 (by decide) (fun hf => ?_) (fun hf => ?_)
  · exact W.widen (by omega) (by omega) (hK aP x2 x3 w0 H locs ls hf hZ (lv_sub hl [0, 1, 2, 3] rfl))
  refine lv_iload_n (pc := 15) hx hb dX2_pairUp_15 rfl (lv_at hl 2 rfl) ?_
  refine lv_bipush (pc := 16) (v := (25 : Int32)) hx hb dX2_pairUp_16 (by decide) ?_
  refine z_ige2 (pc := 18) (tgt := 49) hC hf dX2_pairUp_18 (by decide) (fun _ hf => ?_) (fun h1 hf => ?_)
  · exact W.widen (by omega) (by omega) (hK aP x2 x3 w0 H locs ls hf hZ (lv_sub hl [0, 1, 2, 3] rfl))
  have hc2 : c1 < 25 := by
    rcases Nat.lt_or_ge c1 25 with q | q
    · exact q
    · exact absurd (by rw [e2]; exact nI_le (a := 25) q (by omega)) h1
  refine lv_aload_n (pc := 21) hx hb dX2_pairUp_21 rfl (lv_at hl 0 rfl) ?_
  refine gfX2_23 (pc := 22) hC hZ dX2_pairUp_22 ?_
  refine lv_iload_n (pc := 25) hx hb dX2_pairUp_25 rfl (lv_at hl 3 rfl) ?_
  refine z_aaldT (pc := 26) hC hZ (by decide) rfl hf dX2_pairUp_26 (fun v2 hf => ?_)
  refine z_ifnull (pc := 27) (tgt := 43) hC hf dX2_pairUp_27 (by decide) (fun hf => ?_) (fun hf => ?_)
  · refine lv_iinc (pc := 43) (v := (x3 + (1 : Int32))) (lv' := [(3, .int (x3 + (1 : Int32))), (0, .ref (a0 2)), (1, .int x1), (2, .int x2)]) hx hb dX2_pairUp_43 hl (k := 3) rfl rfl (by decide) rfl (fun ls hl => ?_)
    refine lv_goto (pc := 46) (tgt := 8) hx hb dX2_pairUp_46 (by decide) ?_
    exact ih (x2, (x3 + (1 : Int32)), w0) hf c1 e2 hc1 aP H locs ls hZ (lv_sub hl [1, 2, 3, 0] rfl)
  refine lv_iload_n (pc := 30) hx hb dX2_pairUp_30 rfl (lv_at hl 2 rfl) ?_
  refine lv_aload_n (pc := 31) hx hb dX2_pairUp_31 rfl (lv_at hl 0 rfl) ?_
  refine lv_iload_n (pc := 32) hx hb dX2_pairUp_32 rfl (lv_at hl 3 rfl) ?_
  refine lv_iload_n (pc := 33) hx hb dX2_pairUp_33 rfl (lv_at hl 1 rfl) ?_
  refine lv_bipush (pc := 34) (v := (25 : Int32)) hx hb dX2_pairUp_34 (by decide) ?_
  refine lv_iload_n (pc := 36) hx hb dX2_pairUp_36 rfl (lv_at hl 2 rfl) ?_
  refine lv_isub (pc := 37) hx hb dX2_pairUp_37 ?_
  refine kX2_67 (pc := 38) hC hA hZ hf hl.1 (Nat.le_of_ble_eq_true rfl) ⟨Nat.le_of_ble_eq_true rfl, Nat.le_of_ble_eq_true rfl⟩ ⟨by show 8 * c1 + 8 ≤ 256; omega, by show 32 * c1 + 32 ≤ 1024; omega⟩ dX2_pairUp_38 (fun v4 w3 aP H locs hq hf hZ => ?_)
  obtain ⟨r, er, hr8⟩ := pg_most hq
  have e2' : x2 + v4 = nI (c1 + r) := by rw [e2, er, nI_add]
  refine W.widen (k := 8 * (c1 + r)) (n := 32 * (c1 + r)) ?_ ?_ ?_
  · by_cases hz : v4 = 0
    · rw [if_pos hz]; omega
    · have hr0 : r ≠ 0 := fun q => hz (by rw [er, q]; rfl)
      rw [if_neg hz]; omega
  · by_cases hz : v4 = 0
    · rw [if_pos hz]; omega
    · have hr0 : r ≠ 0 := fun q => hz (by rw [er, q]; rfl)
      rw [if_neg hz]; omega
  refine lv_iadd (pc := 41) hx hb dX2_pairUp_41 ?_
  refine lv_istore_n (pc := 42) (lv' := [(2, .int (x2 + v4)), (0, .ref (a0 2)), (1, .int x1), (3, .int x3)]) hx hb dX2_pairUp_42 rfl hl (by decide) rfl (fun ls hl => ?_)
  refine lv_iinc (pc := 43) (v := (x3 + (1 : Int32))) (lv' := [(3, .int (x3 + (1 : Int32))), (2, .int (x2 + v4)), (0, .ref (a0 2)), (1, .int x1)]) hx hb dX2_pairUp_43 hl (k := 3) rfl rfl (by decide) rfl (fun ls hl => ?_)
  refine lv_goto (pc := 46) (tgt := 8) hx hb dX2_pairUp_46 (by decide) ?_
  exact ih ((x2 + v4), (x3 + (1 : Int32)), w3) hf (c1 + r) e2' (by omega) aP H locs ls hZ (lv_sub hl [2, 3, 1, 0] rfl)
set_option maxHeartbeats 4000000 in
set_option maxRecDepth 100000 in
theorem cX2_pairUp_ok (l : Launch) (D : va_G) (cy : Nat → ClassId) (a0 aT aP : Nat → Nat) (N : Nat) (x1 : Int32) (w0 : zS) (rv : Int32) (τ : zS) (hf : fX2_pairUp N x1 w0 = some (rv, τ)) : zMi l yX2_pairUp cX2_pairUp 4 (some .int) rmX2_pairUp D cy shX 38 a0 aT aP w0 [.ref (a0 2), .int x1] rv τ (fun u => u.1 = aT) := by
  refine zmet_i (by decide +kernel) (Or.inl rfl) (Nat.le_of_ble_eq_true rfl) ?_
  intro p e s m below meth c A Q ls hC hA hZ hl hE
  have hx := hC.1.1
  have hb := hC.1.2.1
  have hl : lv_has ls 4 [(0, .ref (a0 2)), (1, .int x1)] := hl
  unfold fX2_pairUp at hf
  refine lv_aload_n (pc := 0) hx hb dX2_pairUp_0 rfl (lv_at hl 0 rfl) ?_
  refine kX2_64 (pc := 1) hC hA hZ hf hl.1 (Nat.le_of_ble_eq_true rfl) ⟨Nat.le_of_ble_eq_true rfl, Nat.le_of_ble_eq_true rfl⟩ ⟨Nat.le_of_ble_eq_true rfl, Nat.le_of_ble_eq_true rfl⟩ dX2_pairUp_1 (fun w1 H locs hf hZ => ?_)
  refine lv_iconst (pc := 4) (v := (0 : Int32)) hx hb dX2_pairUp_4 (by decide) ?_
  refine lv_istore_n (pc := 5) (lv' := [(2, .int (0 : Int32)), (0, .ref (a0 2)), (1, .int x1)]) hx hb dX2_pairUp_5 rfl hl (by decide) rfl (fun ls hl => ?_)
  refine lv_iconst (pc := 6) (v := (0 : Int32)) hx hb dX2_pairUp_6 (by decide) ?_
  refine lv_istore_n (pc := 7) (lv' := [(3, .int (0 : Int32)), (2, .int (0 : Int32)), (0, .ref (a0 2)), (1, .int x1)]) hx hb dX2_pairUp_7 rfl hl (by decide) rfl (fun ls hl => ?_)
  refine wX2_pairUp_8 (res := (rv, τ)) N x1 hC hA (fun aP y5 y6 w7 H locs ls hf hZ hl => ?_) N _ hf 0 rfl (by omega) aP H locs ls hZ (lv_sub hl [2, 3, 1, 0] rfl)
  refine lv_iload_n (pc := 49) hx hb dX2_pairUp_49 rfl (lv_at hl 2 rfl) ?_
  obtain ⟨rfl, rfl⟩ := zinj hf
  exact hE _ _ _ _ _ _ rfl hZ dX2_pairUp_50

section ZK6
variable {p : Program} {l : Launch} {e : Env} {R : Room} {s : State} {m : MethodId} {args : Array Value} {below : List Frame} {meth : Method} {c : Code} {H : Heap} {locs : List Loc} {cells slots : Nat} {Q : State → Prop}
variable {pc : Nat} {ls : Array Slot} {rest : List Value} {A : Nat → Prop} {H0 : Heap} {D : va_G} {cy : Nat → ClassId} {a0 aT aP : Nat → Nat} {σ : zS} {cc : ByteArray} {nL : Nat} {α : Type} {res : α}
theorem vkX7_128 : zVk RX7 128 yX2_pairUp cX2_pairUp 4 (some .int) 1 := ⟨by decide +kernel, by decide +kernel, by decide +kernel, by decide +kernel, by decide +kernel, by decide +kernel⟩
theorem kX7_128 (hC : zC p s m args c RX7 cc nL D cy) (hA : ∀ q, H0.size ≤ q → A q) (hZ : zW D cy shX 38 a0 aT aP A H0 σ H locs) {N : Nat} {x1 : Int32} {k : Int32 → zS → Option α} (hf : zbi (fX2_pairUp N x1 σ) k = some res) (hsz : ls.size = nL) (hW : (rest.map fun v => v.category).sum ≤ 8) (hR : rmX2_pairUp.frames + 1 ≤ R.frames ∧ 8 + (4 + 11) + rmX2_pairUp.locals ≤ R.locals) (hcs : cells + 256 ≤ R.cells ∧ slots + 1024 ≤ R.slots) (hdg : decode cc pc = .ok (.invokevirtual 128, 3)) (kk : ∀ (v : Int32) (τ : zS) (aP' : Nat → Nat) (H1 : Heap) (locs1 : List Loc), k v τ = some res → zW D cy shX 38 a0 aT aP' A H0 τ H1 locs1 → W p l e R s m args below meth c H1 locs1 (cells + 256) (slots + 1024) Q (F0 m (pc + 3) ls (.int v :: rest))) : W p l e R s m args below meth c H locs cells slots Q (F0 m pc ls (.int x1 :: .ref (a0 2) :: rest)) := by
  cases hq : fX2_pairUp N x1 σ with
  | none => rw [hq] at hf; cases hf
  | some q =>
    rw [hq] at hf
    exact zcalli hA hZ (zrun hC hZ vkX7_128 rfl (zw0 (by decide)) (cX2_pairUp_ok l D cy a0 aT aP N x1 σ q.1 q.2 hq H.size) hR rfl hsz rfl hW hcs hdg) (fun u H1 locs1 hU hZ1 => by obtain ⟨u1, u2⟩ := u; dsimp only at hU; subst hU; exact kk q.1 q.2 u2 H1 locs1 hf hZ1)
end ZK6
abbrev rmX7_pair : Room := { frames := 6, cells := 256, slots := 1024, locals := 146 }
noncomputable def bX7_pair_42 (N : Nat) (x1 : Int32) (x2 : Int32) (K : Int32 → zS → Option (Int32 × zS)) (rc : Int32 × zS → Option (Int32 × zS)) (x3 : Int32) (w0 : zS) : Option (Int32 × zS) := if (x1 + x2) ≤ x3 then (K x3 w0) else (zbi (fX2_pairAt N x3 w0) fun v4 w3 => zon v4 (rc ((x3 + (1 : Int32)), w3)) (zgP w3 v4 2 fun v5 => zbv (fX7_enterMove N v4 v5 w3) fun w6 => rc ((x3 + (1 : Int32)), w6)))
noncomputable def lX7_pair_42 (N : Nat) (x1 : Int32) (x2 : Int32) (K : Int32 → zS → Option (Int32 × zS)) (n : Nat) (s : Int32 × zS) : Option (Int32 × zS) := zlp (fun rc s => bX7_pair_42 N x1 x2 K rc s.1 s.2) n s
noncomputable def fX7_pair (N : Nat)  (w0 : zS) : Option (Int32 × zS) := if (w0.1 0 1 4) ≤ (1900 : Int32) then (zbi (fX2_pairUp N (w0.1 0 0 3) w0) fun v2 w1 => lX7_pair_42 N (w0.1 0 2 5) v2 (fun y7 w8 => some (v2, w8)) N ((w0.1 0 2 5), w1)) else (zbi (fX7_refuse N (-6 : Int32) w0) fun v10 w9 => some (v10, w9))
set_option maxHeartbeats 4000000 in
set_option maxRecDepth 100000 in
theorem wX7_pair_42 {p : Program} {l : Launch} {e : Env} {s : State} {m : MethodId} {args : Array Value} {below : List Frame} {meth : Method} {c : Code} {Q : State → Prop} {A : Nat → Prop} {H0 : Heap} {D : va_G} {cy : Nat → ClassId} {a0 aT aP : Nat → Nat} {res : Int32 × zS} {K : Int32 → zS → Option (Int32 × zS)} (N : Nat) (x1 : Int32) (x2 : Int32) (hC : zC p s m args c RX7 cX7_pair 5 D cy) (hA : ∀ q, H0.size ≤ q → A q) (hE : zEnd p l e rmX7_pair s m args below meth c Q D cy shX 38 a0 A H0 res.2 (fun u => u.1 = aT) cX7_pair .ireturn [.int res.1]) (n : Nat) (x3 : Int32) (w0 : zS) {H : Heap} {locs : List Loc} {ls : Array Slot} (hf : lX7_pair_42 N x1 x2 K n (x3, w0) = some res) (hZ : zW D cy shX 38 a0 aT aP A H0 w0 H locs) (hl : lv_has ls 5 [(0, .ref (a0 0)), (1, .int x1), (2, .int x2), (3, .int x3)]) (hK : ∀ x3 : Int32, ∀ (w0 : zS) (H : Heap) (locs : List Loc) (ls : Array Slot), K x3 w0 = some res → zW D cy shX 38 a0 aT aP A H0 w0 H locs → lv_has ls 5 [(0, .ref (a0 0)), (1, .int x1), (2, .int x2), (3, .int x3)] → W p l e rmX7_pair s m args below meth c H locs 256 1024 Q (F0 m 81 ls [])) : W p l e rmX7_pair s m args below meth c H locs 256 1024 Q (F0 m 42 ls []) := by
  have hx := hC.1.1
  have hb := hC.1.2.1
  have hf2 : zlp (fun rc s1 => bX7_pair_42 N x1 x2 K rc s1.1 s1.2) n (x3, w0) = some res := hf
  have key := zloop (S := Int32 × zS) (α := Int32 × zS) (b := fun rc s1 => bX7_pair_42 N x1 x2 K rc s1.1 s1.2) (r := res) (Wd := fun s1 => ∀ (H : Heap) (locs : List Loc) (ls : Array Slot), zW D cy shX 38 a0 aT aP A H0 s1.2 H locs → lv_has ls 5 [(0, .ref (a0 0)), (1, .int x1), (2, .int x2), (3, .int s1.1)] → W p l e rmX7_pair s m args below meth c H locs 256 1024 Q (F0 m 42 ls []))
  refine key ?_ n (x3, w0) hf2 H locs ls hZ hl
  clear hf hf2 hZ hl key
  rintro rc ⟨x3, w0⟩ ih hf H locs ls hZ hl
  have hf : bX7_pair_42 N x1 x2 K rc x3 w0 = some res := hf
  have hl : lv_has ls 5 [(0, .ref (a0 0)), (1, .int x1), (2, .int x2), (3, .int x3)] := hl
  unfold bX7_pair_42 at hf
  refine lv_iload_n (pc := 42) hx hb dX7_pair_42 rfl (lv_at hl 3 rfl) ?_
  refine lv_iload_n (pc := 43) hx hb dX7_pair_43 rfl (lv_at hl 1 rfl) ?_
  refine lv_iload_n (pc := 44) hx hb dX7_pair_44 rfl (lv_at hl 2 rfl) ?_
  refine lv_iadd (pc := 45) hx hb dX7_pair_45 ?_
  refine z_ige (pc := 46) (tgt := 81) hC hf dX7_pair_46 (by decide) (fun hf => ?_) (fun hf => ?_)
  · exact hK x3 w0 H locs ls hf hZ (lv_sub hl [0, 1, 2, 3] rfl)
  refine lv_aload_n (pc := 49) hx hb dX7_pair_49 rfl (lv_at hl 0 rfl) ?_
  refine gfX7_42 (pc := 50) hC hZ dX7_pair_50 ?_
  refine lv_iload_n (pc := 53) hx hb dX7_pair_53 rfl (lv_at hl 3 rfl) ?_
  refine kX7_131 (pc := 54) hC hA hZ hf hl.1 (Nat.le_of_ble_eq_true rfl) ⟨Nat.le_of_ble_eq_true rfl, Nat.le_of_ble_eq_true rfl⟩ ⟨Nat.le_of_ble_eq_true rfl, Nat.le_of_ble_eq_true rfl⟩ dX7_pair_54 (fun v4 w3 H locs hf hZ => ?_)
  refine z_astore (pc := 57) (i := 4) (lv' := [(4, va_rf (v4.map aP)), (0, .ref (a0 0)), (1, .int x1), (2, .int x2), (3, .int x3)]) hC dX7_pair_57 hl (by decide) (zadj_cons (Or.inl (Nat.ne_of_beq_eq_false rfl)) (zadj_cons (Or.inl (Nat.ne_of_beq_eq_false rfl)) (zadj_cons (Or.inl (Nat.ne_of_beq_eq_false rfl)) (zadj_cons (Or.inr rfl) zadj_nil)))) rfl (fun ls hl => ?_)
  refine z_aload (pc := 59) hC dX7_pair_59 (lv_at hl 0 rfl) ?_
  refine z_ifnull (pc := 61) (tgt := 75) hC hf dX7_pair_61 (by decide) (fun hf => ?_) (fun hf => ?_)
  · refine z_iinc (pc := 75) (i := 3) (v := (x3 + (1 : Int32))) (lv' := [(3, .int (x3 + (1 : Int32))), (4, va_rf (v4.map aP)), (0, .ref (a0 0)), (1, .int x1), (2, .int x2)]) hC dX7_pair_75 hl (k := 4) rfl rfl (by decide) (zadj_cons (Or.inl (Nat.ne_of_beq_eq_false rfl)) (zadj_cons (Or.inl (Nat.ne_of_beq_eq_false rfl)) (zadj_cons (Or.inl (Nat.ne_of_beq_eq_false rfl)) (zadj_cons (Or.inr rfl) (zadj_cons (Or.inl (Nat.ne_of_beq_eq_false rfl)) zadj_nil))))) rfl (fun ls hl => ?_)
    refine lv_goto (pc := 78) (tgt := 42) hx hb dX7_pair_78 (by decide) ?_
    exact ih ((x3 + (1 : Int32)), w3) hf H locs ls hZ (lv_sub hl [2, 3, 4, 0] rfl)
  refine lv_aload_n (pc := 64) hx hb dX7_pair_64 rfl (lv_at hl 1 rfl) ?_
  refine z_aload (pc := 65) hC dX7_pair_65 (lv_at hl 0 rfl) ?_
  refine z_aload (pc := 67) hC dX7_pair_67 (lv_at hl 0 rfl) ?_
  refine z_gP (pc := 69) hC hZ fkX7_135 rfl hf dX7_pair_69 (fun v5 hf => ?_)
  refine kX7_140 (pc := 72) hC hA hZ hf hl.1 (Nat.le_of_ble_eq_true rfl) ⟨Nat.le_of_ble_eq_true rfl, Nat.le_of_ble_eq_true rfl⟩ ⟨Nat.le_of_ble_eq_true rfl, Nat.le_of_ble_eq_true rfl⟩ dX7_pair_72 (fun w6 H locs hf hZ => ?_)
  refine z_iinc (pc := 75) (i := 3) (v := (x3 + (1 : Int32))) (lv' := [(3, .int (x3 + (1 : Int32))), (4, va_rf (v4.map aP)), (0, .ref (a0 0)), (1, .int x1), (2, .int x2)]) hC dX7_pair_75 hl (k := 4) rfl rfl (by decide) (zadj_cons (Or.inl (Nat.ne_of_beq_eq_false rfl)) (zadj_cons (Or.inl (Nat.ne_of_beq_eq_false rfl)) (zadj_cons (Or.inl (Nat.ne_of_beq_eq_false rfl)) (zadj_cons (Or.inr rfl) (zadj_cons (Or.inl (Nat.ne_of_beq_eq_false rfl)) zadj_nil))))) rfl (fun ls hl => ?_)
  refine lv_goto (pc := 78) (tgt := 42) hx hb dX7_pair_78 (by decide) ?_
  exact ih ((x3 + (1 : Int32)), w6) hf H locs ls hZ (lv_sub hl [2, 3, 4, 0] rfl)
set_option maxHeartbeats 4000000 in
set_option maxRecDepth 100000 in
theorem cX7_pair_ok (l : Launch) (D : va_G) (cy : Nat → ClassId) (a0 aT aP : Nat → Nat) (N : Nat)  (w0 : zS) (rv : Int32) (τ : zS) (hf : fX7_pair N  w0 = some (rv, τ)) : zMi l yX7_pair cX7_pair 5 (some .int) rmX7_pair D cy shX 38 a0 aT aP w0 [.ref (a0 0)] rv τ (fun u => u.1 = aT) := by
  refine zmet_i (by decide +kernel) (Or.inl rfl) (Nat.le_of_ble_eq_true rfl) ?_
  intro p e s m below meth c A Q ls hC hA hZ hl hE
  have hx := hC.1.1
  have hb := hC.1.2.1
  have hl : lv_has ls 5 [(0, .ref (a0 0))] := hl
  unfold fX7_pair at hf
  refine lv_aload_n (pc := 0) hx hb dX7_pair_0 rfl (lv_at hl 0 rfl) ?_
  refine gfX7_35 (pc := 1) hC hZ dX7_pair_1 ?_
  refine gfX7_122 (pc := 4) hC hZ dX7_pair_4 ?_
  refine lv_sipush (pc := 7) (v := (1900 : Int32)) hx hb dX7_pair_7 (by decide) ?_
  refine z_ile (pc := 10) (tgt := 20) hC hf dX7_pair_10 (by decide) (fun hf => ?_) (fun hf => ?_)
  · refine lv_aload_n (pc := 20) hx hb dX7_pair_20 rfl (lv_at hl 0 rfl) ?_
    refine gfX7_42 (pc := 21) hC hZ dX7_pair_21 ?_
    refine gfX7_125 (pc := 24) hC hZ dX7_pair_24 ?_
    refine lv_istore_n (pc := 27) (lv' := [(1, .int (w0.1 0 2 5)), (0, .ref (a0 0))]) hx hb dX7_pair_27 rfl hl (by decide) rfl (fun ls hl => ?_)
    refine lv_aload_n (pc := 28) hx hb dX7_pair_28 rfl (lv_at hl 1 rfl) ?_
    refine gfX7_42 (pc := 29) hC hZ dX7_pair_29 ?_
    refine lv_aload_n (pc := 32) hx hb dX7_pair_32 rfl (lv_at hl 1 rfl) ?_
    refine gfX7_70 (pc := 33) hC hZ dX7_pair_33 ?_
    refine kX7_128 (pc := 36) hC hA hZ hf hl.1 (Nat.le_of_ble_eq_true rfl) ⟨Nat.le_of_ble_eq_true rfl, Nat.le_of_ble_eq_true rfl⟩ ⟨Nat.le_of_ble_eq_true rfl, Nat.le_of_ble_eq_true rfl⟩ dX7_pair_36 (fun v2 w1 aP H locs hf hZ => ?_)
    refine lv_istore_n (pc := 39) (lv' := [(2, .int v2), (1, .int (w0.1 0 2 5)), (0, .ref (a0 0))]) hx hb dX7_pair_39 rfl hl (by decide) rfl (fun ls hl => ?_)
    refine lv_iload_n (pc := 40) hx hb dX7_pair_40 rfl (lv_at hl 1 rfl) ?_
    refine lv_istore_n (pc := 41) (lv' := [(3, .int (w0.1 0 2 5)), (2, .int v2), (1, .int (w0.1 0 2 5)), (0, .ref (a0 0))]) hx hb dX7_pair_41 rfl hl (by decide) rfl (fun ls hl => ?_)
    refine wX7_pair_42 (res := (rv, τ)) N (w0.1 0 2 5) v2 hC hA hE N _ _ hf hZ (lv_sub hl [3, 2, 1, 0] rfl) (fun y7 w8 H locs ls hf hZ hl => ?_)
    refine lv_iload_n (pc := 81) hx hb dX7_pair_81 rfl (lv_at hl 2 rfl) ?_
    obtain ⟨rfl, rfl⟩ := zinj hf
    exact hE _ _ _ _ _ _ rfl hZ dX7_pair_82
  refine lv_aload_n (pc := 13) hx hb dX7_pair_13 rfl (lv_at hl 0 rfl) ?_
  refine lv_bipush (pc := 14) (v := (-6 : Int32)) hx hb dX7_pair_14 (by decide) ?_
  refine kX7_73 (pc := 16) hC hA hZ hf hl.1 (Nat.le_of_ble_eq_true rfl) ⟨Nat.le_of_ble_eq_true rfl, Nat.le_of_ble_eq_true rfl⟩ ⟨Nat.le_of_ble_eq_true rfl, Nat.le_of_ble_eq_true rfl⟩ dX7_pair_16 (fun v10 w9 H locs hf hZ => ?_)
  refine W.widen (k := 256) (n := 1024) (by decide) (by decide) ?_
  obtain ⟨rfl, rfl⟩ := zinj hf
  exact hE _ _ _ _ _ _ rfl hZ dX7_pair_19
