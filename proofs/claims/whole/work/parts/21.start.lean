section ZKA
variable {p : Program} {l : Launch} {e : Env} {R : Room} {s : State} {m : MethodId} {args : Array Value} {below : List Frame} {meth : Method} {c : Code} {H : Heap} {locs : List Loc} {cells slots : Nat} {Q : State → Prop}
variable {pc : Nat} {ls : Array Slot} {rest : List Value} {A : Nat → Prop} {H0 : Heap} {D : va_G} {cy : Nat → ClassId} {own : String} {cc : ByteArray} {nL index : Nat} {y : MethodName} {rm : Room} {ws' : (Nat → Nat) → va_W}
theorem zk_callA (hC : zC p s m args c own cc nL D cy) (hNN : zN s) (hA : ∀ q, H0.size ≤ q → A q) {L1 : va_W} {b : Nat} {x : va_E} (hP : va_P D vwCl (L1 ++ [(b, x)]) H) (hD : va_D A (L1 ++ [(b, x)])) (hS : va_S A H0 H locs) {bytes : ByteArray} (h1 : Cond.methodLink own index y ∈ zT) (h2 : Cond.initialized y.cls ∈ zT) (h3 : Cond.code y bytes 1 none ∈ zT) (h4 : Cond.instanceMethod y ∈ zT) (hin : y.name = "<init>") (hd : y.cls ≠ "java/lang/invoke/MethodHandle" ∧ y.cls ≠ "java/lang/invoke/VarHandle" ∧ (parseMethodDescriptor y.desc).map (fun d => d.parameters.length) = some 0) (hM : zMk l y bytes rm D cy [.ref b] [(b, x)] ws') (hR : rm.frames + 1 ≤ R.frames ∧ 8 + (1 + 11) + rm.locals ≤ R.locals) (hsz : ls.size = nL) (hW : (rest.map fun v => v.category).sum ≤ 8) (hcs : cells + rm.cells ≤ R.cells ∧ slots + rm.slots ≤ R.slots) (hdg : decode cc pc = .ok (.invokespecial index, 3))
    (kk : ∀ (u : Nat → Nat) (H1 : Heap) (locs1 : List Loc), va_P D vwCl (L1 ++ ws' u) H1 → va_D A (L1 ++ ws' u) → va_S A H0 H1 locs1 → W p l e R s m args below meth c H1 locs1 (cells + rm.cells) (slots + rm.slots) Q (F0 m (pc + 3) ls rest)) : W p l e R s m args below meth c H locs cells slots Q (F0 m pc ls (.ref b :: rest)) := by
  have hPc := zPr hP
  have hDc : va_D (fun _ => True) [(b, x)] := (zDr hD).weaken (fun _ _ _ _ => trivial)
  have hFc : ∀ q, va_A [(b, x)] H.size q → A q := by
    intro q h
    rcases h with ⟨k, e, h⟩ | h
    · exact (zDr hD).2 k _ h
    · exact hA q (Nat.le_trans hS.1 h)
  refine va_callv (va_runI (As := []) (rest := rest) hC.1 (hM H.size) (cw := ⟨zcallB hC h1 h2 h3 hd hR, hin, hC.1.2.2.2.2 _ h4⟩) ⟨fun a U g mk q => ?_, fun U hU hW => ?_⟩ rfl rfl hsz rfl (lv_room hW) hdg hcs) hS (fun q _ h => hFc q h) hFc (fun u t H1 locs1 ht hvm _ hB hz1 hk1 hS1 => ?_)
  · obtain ⟨q0, q1, qP, qK, qD, qN⟩ := q
    exact ⟨q0, q1, qP, va_K.moved (u := U) (U := U.calling g mk a) (Vm.Alike.refl U.vm) qK, qD, qN.calling⟩
  · exact ⟨rfl, by rw [hU], by rw [hU]; exact hPc, va_K.moved hW.alike hC.2, hDc, hNN.warm hW⟩
  · obtain ⟨hP1, hK1, hD1⟩ := hB
    rw [ht] at hP1
    obtain ⟨j1, j2⟩ := zjoin2 hP hD hk1 hFc hP1 hD1
    exact kk u H1 locs1 j1 j2 hS1
end ZKA
/-- the arrays' classes, as the tables have them at the start -/
theorem zty_start {s : State} {args : Array Value} (h0 : (Cond.arrayClass .int).before args s = true) (h1 : (Cond.arrayClass .long).before args s = true) (h2 : (Cond.arrayClass .boolean).before args s = true) (h3 : (Cond.arrayOver (.object RX6)).before args s = true) (h4 : (Cond.arrayOver (.object RX5)).before args s = true) : ∃ cy : Nat → ClassId, ∀ (k : Nat) (q : ClassId × FieldType), (zty cy)[k]? = some q → ArrOfT s q.1 q.2 ∧ va_RA s q.1 q.2 := by
  obtain ⟨c0, k0, p0, a0, b0, d0⟩ := Cond.arrayClass_spec h0
  obtain ⟨c1, k1, p1, a1, b1, d1⟩ := Cond.arrayClass_spec h1
  obtain ⟨c2, k2, p2, a2, b2, d2⟩ := Cond.arrayClass_spec h2
  obtain ⟨p3, c3, k3, f3, -, b3, d3, a3⟩ := Cond.arrayOver_spec h3
  obtain ⟨p4, c4, k4, f4, -, b4, d4, a4⟩ := Cond.arrayOver_spec h4
  refine ⟨fun i => if i = 0 then c0 else if i = 1 then c1 else if i = 2 then c2 else if i = 3 then c3 else c4, fun k q hq => ?_⟩
  match k, hq with
  | 0, hq => cases hq; exact ⟨fun n z => ⟨(fun k h => by cases h), k0, b0, p0, d0⟩, a0⟩
  | 1, hq => cases hq; exact ⟨fun n z => ⟨(fun k h => by cases h), k1, b1, p1, d1⟩, a1⟩
  | 2, hq => cases hq; exact ⟨fun n z => ⟨(fun k h => by cases h), k2, b2, p2, d2⟩, a2⟩
  | 3, hq => cases hq; exact ⟨fun n z => ⟨(fun k h => by cases h), k3, b3, p3, d3⟩, k3, p3, b3, d3, f3, a3⟩
  | 4, hq => cases hq; exact ⟨fun n z => ⟨(fun k h => by cases h), k4, b4, p4, d4⟩, k4, p4, b4, d4, f4, a4⟩
  | k + 5, hq => simp [zty] at hq
theorem ikX7 : Cond.methodLink RL 9 yX7_init ∈ zT ∧ Cond.initialized yX7_init.cls ∈ zT ∧ Cond.code yX7_init cX7_init 1 none ∈ zT ∧ Cond.instanceMethod yX7_init ∈ zT ∧ (yX7_init.cls ≠ "java/lang/invoke/MethodHandle" ∧ yX7_init.cls ≠ "java/lang/invoke/VarHandle" ∧ (parseMethodDescriptor yX7_init.desc).map (fun d => d.parameters.length) = some 0) := ⟨by decide +kernel, by decide +kernel, by decide +kernel, by decide +kernel, by decide +kernel⟩
theorem ikX8 : Cond.methodLink RL 12 yX8_init ∈ zT ∧ Cond.initialized yX8_init.cls ∈ zT ∧ Cond.code yX8_init cX8_init 1 none ∈ zT ∧ Cond.instanceMethod yX8_init ∈ zT ∧ (yX8_init.cls ≠ "java/lang/invoke/MethodHandle" ∧ yX8_init.cls ≠ "java/lang/invoke/VarHandle" ∧ (parseMethodDescriptor yX8_init.desc).map (fun d => d.parameters.length) = some 0) := ⟨by decide +kernel, by decide +kernel, by decide +kernel, by decide +kernel, by decide +kernel⟩
theorem nlX7 : Cond.classLink RL 7 RX7 ∈ zT ∧ Cond.instantiable RX7 15 ∈ zT ∧ Cond.initialized RX7 ∈ zT := ⟨by decide +kernel, by decide +kernel, by decide +kernel⟩
theorem nlX8 : Cond.classLink RL 10 RX8 ∈ zT ∧ Cond.instantiable RX8 43 ∈ zT ∧ Cond.initialized RX8 ∈ zT := ⟨by decide +kernel, by decide +kernel, by decide +kernel⟩
theorem zinst : Cond.instantiable RX0 11 ∈ zT ∧ Cond.instantiable RX1 5 ∈ zT ∧ Cond.instantiable RX2 6 ∈ zT ∧ Cond.instantiable RX3 6 ∈ zT ∧ Cond.instantiable RX4 7 ∈ zT ∧ Cond.instantiable RX5 4 ∈ zT ∧ Cond.instantiable RX6 10 ∈ zT := ⟨by decide +kernel, by decide +kernel, by decide +kernel, by decide +kernel, by decide +kernel, by decide +kernel, by decide +kernel⟩
set_option maxHeartbeats 8000000 in
set_option maxRecDepth 100000 in
/-- THE LAW, from its entry, out of what is left to show of the pure functions -/
theorem whole_of {N : Nat} {J : Nat → zS → zS → Prop} (hJ : zGo N J) {p : Program} {e : Env} {s : State} {m : MethodId} {below : List Frame} {meth : Method} {c : Code} (l : Launch) {b L : Nat} {xs : Nat → Int32} (hL : L ≤ 3072) (C0 : lw_At p s m meth c b L xs) : W p l e room_1 s m #[Value.ref b] below meth c s.heap [] 0 0 (lw_Z below #[Value.ref b] s) (entryFrame m ([Value.ref b] : List Value).toArray 4) := by
  obtain ⟨hx, hb, hr, hml, hown, hts0, hX, hbl, hlocks, hgv⟩ := id C0
  have hts : ∀ w ∈ zT, w.before #[Value.ref b] s = true := fun w h => hts0 w (zT_in h)
  have hA : ∀ q : Nat, s.heap.size ≤ q → (fun q : Nat => s.heap.size ≤ q) q := fun _ h => h
  have hbA : ¬ (fun q : Nat => s.heap.size ≤ q) b := Nat.not_le.mpr hbl
  obtain ⟨c0, i0, k0⟩ := u_known (C := RX0) (T := TX0) (N := 11) (n := 11) hts izX0 (hts _ zinst.1)
  obtain ⟨c1, i1, k1⟩ := u_known (C := RX1) (T := TX1) (N := 5) (n := 5) hts izX1 (hts _ zinst.2.1)
  obtain ⟨c2, i2, k2⟩ := u_known (C := RX2) (T := TX2) (N := 6) (n := 6) hts izX2 (hts _ zinst.2.2.1)
  obtain ⟨c3, i3, k3⟩ := u_known (C := RX3) (T := TX3) (N := 6) (n := 6) hts izX3 (hts _ zinst.2.2.2.1)
  obtain ⟨c4, i4, k4⟩ := u_known (C := RX4) (T := TX4) (N := 7) (n := 7) hts izX4 (hts _ zinst.2.2.2.2.1)
  obtain ⟨c5, i5, k5⟩ := u_known (C := RX5) (T := TX5) (N := 4) (n := 4) hts izX5 (hts _ zinst.2.2.2.2.2.1)
  obtain ⟨c6, i6, k6⟩ := u_known (C := RX6) (T := TX6) (N := 10) (n := 10) hts izX6 (hts _ zinst.2.2.2.2.2.2)
  obtain ⟨c7, i7, k7⟩ := u_known (C := RX7) (T := TX7) (N := 15) (n := 15) hts izX7 (hts _ nlX7.2.1)
  obtain ⟨c8, i8, k8⟩ := u_known (C := RX8) (T := TX8) (N := 43) (n := 43) hts izX8 (hts _ nlX8.2.1)
  obtain ⟨dC, dI, hKc⟩ : ∃ (dC : Nat → ClassId) (dI : Nat → Nat → Nat), ∀ (k : Nat) (q : vw_C), vwCl[k]? = some q → u_Kn s q.1 q.2.1 q.2.2 (dC k) (dI k) := by
    refine ⟨fun k => if k = 0 then c0 else if k = 1 then c1 else if k = 2 then c2 else if k = 3 then c3 else if k = 4 then c4 else if k = 5 then c5 else if k = 6 then c6 else if k = 7 then c7 else c8, fun k => if k = 0 then i0 else if k = 1 then i1 else if k = 2 then i2 else if k = 3 then i3 else if k = 4 then i4 else if k = 5 then i5 else if k = 6 then i6 else if k = 7 then i7 else i8, ?_⟩
    intro k q hq
    match k, hq with
    | 0, hq => cases hq; exact k0
    | 1, hq => cases hq; exact k1
    | 2, hq => cases hq; exact k2
    | 3, hq => cases hq; exact k3
    | 4, hq => cases hq; exact k4
    | 5, hq => cases hq; exact k5
    | 6, hq => cases hq; exact k6
    | 7, hq => cases hq; exact k7
    | 8, hq => cases hq; exact k8
    | k + 9, hq => simp [vwCl] at hq
  have o6 : (Cond.arrayOver (.object RX6)).before #[Value.ref b] s = true := hts0 _ (by decide +kernel)
  have o5 : (Cond.arrayOver (.object RX5)).before #[Value.ref b] s = true := hts0 _ (by decide +kernel)
  obtain ⟨cy, hcy⟩ := zty_start (hts _ ac_0) (hts _ ac_1) (hts _ ac_2) o6 o5
  have hNN : zN s := ⟨va_Nw.of rfl (hts0 (.methodLinkNest RX7 34 yX3_init "CarrierPool") (by decide +kernel)), va_Nw.of rfl (hts0 (.methodLinkNest RX7 41 yX2_init "CarrierPool") (by decide +kernel)), va_Nw.of rfl (hts0 (.methodLinkNest RX7 48 yX1_init "CarrierPool") (by decide +kernel)), va_Nw.of rfl (hts0 (.methodLinkNest RX7 55 yX0_init "CarrierPool") (by decide +kernel)), va_Nw.of rfl (hts0 (.methodLinkNest RX2 28 yX4_init "CarrierPool") (by decide +kernel)), va_AO.of o6, va_AO.of o5⟩
  have hK : va_K (dC, dI) vwCl (zty cy) s := ⟨hKc, hcy⟩
  have hC : zC p s m #[Value.ref b] c RL cL_law 4 (dC, dI) cy := ⟨⟨hx, hb, hml, hown, hts⟩, hK⟩
  have hS : va_S (fun q : Nat => s.heap.size ≤ q) s.heap s.heap [] := va_S.rf
  have hP : va_P (dC, dI) vwCl [] s.heap := fun k q h => by simp at h
  have hD : va_D (fun q : Nat => s.heap.size ≤ q) [] := ⟨fun i j p q h => by simp at h, fun k q h => by simp at h⟩
  have hl := lv_entry ([.ref b]) (n := 4) (Nat.le_of_ble_eq_true rfl)
  rw [lg_entry_eq]
  generalize (lg_sl ([.ref b]) ++ List.replicate (4 - (lg_sl ([.ref b])).length) Slot.unset).toArray = ls at hl ⊢
  have hl : lv_has ls 4 [(0, .ref b)] := hl
  refine va_new (pc := 0) (ci := 7) (fs := [.int 0, .int 0, .int 0, .int 0, .null, .null, .null, .null, .null, .null, .null, .null, .null, .null, .null]) (C := RX7) (T := TX7) (N := 15) hx hb hts izX7 tyX7 tyX7_ok hown (hts _ nlX7.1) (hts _ nlX7.2.1) (hts _ nlX7.2.2) hK hP hD hS hA rfl (fun j hj => by rcases (show j = 0 ∨ j = 1 ∨ j = 2 ∨ j = 3 ∨ j = 4 ∨ j = 5 ∨ j = 6 ∨ j = 7 ∨ j = 8 ∨ j = 9 ∨ j = 10 ∨ j = 11 ∨ j = 12 ∨ j = 13 ∨ j = 14 by omega) with rfl | rfl | rfl | rfl | rfl | rfl | rfl | rfl | rfl | rfl | rfl | rfl | rfl | rfl | rfl <;> rfl) (Nat.le_of_ble_eq_true rfl) (Nat.le_of_ble_eq_true rfl) dL_law_0 (fun q0 H hP hD hS => ?_)
  refine lv_dup (pc := 3) hx hb dL_law_3 rfl ?_
  refine zk_callA (pc := 4) (rm := rmX7_init) hC hNN hA hP hD hS ikX7.1 ikX7.2.1 ikX7.2.2.1 ikX7.2.2.2.1 rfl ikX7.2.2.2.2 (cX7_init_ok l (dC, dI) cy q0) ⟨Nat.le_of_ble_eq_true rfl, Nat.le_of_ble_eq_true rfl⟩ hl.1 (Nat.le_of_ble_eq_true rfl) ⟨Nat.le_of_ble_eq_true rfl, Nat.le_of_ble_eq_true rfl⟩ dL_law_4 (fun u H locs hP hD hS => ?_)
  refine lv_astore_n (pc := 7) (lv' := [(1, .ref q0), (0, .ref b)]) hx hb dL_law_7 rfl hl (by decide) rfl (fun ls hl => ?_)
  rw [List.nil_append] at hP hD
  refine va_new (pc := 8) (ci := 8) (fs := [.int 0, .int 0, .int 0, .null, .null, .int 0, .null, .null, .null, .null, .null, .int 0, .null, .int 0, .null, .null, .null, .null, .null, .null, .null, .null, .int 0, .int 0, .null, .null, .null, .null, .null, .null, .null, .null, .null, .null, .null, .null, .null, .null, .int 0, .null, .null, .null, .null]) (C := RX8) (T := TX8) (N := 43) hx hb hts izX8 tyX8 tyX8_ok hown (hts _ nlX8.1) (hts _ nlX8.2.1) (hts _ nlX8.2.2) hK hP hD hS hA rfl (fun j hj => by rcases (show j = 0 ∨ j = 1 ∨ j = 2 ∨ j = 3 ∨ j = 4 ∨ j = 5 ∨ j = 6 ∨ j = 7 ∨ j = 8 ∨ j = 9 ∨ j = 10 ∨ j = 11 ∨ j = 12 ∨ j = 13 ∨ j = 14 ∨ j = 15 ∨ j = 16 ∨ j = 17 ∨ j = 18 ∨ j = 19 ∨ j = 20 ∨ j = 21 ∨ j = 22 ∨ j = 23 ∨ j = 24 ∨ j = 25 ∨ j = 26 ∨ j = 27 ∨ j = 28 ∨ j = 29 ∨ j = 30 ∨ j = 31 ∨ j = 32 ∨ j = 33 ∨ j = 34 ∨ j = 35 ∨ j = 36 ∨ j = 37 ∨ j = 38 ∨ j = 39 ∨ j = 40 ∨ j = 41 ∨ j = 42 by omega) with rfl | rfl | rfl | rfl | rfl | rfl | rfl | rfl | rfl | rfl | rfl | rfl | rfl | rfl | rfl | rfl | rfl | rfl | rfl | rfl | rfl | rfl | rfl | rfl | rfl | rfl | rfl | rfl | rfl | rfl | rfl | rfl | rfl | rfl | rfl | rfl | rfl | rfl | rfl | rfl | rfl | rfl | rfl <;> rfl) (Nat.le_of_ble_eq_true rfl) (Nat.le_of_ble_eq_true rfl) dL_law_8 (fun q1 H hP hD hS => ?_)
  refine lv_dup (pc := 11) hx hb dL_law_11 rfl ?_
  refine zk_callA (pc := 12) (rm := rmX8_init) hC hNN hA hP hD hS ikX8.1 ikX8.2.1 ikX8.2.2.1 ikX8.2.2.2.1 rfl ikX8.2.2.2.2 (cX8_init_ok l (dC, dI) cy q1) ⟨Nat.le_of_ble_eq_true rfl, Nat.le_of_ble_eq_true rfl⟩ hl.1 (Nat.le_of_ble_eq_true rfl) ⟨Nat.le_of_ble_eq_true rfl, Nat.le_of_ble_eq_true rfl⟩ dL_law_12 (fun v H locs hP hD hS => ?_)
  refine lv_astore_n (pc := 15) (lv' := [(2, .ref q1), (1, .ref q0), (0, .ref b)]) hx hb dL_law_15 rfl hl (by decide) rfl (fun ls hl => ?_)
  refine lv_iconst (pc := 16) (v := (0 : Int32)) hx hb dL_law_16 (by decide) ?_
  refine lv_istore_n (pc := 17) (lv' := [(3, .int 0), (2, .ref q1), (1, .ref q0), (0, .ref b)]) hx hb dL_law_17 rfl hl (by decide) rfl (fun ls hl => ?_)
  refine W.widen (k := 80 + 300 * 0) (n := 24600 + 1100 * 0) (Nat.le_of_ble_eq_true rfl) (Nat.le_of_ble_eq_true rfl) ?_
  exact law_loop hJ hL C0 hC 513 0 (by omega) (fun c => if c = 0 then q0 else u c) zf0 zf0 (fun c => if c = 0 then q1 else v c) zσ0 zσ0 H locs ls (by omega) hJ.1 ⟨hP, hD, hS⟩ (lv_sub hl [3, 2, 1, 0] rfl)
