set_option maxHeartbeats 4000000 in
set_option maxRecDepth 100000 in
theorem wX8_count_79 {p : Program} {l : Launch} {e : Env} {s : State} {m : MethodId} {args : Array Value} {below : List Frame} {meth : Method} {c : Code} {Q : State → Prop} {A : Nat → Prop} {H0 : Heap} {D : va_G} {cy : Nat → ClassId} {a0 aT aP : Nat → Nat} {res : Int32 × zS} {K : Int32 → Int32 → zS → Option (Int32 × zS)} (N : Nat) (x1 : Int32) (hC : zC p s m args c RX8 cX8_count 4 D cy) (hA : ∀ q, H0.size ≤ q → A q) (hE : zEnd p l e rmX8_count s m args below meth c Q D cy shM 35 a0 A H0 res.2 (fun u => u = (aT, aP)) cX8_count .ireturn [.int res.1]) (n : Nat) (x2 : Int32) (x3 : Int32) (w0 : zS) {H : Heap} {locs : List Loc} {ls : Array Slot} (hf : lX8_count_79 N x1 K n (x2, x3, w0) = some res) (hZ : zW D cy shM 35 a0 aT aP A H0 w0 H locs) (hl : lv_has ls 4 [(0, .ref (a0 0)), (1, .int x1), (2, .int x2), (3, .int x3)]) (hK : ∀ x2 : Int32, ∀ x3 : Int32, ∀ (w0 : zS) (H : Heap) (locs : List Loc) (ls : Array Slot), K x2 x3 w0 = some res → zW D cy shM 35 a0 aT aP A H0 w0 H locs → lv_has ls 4 [(0, .ref (a0 0)), (1, .int x1), (2, .int x2), (3, .int x3)] → W p l e rmX8_count s m args below meth c H locs 0 0 Q (F0 m 110 ls [])) : W p l e rmX8_count s m args below meth c H locs 0 0 Q (F0 m 79 ls []) := by
  have hx := hC.1.1
  have hb := hC.1.2.1
  have hf2 : zlp (fun rc s1 => bX8_count_79 N x1 K rc s1.1 s1.2.1 s1.2.2) n (x2, x3, w0) = some res := hf
  have key := zloop (S := Int32 × Int32 × zS) (α := Int32 × zS) (b := fun rc s1 => bX8_count_79 N x1 K rc s1.1 s1.2.1 s1.2.2) (r := res) (Wd := fun s1 => ∀ (H : Heap) (locs : List Loc) (ls : Array Slot), zW D cy shM 35 a0 aT aP A H0 s1.2.2 H locs → lv_has ls 4 [(0, .ref (a0 0)), (1, .int x1), (2, .int s1.1), (3, .int s1.2.1)] → W p l e rmX8_count s m args below meth c H locs 0 0 Q (F0 m 79 ls []))
  refine key ?_ n (x2, x3, w0) hf2 H locs ls hZ hl
  clear hf hf2 hZ hl key
  rintro rc ⟨x2, x3, w0⟩ ih hf H locs ls hZ hl
  have hf : bX8_count_79 N x1 K rc x2 x3 w0 = some res := hf
  have hl : lv_has ls 4 [(0, .ref (a0 0)), (1, .int x1), (2, .int x2), (3, .int x3)] := hl
  unfold bX8_count_79 at hf
  refine lv_iload_n (pc := 79) hx hb dX8_count_79 rfl (lv_at hl 3 rfl) ?_
  refine lv_aload_n (pc := 80) hx hb dX8_count_80 rfl (lv_at hl 0 rfl) ?_
  refine gfX8_158 (pc := 81) hC hZ dX8_count_81 ?_
  refine z_ige (pc := 84) (tgt := 110) hC hf dX8_count_84 (by decide) (fun hf => ?_) (fun hf => ?_)
  · exact hK x2 x3 w0 H locs ls hf hZ (lv_sub hl [0, 1, 2, 3] rfl)
  refine lv_iload_n (pc := 87) hx hb dX8_count_87 rfl (lv_at hl 2 rfl) ?_
  refine lv_aload_n (pc := 88) hx hb dX8_count_88 rfl (lv_at hl 0 rfl) ?_
  refine gfX8_54 (pc := 89) hC hZ dX8_count_89 ?_
  refine lv_iload_n (pc := 92) hx hb dX8_count_92 rfl (lv_at hl 3 rfl) ?_
  refine z_iald (pc := 93) hC hZ (by decide) rfl hf dX8_count_93 (fun v1 hf => ?_)
  refine z_ne0 (pc := 94) (tgt := 101) hC hf dX8_count_94 (by decide) (fun hf => ?_) (fun hf => ?_)
  · refine lv_iconst (pc := 97) (v := (1 : Int32)) hx hb dX8_count_97 (by decide) ?_
    refine lv_goto (pc := 98) (tgt := 102) hx hb dX8_count_98 (by decide) ?_
    refine lv_iadd (pc := 102) hx hb dX8_count_102 ?_
    refine lv_istore_n (pc := 103) (lv' := [(2, .int (x2 + (1 : Int32))), (0, .ref (a0 0)), (1, .int x1), (3, .int x3)]) hx hb dX8_count_103 rfl hl (by decide) rfl (fun ls hl => ?_)
    refine lv_iinc (pc := 104) (v := (x3 + (1 : Int32))) (lv' := [(3, .int (x3 + (1 : Int32))), (2, .int (x2 + (1 : Int32))), (0, .ref (a0 0)), (1, .int x1)]) hx hb dX8_count_104 hl (k := 3) rfl rfl (by decide) rfl (fun ls hl => ?_)
    refine lv_goto (pc := 107) (tgt := 79) hx hb dX8_count_107 (by decide) ?_
    exact ih ((x2 + (1 : Int32)), (x3 + (1 : Int32)), w0) hf H locs ls hZ (lv_sub hl [2, 3, 1, 0] rfl)
  refine lv_iconst (pc := 101) (v := (0 : Int32)) hx hb dX8_count_101 (by decide) ?_
  refine lv_iadd (pc := 102) hx hb dX8_count_102 ?_
  refine lv_istore_n (pc := 103) (lv' := [(2, .int (x2 + (0 : Int32))), (0, .ref (a0 0)), (1, .int x1), (3, .int x3)]) hx hb dX8_count_103 rfl hl (by decide) rfl (fun ls hl => ?_)
  refine lv_iinc (pc := 104) (v := (x3 + (1 : Int32))) (lv' := [(3, .int (x3 + (1 : Int32))), (2, .int (x2 + (0 : Int32))), (0, .ref (a0 0)), (1, .int x1)]) hx hb dX8_count_104 hl (k := 3) rfl rfl (by decide) rfl (fun ls hl => ?_)
  refine lv_goto (pc := 107) (tgt := 79) hx hb dX8_count_107 (by decide) ?_
  exact ih ((x2 + (0 : Int32)), (x3 + (1 : Int32)), w0) hf H locs ls hZ (lv_sub hl [2, 3, 1, 0] rfl)
set_option maxHeartbeats 4000000 in
set_option maxRecDepth 100000 in
theorem wX8_count_119 {p : Program} {l : Launch} {e : Env} {s : State} {m : MethodId} {args : Array Value} {below : List Frame} {meth : Method} {c : Code} {Q : State → Prop} {A : Nat → Prop} {H0 : Heap} {D : va_G} {cy : Nat → ClassId} {a0 aT aP : Nat → Nat} {res : Int32 × zS} {K : Int32 → Int32 → zS → Option (Int32 × zS)} (N : Nat) (x1 : Int32) (hC : zC p s m args c RX8 cX8_count 4 D cy) (hA : ∀ q, H0.size ≤ q → A q) (hE : zEnd p l e rmX8_count s m args below meth c Q D cy shM 35 a0 A H0 res.2 (fun u => u = (aT, aP)) cX8_count .ireturn [.int res.1]) (n : Nat) (x2 : Int32) (x3 : Int32) (w0 : zS) {H : Heap} {locs : List Loc} {ls : Array Slot} (hf : lX8_count_119 N x1 K n (x2, x3, w0) = some res) (hZ : zW D cy shM 35 a0 aT aP A H0 w0 H locs) (hl : lv_has ls 4 [(0, .ref (a0 0)), (1, .int x1), (2, .int x2), (3, .int x3)]) (hK : ∀ x2 : Int32, ∀ x3 : Int32, ∀ (w0 : zS) (H : Heap) (locs : List Loc) (ls : Array Slot), K x2 x3 w0 = some res → zW D cy shM 35 a0 aT aP A H0 w0 H locs → lv_has ls 4 [(0, .ref (a0 0)), (1, .int x1), (2, .int x2), (3, .int x3)] → W p l e rmX8_count s m args below meth c H locs 0 0 Q (F0 m 158 ls [])) : W p l e rmX8_count s m args below meth c H locs 0 0 Q (F0 m 119 ls []) := by
  have hx := hC.1.1
  have hb := hC.1.2.1
  have hf2 : zlp (fun rc s1 => bX8_count_119 N x1 K rc s1.1 s1.2.1 s1.2.2) n (x2, x3, w0) = some res := hf
  have key := zloop (S := Int32 × Int32 × zS) (α := Int32 × zS) (b := fun rc s1 => bX8_count_119 N x1 K rc s1.1 s1.2.1 s1.2.2) (r := res) (Wd := fun s1 => ∀ (H : Heap) (locs : List Loc) (ls : Array Slot), zW D cy shM 35 a0 aT aP A H0 s1.2.2 H locs → lv_has ls 4 [(0, .ref (a0 0)), (1, .int x1), (2, .int s1.1), (3, .int s1.2.1)] → W p l e rmX8_count s m args below meth c H locs 0 0 Q (F0 m 119 ls []))
  refine key ?_ n (x2, x3, w0) hf2 H locs ls hZ hl
  clear hf hf2 hZ hl key
  rintro rc ⟨x2, x3, w0⟩ ih hf H locs ls hZ hl
  have hf : bX8_count_119 N x1 K rc x2 x3 w0 = some res := hf
  have hl : lv_has ls 4 [(0, .ref (a0 0)), (1, .int x1), (2, .int x2), (3, .int x3)] := hl
  unfold bX8_count_119 at hf
  refine lv_iload_n (pc := 119) hx hb dX8_count_119 rfl (lv_at hl 3 rfl) ?_
  refine lv_aload_n (pc := 120) hx hb dX8_count_120 rfl (lv_at hl 0 rfl) ?_
  refine gfX8_176 (pc := 121) hC hZ dX8_count_121 ?_
  refine z_ige (pc := 124) (tgt := 158) hC hf dX8_count_124 (by decide) (fun hf => ?_) (fun hf => ?_)
  · exact hK x2 x3 w0 H locs ls hf hZ (lv_sub hl [0, 1, 2, 3] rfl)
  refine lv_iload_n (pc := 127) hx hb dX8_count_127 rfl (lv_at hl 2 rfl) ?_
  refine lv_aload_n (pc := 128) hx hb dX8_count_128 rfl (lv_at hl 0 rfl) ?_
  refine lv_iload_n (pc := 129) hx hb dX8_count_129 rfl (lv_at hl 3 rfl) ?_
  refine kX8_183 (pc := 130) hC hA hZ hf hl.1 (Nat.le_of_ble_eq_true rfl) ⟨Nat.le_of_ble_eq_true rfl, Nat.le_of_ble_eq_true rfl⟩ ⟨Nat.le_refl _, Nat.le_refl _⟩ dX8_count_130 (fun v6 w5 H locs hf hZ => ?_)
  refine z_eq0 (pc := 133) (tgt := 149) hC hf dX8_count_133 (by decide) (fun hf => ?_) (fun hf => ?_)
  · refine lv_iconst (pc := 149) (v := (0 : Int32)) hx hb dX8_count_149 (by decide) ?_
    refine lv_iadd (pc := 150) hx hb dX8_count_150 ?_
    refine lv_istore_n (pc := 151) (lv' := [(2, .int (x2 + (0 : Int32))), (0, .ref (a0 0)), (1, .int x1), (3, .int x3)]) hx hb dX8_count_151 rfl hl (by decide) rfl (fun ls hl => ?_)
    refine lv_iinc (pc := 152) (v := (x3 + (1 : Int32))) (lv' := [(3, .int (x3 + (1 : Int32))), (2, .int (x2 + (0 : Int32))), (0, .ref (a0 0)), (1, .int x1)]) hx hb dX8_count_152 hl (k := 3) rfl rfl (by decide) rfl (fun ls hl => ?_)
    refine lv_goto (pc := 155) (tgt := 119) hx hb dX8_count_155 (by decide) ?_
    exact ih ((x2 + (0 : Int32)), (x3 + (1 : Int32)), w5) hf H locs ls hZ (lv_sub hl [2, 3, 1, 0] rfl)
  refine lv_aload_n (pc := 136) hx hb dX8_count_136 rfl (lv_at hl 0 rfl) ?_
  refine gfX8_69 (pc := 137) hC hZ dX8_count_137 ?_
  refine lv_iload_n (pc := 140) hx hb dX8_count_140 rfl (lv_at hl 3 rfl) ?_
  refine z_zald (pc := 141) hC hZ (by decide) rfl hf dX8_count_141 (fun v7 hf => ?_)
  refine z_ne0 (pc := 142) (tgt := 149) hC hf dX8_count_142 (by decide) (fun hf => ?_) (fun hf => ?_)
  · refine lv_iconst (pc := 145) (v := (1 : Int32)) hx hb dX8_count_145 (by decide) ?_
    refine lv_goto (pc := 146) (tgt := 150) hx hb dX8_count_146 (by decide) ?_
    refine lv_iadd (pc := 150) hx hb dX8_count_150 ?_
    refine lv_istore_n (pc := 151) (lv' := [(2, .int (x2 + (1 : Int32))), (0, .ref (a0 0)), (1, .int x1), (3, .int x3)]) hx hb dX8_count_151 rfl hl (by decide) rfl (fun ls hl => ?_)
    refine lv_iinc (pc := 152) (v := (x3 + (1 : Int32))) (lv' := [(3, .int (x3 + (1 : Int32))), (2, .int (x2 + (1 : Int32))), (0, .ref (a0 0)), (1, .int x1)]) hx hb dX8_count_152 hl (k := 3) rfl rfl (by decide) rfl (fun ls hl => ?_)
    refine lv_goto (pc := 155) (tgt := 119) hx hb dX8_count_155 (by decide) ?_
    exact ih ((x2 + (1 : Int32)), (x3 + (1 : Int32)), w5) hf H locs ls hZ (lv_sub hl [2, 3, 1, 0] rfl)
  refine lv_iconst (pc := 149) (v := (0 : Int32)) hx hb dX8_count_149 (by decide) ?_
  refine lv_iadd (pc := 150) hx hb dX8_count_150 ?_
  refine lv_istore_n (pc := 151) (lv' := [(2, .int (x2 + (0 : Int32))), (0, .ref (a0 0)), (1, .int x1), (3, .int x3)]) hx hb dX8_count_151 rfl hl (by decide) rfl (fun ls hl => ?_)
  refine lv_iinc (pc := 152) (v := (x3 + (1 : Int32))) (lv' := [(3, .int (x3 + (1 : Int32))), (2, .int (x2 + (0 : Int32))), (0, .ref (a0 0)), (1, .int x1)]) hx hb dX8_count_152 hl (k := 3) rfl rfl (by decide) rfl (fun ls hl => ?_)
  refine lv_goto (pc := 155) (tgt := 119) hx hb dX8_count_155 (by decide) ?_
  exact ih ((x2 + (0 : Int32)), (x3 + (1 : Int32)), w5) hf H locs ls hZ (lv_sub hl [2, 3, 1, 0] rfl)
set_option maxHeartbeats 4000000 in
set_option maxRecDepth 100000 in
theorem cX8_count_ok (l : Launch) (D : va_G) (cy : Nat → ClassId) (a0 aT aP : Nat → Nat) (N : Nat) (x1 : Int32) (w0 : zS) (rv : Int32) (τ : zS) (hf : fX8_count N x1 w0 = some (rv, τ)) : zMi l yX8_count cX8_count 4 (some .int) rmX8_count D cy shM 35 a0 aT aP w0 [.ref (a0 0), .int x1] rv τ (fun u => u = (aT, aP)) := by
  refine zmet_i (by decide +kernel) (Or.inl rfl) (Nat.le_of_ble_eq_true rfl) ?_
  intro p e s m below meth c A Q ls hC hA hZ hl hE
  have hx := hC.1.1
  have hb := hC.1.2.1
  have hl : lv_has ls 4 [(0, .ref (a0 0)), (1, .int x1)] := hl
  unfold fX8_count at hf
  refine lv_iconst (pc := 0) (v := (0 : Int32)) hx hb dX8_count_0 (by decide) ?_
  refine lv_istore_n (pc := 1) (lv' := [(2, .int (0 : Int32)), (0, .ref (a0 0)), (1, .int x1)]) hx hb dX8_count_1 rfl hl (by decide) rfl (fun ls hl => ?_)
  refine lv_iload_n (pc := 2) hx hb dX8_count_2 rfl (lv_at hl 2 rfl) ?_
  by_cases n0 : x1 = (0 : Int32)
  · rw [if_pos n0] at hf
    refine z_tabIn (pc := 3) (tgt := 52) hC n0 dX8_count_3 (by decide) (by decide) rfl (by decide) ?_
    refine lv_aload_n (pc := 52) hx hb dX8_count_52 rfl (lv_at hl 1 rfl) ?_
    refine gfX8_130 (pc := 53) hC hZ dX8_count_53 ?_
    obtain ⟨rfl, rfl⟩ := zinj hf
    exact hE _ _ _ _ _ _ rfl hZ dX8_count_56
  rw [if_neg n0] at hf
  by_cases n1 : x1 = (1 : Int32)
  · rw [if_pos n1] at hf
    refine z_tabIn (pc := 3) (tgt := 57) hC n1 dX8_count_3 (by decide) (by decide) rfl (by decide) ?_
    refine lv_aload_n (pc := 57) hx hb dX8_count_57 rfl (lv_at hl 1 rfl) ?_
    refine gfX8_115 (pc := 58) hC hZ dX8_count_58 ?_
    obtain ⟨rfl, rfl⟩ := zinj hf
    exact hE _ _ _ _ _ _ rfl hZ dX8_count_61
  rw [if_neg n1] at hf
  by_cases n2 : x1 = (2 : Int32)
  · rw [if_pos n2] at hf
    refine z_tabIn (pc := 3) (tgt := 62) hC n2 dX8_count_3 (by decide) (by decide) rfl (by decide) ?_
    refine lv_aload_n (pc := 62) hx hb dX8_count_62 rfl (lv_at hl 1 rfl) ?_
    refine gfX8_123 (pc := 63) hC hZ dX8_count_63 ?_
    obtain ⟨rfl, rfl⟩ := zinj hf
    exact hE _ _ _ _ _ _ rfl hZ dX8_count_66
  rw [if_neg n2] at hf
  by_cases n3 : x1 = (3 : Int32)
  · rw [if_pos n3] at hf
    refine z_tabIn (pc := 3) (tgt := 67) hC n3 dX8_count_3 (by decide) (by decide) rfl (by decide) ?_
    refine lv_aload_n (pc := 67) hx hb dX8_count_67 rfl (lv_at hl 1 rfl) ?_
    refine gfX8_133 (pc := 68) hC hZ dX8_count_68 ?_
    obtain ⟨rfl, rfl⟩ := zinj hf
    exact hE _ _ _ _ _ _ rfl hZ dX8_count_71
  rw [if_neg n3] at hf
  by_cases n4 : x1 = (4 : Int32)
  · rw [if_pos n4] at hf
    refine z_tabIn (pc := 3) (tgt := 72) hC n4 dX8_count_3 (by decide) (by decide) rfl (by decide) ?_
    refine lv_aload_n (pc := 72) hx hb dX8_count_72 rfl (lv_at hl 1 rfl) ?_
    refine gfX8_158 (pc := 73) hC hZ dX8_count_73 ?_
    obtain ⟨rfl, rfl⟩ := zinj hf
    exact hE _ _ _ _ _ _ rfl hZ dX8_count_76
  rw [if_neg n4] at hf
  by_cases n5 : x1 = (5 : Int32)
  · rw [if_pos n5] at hf
    refine z_tabIn (pc := 3) (tgt := 77) hC n5 dX8_count_3 (by decide) (by decide) rfl (by decide) ?_
    refine lv_iconst (pc := 77) (v := (0 : Int32)) hx hb dX8_count_77 (by decide) ?_
    refine lv_istore_n (pc := 78) (lv' := [(3, .int (0 : Int32)), (2, .int (0 : Int32)), (0, .ref (a0 0)), (1, .int x1)]) hx hb dX8_count_78 rfl hl (by decide) rfl (fun ls hl => ?_)
    refine wX8_count_79 (res := (rv, τ)) N x1 hC hA hE N _ _ _ hf hZ (lv_sub hl [2, 3, 1, 0] rfl) (fun y2 y3 w4 H locs ls hf hZ hl => ?_)
    refine lv_iload_n (pc := 110) hx hb dX8_count_110 rfl (lv_at hl 2 rfl) ?_
    obtain ⟨rfl, rfl⟩ := zinj hf
    exact hE _ _ _ _ _ _ rfl hZ dX8_count_111
  rw [if_neg n5] at hf
  by_cases n6 : x1 = (6 : Int32)
  · rw [if_pos n6] at hf
    refine z_tabIn (pc := 3) (tgt := 112) hC n6 dX8_count_3 (by decide) (by decide) rfl (by decide) ?_
    refine lv_aload_n (pc := 112) hx hb dX8_count_112 rfl (lv_at hl 1 rfl) ?_
    refine gfX8_176 (pc := 113) hC hZ dX8_count_113 ?_
    obtain ⟨rfl, rfl⟩ := zinj hf
    exact hE _ _ _ _ _ _ rfl hZ dX8_count_116
  rw [if_neg n6] at hf
  by_cases n7 : x1 = (7 : Int32)
  · rw [if_pos n7] at hf
    refine z_tabIn (pc := 3) (tgt := 117) hC n7 dX8_count_3 (by decide) (by decide) rfl (by decide) ?_
    refine lv_iconst (pc := 117) (v := (0 : Int32)) hx hb dX8_count_117 (by decide) ?_
    refine lv_istore_n (pc := 118) (lv' := [(3, .int (0 : Int32)), (2, .int (0 : Int32)), (0, .ref (a0 0)), (1, .int x1)]) hx hb dX8_count_118 rfl hl (by decide) rfl (fun ls hl => ?_)
    refine wX8_count_119 (res := (rv, τ)) N x1 hC hA hE N _ _ _ hf hZ (lv_sub hl [2, 3, 1, 0] rfl) (fun y8 y9 w10 H locs ls hf hZ hl => ?_)
    refine lv_iload_n (pc := 158) hx hb dX8_count_158 rfl (lv_at hl 2 rfl) ?_
    obtain ⟨rfl, rfl⟩ := zinj hf
    exact hE _ _ _ _ _ _ rfl hZ dX8_count_159
  rw [if_neg n7] at hf
  by_cases n8 : x1 = (8 : Int32)
  · rw [if_pos n8] at hf
    refine z_tabIn (pc := 3) (tgt := 160) hC n8 dX8_count_3 (by decide) (by decide) rfl (by decide) ?_
    refine lv_aload_n (pc := 160) hx hb dX8_count_160 rfl (lv_at hl 1 rfl) ?_
    refine gfX8_136 (pc := 161) hC hZ dX8_count_161 ?_
    obtain ⟨rfl, rfl⟩ := zinj hf
    exact hE _ _ _ _ _ _ rfl hZ dX8_count_164
  rw [if_neg n8] at hf
  refine lv_tableOut (pc := 3) (tgt := 165) hx hb dX8_count_3 (zsw_out (fun k h1 h2 h3 => by rcases (show k = 0 ∨ k = 1 ∨ k = 2 ∨ k = 3 ∨ k = 4 ∨ k = 5 ∨ k = 6 ∨ k = 7 ∨ k = 8 by omega) with rfl | rfl | rfl | rfl | rfl | rfl | rfl | rfl | rfl <;> first | exact n0 h3 | exact n1 h3 | exact n2 h3 | exact n3 h3 | exact n4 h3 | exact n5 h3 | exact n6 h3 | exact n7 h3 | exact n8 h3)) (by decide) ?_
  refine lv_iload_n (pc := 165) hx hb dX8_count_165 rfl (lv_at hl 2 rfl) ?_
  refine lv_bipush (pc := 166) (v := (11 : Int32)) hx hb dX8_count_166 (by decide) ?_
  refine lv_bipush (pc := 168) (v := (16 : Int32)) hx hb dX8_count_168 (by decide) ?_
  refine kX8_119 (pc := 170) hC hA hZ hf hl.1 (Nat.le_of_ble_eq_true rfl) ⟨Nat.le_of_ble_eq_true rfl, Nat.le_of_ble_eq_true rfl⟩ ⟨Nat.le_refl _, Nat.le_refl _⟩ dX8_count_170 (fun v12 w11 H locs hf hZ => ?_)
  refine z_eq0 (pc := 173) (tgt := 188) hC hf dX8_count_173 (by decide) (fun hf => ?_) (fun hf => ?_)
  · refine lv_bipush (pc := 188) (v := (-9 : Int32)) hx hb dX8_count_188 (by decide) ?_
    obtain ⟨rfl, rfl⟩ := zinj hf
    exact hE _ _ _ _ _ _ rfl hZ dX8_count_190
  refine lv_aload_n (pc := 176) hx hb dX8_count_176 rfl (lv_at hl 1 rfl) ?_
  refine gfX8_87 (pc := 177) hC hZ dX8_count_177 ?_
  refine lv_iload_n (pc := 180) hx hb dX8_count_180 rfl (lv_at hl 2 rfl) ?_
  refine lv_bipush (pc := 181) (v := (10 : Int32)) hx hb dX8_count_181 (by decide) ?_
  refine lv_isub (pc := 183) hx hb dX8_count_183 ?_
  refine z_iald (pc := 184) hC hZ (by decide) rfl hf dX8_count_184 (fun v13 hf => ?_)
  refine lv_goto (pc := 185) (tgt := 190) hx hb dX8_count_185 (by decide) ?_
  obtain ⟨rfl, rfl⟩ := zinj hf
  exact hE _ _ _ _ _ _ rfl hZ dX8_count_190
set_option maxHeartbeats 4000000 in
set_option maxRecDepth 100000 in
theorem cX2_keepTelling_ok (l : Launch) (D : va_G) (cy : Nat → ClassId) (a0 aT aP : Nat → Nat) (N : Nat) (x1 : Option Nat) (w0 : zS) (τ : zS) (hf : fX2_keepTelling N x1 w0 = some τ) : zMv l yX2_keepTelling cX2_keepTelling 2 none rmX2_keepTelling D cy shX 38 a0 aT aP w0 [.ref (a0 2), va_rf (x1.map aT)] τ (fun u => u = (aT, aP)) := by
  refine zmet_v (by decide +kernel) rfl (by simp [lg_sl, zcat, zcI, zcR, zcL]) ?_
  intro p e s m below meth c A Q ls hC hA hZ hl hE
  have hx := hC.1.1
  have hb := hC.1.2.1
  have hl : lv_has ls 2 [(0, .ref (a0 2)), (1, va_rf (x1.map aT))] := by simpa [lv_args, zcat, zcI, zcR, zcL] using hl
  unfold fX2_keepTelling at hf
  refine lv_aload_n (pc := 0) hx hb dX2_keepTelling_0 rfl (lv_at hl 0 rfl) ?_
  refine gfX2_33 (pc := 1) hC hZ dX2_keepTelling_1 ?_
  refine lv_sipush (pc := 4) (v := (400 : Int32)) hx hb dX2_keepTelling_4 (by decide) ?_
  refine z_ige (pc := 7) (tgt := 30) hC hf dX2_keepTelling_7 (by decide) (fun hf => ?_) (fun hf => ?_)
  · obtain rfl := Option.some.inj hf
    exact hE _ _ _ _ _ _ rfl hZ dX2_keepTelling_30
  refine lv_aload_n (pc := 10) hx hb dX2_keepTelling_10 rfl (lv_at hl 0 rfl) ?_
  refine gfX2_11 (pc := 11) hC hZ dX2_keepTelling_11 ?_
  refine lv_aload_n (pc := 14) hx hb dX2_keepTelling_14 rfl (lv_at hl 0 rfl) ?_
  refine gfX2_33 (pc := 15) hC hZ dX2_keepTelling_15 ?_
  refine z_aload_n (pc := 18) hC dX2_keepTelling_18 rfl (lv_at hl 1 rfl) ?_
  refine z_aastT (pc := 19) hC hZ (by decide) rfl hf dX2_keepTelling_19 (fun w1 H locs hf hZ => ?_)
  refine lv_aload_n (pc := 20) hx hb dX2_keepTelling_20 rfl (lv_at hl 0 rfl) ?_
  refine lv_dup (pc := 21) hx hb dX2_keepTelling_21 rfl ?_
  refine gfX2_33 (pc := 22) hC hZ dX2_keepTelling_22 ?_
  refine lv_iconst (pc := 25) (v := (1 : Int32)) hx hb dX2_keepTelling_25 (by decide) ?_
  refine lv_iadd (pc := 26) hx hb dX2_keepTelling_26 ?_
  refine pfX2_33 (pc := 27) hC hZ hf dX2_keepTelling_27 (fun w2 H locs hf hZ => ?_)
  obtain rfl := Option.some.inj hf
  exact hE _ _ _ _ _ _ rfl hZ dX2_keepTelling_30
set_option maxHeartbeats 4000000 in
set_option maxRecDepth 100000 in
theorem cX6_group_ok (l : Launch) (D : va_G) (cy : Nat → ClassId) (a0 aT aP : Nat → Nat) (N : Nat) (x0 : Option Nat) (w0 : zS) (rv : Int32) (τ : zS) (hf : fX6_group N x0 w0 = some (rv, τ)) : zMi l yX6_group cX6_group 1 (some .int) rmX6_group D cy shX 38 a0 aT aP w0 [va_rf (x0.map aT)] rv τ (fun u => u = (aT, aP)) := by
  refine zmet_i (by decide +kernel) (Or.inl rfl) (by simp [lg_sl, zcat, zcI, zcR, zcL]) ?_
  intro p e s m below meth c A Q ls hC hA hZ hl hE
  have hx := hC.1.1
  have hb := hC.1.2.1
  have hl : lv_has ls 1 [(0, va_rf (x0.map aT))] := by simpa [lv_args, zcat, zcI, zcR, zcL] using hl
  unfold fX6_group at hf
  refine z_aload_n (pc := 0) hC dX6_group_0 rfl (lv_at hl 0 rfl) ?_
  refine z_gT (pc := 1) hC hZ fkX6_25 rfl hf dX6_group_1 (fun v1 hf => ?_)
  refine lv_bipush (pc := 4) (v := (10 : Int32)) hx hb dX6_group_4 (by decide) ?_
  refine lv_imul (pc := 6) hx hb dX6_group_6 ?_
  refine z_aload_n (pc := 7) hC dX6_group_7 rfl (lv_at hl 0 rfl) ?_
  refine z_gT (pc := 8) hC hZ fkX6_28 rfl hf dX6_group_8 (fun v2 hf => ?_)
  refine lv_iadd (pc := 11) hx hb dX6_group_11 ?_
  refine lv_bipush (pc := 12) (v := (6 : Int32)) hx hb dX6_group_12 (by decide) ?_
  refine lv_imul (pc := 14) hx hb dX6_group_14 ?_
  refine z_aload_n (pc := 15) hC dX6_group_15 rfl (lv_at hl 0 rfl) ?_
  refine z_gT (pc := 16) hC hZ fkX6_31 rfl hf dX6_group_16 (fun v3 hf => ?_)
  refine lv_iadd (pc := 19) hx hb dX6_group_19 ?_
  obtain ⟨rfl, rfl⟩ := zinj hf
  exact hE _ _ _ _ _ _ rfl hZ dX6_group_20
section ZK
variable {p : Program} {l : Launch} {e : Env} {R : Room} {s : State} {m : MethodId} {args : Array Value} {below : List Frame} {meth : Method} {c : Code} {H : Heap} {locs : List Loc} {cells slots : Nat} {Q : State → Prop}
variable {pc : Nat} {ls : Array Slot} {rest : List Value} {A : Nat → Prop} {H0 : Heap} {D : va_G} {cy : Nat → ClassId} {a0 aT aP : Nat → Nat} {σ : zS} {cc : ByteArray} {nL : Nat} {α : Type} {res : α}
theorem vkX2_71 : zVk RX2 71 yX6_group cX6_group 1 (some .int) 0 := ⟨by decide +kernel, by decide +kernel, by decide +kernel, by decide +kernel, by decide +kernel, by decide +kernel⟩
theorem kX2_71 (hC : zC p s m args c RX2 cc nL D cy) (hA : ∀ q, H0.size ≤ q → A q) (hZ : zW D cy shX 38 a0 aT aP A H0 σ H locs) {N : Nat} {x0 : Option Nat} {k : Int32 → zS → Option α} (hf : zrT σ x0 (zbi (fX6_group N x0 σ) k) = some res) (hsz : ls.size = nL) (hW : (rest.map fun v => v.category).sum ≤ 8) (hR : rmX6_group.frames + 1 ≤ R.frames ∧ 8 + (1 + 11) + rmX6_group.locals ≤ R.locals) (hcs : cells ≤ R.cells ∧ slots ≤ R.slots) (hdg : decode cc pc = .ok (.invokevirtual 71, 3)) (kk : ∀ (v : Int32) (τ : zS) (H1 : Heap) (locs1 : List Loc), k v τ = some res → zW D cy shX 38 a0 aT aP A H0 τ H1 locs1 → W p l e R s m args below meth c H1 locs1 cells slots Q (F0 m (pc + 3) ls (.int v :: rest))) : W p l e R s m args below meth c H locs cells slots Q (F0 m pc ls (va_rf (x0.map aT) :: rest)) := by
  cases x0 with
  | none => cases hf
  | some t =>
    simp only [zrT] at hf
    by_cases ht : t < σ.2.2.2.1
    · rw [if_pos ht] at hf
      cases hq : fX6_group N (some t) σ with
      | none => rw [hq] at hf; cases hf
      | some q =>
        rw [hq] at hf
        exact zcalli hA hZ (zrun hC hZ vkX2_71 rfl (zw1 ht) (cX6_group_ok l D cy a0 aT aP N (some t) σ q.1 q.2 hq H.size) hR rfl hsz rfl hW hcs hdg) (fun u H1 locs1 hU hZ1 => by subst hU; exact kk q.1 q.2 H1 locs1 hf hZ1)
    · rw [if_neg ht] at hf; cases hf
end ZK
set_option maxHeartbeats 4000000 in
set_option maxRecDepth 100000 in
theorem wX2_chainOpenTellings_2 {p : Program} {l : Launch} {e : Env} {s : State} {m : MethodId} {args : Array Value} {below : List Frame} {meth : Method} {c : Code} {Q : State → Prop} {A : Nat → Prop} {H0 : Heap} {D : va_G} {cy : Nat → ClassId} {a0 aT aP : Nat → Nat} {res : zS} {K : Int32 → zS → Option (zS)} (N : Nat)  (hC : zC p s m args c RX2 cX2_chainOpenTellings 4 D cy) (hA : ∀ q, H0.size ≤ q → A q) (hE : zEnd p l e rmX2_chainOpenTellings s m args below meth c Q D cy shX 38 a0 A H0 res (fun u => u = (aT, aP)) cX2_chainOpenTellings .return_ []) (n : Nat) (x1 : Int32) (w0 : zS) {H : Heap} {locs : List Loc} {ls : Array Slot} (hf : lX2_chainOpenTellings_2 N  K n (x1, w0) = some res) (hZ : zW D cy shX 38 a0 aT aP A H0 w0 H locs) (hl : lv_has ls 4 [(0, .ref (a0 2)), (1, .int x1)]) (hK : ∀ x1 : Int32, ∀ (w0 : zS) (H : Heap) (locs : List Loc) (ls : Array Slot), K x1 w0 = some res → zW D cy shX 38 a0 aT aP A H0 w0 H locs → lv_has ls 4 [(0, .ref (a0 2)), (1, .int x1)] → W p l e rmX2_chainOpenTellings s m args below meth c H locs 0 0 Q (F0 m 22 ls [])) : W p l e rmX2_chainOpenTellings s m args below meth c H locs 0 0 Q (F0 m 2 ls []) := by
  have hx := hC.1.1
  have hb := hC.1.2.1
  have hf2 : zlp (fun rc s1 => bX2_chainOpenTellings_2 N  K rc s1.1 s1.2) n (x1, w0) = some res := hf
  have key := zloop (S := Int32 × zS) (α := zS) (b := fun rc s1 => bX2_chainOpenTellings_2 N  K rc s1.1 s1.2) (r := res) (Wd := fun s1 => ∀ (H : Heap) (locs : List Loc) (ls : Array Slot), zW D cy shX 38 a0 aT aP A H0 s1.2 H locs → lv_has ls 4 [(0, .ref (a0 2)), (1, .int s1.1)] → W p l e rmX2_chainOpenTellings s m args below meth c H locs 0 0 Q (F0 m 2 ls []))
  refine key ?_ n (x1, w0) hf2 H locs ls hZ hl
  clear hf hf2 hZ hl key
  rintro rc ⟨x1, w0⟩ ih hf H locs ls hZ hl
  have hf : bX2_chainOpenTellings_2 N  K rc x1 w0 = some res := hf
  have hl : lv_has ls 4 [(0, .ref (a0 2)), (1, .int x1)] := hl
  unfold bX2_chainOpenTellings_2 at hf
  refine lv_iload_n (pc := 2) hx hb dX2_chainOpenTellings_2 rfl (lv_at hl 1 rfl) ?_
  refine lv_sipush (pc := 3) (v := (600 : Int32)) hx hb dX2_chainOpenTellings_3 (by decide) ?_
  refine z_ige (pc := 6) (tgt := 22) hC hf dX2_chainOpenTellings_6 (by decide) (fun hf => ?_) (fun hf => ?_)
  · exact hK x1 w0 H locs ls hf hZ (lv_sub hl [0, 1] rfl)
  refine lv_aload_n (pc := 9) hx hb dX2_chainOpenTellings_9 rfl (lv_at hl 0 rfl) ?_
  refine gfX2_23 (pc := 10) hC hZ dX2_chainOpenTellings_10 ?_
  refine lv_iload_n (pc := 13) hx hb dX2_chainOpenTellings_13 rfl (lv_at hl 1 rfl) ?_
  refine lv_null (pc := 14) hx hb dX2_chainOpenTellings_14 ?_
  refine W.eq (g2 := F0 m 15 ls [va_rf ((none : Option Nat).map aT), .int x1, .ref (a0 19)]) rfl ?_
  refine z_aastT (pc := 15) hC hZ (by decide) rfl hf dX2_chainOpenTellings_15 (fun w1 H locs hf hZ => ?_)
  refine lv_iinc (pc := 16) (v := (x1 + (1 : Int32))) (lv' := [(1, .int (x1 + (1 : Int32))), (0, .ref (a0 2))]) hx hb dX2_chainOpenTellings_16 hl (k := 1) rfl rfl (by decide) rfl (fun ls hl => ?_)
  refine lv_goto (pc := 19) (tgt := 2) hx hb dX2_chainOpenTellings_19 (by decide) ?_
  exact ih ((x1 + (1 : Int32)), w1) hf H locs ls hZ (lv_sub hl [1, 0] rfl)
set_option maxHeartbeats 4000000 in
set_option maxRecDepth 100000 in
theorem wX2_chainOpenTellings_29 {p : Program} {l : Launch} {e : Env} {s : State} {m : MethodId} {args : Array Value} {below : List Frame} {meth : Method} {c : Code} {Q : State → Prop} {A : Nat → Prop} {H0 : Heap} {D : va_G} {cy : Nat → ClassId} {a0 aT aP : Nat → Nat} {res : zS} {K : Int32 → zS → Option (zS)} (N : Nat)  (hC : zC p s m args c RX2 cX2_chainOpenTellings 4 D cy) (hA : ∀ q, H0.size ≤ q → A q) (hE : zEnd p l e rmX2_chainOpenTellings s m args below meth c Q D cy shX 38 a0 A H0 res (fun u => u = (aT, aP)) cX2_chainOpenTellings .return_ []) (n : Nat) (x1 : Int32) (w0 : zS) {H : Heap} {locs : List Loc} {ls : Array Slot} (hf : lX2_chainOpenTellings_29 N  K n (x1, w0) = some res) (hZ : zW D cy shX 38 a0 aT aP A H0 w0 H locs) (hl : lv_has ls 4 [(0, .ref (a0 2)), (1, .int x1)]) (hK : ∀ x1 : Int32, ∀ (w0 : zS) (H : Heap) (locs : List Loc) (ls : Array Slot), K x1 w0 = some res → zW D cy shX 38 a0 aT aP A H0 w0 H locs → lv_has ls 4 [(0, .ref (a0 2)), (1, .int x1)] → W p l e rmX2_chainOpenTellings s m args below meth c H locs 0 0 Q (F0 m 93 ls [])) : W p l e rmX2_chainOpenTellings s m args below meth c H locs 0 0 Q (F0 m 29 ls []) := by
  have hx := hC.1.1
  have hb := hC.1.2.1
  have hf2 : zlp (fun rc s1 => bX2_chainOpenTellings_29 N  K rc s1.1 s1.2) n (x1, w0) = some res := hf
  have key := zloop (S := Int32 × zS) (α := zS) (b := fun rc s1 => bX2_chainOpenTellings_29 N  K rc s1.1 s1.2) (r := res) (Wd := fun s1 => ∀ (H : Heap) (locs : List Loc) (ls : Array Slot), zW D cy shX 38 a0 aT aP A H0 s1.2 H locs → lv_has ls 4 [(0, .ref (a0 2)), (1, .int s1.1)] → W p l e rmX2_chainOpenTellings s m args below meth c H locs 0 0 Q (F0 m 29 ls []))
  refine key ?_ n (x1, w0) hf2 H locs ls hZ hl
  clear hf hf2 hZ hl key
  rintro rc ⟨x1, w0⟩ ih hf H locs ls hZ hl
  have hf : bX2_chainOpenTellings_29 N  K rc x1 w0 = some res := hf
  have hl : lv_has ls 4 [(0, .ref (a0 2)), (1, .int x1)] := hl
  unfold bX2_chainOpenTellings_29 at hf
  refine lv_iload_n (pc := 29) hx hb dX2_chainOpenTellings_29 rfl (lv_at hl 1 rfl) ?_
  refine z_lt0 (pc := 30) (tgt := 93) hC hf dX2_chainOpenTellings_30 (by decide) (fun hf => ?_) (fun hf => ?_)
  · exact hK x1 w0 H locs ls hf hZ (lv_sub hl [0, 1] rfl)
  refine lv_aload_n (pc := 33) hx hb dX2_chainOpenTellings_33 rfl (lv_at hl 0 rfl) ?_
  refine gfX2_11 (pc := 34) hC hZ dX2_chainOpenTellings_34 ?_
  refine lv_iload_n (pc := 37) hx hb dX2_chainOpenTellings_37 rfl (lv_at hl 1 rfl) ?_
  refine z_aaldT (pc := 38) hC hZ (by decide) rfl hf dX2_chainOpenTellings_38 (fun v4 hf => ?_)
  refine z_astore_n (pc := 39) (i := 2) (lv' := [(2, va_rf (v4.map aT)), (0, .ref (a0 2)), (1, .int x1)]) hC dX2_chainOpenTellings_39 rfl hl (by decide) (zadj_cons (Or.inl (Nat.ne_of_beq_eq_false rfl)) (zadj_cons (Or.inr rfl) zadj_nil)) rfl (fun ls hl => ?_)
  refine z_aload_n (pc := 40) hC dX2_chainOpenTellings_40 rfl (lv_at hl 0 rfl) ?_
  refine z_ifnull (pc := 41) (tgt := 87) hC hf dX2_chainOpenTellings_41 (by decide) (fun hf => ?_) (fun hf => ?_)
  · refine z_iinc (pc := 87) (i := 1) (v := (x1 + (-1 : Int32))) (lv' := [(1, .int (x1 + (-1 : Int32))), (2, va_rf (v4.map aT)), (0, .ref (a0 2))]) hC dX2_chainOpenTellings_87 hl (k := 2) rfl rfl (by decide) (zadj_cons (Or.inl (Nat.ne_of_beq_eq_false rfl)) (zadj_cons (Or.inr rfl) (zadj_cons (Or.inl (Nat.ne_of_beq_eq_false rfl)) zadj_nil))) rfl (fun ls hl => ?_)
    refine lv_goto (pc := 90) (tgt := 29) hx hb dX2_chainOpenTellings_90 (by decide) ?_
    exact ih ((x1 + (-1 : Int32)), w0) hf H locs ls hZ (lv_sub hl [2, 0] rfl)
  refine z_aload_n (pc := 44) hC dX2_chainOpenTellings_44 rfl (lv_at hl 0 rfl) ?_
  refine z_gT (pc := 45) hC hZ fkX2_40 rfl hf dX2_chainOpenTellings_45 (fun v5 hf => ?_)
  refine z_eq0 (pc := 48) (tgt := 54) hC hf dX2_chainOpenTellings_48 (by decide) (fun hf => ?_) (fun hf => ?_)
  · refine z_aload_n (pc := 54) hC dX2_chainOpenTellings_54 rfl (lv_at hl 0 rfl) ?_
    refine kX2_71 (pc := 55) hC hA hZ hf hl.1 (Nat.le_of_ble_eq_true rfl) ⟨Nat.le_of_ble_eq_true rfl, Nat.le_of_ble_eq_true rfl⟩ ⟨Nat.le_refl _, Nat.le_refl _⟩ dX2_chainOpenTellings_55 (fun v7 w6 H locs hf hZ => ?_)
    refine z_istore_n (pc := 58) (i := 3) (lv' := [(3, .int v7), (2, va_rf (v4.map aT)), (0, .ref (a0 2)), (1, .int x1)]) hC dX2_chainOpenTellings_58 rfl hl (by decide) (zadj_cons (Or.inr (zcat _)) (zadj_cons (Or.inl (Nat.ne_of_beq_eq_false rfl)) (zadj_cons (Or.inl (Nat.ne_of_beq_eq_false rfl)) zadj_nil))) rfl (fun ls hl => ?_)
    refine lv_iload_n (pc := 59) hx hb dX2_chainOpenTellings_59 rfl (lv_at hl 0 rfl) ?_
    refine z_lt0 (pc := 60) (tgt := 87) hC hf dX2_chainOpenTellings_60 (by decide) (fun hf => ?_) (fun hf => ?_)
    · refine z_iinc (pc := 87) (i := 1) (v := (x1 + (-1 : Int32))) (lv' := [(1, .int (x1 + (-1 : Int32))), (3, .int v7), (2, va_rf (v4.map aT)), (0, .ref (a0 2))]) hC dX2_chainOpenTellings_87 hl (k := 3) rfl rfl (by decide) (zadj_cons (Or.inl (Nat.ne_of_beq_eq_false rfl)) (zadj_cons (Or.inl (Nat.ne_of_beq_eq_false rfl)) (zadj_cons (Or.inr rfl) (zadj_cons (Or.inl (Nat.ne_of_beq_eq_false rfl)) zadj_nil)))) rfl (fun ls hl => ?_)
      refine lv_goto (pc := 90) (tgt := 29) hx hb dX2_chainOpenTellings_90 (by decide) ?_
      exact ih ((x1 + (-1 : Int32)), w6) hf H locs ls hZ (lv_sub hl [3, 0] rfl)
    refine lv_iload_n (pc := 63) hx hb dX2_chainOpenTellings_63 rfl (lv_at hl 0 rfl) ?_
    refine lv_sipush (pc := 64) (v := (600 : Int32)) hx hb dX2_chainOpenTellings_64 (by decide) ?_
    refine z_ige (pc := 67) (tgt := 87) hC hf dX2_chainOpenTellings_67 (by decide) (fun hf => ?_) (fun hf => ?_)
    · refine z_iinc (pc := 87) (i := 1) (v := (x1 + (-1 : Int32))) (lv' := [(1, .int (x1 + (-1 : Int32))), (3, .int v7), (2, va_rf (v4.map aT)), (0, .ref (a0 2))]) hC dX2_chainOpenTellings_87 hl (k := 3) rfl rfl (by decide) (zadj_cons (Or.inl (Nat.ne_of_beq_eq_false rfl)) (zadj_cons (Or.inl (Nat.ne_of_beq_eq_false rfl)) (zadj_cons (Or.inr rfl) (zadj_cons (Or.inl (Nat.ne_of_beq_eq_false rfl)) zadj_nil)))) rfl (fun ls hl => ?_)
      refine lv_goto (pc := 90) (tgt := 29) hx hb dX2_chainOpenTellings_90 (by decide) ?_
      exact ih ((x1 + (-1 : Int32)), w6) hf H locs ls hZ (lv_sub hl [3, 0] rfl)
    refine z_aload_n (pc := 70) hC dX2_chainOpenTellings_70 rfl (lv_at hl 1 rfl) ?_
    refine lv_aload_n (pc := 71) hx hb dX2_chainOpenTellings_71 rfl (lv_at hl 2 rfl) ?_
    refine gfX2_23 (pc := 72) hC hZ dX2_chainOpenTellings_72 ?_
    refine lv_iload_n (pc := 75) hx hb dX2_chainOpenTellings_75 rfl (lv_at hl 0 rfl) ?_
    refine z_aaldT (pc := 76) hC hZ (by decide) rfl hf dX2_chainOpenTellings_76 (fun v8 hf => ?_)
    refine z_pTR (pc := 77) hC hZ fkX2_75 rfl hf dX2_chainOpenTellings_77 (fun w9 H locs hf hZ => ?_)
    refine lv_aload_n (pc := 80) hx hb dX2_chainOpenTellings_80 rfl (lv_at hl 2 rfl) ?_
    refine gfX2_23 (pc := 81) hC hZ dX2_chainOpenTellings_81 ?_
    refine lv_iload_n (pc := 84) hx hb dX2_chainOpenTellings_84 rfl (lv_at hl 0 rfl) ?_
    refine z_aload_n (pc := 85) hC dX2_chainOpenTellings_85 rfl (lv_at hl 1 rfl) ?_
    refine z_aastT (pc := 86) hC hZ (by decide) rfl hf dX2_chainOpenTellings_86 (fun w10 H locs hf hZ => ?_)
    refine z_iinc (pc := 87) (i := 1) (v := (x1 + (-1 : Int32))) (lv' := [(1, .int (x1 + (-1 : Int32))), (3, .int v7), (2, va_rf (v4.map aT)), (0, .ref (a0 2))]) hC dX2_chainOpenTellings_87 hl (k := 3) rfl rfl (by decide) (zadj_cons (Or.inl (Nat.ne_of_beq_eq_false rfl)) (zadj_cons (Or.inl (Nat.ne_of_beq_eq_false rfl)) (zadj_cons (Or.inr rfl) (zadj_cons (Or.inl (Nat.ne_of_beq_eq_false rfl)) zadj_nil)))) rfl (fun ls hl => ?_)
    refine lv_goto (pc := 90) (tgt := 29) hx hb dX2_chainOpenTellings_90 (by decide) ?_
    exact ih ((x1 + (-1 : Int32)), w10) hf H locs ls hZ (lv_sub hl [3, 0] rfl)
  refine lv_goto (pc := 51) (tgt := 87) hx hb dX2_chainOpenTellings_51 (by decide) ?_
  refine z_iinc (pc := 87) (i := 1) (v := (x1 + (-1 : Int32))) (lv' := [(1, .int (x1 + (-1 : Int32))), (2, va_rf (v4.map aT)), (0, .ref (a0 2))]) hC dX2_chainOpenTellings_87 hl (k := 2) rfl rfl (by decide) (zadj_cons (Or.inl (Nat.ne_of_beq_eq_false rfl)) (zadj_cons (Or.inr rfl) (zadj_cons (Or.inl (Nat.ne_of_beq_eq_false rfl)) zadj_nil))) rfl (fun ls hl => ?_)
  refine lv_goto (pc := 90) (tgt := 29) hx hb dX2_chainOpenTellings_90 (by decide) ?_
  exact ih ((x1 + (-1 : Int32)), w0) hf H locs ls hZ (lv_sub hl [2, 0] rfl)
set_option maxHeartbeats 4000000 in
set_option maxRecDepth 100000 in
theorem cX2_chainOpenTellings_ok (l : Launch) (D : va_G) (cy : Nat → ClassId) (a0 aT aP : Nat → Nat) (N : Nat)  (w0 : zS) (τ : zS) (hf : fX2_chainOpenTellings N  w0 = some τ) : zMv l yX2_chainOpenTellings cX2_chainOpenTellings 4 none rmX2_chainOpenTellings D cy shX 38 a0 aT aP w0 [.ref (a0 2)] τ (fun u => u = (aT, aP)) := by
  refine zmet_v (by decide +kernel) rfl (Nat.le_of_ble_eq_true rfl) ?_
  intro p e s m below meth c A Q ls hC hA hZ hl hE
  have hx := hC.1.1
  have hb := hC.1.2.1
  have hl : lv_has ls 4 [(0, .ref (a0 2))] := hl
  unfold fX2_chainOpenTellings at hf
  refine lv_iconst (pc := 0) (v := (0 : Int32)) hx hb dX2_chainOpenTellings_0 (by decide) ?_
  refine lv_istore_n (pc := 1) (lv' := [(1, .int (0 : Int32)), (0, .ref (a0 2))]) hx hb dX2_chainOpenTellings_1 rfl hl (by decide) rfl (fun ls hl => ?_)
  refine wX2_chainOpenTellings_2 (res := τ) N  hC hA hE N _ _ hf hZ (lv_sub hl [1, 0] rfl) (fun y2 w3 H locs ls hf hZ hl => ?_)
  refine lv_aload_n (pc := 22) hx hb dX2_chainOpenTellings_22 rfl (lv_at hl 0 rfl) ?_
  refine gfX2_33 (pc := 23) hC hZ dX2_chainOpenTellings_23 ?_
  refine lv_iconst (pc := 26) (v := (1 : Int32)) hx hb dX2_chainOpenTellings_26 (by decide) ?_
  refine lv_isub (pc := 27) hx hb dX2_chainOpenTellings_27 ?_
  refine lv_istore_n (pc := 28) (lv' := [(1, .int ((w3.1 0 2 4) - (1 : Int32))), (0, .ref (a0 2))]) hx hb dX2_chainOpenTellings_28 rfl hl (by decide) rfl (fun ls hl => ?_)
  refine wX2_chainOpenTellings_29 (res := τ) N  hC hA hE N _ _ hf hZ (lv_sub hl [1, 0] rfl) (fun y11 w12 H locs ls hf hZ hl => ?_)
  obtain rfl := Option.some.inj hf
  exact hE _ _ _ _ _ _ rfl hZ dX2_chainOpenTellings_93
