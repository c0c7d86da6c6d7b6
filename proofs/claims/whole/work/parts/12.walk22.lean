set_option maxHeartbeats 4000000 in
set_option maxRecDepth 100000 in
theorem wX8_pairThose_31 {p : Program} {l : Launch} {e : Env} {s : State} {m : MethodId} {args : Array Value} {below : List Frame} {meth : Method} {c : Code} {Q : State → Prop} {A : Nat → Prop} {H0 : Heap} {D : va_G} {cy : Nat → ClassId} {a0 aT aP : Nat → Nat} {res : Int32 × zS} {K : Int32 → zS → Option (Int32 × zS)} (N : Nat) (x1 : Int32) (x2 : Int32) (x3 : Int32) (x4 : Int32) (x5 : Int32) (x6 : Int32) (hC : zC p s m args c RX8 cX8_pairThose 13 D cy) (hA : ∀ q, H0.size ≤ q → A q) (hE : zEnd p l e rmX8_pairThose s m args below meth c Q D cy shM 35 a0 A H0 res.2 (fun u => u = (aT, aP)) cX8_pairThose .ireturn [.int res.1]) (n : Nat) (x7 : Int32) (w0 : zS) {H : Heap} {locs : List Loc} {ls : Array Slot} (hf : lX8_pairThose_31 N x1 x2 x3 x4 x5 x6 K n (x7, w0) = some res) (hZ : zW D cy shM 35 a0 aT aP A H0 w0 H locs) (hl : lv_has ls 13 [(0, .ref (a0 0)), (1, .int x1), (2, .int x2), (3, .int x3), (4, .int x4), (5, .int x5), (6, .int x6), (7, .int x7)]) (hK : ∀ x7 : Int32, ∀ (w0 : zS) (H : Heap) (locs : List Loc) (ls : Array Slot), K x7 w0 = some res → zW D cy shM 35 a0 aT aP A H0 w0 H locs → lv_has ls 13 [(0, .ref (a0 0)), (1, .int x1), (2, .int x2), (3, .int x3), (4, .int x4), (5, .int x5), (6, .int x6), (7, .int x7)] → W p l e rmX8_pairThose s m args below meth c H locs 0 0 Q (F0 m 60 ls [])) : W p l e rmX8_pairThose s m args below meth c H locs 0 0 Q (F0 m 31 ls []) := by
  have hx := hC.1.1
  have hb := hC.1.2.1
  have hf2 : zlp (fun rc s1 => bX8_pairThose_31 N x1 x2 x3 x4 x5 x6 K rc s1.1 s1.2) n (x7, w0) = some res := hf
  have key := zloop (S := Int32 × zS) (α := Int32 × zS) (b := fun rc s1 => bX8_pairThose_31 N x1 x2 x3 x4 x5 x6 K rc s1.1 s1.2) (r := res) (Wd := fun s1 => ∀ (H : Heap) (locs : List Loc) (ls : Array Slot), zW D cy shM 35 a0 aT aP A H0 s1.2 H locs → lv_has ls 13 [(0, .ref (a0 0)), (1, .int x1), (2, .int x2), (3, .int x3), (4, .int x4), (5, .int x5), (6, .int x6), (7, .int s1.1)] → W p l e rmX8_pairThose s m args below meth c H locs 0 0 Q (F0 m 31 ls []))
  refine key ?_ n (x7, w0) hf2 H locs ls hZ hl
  clear hf hf2 hZ hl key
  rintro rc ⟨x7, w0⟩ ih hf H locs ls hZ hl
  have hf : bX8_pairThose_31 N x1 x2 x3 x4 x5 x6 K rc x7 w0 = some res := hf
  have hl : lv_has ls 13 [(0, .ref (a0 0)), (1, .int x1), (2, .int x2), (3, .int x3), (4, .int x4), (5, .int x5), (6, .int x6), (7, .int x7)] := hl
  unfold bX8_pairThose_31 at hf
  refine lv_iload (pc := 31) hx hb dX8_pairThose_31 (lv_at hl 7 rfl) ?_
  refine lv_sipush (pc := 33) (v := (256 : Int32)) hx hb dX8_pairThose_33 (by decide) ?_
  refine z_ige (pc := 36) (tgt := 60) hC hf dX8_pairThose_36 (by decide) (fun hf => ?_) (fun hf => ?_)
  · exact hK x7 w0 H locs ls hf hZ (lv_sub hl [0, 1, 2, 3, 4, 5, 6, 7] rfl)
  refine lv_aload_n (pc := 39) hx hb dX8_pairThose_39 rfl (lv_at hl 0 rfl) ?_
  refine gfX8_96 (pc := 40) hC hZ dX8_pairThose_40 ?_
  refine lv_sipush (pc := 43) (v := (256 : Int32)) hx hb dX8_pairThose_43 (by decide) ?_
  refine lv_iload (pc := 46) hx hb dX8_pairThose_46 (lv_at hl 5 rfl) ?_
  refine lv_imul (pc := 48) hx hb dX8_pairThose_48 ?_
  refine lv_iload (pc := 49) hx hb dX8_pairThose_49 (lv_at hl 7 rfl) ?_
  refine lv_iadd (pc := 51) hx hb dX8_pairThose_51 ?_
  refine lv_iconst (pc := 52) (v := (0 : Int32)) hx hb dX8_pairThose_52 (by decide) ?_
  refine z_iast (pc := 53) hC hZ (by decide) rfl hf dX8_pairThose_53 (fun w5 H locs hf hZ => ?_)
  refine lv_iinc (pc := 54) (v := (x7 + (1 : Int32))) (lv' := [(7, .int (x7 + (1 : Int32))), (0, .ref (a0 0)), (1, .int x1), (2, .int x2), (3, .int x3), (4, .int x4), (5, .int x5), (6, .int x6)]) hx hb dX8_pairThose_54 hl (k := 7) rfl rfl (by decide) rfl (fun ls hl => ?_)
  refine lv_goto (pc := 57) (tgt := 31) hx hb dX8_pairThose_57 (by decide) ?_
  exact ih ((x7 + (1 : Int32)), w5) hf H locs ls hZ (lv_sub hl [1, 2, 3, 4, 5, 6, 7, 0] rfl)
set_option maxHeartbeats 4000000 in
set_option maxRecDepth 100000 in
theorem wX8_pairThose_104 {p : Program} {l : Launch} {e : Env} {s : State} {m : MethodId} {args : Array Value} {below : List Frame} {meth : Method} {c : Code} {Q : State → Prop} {A : Nat → Prop} {H0 : Heap} {D : va_G} {cy : Nat → ClassId} {a0 aT aP : Nat → Nat} {res : Int32 × zS} {K : Int32 → Int32 → zS → Option (Int32 × zS)} (N : Nat) (x1 : Int32) (x2 : Int32) (x3 : Int32) (x4 : Int32) (x5 : Int32) (x6 : Int32) (x7 : Int32) (x8 : Int32) (hC : zC p s m args c RX8 cX8_pairThose 13 D cy) (hA : ∀ q, H0.size ≤ q → A q) (hE : zEnd p l e rmX8_pairThose s m args below meth c Q D cy shM 35 a0 A H0 res.2 (fun u => u = (aT, aP)) cX8_pairThose .ireturn [.int res.1]) (n : Nat) (x9 : Int32) (x10 : Int32) (w0 : zS) {H : Heap} {locs : List Loc} {ls : Array Slot} (hf : lX8_pairThose_104 N x1 x2 x3 x4 x5 x6 x7 x8 K n (x9, x10, w0) = some res) (hZ : zW D cy shM 35 a0 aT aP A H0 w0 H locs) (hl : lv_has ls 13 [(0, .ref (a0 0)), (1, .int x1), (2, .int x2), (3, .int x3), (4, .int x4), (5, .int x5), (6, .int x6), (7, .int x7), (8, .int x8), (9, .int x9), (10, .int x10)]) (hK : ∀ x9 : Int32, ∀ x10 : Int32, ∀ (w0 : zS) (H : Heap) (locs : List Loc) (ls : Array Slot), K x9 x10 w0 = some res → zW D cy shM 35 a0 aT aP A H0 w0 H locs → lv_has ls 13 [(0, .ref (a0 0)), (1, .int x1), (2, .int x2), (3, .int x3), (4, .int x4), (5, .int x5), (6, .int x6), (7, .int x7), (8, .int x8), (9, .int x9), (10, .int x10)] → W p l e rmX8_pairThose s m args below meth c H locs 0 0 Q (F0 m 193 ls [])) : W p l e rmX8_pairThose s m args below meth c H locs 0 0 Q (F0 m 104 ls []) := by
  have hx := hC.1.1
  have hb := hC.1.2.1
  have hf2 : zlp (fun rc s1 => bX8_pairThose_104 N x1 x2 x3 x4 x5 x6 x7 x8 K rc s1.1 s1.2.1 s1.2.2) n (x9, x10, w0) = some res := hf
  have key := zloop (S := Int32 × Int32 × zS) (α := Int32 × zS) (b := fun rc s1 => bX8_pairThose_104 N x1 x2 x3 x4 x5 x6 x7 x8 K rc s1.1 s1.2.1 s1.2.2) (r := res) (Wd := fun s1 => ∀ (H : Heap) (locs : List Loc) (ls : Array Slot), zW D cy shM 35 a0 aT aP A H0 s1.2.2 H locs → lv_has ls 13 [(0, .ref (a0 0)), (1, .int x1), (2, .int x2), (3, .int x3), (4, .int x4), (5, .int x5), (6, .int x6), (7, .int x7), (8, .int x8), (9, .int s1.1), (10, .int s1.2.1)] → W p l e rmX8_pairThose s m args below meth c H locs 0 0 Q (F0 m 104 ls []))
  refine key ?_ n (x9, x10, w0) hf2 H locs ls hZ hl
  clear hf hf2 hZ hl key
  rintro rc ⟨x9, x10, w0⟩ ih hf H locs ls hZ hl
  have hf : bX8_pairThose_104 N x1 x2 x3 x4 x5 x6 x7 x8 K rc x9 x10 w0 = some res := hf
  have hl : lv_has ls 13 [(0, .ref (a0 0)), (1, .int x1), (2, .int x2), (3, .int x3), (4, .int x4), (5, .int x5), (6, .int x6), (7, .int x7), (8, .int x8), (9, .int x9), (10, .int x10)] := hl
  unfold bX8_pairThose_104 at hf
  refine lv_iload (pc := 104) hx hb dX8_pairThose_104 (lv_at hl 10 rfl) ?_
  refine lv_iload (pc := 106) hx hb dX8_pairThose_106 (lv_at hl 6 rfl) ?_
  refine z_ige (pc := 108) (tgt := 193) hC hf dX8_pairThose_108 (by decide) (fun hf => ?_) (fun hf => ?_)
  · exact hK x9 x10 w0 H locs ls hf hZ (lv_sub hl [0, 1, 2, 3, 4, 5, 6, 7, 8, 9, 10] rfl)
  refine lv_iload (pc := 111) hx hb dX8_pairThose_111 (lv_at hl 8 rfl) ?_
  refine lv_iload (pc := 113) hx hb dX8_pairThose_113 (lv_at hl 10 rfl) ?_
  refine lv_ishr (pc := 115) hx hb dX8_pairThose_115 ?_
  refine lv_iconst (pc := 116) (v := (1 : Int32)) hx hb dX8_pairThose_116 (by decide) ?_
  refine lv_iand (pc := 117) hx hb dX8_pairThose_117 ?_
  refine lv_iconst (pc := 118) (v := (1 : Int32)) hx hb dX8_pairThose_118 (by decide) ?_
  refine z_ine (pc := 119) (tgt := 126) hC hf dX8_pairThose_119 (by decide) (fun hf => ?_) (fun hf => ?_)
  · refine lv_iconst (pc := 122) (v := (-1 : Int32)) hx hb dX8_pairThose_122 (by decide) ?_
    refine lv_goto (pc := 123) (tgt := 134) hx hb dX8_pairThose_123 (by decide) ?_
    refine lv_istore (pc := 134) (lv' := [(11, .int (-1 : Int32)), (0, .ref (a0 0)), (1, .int x1), (2, .int x2), (3, .int x3), (4, .int x4), (5, .int x5), (6, .int x6), (7, .int x7), (8, .int x8), (9, .int x9), (10, .int x10)]) hx hb dX8_pairThose_134 hl (by decide) rfl (fun ls hl => ?_)
    refine lv_iload (pc := 136) hx hb dX8_pairThose_136 (lv_at hl 0 rfl) ?_
    refine z_ge0 (pc := 138) (tgt := 145) hC hf dX8_pairThose_138 (by decide) (fun hf => ?_) (fun hf => ?_)
    · refine lv_iload (pc := 145) hx hb dX8_pairThose_145 (lv_at hl 0 rfl) ?_
      refine lv_aload_n (pc := 147) hx hb dX8_pairThose_147 rfl (lv_at hl 1 rfl) ?_
      refine gfX8_96 (pc := 148) hC hZ dX8_pairThose_148 ?_
      refine lv_sipush (pc := 151) (v := (256 : Int32)) hx hb dX8_pairThose_151 (by decide) ?_
      refine lv_iload (pc := 154) hx hb dX8_pairThose_154 (lv_at hl 8 rfl) ?_
      refine lv_iconst (pc := 156) (v := (1 : Int32)) hx hb dX8_pairThose_156 (by decide) ?_
      refine lv_iadd (pc := 157) hx hb dX8_pairThose_157 ?_
      refine lv_imul (pc := 158) hx hb dX8_pairThose_158 ?_
      refine lv_iload (pc := 159) hx hb dX8_pairThose_159 (lv_at hl 9 rfl) ?_
      refine lv_iconst (pc := 161) (v := (1 : Int32)) hx hb dX8_pairThose_161 (by decide) ?_
      refine lv_iload (pc := 162) hx hb dX8_pairThose_162 (lv_at hl 11 rfl) ?_
      refine lv_ishl (pc := 164) hx hb dX8_pairThose_164 ?_
      refine lv_ior (pc := 165) hx hb dX8_pairThose_165 ?_
      refine lv_iadd (pc := 166) hx hb dX8_pairThose_166 ?_
      refine z_iald (pc := 167) hC hZ (by decide) rfl hf dX8_pairThose_167 (fun v9 hf => ?_)
      refine lv_iadd (pc := 168) hx hb dX8_pairThose_168 ?_
      refine lv_istore (pc := 169) (lv' := [(12, .int ((-1 : Int32) + v9)), (11, .int (-1 : Int32)), (0, .ref (a0 0)), (1, .int x1), (2, .int x2), (3, .int x3), (4, .int x4), (5, .int x5), (6, .int x6), (7, .int x7), (8, .int x8), (9, .int x9), (10, .int x10)]) hx hb dX8_pairThose_169 hl (by decide) rfl (fun ls hl => ?_)
      refine lv_iload (pc := 171) hx hb dX8_pairThose_171 (lv_at hl 0 rfl) ?_
      refine lv_iload (pc := 173) hx hb dX8_pairThose_173 (lv_at hl 11 rfl) ?_
      refine z_ile (pc := 175) (tgt := 183) hC hf dX8_pairThose_175 (by decide) (fun hf => ?_) (fun hf => ?_)
      · refine lv_iload (pc := 183) hx hb dX8_pairThose_183 (lv_at hl 11 rfl) ?_
        refine lv_istore (pc := 185) (lv' := [(9, .int x9), (12, .int ((-1 : Int32) + v9)), (11, .int (-1 : Int32)), (0, .ref (a0 0)), (1, .int x1), (2, .int x2), (3, .int x3), (4, .int x4), (5, .int x5), (6, .int x6), (7, .int x7), (8, .int x8), (10, .int x10)]) hx hb dX8_pairThose_185 hl (by decide) rfl (fun ls hl => ?_)
        refine lv_iinc (pc := 187) (v := (x10 + (1 : Int32))) (lv' := [(10, .int (x10 + (1 : Int32))), (9, .int x9), (12, .int ((-1 : Int32) + v9)), (11, .int (-1 : Int32)), (0, .ref (a0 0)), (1, .int x1), (2, .int x2), (3, .int x3), (4, .int x4), (5, .int x5), (6, .int x6), (7, .int x7), (8, .int x8)]) hx hb dX8_pairThose_187 hl (k := 12) rfl rfl (by decide) rfl (fun ls hl => ?_)
        refine lv_goto (pc := 190) (tgt := 104) hx hb dX8_pairThose_190 (by decide) ?_
        exact ih (x9, (x10 + (1 : Int32)), w0) hf H locs ls hZ (lv_sub hl [4, 5, 6, 7, 8, 9, 10, 11, 12, 1, 0] rfl)
      refine lv_iload (pc := 178) hx hb dX8_pairThose_178 (lv_at hl 0 rfl) ?_
      refine lv_goto (pc := 180) (tgt := 185) hx hb dX8_pairThose_180 (by decide) ?_
      refine lv_istore (pc := 185) (lv' := [(9, .int ((-1 : Int32) + v9)), (12, .int ((-1 : Int32) + v9)), (11, .int (-1 : Int32)), (0, .ref (a0 0)), (1, .int x1), (2, .int x2), (3, .int x3), (4, .int x4), (5, .int x5), (6, .int x6), (7, .int x7), (8, .int x8), (10, .int x10)]) hx hb dX8_pairThose_185 hl (by decide) rfl (fun ls hl => ?_)
      refine lv_iinc (pc := 187) (v := (x10 + (1 : Int32))) (lv' := [(10, .int (x10 + (1 : Int32))), (9, .int ((-1 : Int32) + v9)), (12, .int ((-1 : Int32) + v9)), (11, .int (-1 : Int32)), (0, .ref (a0 0)), (1, .int x1), (2, .int x2), (3, .int x3), (4, .int x4), (5, .int x5), (6, .int x6), (7, .int x7), (8, .int x8)]) hx hb dX8_pairThose_187 hl (k := 12) rfl rfl (by decide) rfl (fun ls hl => ?_)
      refine lv_goto (pc := 190) (tgt := 104) hx hb dX8_pairThose_190 (by decide) ?_
      exact ih (((-1 : Int32) + v9), (x10 + (1 : Int32)), w0) hf H locs ls hZ (lv_sub hl [4, 5, 6, 7, 8, 9, 10, 11, 12, 1, 0] rfl)
    refine lv_iconst (pc := 141) (v := (0 : Int32)) hx hb dX8_pairThose_141 (by decide) ?_
    refine lv_goto (pc := 142) (tgt := 169) hx hb dX8_pairThose_142 (by decide) ?_
    refine lv_istore (pc := 169) (lv' := [(12, .int (0 : Int32)), (11, .int (-1 : Int32)), (0, .ref (a0 0)), (1, .int x1), (2, .int x2), (3, .int x3), (4, .int x4), (5, .int x5), (6, .int x6), (7, .int x7), (8, .int x8), (9, .int x9), (10, .int x10)]) hx hb dX8_pairThose_169 hl (by decide) rfl (fun ls hl => ?_)
    refine lv_iload (pc := 171) hx hb dX8_pairThose_171 (lv_at hl 0 rfl) ?_
    refine lv_iload (pc := 173) hx hb dX8_pairThose_173 (lv_at hl 11 rfl) ?_
    refine z_ile (pc := 175) (tgt := 183) hC hf dX8_pairThose_175 (by decide) (fun hf => ?_) (fun hf => ?_)
    · refine lv_iload (pc := 183) hx hb dX8_pairThose_183 (lv_at hl 11 rfl) ?_
      refine lv_istore (pc := 185) (lv' := [(9, .int x9), (12, .int (0 : Int32)), (11, .int (-1 : Int32)), (0, .ref (a0 0)), (1, .int x1), (2, .int x2), (3, .int x3), (4, .int x4), (5, .int x5), (6, .int x6), (7, .int x7), (8, .int x8), (10, .int x10)]) hx hb dX8_pairThose_185 hl (by decide) rfl (fun ls hl => ?_)
      refine lv_iinc (pc := 187) (v := (x10 + (1 : Int32))) (lv' := [(10, .int (x10 + (1 : Int32))), (9, .int x9), (12, .int (0 : Int32)), (11, .int (-1 : Int32)), (0, .ref (a0 0)), (1, .int x1), (2, .int x2), (3, .int x3), (4, .int x4), (5, .int x5), (6, .int x6), (7, .int x7), (8, .int x8)]) hx hb dX8_pairThose_187 hl (k := 12) rfl rfl (by decide) rfl (fun ls hl => ?_)
      refine lv_goto (pc := 190) (tgt := 104) hx hb dX8_pairThose_190 (by decide) ?_
      exact ih (x9, (x10 + (1 : Int32)), w0) hf H locs ls hZ (lv_sub hl [4, 5, 6, 7, 8, 9, 10, 11, 12, 1, 0] rfl)
    refine lv_iload (pc := 178) hx hb dX8_pairThose_178 (lv_at hl 0 rfl) ?_
    refine lv_goto (pc := 180) (tgt := 185) hx hb dX8_pairThose_180 (by decide) ?_
    refine lv_istore (pc := 185) (lv' := [(9, .int (0 : Int32)), (12, .int (0 : Int32)), (11, .int (-1 : Int32)), (0, .ref (a0 0)), (1, .int x1), (2, .int x2), (3, .int x3), (4, .int x4), (5, .int x5), (6, .int x6), (7, .int x7), (8, .int x8), (10, .int x10)]) hx hb dX8_pairThose_185 hl (by decide) rfl (fun ls hl => ?_)
    refine lv_iinc (pc := 187) (v := (x10 + (1 : Int32))) (lv' := [(10, .int (x10 + (1 : Int32))), (9, .int (0 : Int32)), (12, .int (0 : Int32)), (11, .int (-1 : Int32)), (0, .ref (a0 0)), (1, .int x1), (2, .int x2), (3, .int x3), (4, .int x4), (5, .int x5), (6, .int x6), (7, .int x7), (8, .int x8)]) hx hb dX8_pairThose_187 hl (k := 12) rfl rfl (by decide) rfl (fun ls hl => ?_)
    refine lv_goto (pc := 190) (tgt := 104) hx hb dX8_pairThose_190 (by decide) ?_
    exact ih ((0 : Int32), (x10 + (1 : Int32)), w0) hf H locs ls hZ (lv_sub hl [4, 5, 6, 7, 8, 9, 10, 11, 12, 1, 0] rfl)
  refine lv_aload_n (pc := 126) hx hb dX8_pairThose_126 rfl (lv_at hl 0 rfl) ?_
  refine lv_iload (pc := 127) hx hb dX8_pairThose_127 (lv_at hl 7 rfl) ?_
  refine lv_iload (pc := 129) hx hb dX8_pairThose_129 (lv_at hl 10 rfl) ?_
  refine kX8_168 (pc := 131) hC hA hZ hf hl.1 (Nat.le_of_ble_eq_true rfl) ⟨Nat.le_of_ble_eq_true rfl, Nat.le_of_ble_eq_true rfl⟩ ⟨Nat.le_refl _, Nat.le_refl _⟩ dX8_pairThose_131 (fun v11 w10 H locs hf hZ => ?_)
  refine lv_istore (pc := 134) (lv' := [(11, .int v11), (0, .ref (a0 0)), (1, .int x1), (2, .int x2), (3, .int x3), (4, .int x4), (5, .int x5), (6, .int x6), (7, .int x7), (8, .int x8), (9, .int x9), (10, .int x10)]) hx hb dX8_pairThose_134 hl (by decide) rfl (fun ls hl => ?_)
  refine lv_iload (pc := 136) hx hb dX8_pairThose_136 (lv_at hl 0 rfl) ?_
  refine z_ge0 (pc := 138) (tgt := 145) hC hf dX8_pairThose_138 (by decide) (fun hf => ?_) (fun hf => ?_)
  · refine lv_iload (pc := 145) hx hb dX8_pairThose_145 (lv_at hl 0 rfl) ?_
    refine lv_aload_n (pc := 147) hx hb dX8_pairThose_147 rfl (lv_at hl 1 rfl) ?_
    refine gfX8_96 (pc := 148) hC hZ dX8_pairThose_148 ?_
    refine lv_sipush (pc := 151) (v := (256 : Int32)) hx hb dX8_pairThose_151 (by decide) ?_
    refine lv_iload (pc := 154) hx hb dX8_pairThose_154 (lv_at hl 8 rfl) ?_
    refine lv_iconst (pc := 156) (v := (1 : Int32)) hx hb dX8_pairThose_156 (by decide) ?_
    refine lv_iadd (pc := 157) hx hb dX8_pairThose_157 ?_
    refine lv_imul (pc := 158) hx hb dX8_pairThose_158 ?_
    refine lv_iload (pc := 159) hx hb dX8_pairThose_159 (lv_at hl 9 rfl) ?_
    refine lv_iconst (pc := 161) (v := (1 : Int32)) hx hb dX8_pairThose_161 (by decide) ?_
    refine lv_iload (pc := 162) hx hb dX8_pairThose_162 (lv_at hl 11 rfl) ?_
    refine lv_ishl (pc := 164) hx hb dX8_pairThose_164 ?_
    refine lv_ior (pc := 165) hx hb dX8_pairThose_165 ?_
    refine lv_iadd (pc := 166) hx hb dX8_pairThose_166 ?_
    refine z_iald (pc := 167) hC hZ (by decide) rfl hf dX8_pairThose_167 (fun v12 hf => ?_)
    refine lv_iadd (pc := 168) hx hb dX8_pairThose_168 ?_
    refine lv_istore (pc := 169) (lv' := [(12, .int (v11 + v12)), (11, .int v11), (0, .ref (a0 0)), (1, .int x1), (2, .int x2), (3, .int x3), (4, .int x4), (5, .int x5), (6, .int x6), (7, .int x7), (8, .int x8), (9, .int x9), (10, .int x10)]) hx hb dX8_pairThose_169 hl (by decide) rfl (fun ls hl => ?_)
    refine lv_iload (pc := 171) hx hb dX8_pairThose_171 (lv_at hl 0 rfl) ?_
    refine lv_iload (pc := 173) hx hb dX8_pairThose_173 (lv_at hl 11 rfl) ?_
    refine z_ile (pc := 175) (tgt := 183) hC hf dX8_pairThose_175 (by decide) (fun hf => ?_) (fun hf => ?_)
    · refine lv_iload (pc := 183) hx hb dX8_pairThose_183 (lv_at hl 11 rfl) ?_
      refine lv_istore (pc := 185) (lv' := [(9, .int x9), (12, .int (v11 + v12)), (11, .int v11), (0, .ref (a0 0)), (1, .int x1), (2, .int x2), (3, .int x3), (4, .int x4), (5, .int x5), (6, .int x6), (7, .int x7), (8, .int x8), (10, .int x10)]) hx hb dX8_pairThose_185 hl (by decide) rfl (fun ls hl => ?_)
      refine lv_iinc (pc := 187) (v := (x10 + (1 : Int32))) (lv' := [(10, .int (x10 + (1 : Int32))), (9, .int x9), (12, .int (v11 + v12)), (11, .int v11), (0, .ref (a0 0)), (1, .int x1), (2, .int x2), (3, .int x3), (4, .int x4), (5, .int x5), (6, .int x6), (7, .int x7), (8, .int x8)]) hx hb dX8_pairThose_187 hl (k := 12) rfl rfl (by decide) rfl (fun ls hl => ?_)
      refine lv_goto (pc := 190) (tgt := 104) hx hb dX8_pairThose_190 (by decide) ?_
      exact ih (x9, (x10 + (1 : Int32)), w10) hf H locs ls hZ (lv_sub hl [4, 5, 6, 7, 8, 9, 10, 11, 12, 1, 0] rfl)
    refine lv_iload (pc := 178) hx hb dX8_pairThose_178 (lv_at hl 0 rfl) ?_
    refine lv_goto (pc := 180) (tgt := 185) hx hb dX8_pairThose_180 (by decide) ?_
    refine lv_istore (pc := 185) (lv' := [(9, .int (v11 + v12)), (12, .int (v11 + v12)), (11, .int v11), (0, .ref (a0 0)), (1, .int x1), (2, .int x2), (3, .int x3), (4, .int x4), (5, .int x5), (6, .int x6), (7, .int x7), (8, .int x8), (10, .int x10)]) hx hb dX8_pairThose_185 hl (by decide) rfl (fun ls hl => ?_)
    refine lv_iinc (pc := 187) (v := (x10 + (1 : Int32))) (lv' := [(10, .int (x10 + (1 : Int32))), (9, .int (v11 + v12)), (12, .int (v11 + v12)), (11, .int v11), (0, .ref (a0 0)), (1, .int x1), (2, .int x2), (3, .int x3), (4, .int x4), (5, .int x5), (6, .int x6), (7, .int x7), (8, .int x8)]) hx hb dX8_pairThose_187 hl (k := 12) rfl rfl (by decide) rfl (fun ls hl => ?_)
    refine lv_goto (pc := 190) (tgt := 104) hx hb dX8_pairThose_190 (by decide) ?_
    exact ih ((v11 + v12), (x10 + (1 : Int32)), w10) hf H locs ls hZ (lv_sub hl [4, 5, 6, 7, 8, 9, 10, 11, 12, 1, 0] rfl)
  refine lv_iconst (pc := 141) (v := (0 : Int32)) hx hb dX8_pairThose_141 (by decide) ?_
  refine lv_goto (pc := 142) (tgt := 169) hx hb dX8_pairThose_142 (by decide) ?_
  refine lv_istore (pc := 169) (lv' := [(12, .int (0 : Int32)), (11, .int v11), (0, .ref (a0 0)), (1, .int x1), (2, .int x2), (3, .int x3), (4, .int x4), (5, .int x5), (6, .int x6), (7, .int x7), (8, .int x8), (9, .int x9), (10, .int x10)]) hx hb dX8_pairThose_169 hl (by decide) rfl (fun ls hl => ?_)
  refine lv_iload (pc := 171) hx hb dX8_pairThose_171 (lv_at hl 0 rfl) ?_
  refine lv_iload (pc := 173) hx hb dX8_pairThose_173 (lv_at hl 11 rfl) ?_
  refine z_ile (pc := 175) (tgt := 183) hC hf dX8_pairThose_175 (by decide) (fun hf => ?_) (fun hf => ?_)
  · refine lv_iload (pc := 183) hx hb dX8_pairThose_183 (lv_at hl 11 rfl) ?_
    refine lv_istore (pc := 185) (lv' := [(9, .int x9), (12, .int (0 : Int32)), (11, .int v11), (0, .ref (a0 0)), (1, .int x1), (2, .int x2), (3, .int x3), (4, .int x4), (5, .int x5), (6, .int x6), (7, .int x7), (8, .int x8), (10, .int x10)]) hx hb dX8_pairThose_185 hl (by decide) rfl (fun ls hl => ?_)
    refine lv_iinc (pc := 187) (v := (x10 + (1 : Int32))) (lv' := [(10, .int (x10 + (1 : Int32))), (9, .int x9), (12, .int (0 : Int32)), (11, .int v11), (0, .ref (a0 0)), (1, .int x1), (2, .int x2), (3, .int x3), (4, .int x4), (5, .int x5), (6, .int x6), (7, .int x7), (8, .int x8)]) hx hb dX8_pairThose_187 hl (k := 12) rfl rfl (by decide) rfl (fun ls hl => ?_)
    refine lv_goto (pc := 190) (tgt := 104) hx hb dX8_pairThose_190 (by decide) ?_
    exact ih (x9, (x10 + (1 : Int32)), w10) hf H locs ls hZ (lv_sub hl [4, 5, 6, 7, 8, 9, 10, 11, 12, 1, 0] rfl)
  refine lv_iload (pc := 178) hx hb dX8_pairThose_178 (lv_at hl 0 rfl) ?_
  refine lv_goto (pc := 180) (tgt := 185) hx hb dX8_pairThose_180 (by decide) ?_
  refine lv_istore (pc := 185) (lv' := [(9, .int (0 : Int32)), (12, .int (0 : Int32)), (11, .int v11), (0, .ref (a0 0)), (1, .int x1), (2, .int x2), (3, .int x3), (4, .int x4), (5, .int x5), (6, .int x6), (7, .int x7), (8, .int x8), (10, .int x10)]) hx hb dX8_pairThose_185 hl (by decide) rfl (fun ls hl => ?_)
  refine lv_iinc (pc := 187) (v := (x10 + (1 : Int32))) (lv' := [(10, .int (x10 + (1 : Int32))), (9, .int (0 : Int32)), (12, .int (0 : Int32)), (11, .int v11), (0, .ref (a0 0)), (1, .int x1), (2, .int x2), (3, .int x3), (4, .int x4), (5, .int x5), (6, .int x6), (7, .int x7), (8, .int x8)]) hx hb dX8_pairThose_187 hl (k := 12) rfl rfl (by decide) rfl (fun ls hl => ?_)
  refine lv_goto (pc := 190) (tgt := 104) hx hb dX8_pairThose_190 (by decide) ?_
  exact ih ((0 : Int32), (x10 + (1 : Int32)), w10) hf H locs ls hZ (lv_sub hl [4, 5, 6, 7, 8, 9, 10, 11, 12, 1, 0] rfl)
set_option maxHeartbeats 4000000 in
set_option maxRecDepth 100000 in
theorem wX8_pairThose_74 {p : Program} {l : Launch} {e : Env} {s : State} {m : MethodId} {args : Array Value} {below : List Frame} {meth : Method} {c : Code} {Q : State → Prop} {A : Nat → Prop} {H0 : Heap} {D : va_G} {cy : Nat → ClassId} {a0 aT aP : Nat → Nat} {res : Int32 × zS} {K : Int32 → zS → Option (Int32 × zS)} (N : Nat) (x1 : Int32) (x2 : Int32) (x3 : Int32) (x4 : Int32) (x5 : Int32) (x6 : Int32) (x7 : Int32) (hC : zC p s m args c RX8 cX8_pairThose 13 D cy) (hA : ∀ q, H0.size ≤ q → A q) (hE : zEnd p l e rmX8_pairThose s m args below meth c Q D cy shM 35 a0 A H0 res.2 (fun u => u = (aT, aP)) cX8_pairThose .ireturn [.int res.1]) (n : Nat) (x8 : Int32) (w0 : zS) {H : Heap} {locs : List Loc} {ls : Array Slot} (hf : lX8_pairThose_74 N x1 x2 x3 x4 x5 x6 x7 K n (x8, w0) = some res) (hZ : zW D cy shM 35 a0 aT aP A H0 w0 H locs) (hl : lv_has ls 13 [(0, .ref (a0 0)), (1, .int x1), (2, .int x2), (3, .int x3), (4, .int x4), (5, .int x5), (6, .int x6), (7, .int x7), (8, .int x8)]) (hK : ∀ x8 : Int32, ∀ (w0 : zS) (H : Heap) (locs : List Loc) (ls : Array Slot), K x8 w0 = some res → zW D cy shM 35 a0 aT aP A H0 w0 H locs → lv_has ls 13 [(0, .ref (a0 0)), (1, .int x1), (2, .int x2), (3, .int x3), (4, .int x4), (5, .int x5), (6, .int x6), (7, .int x7), (8, .int x8)] → W p l e rmX8_pairThose s m args below meth c H locs 0 0 Q (F0 m 215 ls [])) : W p l e rmX8_pairThose s m args below meth c H locs 0 0 Q (F0 m 74 ls []) := by
  have hx := hC.1.1
  have hb := hC.1.2.1
  have hf2 : zlp (fun rc s1 => bX8_pairThose_74 N x1 x2 x3 x4 x5 x6 x7 K rc s1.1 s1.2) n (x8, w0) = some res := hf
  have key := zloop (S := Int32 × zS) (α := Int32 × zS) (b := fun rc s1 => bX8_pairThose_74 N x1 x2 x3 x4 x5 x6 x7 K rc s1.1 s1.2) (r := res) (Wd := fun s1 => ∀ (H : Heap) (locs : List Loc) (ls : Array Slot), zW D cy shM 35 a0 aT aP A H0 s1.2 H locs → lv_has ls 13 [(0, .ref (a0 0)), (1, .int x1), (2, .int x2), (3, .int x3), (4, .int x4), (5, .int x5), (6, .int x6), (7, .int x7), (8, .int s1.1)] → W p l e rmX8_pairThose s m args below meth c H locs 0 0 Q (F0 m 74 ls []))
  refine key ?_ n (x8, w0) hf2 H locs ls hZ hl
  clear hf hf2 hZ hl key
  rintro rc ⟨x8, w0⟩ ih hf H locs ls hZ hl
  have hf : bX8_pairThose_74 N x1 x2 x3 x4 x5 x6 x7 K rc x8 w0 = some res := hf
  have hl : lv_has ls 13 [(0, .ref (a0 0)), (1, .int x1), (2, .int x2), (3, .int x3), (4, .int x4), (5, .int x5), (6, .int x6), (7, .int x7), (8, .int x8)] := hl
  unfold bX8_pairThose_74 at hf
  refine lv_iload (pc := 74) hx hb dX8_pairThose_74 (lv_at hl 8 rfl) ?_
  refine lv_iconst (pc := 76) (v := (1 : Int32)) hx hb dX8_pairThose_76 (by decide) ?_
  refine lv_iload (pc := 77) hx hb dX8_pairThose_77 (lv_at hl 6 rfl) ?_
  refine lv_ishl (pc := 79) hx hb dX8_pairThose_79 ?_
  refine z_ige (pc := 80) (tgt := 215) hC hf dX8_pairThose_80 (by decide) (fun hf => ?_) (fun hf => ?_)
  · exact hK x8 w0 H locs ls hf hZ (lv_sub hl [0, 1, 2, 3, 4, 5, 6, 7, 8] rfl)
  refine lv_aload_n (pc := 83) hx hb dX8_pairThose_83 rfl (lv_at hl 0 rfl) ?_
  refine gfX8_96 (pc := 84) hC hZ dX8_pairThose_84 ?_
  refine lv_sipush (pc := 87) (v := (256 : Int32)) hx hb dX8_pairThose_87 (by decide) ?_
  refine lv_iload (pc := 90) hx hb dX8_pairThose_90 (lv_at hl 7 rfl) ?_
  refine lv_iconst (pc := 92) (v := (1 : Int32)) hx hb dX8_pairThose_92 (by decide) ?_
  refine lv_iadd (pc := 93) hx hb dX8_pairThose_93 ?_
  refine lv_imul (pc := 94) hx hb dX8_pairThose_94 ?_
  refine lv_iload (pc := 95) hx hb dX8_pairThose_95 (lv_at hl 8 rfl) ?_
  refine lv_iadd (pc := 97) hx hb dX8_pairThose_97 ?_
  refine z_iald (pc := 98) hC hZ (by decide) rfl hf dX8_pairThose_98 (fun v8 hf => ?_)
  refine lv_istore (pc := 99) (lv' := [(9, .int v8), (0, .ref (a0 0)), (1, .int x1), (2, .int x2), (3, .int x3), (4, .int x4), (5, .int x5), (6, .int x6), (7, .int x7), (8, .int x8)]) hx hb dX8_pairThose_99 hl (by decide) rfl (fun ls hl => ?_)
  refine lv_iconst (pc := 101) (v := (0 : Int32)) hx hb dX8_pairThose_101 (by decide) ?_
  refine lv_istore (pc := 102) (lv' := [(10, .int (0 : Int32)), (9, .int v8), (0, .ref (a0 0)), (1, .int x1), (2, .int x2), (3, .int x3), (4, .int x4), (5, .int x5), (6, .int x6), (7, .int x7), (8, .int x8)]) hx hb dX8_pairThose_102 hl (by decide) rfl (fun ls hl => ?_)
  refine wX8_pairThose_104 (res := res) N x1 x2 x3 x4 x5 x6 x7 x8 hC hA hE N _ _ _ hf hZ (lv_sub hl [2, 3, 4, 5, 6, 7, 8, 9, 10, 1, 0] rfl) (fun y13 y14 w15 H locs ls hf hZ hl => ?_)
  refine lv_aload_n (pc := 193) hx hb dX8_pairThose_193 rfl (lv_at hl 0 rfl) ?_
  refine gfX8_96 (pc := 194) hC hZ dX8_pairThose_194 ?_
  refine lv_sipush (pc := 197) (v := (256 : Int32)) hx hb dX8_pairThose_197 (by decide) ?_
  refine lv_iload (pc := 200) hx hb dX8_pairThose_200 (lv_at hl 7 rfl) ?_
  refine lv_imul (pc := 202) hx hb dX8_pairThose_202 ?_
  refine lv_iload (pc := 203) hx hb dX8_pairThose_203 (lv_at hl 8 rfl) ?_
  refine lv_iadd (pc := 205) hx hb dX8_pairThose_205 ?_
  refine lv_iload (pc := 206) hx hb dX8_pairThose_206 (lv_at hl 9 rfl) ?_
  refine z_iast (pc := 208) hC hZ (by decide) rfl hf dX8_pairThose_208 (fun w16 H locs hf hZ => ?_)
  refine lv_iinc (pc := 209) (v := (x8 + (1 : Int32))) (lv' := [(8, .int (x8 + (1 : Int32))), (0, .ref (a0 0)), (1, .int x1), (2, .int x2), (3, .int x3), (4, .int x4), (5, .int x5), (6, .int x6), (7, .int x7), (9, .int y13), (10, .int y14)]) hx hb dX8_pairThose_209 hl (k := 8) rfl rfl (by decide) rfl (fun ls hl => ?_)
  refine lv_goto (pc := 212) (tgt := 74) hx hb dX8_pairThose_212 (by decide) ?_
  exact ih ((x8 + (1 : Int32)), w16) hf H locs ls hZ (lv_sub hl [1, 2, 3, 4, 5, 6, 7, 8, 0] rfl)
set_option maxHeartbeats 4000000 in
set_option maxRecDepth 100000 in
theorem wX8_pairThose_66 {p : Program} {l : Launch} {e : Env} {s : State} {m : MethodId} {args : Array Value} {below : List Frame} {meth : Method} {c : Code} {Q : State → Prop} {A : Nat → Prop} {H0 : Heap} {D : va_G} {cy : Nat → ClassId} {a0 aT aP : Nat → Nat} {res : Int32 × zS} {K : Int32 → zS → Option (Int32 × zS)} (N : Nat) (x1 : Int32) (x2 : Int32) (x3 : Int32) (x4 : Int32) (x5 : Int32) (x6 : Int32) (hC : zC p s m args c RX8 cX8_pairThose 13 D cy) (hA : ∀ q, H0.size ≤ q → A q) (hE : zEnd p l e rmX8_pairThose s m args below meth c Q D cy shM 35 a0 A H0 res.2 (fun u => u = (aT, aP)) cX8_pairThose .ireturn [.int res.1]) (n : Nat) (x7 : Int32) (w0 : zS) {H : Heap} {locs : List Loc} {ls : Array Slot} (hf : lX8_pairThose_66 N x1 x2 x3 x4 x5 x6 K n (x7, w0) = some res) (hZ : zW D cy shM 35 a0 aT aP A H0 w0 H locs) (hl : lv_has ls 13 [(0, .ref (a0 0)), (1, .int x1), (2, .int x2), (3, .int x3), (4, .int x4), (5, .int x5), (6, .int x6), (7, .int x7)]) (hK : ∀ x7 : Int32, ∀ (w0 : zS) (H : Heap) (locs : List Loc) (ls : Array Slot), K x7 w0 = some res → zW D cy shM 35 a0 aT aP A H0 w0 H locs → lv_has ls 13 [(0, .ref (a0 0)), (1, .int x1), (2, .int x2), (3, .int x3), (4, .int x4), (5, .int x5), (6, .int x6), (7, .int x7)] → W p l e rmX8_pairThose s m args below meth c H locs 0 0 Q (F0 m 221 ls [])) : W p l e rmX8_pairThose s m args below meth c H locs 0 0 Q (F0 m 66 ls []) := by
  have hx := hC.1.1
  have hb := hC.1.2.1
  have hf2 : zlp (fun rc s1 => bX8_pairThose_66 N x1 x2 x3 x4 x5 x6 K rc s1.1 s1.2) n (x7, w0) = some res := hf
  have key := zloop (S := Int32 × zS) (α := Int32 × zS) (b := fun rc s1 => bX8_pairThose_66 N x1 x2 x3 x4 x5 x6 K rc s1.1 s1.2) (r := res) (Wd := fun s1 => ∀ (H : Heap) (locs : List Loc) (ls : Array Slot), zW D cy shM 35 a0 aT aP A H0 s1.2 H locs → lv_has ls 13 [(0, .ref (a0 0)), (1, .int x1), (2, .int x2), (3, .int x3), (4, .int x4), (5, .int x5), (6, .int x6), (7, .int s1.1)] → W p l e rmX8_pairThose s m args below meth c H locs 0 0 Q (F0 m 66 ls []))
  refine key ?_ n (x7, w0) hf2 H locs ls hZ hl
  clear hf hf2 hZ hl key
  rintro rc ⟨x7, w0⟩ ih hf H locs ls hZ hl
  have hf : bX8_pairThose_66 N x1 x2 x3 x4 x5 x6 K rc x7 w0 = some res := hf
  have hl : lv_has ls 13 [(0, .ref (a0 0)), (1, .int x1), (2, .int x2), (3, .int x3), (4, .int x4), (5, .int x5), (6, .int x6), (7, .int x7)] := hl
  unfold bX8_pairThose_66 at hf
  refine lv_iload (pc := 66) hx hb dX8_pairThose_66 (lv_at hl 7 rfl) ?_
  refine z_lt0 (pc := 68) (tgt := 221) hC hf dX8_pairThose_68 (by decide) (fun hf => ?_) (fun hf => ?_)
  · exact hK x7 w0 H locs ls hf hZ (lv_sub hl [0, 1, 2, 3, 4, 5, 6, 7] rfl)
  refine lv_iconst (pc := 71) (v := (0 : Int32)) hx hb dX8_pairThose_71 (by decide) ?_
  refine lv_istore (pc := 72) (lv' := [(8, .int (0 : Int32)), (0, .ref (a0 0)), (1, .int x1), (2, .int x2), (3, .int x3), (4, .int x4), (5, .int x5), (6, .int x6), (7, .int x7)]) hx hb dX8_pairThose_72 hl (by decide) rfl (fun ls hl => ?_)
  refine wX8_pairThose_74 (res := res) N x1 x2 x3 x4 x5 x6 x7 hC hA hE N _ _ hf hZ (lv_sub hl [1, 2, 3, 4, 5, 6, 7, 8, 0] rfl) (fun y17 w18 H locs ls hf hZ hl => ?_)
  refine lv_iinc (pc := 215) (v := (x7 + (-1 : Int32))) (lv' := [(7, .int (x7 + (-1 : Int32))), (0, .ref (a0 0)), (1, .int x1), (2, .int x2), (3, .int x3), (4, .int x4), (5, .int x5), (6, .int x6), (8, .int y17)]) hx hb dX8_pairThose_215 hl (k := 7) rfl rfl (by decide) rfl (fun ls hl => ?_)
  refine lv_goto (pc := 218) (tgt := 66) hx hb dX8_pairThose_218 (by decide) ?_
  exact ih ((x7 + (-1 : Int32)), w18) hf H locs ls hZ (lv_sub hl [1, 2, 3, 4, 5, 6, 7, 0] rfl)
set_option maxHeartbeats 4000000 in
set_option maxRecDepth 100000 in
theorem wX8_pairThose_253 {p : Program} {l : Launch} {e : Env} {s : State} {m : MethodId} {args : Array Value} {below : List Frame} {meth : Method} {c : Code} {Q : State → Prop} {A : Nat → Prop} {H0 : Heap} {D : va_G} {cy : Nat → ClassId} {a0 aT aP : Nat → Nat} {res : Int32 × zS} {K : Int32 → Int32 → zS → Option (Int32 × zS)} (N : Nat) (x1 : Int32) (x2 : Int32) (x3 : Int32) (x4 : Int32) (x5 : Int32) (x6 : Int32) (x7 : Int32) (x8 : Int32) (x9 : Int32) (hC : zC p s m args c RX8 cX8_pairThose 13 D cy) (hA : ∀ q, H0.size ≤ q → A q) (hE : zEnd p l e rmX8_pairThose s m args below meth c Q D cy shM 35 a0 A H0 res.2 (fun u => u = (aT, aP)) cX8_pairThose .ireturn [.int res.1]) (n : Nat) (x10 : Int32) (x11 : Int32) (w0 : zS) {H : Heap} {locs : List Loc} {ls : Array Slot} (hf : lX8_pairThose_253 N x1 x2 x3 x4 x5 x6 x7 x8 x9 K n (x10, x11, w0) = some res) (hZ : zW D cy shM 35 a0 aT aP A H0 w0 H locs) (hl : lv_has ls 13 [(0, .ref (a0 0)), (1, .int x1), (2, .int x2), (3, .int x3), (4, .int x4), (5, .int x5), (6, .int x6), (7, .int x7), (8, .int x8), (9, .int x9), (10, .int x10), (11, .int x11)]) (hK : ∀ x10 : Int32, ∀ x11 : Int32, ∀ (w0 : zS) (H : Heap) (locs : List Loc) (ls : Array Slot), K x10 x11 w0 = some res → zW D cy shM 35 a0 aT aP A H0 w0 H locs → lv_has ls 13 [(0, .ref (a0 0)), (1, .int x1), (2, .int x2), (3, .int x3), (4, .int x4), (5, .int x5), (6, .int x6), (7, .int x7), (8, .int x8), (9, .int x9), (10, .int x10), (11, .int x11)] → W p l e rmX8_pairThose s m args below meth c H locs 0 0 Q (F0 m 344 ls [])) : W p l e rmX8_pairThose s m args below meth c H locs 0 0 Q (F0 m 253 ls []) := by
  have hx := hC.1.1
  have hb := hC.1.2.1
  have hf2 : zlp (fun rc s1 => bX8_pairThose_253 N x1 x2 x3 x4 x5 x6 x7 x8 x9 K rc s1.1 s1.2.1 s1.2.2) n (x10, x11, w0) = some res := hf
  have key := zloop (S := Int32 × Int32 × zS) (α := Int32 × zS) (b := fun rc s1 => bX8_pairThose_253 N x1 x2 x3 x4 x5 x6 x7 x8 x9 K rc s1.1 s1.2.1 s1.2.2) (r := res) (Wd := fun s1 => ∀ (H : Heap) (locs : List Loc) (ls : Array Slot), zW D cy shM 35 a0 aT aP A H0 s1.2.2 H locs → lv_has ls 13 [(0, .ref (a0 0)), (1, .int x1), (2, .int x2), (3, .int x3), (4, .int x4), (5, .int x5), (6, .int x6), (7, .int x7), (8, .int x8), (9, .int x9), (10, .int s1.1), (11, .int s1.2.1)] → W p l e rmX8_pairThose s m args below meth c H locs 0 0 Q (F0 m 253 ls []))
  refine key ?_ n (x10, x11, w0) hf2 H locs ls hZ hl
  clear hf hf2 hZ hl key
  rintro rc ⟨x10, x11, w0⟩ ih hf H locs ls hZ hl
  have hf : bX8_pairThose_253 N x1 x2 x3 x4 x5 x6 x7 x8 x9 K rc x10 x11 w0 = some res := hf
  have hl : lv_has ls 13 [(0, .ref (a0 0)), (1, .int x1), (2, .int x2), (3, .int x3), (4, .int x4), (5, .int x5), (6, .int x6), (7, .int x7), (8, .int x8), (9, .int x9), (10, .int x10), (11, .int x11)] := hl
  unfold bX8_pairThose_253 at hf
  refine lv_iload (pc := 253) hx hb dX8_pairThose_253 (lv_at hl 11 rfl) ?_
  refine z_lt0 (pc := 255) (tgt := 344) hC hf dX8_pairThose_255 (by decide) (fun hf => ?_) (fun hf => ?_)
  · exact hK x10 x11 w0 H locs ls hf hZ (lv_sub hl [0, 1, 2, 3, 4, 5, 6, 7, 8, 9, 10, 11] rfl)
  refine lv_iload (pc := 258) hx hb dX8_pairThose_258 (lv_at hl 7 rfl) ?_
  refine lv_iload (pc := 260) hx hb dX8_pairThose_260 (lv_at hl 11 rfl) ?_
  refine lv_ishr (pc := 262) hx hb dX8_pairThose_262 ?_
  refine lv_iconst (pc := 263) (v := (1 : Int32)) hx hb dX8_pairThose_263 (by decide) ?_
  refine lv_iand (pc := 264) hx hb dX8_pairThose_264 ?_
  refine lv_iconst (pc := 265) (v := (1 : Int32)) hx hb dX8_pairThose_265 (by decide) ?_
  refine z_ine (pc := 266) (tgt := 273) hC hf dX8_pairThose_266 (by decide) (fun hf => ?_) (fun hf => ?_)
  · refine lv_iconst (pc := 269) (v := (-1 : Int32)) hx hb dX8_pairThose_269 (by decide) ?_
    refine lv_goto (pc := 270) (tgt := 281) hx hb dX8_pairThose_270 (by decide) ?_
    refine lv_istore (pc := 281) (lv' := [(12, .int (-1 : Int32)), (0, .ref (a0 0)), (1, .int x1), (2, .int x2), (3, .int x3), (4, .int x4), (5, .int x5), (6, .int x6), (7, .int x7), (8, .int x8), (9, .int x9), (10, .int x10), (11, .int x11)]) hx hb dX8_pairThose_281 hl (by decide) rfl (fun ls hl => ?_)
    refine lv_iload (pc := 283) hx hb dX8_pairThose_283 (lv_at hl 0 rfl) ?_
    refine z_lt0 (pc := 285) (tgt := 334) hC hf dX8_pairThose_285 (by decide) (fun hf => ?_) (fun hf => ?_)
    · refine lv_iload (pc := 334) hx hb dX8_pairThose_334 (lv_at hl 11 rfl) ?_
      refine lv_istore (pc := 336) (lv' := [(10, .int x10), (12, .int (-1 : Int32)), (0, .ref (a0 0)), (1, .int x1), (2, .int x2), (3, .int x3), (4, .int x4), (5, .int x5), (6, .int x6), (7, .int x7), (8, .int x8), (9, .int x9), (11, .int x11)]) hx hb dX8_pairThose_336 hl (by decide) rfl (fun ls hl => ?_)
      refine lv_iinc (pc := 338) (v := (x11 + (-1 : Int32))) (lv' := [(11, .int (x11 + (-1 : Int32))), (10, .int x10), (12, .int (-1 : Int32)), (0, .ref (a0 0)), (1, .int x1), (2, .int x2), (3, .int x3), (4, .int x4), (5, .int x5), (6, .int x6), (7, .int x7), (8, .int x8), (9, .int x9)]) hx hb dX8_pairThose_338 hl (k := 12) rfl rfl (by decide) rfl (fun ls hl => ?_)
      refine lv_goto (pc := 341) (tgt := 253) hx hb dX8_pairThose_341 (by decide) ?_
      exact ih (x10, (x11 + (-1 : Int32)), w0) hf H locs ls hZ (lv_sub hl [3, 4, 5, 6, 7, 8, 9, 10, 11, 12, 1, 0] rfl)
    refine lv_iload (pc := 288) hx hb dX8_pairThose_288 (lv_at hl 0 rfl) ?_
    refine lv_aload_n (pc := 290) hx hb dX8_pairThose_290 rfl (lv_at hl 1 rfl) ?_
    refine gfX8_96 (pc := 291) hC hZ dX8_pairThose_291 ?_
    refine lv_sipush (pc := 294) (v := (256 : Int32)) hx hb dX8_pairThose_294 (by decide) ?_
    refine lv_iload (pc := 297) hx hb dX8_pairThose_297 (lv_at hl 10 rfl) ?_
    refine lv_iconst (pc := 299) (v := (1 : Int32)) hx hb dX8_pairThose_299 (by decide) ?_
    refine lv_iadd (pc := 300) hx hb dX8_pairThose_300 ?_
    refine lv_imul (pc := 301) hx hb dX8_pairThose_301 ?_
    refine lv_iload (pc := 302) hx hb dX8_pairThose_302 (lv_at hl 8 rfl) ?_
    refine lv_iconst (pc := 304) (v := (1 : Int32)) hx hb dX8_pairThose_304 (by decide) ?_
    refine lv_iload (pc := 305) hx hb dX8_pairThose_305 (lv_at hl 12 rfl) ?_
    refine lv_ishl (pc := 307) hx hb dX8_pairThose_307 ?_
    refine lv_ior (pc := 308) hx hb dX8_pairThose_308 ?_
    refine lv_iadd (pc := 309) hx hb dX8_pairThose_309 ?_
    refine z_iald (pc := 310) hC hZ (by decide) rfl hf dX8_pairThose_310 (fun v21 hf => ?_)
    refine lv_iadd (pc := 311) hx hb dX8_pairThose_311 ?_
    refine lv_aload_n (pc := 312) hx hb dX8_pairThose_312 rfl (lv_at hl 1 rfl) ?_
    refine gfX8_96 (pc := 313) hC hZ dX8_pairThose_313 ?_
    refine lv_sipush (pc := 316) (v := (256 : Int32)) hx hb dX8_pairThose_316 (by decide) ?_
    refine lv_iload (pc := 319) hx hb dX8_pairThose_319 (lv_at hl 10 rfl) ?_
    refine lv_imul (pc := 321) hx hb dX8_pairThose_321 ?_
    refine lv_iload (pc := 322) hx hb dX8_pairThose_322 (lv_at hl 8 rfl) ?_
    refine lv_iadd (pc := 324) hx hb dX8_pairThose_324 ?_
    refine z_iald (pc := 325) hC hZ (by decide) rfl hf dX8_pairThose_325 (fun v22 hf => ?_)
    refine z_ine (pc := 326) (tgt := 334) hC hf dX8_pairThose_326 (by decide) (fun hf => ?_) (fun hf => ?_)
    · refine lv_iload (pc := 329) hx hb dX8_pairThose_329 (lv_at hl 12 rfl) ?_
      refine lv_goto (pc := 331) (tgt := 336) hx hb dX8_pairThose_331 (by decide) ?_
      refine lv_istore (pc := 336) (lv' := [(10, .int x11), (12, .int (-1 : Int32)), (0, .ref (a0 0)), (1, .int x1), (2, .int x2), (3, .int x3), (4, .int x4), (5, .int x5), (6, .int x6), (7, .int x7), (8, .int x8), (9, .int x9), (11, .int x11)]) hx hb dX8_pairThose_336 hl (by decide) rfl (fun ls hl => ?_)
      refine lv_iinc (pc := 338) (v := (x11 + (-1 : Int32))) (lv' := [(11, .int (x11 + (-1 : Int32))), (10, .int x11), (12, .int (-1 : Int32)), (0, .ref (a0 0)), (1, .int x1), (2, .int x2), (3, .int x3), (4, .int x4), (5, .int x5), (6, .int x6), (7, .int x7), (8, .int x8), (9, .int x9)]) hx hb dX8_pairThose_338 hl (k := 12) rfl rfl (by decide) rfl (fun ls hl => ?_)
      refine lv_goto (pc := 341) (tgt := 253) hx hb dX8_pairThose_341 (by decide) ?_
      exact ih (x11, (x11 + (-1 : Int32)), w0) hf H locs ls hZ (lv_sub hl [3, 4, 5, 6, 7, 8, 9, 10, 11, 12, 1, 0] rfl)
    refine lv_iload (pc := 334) hx hb dX8_pairThose_334 (lv_at hl 11 rfl) ?_
    refine lv_istore (pc := 336) (lv' := [(10, .int x10), (12, .int (-1 : Int32)), (0, .ref (a0 0)), (1, .int x1), (2, .int x2), (3, .int x3), (4, .int x4), (5, .int x5), (6, .int x6), (7, .int x7), (8, .int x8), (9, .int x9), (11, .int x11)]) hx hb dX8_pairThose_336 hl (by decide) rfl (fun ls hl => ?_)
    refine lv_iinc (pc := 338) (v := (x11 + (-1 : Int32))) (lv' := [(11, .int (x11 + (-1 : Int32))), (10, .int x10), (12, .int (-1 : Int32)), (0, .ref (a0 0)), (1, .int x1), (2, .int x2), (3, .int x3), (4, .int x4), (5, .int x5), (6, .int x6), (7, .int x7), (8, .int x8), (9, .int x9)]) hx hb dX8_pairThose_338 hl (k := 12) rfl rfl (by decide) rfl (fun ls hl => ?_)
    refine lv_goto (pc := 341) (tgt := 253) hx hb dX8_pairThose_341 (by decide) ?_
    exact ih (x10, (x11 + (-1 : Int32)), w0) hf H locs ls hZ (lv_sub hl [3, 4, 5, 6, 7, 8, 9, 10, 11, 12, 1, 0] rfl)
  refine lv_aload_n (pc := 273) hx hb dX8_pairThose_273 rfl (lv_at hl 0 rfl) ?_
  refine lv_iload (pc := 274) hx hb dX8_pairThose_274 (lv_at hl 9 rfl) ?_
  refine lv_iload (pc := 276) hx hb dX8_pairThose_276 (lv_at hl 11 rfl) ?_
  refine kX8_168 (pc := 278) hC hA hZ hf hl.1 (Nat.le_of_ble_eq_true rfl) ⟨Nat.le_of_ble_eq_true rfl, Nat.le_of_ble_eq_true rfl⟩ ⟨Nat.le_refl _, Nat.le_refl _⟩ dX8_pairThose_278 (fun v24 w23 H locs hf hZ => ?_)
  refine lv_istore (pc := 281) (lv' := [(12, .int v24), (0, .ref (a0 0)), (1, .int x1), (2, .int x2), (3, .int x3), (4, .int x4), (5, .int x5), (6, .int x6), (7, .int x7), (8, .int x8), (9, .int x9), (10, .int x10), (11, .int x11)]) hx hb dX8_pairThose_281 hl (by decide) rfl (fun ls hl => ?_)
  refine lv_iload (pc := 283) hx hb dX8_pairThose_283 (lv_at hl 0 rfl) ?_
  refine z_lt0 (pc := 285) (tgt := 334) hC hf dX8_pairThose_285 (by decide) (fun hf => ?_) (fun hf => ?_)
  · refine lv_iload (pc := 334) hx hb dX8_pairThose_334 (lv_at hl 11 rfl) ?_
    refine lv_istore (pc := 336) (lv' := [(10, .int x10), (12, .int v24), (0, .ref (a0 0)), (1, .int x1), (2, .int x2), (3, .int x3), (4, .int x4), (5, .int x5), (6, .int x6), (7, .int x7), (8, .int x8), (9, .int x9), (11, .int x11)]) hx hb dX8_pairThose_336 hl (by decide) rfl (fun ls hl => ?_)
    refine lv_iinc (pc := 338) (v := (x11 + (-1 : Int32))) (lv' := [(11, .int (x11 + (-1 : Int32))), (10, .int x10), (12, .int v24), (0, .ref (a0 0)), (1, .int x1), (2, .int x2), (3, .int x3), (4, .int x4), (5, .int x5), (6, .int x6), (7, .int x7), (8, .int x8), (9, .int x9)]) hx hb dX8_pairThose_338 hl (k := 12) rfl rfl (by decide) rfl (fun ls hl => ?_)
    refine lv_goto (pc := 341) (tgt := 253) hx hb dX8_pairThose_341 (by decide) ?_
    exact ih (x10, (x11 + (-1 : Int32)), w23) hf H locs ls hZ (lv_sub hl [3, 4, 5, 6, 7, 8, 9, 10, 11, 12, 1, 0] rfl)
  refine lv_iload (pc := 288) hx hb dX8_pairThose_288 (lv_at hl 0 rfl) ?_
  refine lv_aload_n (pc := 290) hx hb dX8_pairThose_290 rfl (lv_at hl 1 rfl) ?_
  refine gfX8_96 (pc := 291) hC hZ dX8_pairThose_291 ?_
  refine lv_sipush (pc := 294) (v := (256 : Int32)) hx hb dX8_pairThose_294 (by decide) ?_
  refine lv_iload (pc := 297) hx hb dX8_pairThose_297 (lv_at hl 10 rfl) ?_
  refine lv_iconst (pc := 299) (v := (1 : Int32)) hx hb dX8_pairThose_299 (by decide) ?_
  refine lv_iadd (pc := 300) hx hb dX8_pairThose_300 ?_
  refine lv_imul (pc := 301) hx hb dX8_pairThose_301 ?_
  refine lv_iload (pc := 302) hx hb dX8_pairThose_302 (lv_at hl 8 rfl) ?_
  refine lv_iconst (pc := 304) (v := (1 : Int32)) hx hb dX8_pairThose_304 (by decide) ?_
  refine lv_iload (pc := 305) hx hb dX8_pairThose_305 (lv_at hl 12 rfl) ?_
  refine lv_ishl (pc := 307) hx hb dX8_pairThose_307 ?_
  refine lv_ior (pc := 308) hx hb dX8_pairThose_308 ?_
  refine lv_iadd (pc := 309) hx hb dX8_pairThose_309 ?_
  refine z_iald (pc := 310) hC hZ (by decide) rfl hf dX8_pairThose_310 (fun v25 hf => ?_)
  refine lv_iadd (pc := 311) hx hb dX8_pairThose_311 ?_
  refine lv_aload_n (pc := 312) hx hb dX8_pairThose_312 rfl (lv_at hl 1 rfl) ?_
  refine gfX8_96 (pc := 313) hC hZ dX8_pairThose_313 ?_
  refine lv_sipush (pc := 316) (v := (256 : Int32)) hx hb dX8_pairThose_316 (by decide) ?_
  refine lv_iload (pc := 319) hx hb dX8_pairThose_319 (lv_at hl 10 rfl) ?_
  refine lv_imul (pc := 321) hx hb dX8_pairThose_321 ?_
  refine lv_iload (pc := 322) hx hb dX8_pairThose_322 (lv_at hl 8 rfl) ?_
  refine lv_iadd (pc := 324) hx hb dX8_pairThose_324 ?_
  refine z_iald (pc := 325) hC hZ (by decide) rfl hf dX8_pairThose_325 (fun v26 hf => ?_)
  refine z_ine (pc := 326) (tgt := 334) hC hf dX8_pairThose_326 (by decide) (fun hf => ?_) (fun hf => ?_)
  · refine lv_iload (pc := 329) hx hb dX8_pairThose_329 (lv_at hl 12 rfl) ?_
    refine lv_goto (pc := 331) (tgt := 336) hx hb dX8_pairThose_331 (by decide) ?_
    refine lv_istore (pc := 336) (lv' := [(10, .int x11), (12, .int v24), (0, .ref (a0 0)), (1, .int x1), (2, .int x2), (3, .int x3), (4, .int x4), (5, .int x5), (6, .int x6), (7, .int x7), (8, .int x8), (9, .int x9), (11, .int x11)]) hx hb dX8_pairThose_336 hl (by decide) rfl (fun ls hl => ?_)
    refine lv_iinc (pc := 338) (v := (x11 + (-1 : Int32))) (lv' := [(11, .int (x11 + (-1 : Int32))), (10, .int x11), (12, .int v24), (0, .ref (a0 0)), (1, .int x1), (2, .int x2), (3, .int x3), (4, .int x4), (5, .int x5), (6, .int x6), (7, .int x7), (8, .int x8), (9, .int x9)]) hx hb dX8_pairThose_338 hl (k := 12) rfl rfl (by decide) rfl (fun ls hl => ?_)
    refine lv_goto (pc := 341) (tgt := 253) hx hb dX8_pairThose_341 (by decide) ?_
    exact ih (x11, (x11 + (-1 : Int32)), w23) hf H locs ls hZ (lv_sub hl [3, 4, 5, 6, 7, 8, 9, 10, 11, 12, 1, 0] rfl)
  refine lv_iload (pc := 334) hx hb dX8_pairThose_334 (lv_at hl 11 rfl) ?_
  refine lv_istore (pc := 336) (lv' := [(10, .int x10), (12, .int v24), (0, .ref (a0 0)), (1, .int x1), (2, .int x2), (3, .int x3), (4, .int x4), (5, .int x5), (6, .int x6), (7, .int x7), (8, .int x8), (9, .int x9), (11, .int x11)]) hx hb dX8_pairThose_336 hl (by decide) rfl (fun ls hl => ?_)
  refine lv_iinc (pc := 338) (v := (x11 + (-1 : Int32))) (lv' := [(11, .int (x11 + (-1 : Int32))), (10, .int x10), (12, .int v24), (0, .ref (a0 0)), (1, .int x1), (2, .int x2), (3, .int x3), (4, .int x4), (5, .int x5), (6, .int x6), (7, .int x7), (8, .int x8), (9, .int x9)]) hx hb dX8_pairThose_338 hl (k := 12) rfl rfl (by decide) rfl (fun ls hl => ?_)
  refine lv_goto (pc := 341) (tgt := 253) hx hb dX8_pairThose_341 (by decide) ?_
  exact ih (x10, (x11 + (-1 : Int32)), w23) hf H locs ls hZ (lv_sub hl [3, 4, 5, 6, 7, 8, 9, 10, 11, 12, 1, 0] rfl)
set_option maxHeartbeats 4000000 in
set_option maxRecDepth 100000 in
theorem wX8_pairThose_230 {p : Program} {l : Launch} {e : Env} {s : State} {m : MethodId} {args : Array Value} {below : List Frame} {meth : Method} {c : Code} {Q : State → Prop} {A : Nat → Prop} {H0 : Heap} {D : va_G} {cy : Nat → ClassId} {a0 aT aP : Nat → Nat} {res : Int32 × zS} {K : Int32 → Int32 → Int32 → zS → Option (Int32 × zS)} (N : Nat) (x1 : Int32) (x2 : Int32) (x3 : Int32) (x4 : Int32) (x5 : Int32) (x6 : Int32) (hC : zC p s m args c RX8 cX8_pairThose 13 D cy) (hA : ∀ q, H0.size ≤ q → A q) (hE : zEnd p l e rmX8_pairThose s m args below meth c Q D cy shM 35 a0 A H0 res.2 (fun u => u = (aT, aP)) cX8_pairThose .ireturn [.int res.1]) (n : Nat) (x7 : Int32) (x8 : Int32) (x9 : Int32) (w0 : zS) {H : Heap} {locs : List Loc} {ls : Array Slot} (hf : lX8_pairThose_230 N x1 x2 x3 x4 x5 x6 K n (x7, x8, x9, w0) = some res) (hZ : zW D cy shM 35 a0 aT aP A H0 w0 H locs) (hl : lv_has ls 13 [(0, .ref (a0 0)), (1, .int x1), (2, .int x2), (3, .int x3), (4, .int x4), (5, .int x5), (6, .int x6), (7, .int x7), (8, .int x8), (9, .int x9)]) (hK : ∀ x7 : Int32, ∀ x8 : Int32, ∀ x9 : Int32, ∀ (w0 : zS) (H : Heap) (locs : List Loc) (ls : Array Slot), K x7 x8 x9 w0 = some res → zW D cy shM 35 a0 aT aP A H0 w0 H locs → lv_has ls 13 [(0, .ref (a0 0)), (1, .int x1), (2, .int x2), (3, .int x3), (4, .int x4), (5, .int x5), (6, .int x6), (7, .int x7), (8, .int x8), (9, .int x9)] → W p l e rmX8_pairThose s m args below meth c H locs 0 0 Q (F0 m 385 ls [])) : W p l e rmX8_pairThose s m args below meth c H locs 0 0 Q (F0 m 230 ls []) := by
  have hx := hC.1.1
  have hb := hC.1.2.1
  have hf2 : zlp (fun rc s1 => bX8_pairThose_230 N x1 x2 x3 x4 x5 x6 K rc s1.1 s1.2.1 s1.2.2.1 s1.2.2.2) n (x7, x8, x9, w0) = some res := hf
  have key := zloop (S := Int32 × Int32 × Int32 × zS) (α := Int32 × zS) (b := fun rc s1 => bX8_pairThose_230 N x1 x2 x3 x4 x5 x6 K rc s1.1 s1.2.1 s1.2.2.1 s1.2.2.2) (r := res) (Wd := fun s1 => ∀ (H : Heap) (locs : List Loc) (ls : Array Slot), zW D cy shM 35 a0 aT aP A H0 s1.2.2.2 H locs → lv_has ls 13 [(0, .ref (a0 0)), (1, .int x1), (2, .int x2), (3, .int x3), (4, .int x4), (5, .int x5), (6, .int x6), (7, .int s1.1), (8, .int s1.2.1), (9, .int s1.2.2.1)] → W p l e rmX8_pairThose s m args below meth c H locs 0 0 Q (F0 m 230 ls []))
  refine key ?_ n (x7, x8, x9, w0) hf2 H locs ls hZ hl
  clear hf hf2 hZ hl key
  rintro rc ⟨x7, x8, x9, w0⟩ ih hf H locs ls hZ hl
  have hf : bX8_pairThose_230 N x1 x2 x3 x4 x5 x6 K rc x7 x8 x9 w0 = some res := hf
  have hl : lv_has ls 13 [(0, .ref (a0 0)), (1, .int x1), (2, .int x2), (3, .int x3), (4, .int x4), (5, .int x5), (6, .int x6), (7, .int x7), (8, .int x8), (9, .int x9)] := hl
  unfold bX8_pairThose_230 at hf
  refine lv_iload (pc := 230) hx hb dX8_pairThose_230 (lv_at hl 9 rfl) ?_
  refine lv_iload (pc := 232) hx hb dX8_pairThose_232 (lv_at hl 5 rfl) ?_
  refine z_ige (pc := 234) (tgt := 385) hC hf dX8_pairThose_234 (by decide) (fun hf => ?_) (fun hf => ?_)
  · exact hK x7 x8 x9 w0 H locs ls hf hZ (lv_sub hl [0, 1, 2, 3, 4, 5, 6, 7, 8, 9] rfl)
  refine lv_iload (pc := 237) hx hb dX8_pairThose_237 (lv_at hl 8 rfl) ?_
  refine lv_iload (pc := 239) hx hb dX8_pairThose_239 (lv_at hl 4 rfl) ?_
  refine z_ige (pc := 241) (tgt := 385) hC hf dX8_pairThose_241 (by decide) (fun hf => ?_) (fun hf => ?_)
  · exact hK x7 x8 x9 w0 H locs ls hf hZ (lv_sub hl [0, 1, 2, 3, 4, 5, 6, 7, 8, 9] rfl)
  refine lv_iconst (pc := 244) (v := (-1 : Int32)) hx hb dX8_pairThose_244 (by decide) ?_
  refine lv_istore (pc := 245) (lv' := [(10, .int (-1 : Int32)), (0, .ref (a0 0)), (1, .int x1), (2, .int x2), (3, .int x3), (4, .int x4), (5, .int x5), (6, .int x6), (7, .int x7), (8, .int x8), (9, .int x9)]) hx hb dX8_pairThose_245 hl (by decide) rfl (fun ls hl => ?_)
  refine lv_iload (pc := 247) hx hb dX8_pairThose_247 (lv_at hl 7 rfl) ?_
  refine lv_iconst (pc := 249) (v := (1 : Int32)) hx hb dX8_pairThose_249 (by decide) ?_
  refine lv_isub (pc := 250) hx hb dX8_pairThose_250 ?_
  refine lv_istore (pc := 251) (lv' := [(11, .int (x6 - (1 : Int32))), (10, .int (-1 : Int32)), (0, .ref (a0 0)), (1, .int x1), (2, .int x2), (3, .int x3), (4, .int x4), (5, .int x5), (6, .int x6), (7, .int x7), (8, .int x8), (9, .int x9)]) hx hb dX8_pairThose_251 hl (by decide) rfl (fun ls hl => ?_)
  refine wX8_pairThose_253 (res := res) N x1 x2 x3 x4 x5 x6 x7 x8 x9 hC hA hE N _ _ _ hf hZ (lv_sub hl [2, 3, 4, 5, 6, 7, 8, 9, 10, 11, 1, 0] rfl) (fun y27 y28 w29 H locs ls hf hZ hl => ?_)
  refine lv_iload (pc := 344) hx hb dX8_pairThose_344 (lv_at hl 10 rfl) ?_
  refine z_lt0 (pc := 346) (tgt := 379) hC hf dX8_pairThose_346 (by decide) (fun hf => ?_) (fun hf => ?_)
  · refine lv_iinc (pc := 379) (v := (x9 + (1 : Int32))) (lv' := [(9, .int (x9 + (1 : Int32))), (0, .ref (a0 0)), (1, .int x1), (2, .int x2), (3, .int x3), (4, .int x4), (5, .int x5), (6, .int x6), (7, .int x7), (8, .int x8), (10, .int y27), (11, .int y28)]) hx hb dX8_pairThose_379 hl (k := 9) rfl rfl (by decide) rfl (fun ls hl => ?_)
    refine lv_goto (pc := 382) (tgt := 230) hx hb dX8_pairThose_382 (by decide) ?_
    exact ih (x7, x8, (x9 + (1 : Int32)), w29) hf H locs ls hZ (lv_sub hl [1, 2, 3, 4, 5, 6, 7, 8, 9, 0] rfl)
  refine lv_iload (pc := 349) hx hb dX8_pairThose_349 (lv_at hl 7 rfl) ?_
  refine lv_iconst (pc := 351) (v := (1 : Int32)) hx hb dX8_pairThose_351 (by decide) ?_
  refine lv_iload (pc := 352) hx hb dX8_pairThose_352 (lv_at hl 10 rfl) ?_
  refine lv_ishl (pc := 354) hx hb dX8_pairThose_354 ?_
  refine lv_ior (pc := 355) hx hb dX8_pairThose_355 ?_
  refine lv_istore (pc := 356) (lv' := [(7, .int (x7 ||| ((1 : Int32) <<< (y27 &&& 31)))), (0, .ref (a0 0)), (1, .int x1), (2, .int x2), (3, .int x3), (4, .int x4), (5, .int x5), (6, .int x6), (8, .int x8), (9, .int x9), (10, .int y27), (11, .int y28)]) hx hb dX8_pairThose_356 hl (by decide) rfl (fun ls hl => ?_)
  refine lv_aload_n (pc := 358) hx hb dX8_pairThose_358 rfl (lv_at hl 1 rfl) ?_
  refine lv_aload_n (pc := 359) hx hb dX8_pairThose_359 rfl (lv_at hl 1 rfl) ?_
  refine gfX8_90 (pc := 360) hC hZ dX8_pairThose_360 ?_
  refine lv_iload (pc := 363) hx hb dX8_pairThose_363 (lv_at hl 9 rfl) ?_
  refine z_iald (pc := 365) hC hZ (by decide) rfl hf dX8_pairThose_365 (fun v30 hf => ?_)
  refine lv_aload_n (pc := 366) hx hb dX8_pairThose_366 rfl (lv_at hl 1 rfl) ?_
  refine gfX8_93 (pc := 367) hC hZ dX8_pairThose_367 ?_
  refine lv_iload (pc := 370) hx hb dX8_pairThose_370 (lv_at hl 10 rfl) ?_
  refine z_iald (pc := 372) hC hZ (by decide) rfl hf dX8_pairThose_372 (fun v31 hf => ?_)
  refine kX8_172 (pc := 373) hC hA hZ hf hl.1 (Nat.le_of_ble_eq_true rfl) ⟨Nat.le_of_ble_eq_true rfl, Nat.le_of_ble_eq_true rfl⟩ ⟨Nat.le_refl _, Nat.le_refl _⟩ dX8_pairThose_373 (fun w32 H locs hf hZ => ?_)
  refine lv_iinc (pc := 376) (v := (x8 + (1 : Int32))) (lv' := [(8, .int (x8 + (1 : Int32))), (7, .int (x7 ||| ((1 : Int32) <<< (y27 &&& 31)))), (0, .ref (a0 0)), (1, .int x1), (2, .int x2), (3, .int x3), (4, .int x4), (5, .int x5), (6, .int x6), (9, .int x9), (10, .int y27), (11, .int y28)]) hx hb dX8_pairThose_376 hl (k := 8) rfl rfl (by decide) rfl (fun ls hl => ?_)
  refine lv_iinc (pc := 379) (v := (x9 + (1 : Int32))) (lv' := [(9, .int (x9 + (1 : Int32))), (8, .int (x8 + (1 : Int32))), (7, .int (x7 ||| ((1 : Int32) <<< (y27 &&& 31)))), (0, .ref (a0 0)), (1, .int x1), (2, .int x2), (3, .int x3), (4, .int x4), (5, .int x5), (6, .int x6), (10, .int y27), (11, .int y28)]) hx hb dX8_pairThose_379 hl (k := 9) rfl rfl (by decide) rfl (fun ls hl => ?_)
  refine lv_goto (pc := 382) (tgt := 230) hx hb dX8_pairThose_382 (by decide) ?_
  exact ih ((x7 ||| ((1 : Int32) <<< (y27 &&& 31))), (x8 + (1 : Int32)), (x9 + (1 : Int32)), w32) hf H locs ls hZ (lv_sub hl [3, 4, 5, 6, 7, 8, 9, 2, 1, 0] rfl)
set_option maxHeartbeats 4000000 in
set_option maxRecDepth 100000 in
theorem cX8_pairThose_ok (l : Launch) (D : va_G) (cy : Nat → ClassId) (a0 aT aP : Nat → Nat) (N : Nat) (x1 : Int32) (x2 : Int32) (x3 : Int32) (x4 : Int32) (w0 : zS) (rv : Int32) (τ : zS) (hf : fX8_pairThose N x1 x2 x3 x4 w0 = some (rv, τ)) : zMi l yX8_pairThose cX8_pairThose 13 (some .int) rmX8_pairThose D cy shM 35 a0 aT aP w0 [.ref (a0 0), .int x1, .int x2, .int x3, .int x4] rv τ (fun u => u = (aT, aP)) := by
  refine zmet_i (by decide +kernel) (Or.inl rfl) (Nat.le_of_ble_eq_true rfl) ?_
  intro p e s m below meth c A Q ls hC hA hZ hl hE
  have hx := hC.1.1
  have hb := hC.1.2.1
  have hl : lv_has ls 13 [(0, .ref (a0 0)), (1, .int x1), (2, .int x2), (3, .int x3), (4, .int x4)] := hl
  unfold fX8_pairThose at hf
  refine lv_aload_n (pc := 0) hx hb dX8_pairThose_0 rfl (lv_at hl 0 rfl) ?_
  refine lv_iconst (pc := 1) (v := (1 : Int32)) hx hb dX8_pairThose_1 (by decide) ?_
  refine lv_iload_n (pc := 2) hx hb dX8_pairThose_2 rfl (lv_at hl 1 rfl) ?_
  refine lv_iload_n (pc := 3) hx hb dX8_pairThose_3 rfl (lv_at hl 2 rfl) ?_
  refine lv_iload_n (pc := 4) hx hb dX8_pairThose_4 rfl (lv_at hl 3 rfl) ?_
  refine lv_aload_n (pc := 5) hx hb dX8_pairThose_5 rfl (lv_at hl 0 rfl) ?_
  refine gfX8_90 (pc := 6) hC hZ dX8_pairThose_6 ?_
  refine kX8_164_X8_gather_c27 (pc := 9) hC hA hZ hf hl.1 (Nat.le_of_ble_eq_true rfl) ⟨Nat.le_of_ble_eq_true rfl, Nat.le_of_ble_eq_true rfl⟩ ⟨Nat.le_refl _, Nat.le_refl _⟩ dX8_pairThose_9 (fun v2 w1 H locs hf hZ => ?_)
  refine lv_istore (pc := 12) (lv' := [(5, .int v2), (0, .ref (a0 0)), (1, .int x1), (2, .int x2), (3, .int x3), (4, .int x4)]) hx hb dX8_pairThose_12 hl (by decide) rfl (fun ls hl => ?_)
  refine lv_aload_n (pc := 14) hx hb dX8_pairThose_14 rfl (lv_at hl 1 rfl) ?_
  refine lv_iconst (pc := 15) (v := (0 : Int32)) hx hb dX8_pairThose_15 (by decide) ?_
  refine lv_iload_n (pc := 16) hx hb dX8_pairThose_16 rfl (lv_at hl 2 rfl) ?_
  refine lv_iload_n (pc := 17) hx hb dX8_pairThose_17 rfl (lv_at hl 3 rfl) ?_
  refine lv_iload_n (pc := 18) hx hb dX8_pairThose_18 rfl (lv_at hl 4 rfl) ?_
  refine lv_aload_n (pc := 19) hx hb dX8_pairThose_19 rfl (lv_at hl 1 rfl) ?_
  refine gfX8_93 (pc := 20) hC hZ dX8_pairThose_20 ?_
  refine kX8_164_X8_gather_c28 (pc := 23) hC hA hZ hf hl.1 (Nat.le_of_ble_eq_true rfl) ⟨Nat.le_of_ble_eq_true rfl, Nat.le_of_ble_eq_true rfl⟩ ⟨Nat.le_refl _, Nat.le_refl _⟩ dX8_pairThose_23 (fun v4 w3 H locs hf hZ => ?_)
  refine lv_istore (pc := 26) (lv' := [(6, .int v4), (5, .int v2), (0, .ref (a0 0)), (1, .int x1), (2, .int x2), (3, .int x3), (4, .int x4)]) hx hb dX8_pairThose_26 hl (by decide) rfl (fun ls hl => ?_)
  refine lv_iconst (pc := 28) (v := (0 : Int32)) hx hb dX8_pairThose_28 (by decide) ?_
  refine lv_istore (pc := 29) (lv' := [(7, .int (0 : Int32)), (6, .int v4), (5, .int v2), (0, .ref (a0 0)), (1, .int x1), (2, .int x2), (3, .int x3), (4, .int x4)]) hx hb dX8_pairThose_29 hl (by decide) rfl (fun ls hl => ?_)
  refine wX8_pairThose_31 (res := (rv, τ)) N x1 x2 x3 x4 v2 v4 hC hA hE N _ _ hf hZ (lv_sub hl [3, 4, 5, 6, 7, 2, 1, 0] rfl) (fun y6 w7 H locs ls hf hZ hl => ?_)
  refine lv_iload (pc := 60) hx hb dX8_pairThose_60 (lv_at hl 5 rfl) ?_
  refine lv_iconst (pc := 62) (v := (1 : Int32)) hx hb dX8_pairThose_62 (by decide) ?_
  refine lv_isub (pc := 63) hx hb dX8_pairThose_63 ?_
  refine lv_istore (pc := 64) (lv' := [(7, .int (v2 - (1 : Int32))), (0, .ref (a0 0)), (1, .int x1), (2, .int x2), (3, .int x3), (4, .int x4), (5, .int v2), (6, .int v4)]) hx hb dX8_pairThose_64 hl (by decide) rfl (fun ls hl => ?_)
  refine wX8_pairThose_66 (res := (rv, τ)) N x1 x2 x3 x4 v2 v4 hC hA hE N _ _ hf hZ (lv_sub hl [1, 2, 3, 4, 5, 6, 7, 0] rfl) (fun y19 w20 H locs ls hf hZ hl => ?_)
  refine lv_iconst (pc := 221) (v := (0 : Int32)) hx hb dX8_pairThose_221 (by decide) ?_
  refine lv_istore (pc := 222) (lv' := [(7, .int (0 : Int32)), (0, .ref (a0 0)), (1, .int x1), (2, .int x2), (3, .int x3), (4, .int x4), (5, .int v2), (6, .int v4)]) hx hb dX8_pairThose_222 hl (by decide) rfl (fun ls hl => ?_)
  refine lv_iconst (pc := 224) (v := (0 : Int32)) hx hb dX8_pairThose_224 (by decide) ?_
  refine lv_istore (pc := 225) (lv' := [(8, .int (0 : Int32)), (7, .int (0 : Int32)), (0, .ref (a0 0)), (1, .int x1), (2, .int x2), (3, .int x3), (4, .int x4), (5, .int v2), (6, .int v4)]) hx hb dX8_pairThose_225 hl (by decide) rfl (fun ls hl => ?_)
  refine lv_iconst (pc := 227) (v := (0 : Int32)) hx hb dX8_pairThose_227 (by decide) ?_
  refine lv_istore (pc := 228) (lv' := [(9, .int (0 : Int32)), (8, .int (0 : Int32)), (7, .int (0 : Int32)), (0, .ref (a0 0)), (1, .int x1), (2, .int x2), (3, .int x3), (4, .int x4), (5, .int v2), (6, .int v4)]) hx hb dX8_pairThose_228 hl (by decide) rfl (fun ls hl => ?_)
  refine wX8_pairThose_230 (res := (rv, τ)) N x1 x2 x3 x4 v2 v4 hC hA hE N _ _ _ _ hf hZ (lv_sub hl [3, 4, 5, 6, 7, 8, 9, 2, 1, 0] rfl) (fun y33 y34 y35 w36 H locs ls hf hZ hl => ?_)
  refine lv_iload (pc := 385) hx hb dX8_pairThose_385 (lv_at hl 8 rfl) ?_
  obtain ⟨rfl, rfl⟩ := zinj hf
  exact hE _ _ _ _ _ _ rfl hZ dX8_pairThose_387
section ZK
variable {p : Program} {l : Launch} {e : Env} {R : Room} {s : State} {m : MethodId} {args : Array Value} {below : List Frame} {meth : Method} {c : Code} {H : Heap} {locs : List Loc} {cells slots : Nat} {Q : State → Prop}
variable {pc : Nat} {ls : Array Slot} {rest : List Value} {A : Nat → Prop} {H0 : Heap} {D : va_G} {cy : Nat → ClassId} {a0 aT aP : Nat → Nat} {σ : zS} {cc : ByteArray} {nL : Nat} {α : Type} {res : α}
theorem vkX8_179 : zVk RX8 179 yX8_pairThose cX8_pairThose 13 (some .int) 4 := ⟨by decide +kernel, by decide +kernel, by decide +kernel, by decide +kernel, by decide +kernel, by decide +kernel⟩
theorem kX8_179 (hC : zC p s m args c RX8 cc nL D cy) (hA : ∀ q, H0.size ≤ q → A q) (hZ : zW D cy shM 35 a0 aT aP A H0 σ H locs) {N : Nat} {x1 : Int32} {x2 : Int32} {x3 : Int32} {x4 : Int32} {k : Int32 → zS → Option α} (hf : zbi (fX8_pairThose N x1 x2 x3 x4 σ) k = some res) (hsz : ls.size = nL) (hW : (rest.map fun v => v.category).sum ≤ 8) (hR : rmX8_pairThose.frames + 1 ≤ R.frames ∧ 8 + (13 + 11) + rmX8_pairThose.locals ≤ R.locals) (hcs : cells ≤ R.cells ∧ slots ≤ R.slots) (hdg : decode cc pc = .ok (.invokevirtual 179, 3)) (kk : ∀ (v : Int32) (τ : zS) (H1 : Heap) (locs1 : List Loc), k v τ = some res → zW D cy shM 35 a0 aT aP A H0 τ H1 locs1 → W p l e R s m args below meth c H1 locs1 cells slots Q (F0 m (pc + 3) ls (.int v :: rest))) : W p l e R s m args below meth c H locs cells slots Q (F0 m pc ls (.int x4 :: .int x3 :: .int x2 :: .int x1 :: .ref (a0 0) :: rest)) := by
  cases hq : fX8_pairThose N x1 x2 x3 x4 σ with
  | none => rw [hq] at hf; cases hf
  | some q =>
    rw [hq] at hf
    exact zcalli hA hZ (zrun hC hZ vkX8_179 rfl (zw0 (by decide)) (cX8_pairThose_ok l D cy a0 aT aP N x1 x2 x3 x4 σ q.1 q.2 hq H.size) hR rfl hsz rfl hW hcs hdg) (fun u H1 locs1 hU hZ1 => by subst hU; exact kk q.1 q.2 H1 locs1 hf hZ1)
end ZK
