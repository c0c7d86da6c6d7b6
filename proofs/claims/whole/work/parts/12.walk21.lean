set_option maxHeartbeats 4000000 in
set_option maxRecDepth 100000 in
theorem cX8_made_ok (l : Launch) (D : va_G) (cy : Nat → ClassId) (a0 aT aP : Nat → Nat) (N : Nat) (x1 : Int32) (x2 : Int32) (w0 : zS) (τ : zS) (hf : fX8_made N x1 x2 w0 = some τ) : zMv l yX8_made cX8_made 6 none rmX8_made D cy shM 35 a0 aT aP w0 [.ref (a0 0), .int x1, .int x2] τ (fun u => u = (aT, aP)) := by
  refine zmet_v (by decide +kernel) rfl (Nat.le_of_ble_eq_true rfl) ?_
  intro p e s m below meth c A Q ls hC hA hZ hl hE
  have hx := hC.1.1
  have hb := hC.1.2.1
  have hl : lv_has ls 6 [(0, .ref (a0 0)), (1, .int x1), (2, .int x2)] := hl
  unfold fX8_made at hf
  refine lv_aload_n (pc := 0) hx hb dX8_made_0 rfl (lv_at hl 0 rfl) ?_
  refine gfX8_176 (pc := 1) hC hZ dX8_made_1 ?_
  refine lv_istore_n (pc := 4) (lv' := [(3, .int (w0.1 0 0 23)), (0, .ref (a0 0)), (1, .int x1), (2, .int x2)]) hx hb dX8_made_4 rfl hl (by decide) rfl (fun ls hl => ?_)
  refine lv_aload_n (pc := 5) hx hb dX8_made_5 rfl (lv_at hl 1 rfl) ?_
  refine lv_dup (pc := 6) hx hb dX8_made_6 rfl ?_
  refine gfX8_176 (pc := 7) hC hZ dX8_made_7 ?_
  refine lv_iconst (pc := 10) (v := (1 : Int32)) hx hb dX8_made_10 (by decide) ?_
  refine lv_iadd (pc := 11) hx hb dX8_made_11 ?_
  refine pfX8_176 (pc := 12) hC hZ hf dX8_made_12 (fun w1 H locs hf hZ => ?_)
  refine lv_aload_n (pc := 15) hx hb dX8_made_15 rfl (lv_at hl 1 rfl) ?_
  refine gfX8_60 (pc := 16) hC hZ dX8_made_16 ?_
  refine lv_iload_n (pc := 19) hx hb dX8_made_19 rfl (lv_at hl 0 rfl) ?_
  refine lv_iload_n (pc := 20) hx hb dX8_made_20 rfl (lv_at hl 2 rfl) ?_
  refine z_iast (pc := 21) hC hZ (by decide) rfl hf dX8_made_21 (fun w2 H locs hf hZ => ?_)
  refine lv_aload_n (pc := 22) hx hb dX8_made_22 rfl (lv_at hl 1 rfl) ?_
  refine gfX8_63 (pc := 23) hC hZ dX8_made_23 ?_
  refine lv_iload_n (pc := 26) hx hb dX8_made_26 rfl (lv_at hl 0 rfl) ?_
  refine lv_iload_n (pc := 27) hx hb dX8_made_27 rfl (lv_at hl 3 rfl) ?_
  refine z_iast (pc := 28) hC hZ (by decide) rfl hf dX8_made_28 (fun w3 H locs hf hZ => ?_)
  refine lv_aload_n (pc := 29) hx hb dX8_made_29 rfl (lv_at hl 1 rfl) ?_
  refine gfX8_54 (pc := 30) hC hZ dX8_made_30 ?_
  refine lv_iload_n (pc := 33) hx hb dX8_made_33 rfl (lv_at hl 2 rfl) ?_
  refine lv_iconst (pc := 34) (v := (1 : Int32)) hx hb dX8_made_34 (by decide) ?_
  refine z_iast (pc := 35) hC hZ (by decide) rfl hf dX8_made_35 (fun w4 H locs hf hZ => ?_)
  refine lv_aload_n (pc := 36) hx hb dX8_made_36 rfl (lv_at hl 1 rfl) ?_
  refine gfX8_54 (pc := 37) hC hZ dX8_made_37 ?_
  refine lv_iload_n (pc := 40) hx hb dX8_made_40 rfl (lv_at hl 3 rfl) ?_
  refine lv_iconst (pc := 41) (v := (1 : Int32)) hx hb dX8_made_41 (by decide) ?_
  refine z_iast (pc := 42) hC hZ (by decide) rfl hf dX8_made_42 (fun w5 H locs hf hZ => ?_)
  refine lv_aload_n (pc := 43) hx hb dX8_made_43 rfl (lv_at hl 1 rfl) ?_
  refine gfX8_57 (pc := 44) hC hZ dX8_made_44 ?_
  refine lv_iload_n (pc := 47) hx hb dX8_made_47 rfl (lv_at hl 2 rfl) ?_
  refine lv_iload_n (pc := 48) hx hb dX8_made_48 rfl (lv_at hl 0 rfl) ?_
  refine z_iast (pc := 49) hC hZ (by decide) rfl hf dX8_made_49 (fun w6 H locs hf hZ => ?_)
  refine lv_aload_n (pc := 50) hx hb dX8_made_50 rfl (lv_at hl 1 rfl) ?_
  refine gfX8_57 (pc := 51) hC hZ dX8_made_51 ?_
  refine lv_iload_n (pc := 54) hx hb dX8_made_54 rfl (lv_at hl 3 rfl) ?_
  refine lv_iload_n (pc := 55) hx hb dX8_made_55 rfl (lv_at hl 0 rfl) ?_
  refine z_iast (pc := 56) hC hZ (by decide) rfl hf dX8_made_56 (fun w7 H locs hf hZ => ?_)
  refine lv_aload_n (pc := 57) hx hb dX8_made_57 rfl (lv_at hl 1 rfl) ?_
  refine gfX8_48 (pc := 58) hC hZ dX8_made_58 ?_
  refine lv_iload_n (pc := 61) hx hb dX8_made_61 rfl (lv_at hl 2 rfl) ?_
  refine z_iald (pc := 62) hC hZ (by decide) rfl hf dX8_made_62 (fun v8 hf => ?_)
  refine lv_istore (pc := 63) (lv' := [(4, .int v8), (3, .int (w0.1 0 0 23)), (0, .ref (a0 0)), (1, .int x1), (2, .int x2)]) hx hb dX8_made_63 hl (by decide) rfl (fun ls hl => ?_)
  refine lv_aload_n (pc := 65) hx hb dX8_made_65 rfl (lv_at hl 2 rfl) ?_
  refine gfX8_48 (pc := 66) hC hZ dX8_made_66 ?_
  refine lv_iload_n (pc := 69) hx hb dX8_made_69 rfl (lv_at hl 4 rfl) ?_
  refine z_iald (pc := 70) hC hZ (by decide) rfl hf dX8_made_70 (fun v9 hf => ?_)
  refine lv_istore (pc := 71) (lv' := [(5, .int v9), (4, .int v8), (3, .int (w0.1 0 0 23)), (0, .ref (a0 0)), (1, .int x1), (2, .int x2)]) hx hb dX8_made_71 hl (by decide) rfl (fun ls hl => ?_)
  refine lv_aload_n (pc := 73) hx hb dX8_made_73 rfl (lv_at hl 3 rfl) ?_
  refine gfX8_66 (pc := 74) hC hZ dX8_made_74 ?_
  refine lv_iload_n (pc := 77) hx hb dX8_made_77 rfl (lv_at hl 2 rfl) ?_
  refine lv_aload_n (pc := 78) hx hb dX8_made_78 rfl (lv_at hl 3 rfl) ?_
  refine gfX8_161 (pc := 79) hC hZ dX8_made_79 ?_
  refine z_ne0 (pc := 82) (tgt := 90) hC hf dX8_made_82 (by decide) (fun hf => ?_) (fun hf => ?_)
  · refine lv_iload (pc := 85) hx hb dX8_made_85 (lv_at hl 0 rfl) ?_
    refine lv_goto (pc := 87) (tgt := 138) hx hb dX8_made_87 (by decide) ?_
    refine z_iast (pc := 138) hC hZ (by decide) rfl hf dX8_made_138 (fun w10 H locs hf hZ => ?_)
    refine lv_aload_n (pc := 139) hx hb dX8_made_139 rfl (lv_at hl 3 rfl) ?_
    refine lv_aload_n (pc := 140) hx hb dX8_made_140 rfl (lv_at hl 3 rfl) ?_
    refine gfX8_39 (pc := 141) hC hZ dX8_made_141 ?_
    refine lv_iload_n (pc := 144) hx hb dX8_made_144 rfl (lv_at hl 4 rfl) ?_
    refine z_iald (pc := 145) hC hZ (by decide) rfl hf dX8_made_145 (fun v11 hf => ?_)
    refine lv_aload_n (pc := 146) hx hb dX8_made_146 rfl (lv_at hl 3 rfl) ?_
    refine gfX8_45 (pc := 147) hC hZ dX8_made_147 ?_
    refine lv_iload_n (pc := 150) hx hb dX8_made_150 rfl (lv_at hl 4 rfl) ?_
    refine z_iald (pc := 151) hC hZ (by decide) rfl hf dX8_made_151 (fun v12 hf => ?_)
    refine lv_aload_n (pc := 152) hx hb dX8_made_152 rfl (lv_at hl 3 rfl) ?_
    refine gfX8_51 (pc := 153) hC hZ dX8_made_153 ?_
    refine lv_iload_n (pc := 156) hx hb dX8_made_156 rfl (lv_at hl 5 rfl) ?_
    refine z_iald (pc := 157) hC hZ (by decide) rfl hf dX8_made_157 (fun v13 hf => ?_)
    refine lv_aload_n (pc := 158) hx hb dX8_made_158 rfl (lv_at hl 3 rfl) ?_
    refine gfX8_66 (pc := 159) hC hZ dX8_made_159 ?_
    refine lv_iload_n (pc := 162) hx hb dX8_made_162 rfl (lv_at hl 2 rfl) ?_
    refine z_iald (pc := 163) hC hZ (by decide) rfl hf dX8_made_163 (fun v14 hf => ?_)
    refine lv_ineg (pc := 164) hx hb dX8_made_164 ?_
    refine kX8_153 (pc := 165) hC hA hZ hf hl.1 (Nat.le_of_ble_eq_true rfl) ⟨Nat.le_of_ble_eq_true rfl, Nat.le_of_ble_eq_true rfl⟩ ⟨Nat.le_refl _, Nat.le_refl _⟩ dX8_made_165 (fun w15 H locs hf hZ => ?_)
    refine lv_aload_n (pc := 168) hx hb dX8_made_168 rfl (lv_at hl 3 rfl) ?_
    refine lv_aload_n (pc := 169) hx hb dX8_made_169 rfl (lv_at hl 3 rfl) ?_
    refine gfX8_42 (pc := 170) hC hZ dX8_made_170 ?_
    refine lv_iload_n (pc := 173) hx hb dX8_made_173 rfl (lv_at hl 4 rfl) ?_
    refine z_iald (pc := 174) hC hZ (by decide) rfl hf dX8_made_174 (fun v16 hf => ?_)
    refine lv_aload_n (pc := 175) hx hb dX8_made_175 rfl (lv_at hl 3 rfl) ?_
    refine gfX8_45 (pc := 176) hC hZ dX8_made_176 ?_
    refine lv_iload_n (pc := 179) hx hb dX8_made_179 rfl (lv_at hl 4 rfl) ?_
    refine z_iald (pc := 180) hC hZ (by decide) rfl hf dX8_made_180 (fun v17 hf => ?_)
    refine lv_aload_n (pc := 181) hx hb dX8_made_181 rfl (lv_at hl 3 rfl) ?_
    refine gfX8_51 (pc := 182) hC hZ dX8_made_182 ?_
    refine lv_iload_n (pc := 185) hx hb dX8_made_185 rfl (lv_at hl 5 rfl) ?_
    refine z_iald (pc := 186) hC hZ (by decide) rfl hf dX8_made_186 (fun v18 hf => ?_)
    refine lv_aload_n (pc := 187) hx hb dX8_made_187 rfl (lv_at hl 3 rfl) ?_
    refine gfX8_66 (pc := 188) hC hZ dX8_made_188 ?_
    refine lv_iload_n (pc := 191) hx hb dX8_made_191 rfl (lv_at hl 2 rfl) ?_
    refine z_iald (pc := 192) hC hZ (by decide) rfl hf dX8_made_192 (fun v19 hf => ?_)
    refine kX8_153 (pc := 193) hC hA hZ hf hl.1 (Nat.le_of_ble_eq_true rfl) ⟨Nat.le_of_ble_eq_true rfl, Nat.le_of_ble_eq_true rfl⟩ ⟨Nat.le_refl _, Nat.le_refl _⟩ dX8_made_193 (fun w20 H locs hf hZ => ?_)
    obtain rfl := Option.some.inj hf
    exact hE _ _ _ _ _ _ rfl hZ dX8_made_196
  refine lv_aload_n (pc := 90) hx hb dX8_made_90 rfl (lv_at hl 3 rfl) ?_
  refine gfX8_161 (pc := 91) hC hZ dX8_made_91 ?_
  refine lv_iconst (pc := 94) (v := (3 : Int32)) hx hb dX8_made_94 (by decide) ?_
  refine z_ine (pc := 95) (tgt := 103) hC hf dX8_made_95 (by decide) (fun hf => ?_) (fun hf => ?_)
  · refine lv_iload (pc := 98) hx hb dX8_made_98 (lv_at hl 1 rfl) ?_
    refine lv_goto (pc := 100) (tgt := 138) hx hb dX8_made_100 (by decide) ?_
    refine z_iast (pc := 138) hC hZ (by decide) rfl hf dX8_made_138 (fun w21 H locs hf hZ => ?_)
    refine lv_aload_n (pc := 139) hx hb dX8_made_139 rfl (lv_at hl 3 rfl) ?_
    refine lv_aload_n (pc := 140) hx hb dX8_made_140 rfl (lv_at hl 3 rfl) ?_
    refine gfX8_39 (pc := 141) hC hZ dX8_made_141 ?_
    refine lv_iload_n (pc := 144) hx hb dX8_made_144 rfl (lv_at hl 4 rfl) ?_
    refine z_iald (pc := 145) hC hZ (by decide) rfl hf dX8_made_145 (fun v22 hf => ?_)
    refine lv_aload_n (pc := 146) hx hb dX8_made_146 rfl (lv_at hl 3 rfl) ?_
    refine gfX8_45 (pc := 147) hC hZ dX8_made_147 ?_
    refine lv_iload_n (pc := 150) hx hb dX8_made_150 rfl (lv_at hl 4 rfl) ?_
    refine z_iald (pc := 151) hC hZ (by decide) rfl hf dX8_made_151 (fun v23 hf => ?_)
    refine lv_aload_n (pc := 152) hx hb dX8_made_152 rfl (lv_at hl 3 rfl) ?_
    refine gfX8_51 (pc := 153) hC hZ dX8_made_153 ?_
    refine lv_iload_n (pc := 156) hx hb dX8_made_156 rfl (lv_at hl 5 rfl) ?_
    refine z_iald (pc := 157) hC hZ (by decide) rfl hf dX8_made_157 (fun v24 hf => ?_)
    refine lv_aload_n (pc := 158) hx hb dX8_made_158 rfl (lv_at hl 3 rfl) ?_
    refine gfX8_66 (pc := 159) hC hZ dX8_made_159 ?_
    refine lv_iload_n (pc := 162) hx hb dX8_made_162 rfl (lv_at hl 2 rfl) ?_
    refine z_iald (pc := 163) hC hZ (by decide) rfl hf dX8_made_163 (fun v25 hf => ?_)
    refine lv_ineg (pc := 164) hx hb dX8_made_164 ?_
    refine kX8_153 (pc := 165) hC hA hZ hf hl.1 (Nat.le_of_ble_eq_true rfl) ⟨Nat.le_of_ble_eq_true rfl, Nat.le_of_ble_eq_true rfl⟩ ⟨Nat.le_refl _, Nat.le_refl _⟩ dX8_made_165 (fun w26 H locs hf hZ => ?_)
    refine lv_aload_n (pc := 168) hx hb dX8_made_168 rfl (lv_at hl 3 rfl) ?_
    refine lv_aload_n (pc := 169) hx hb dX8_made_169 rfl (lv_at hl 3 rfl) ?_
    refine gfX8_42 (pc := 170) hC hZ dX8_made_170 ?_
    refine lv_iload_n (pc := 173) hx hb dX8_made_173 rfl (lv_at hl 4 rfl) ?_
    refine z_iald (pc := 174) hC hZ (by decide) rfl hf dX8_made_174 (fun v27 hf => ?_)
    refine lv_aload_n (pc := 175) hx hb dX8_made_175 rfl (lv_at hl 3 rfl) ?_
    refine gfX8_45 (pc := 176) hC hZ dX8_made_176 ?_
    refine lv_iload_n (pc := 179) hx hb dX8_made_179 rfl (lv_at hl 4 rfl) ?_
    refine z_iald (pc := 180) hC hZ (by decide) rfl hf dX8_made_180 (fun v28 hf => ?_)
    refine lv_aload_n (pc := 181) hx hb dX8_made_181 rfl (lv_at hl 3 rfl) ?_
    refine gfX8_51 (pc := 182) hC hZ dX8_made_182 ?_
    refine lv_iload_n (pc := 185) hx hb dX8_made_185 rfl (lv_at hl 5 rfl) ?_
    refine z_iald (pc := 186) hC hZ (by decide) rfl hf dX8_made_186 (fun v29 hf => ?_)
    refine lv_aload_n (pc := 187) hx hb dX8_made_187 rfl (lv_at hl 3 rfl) ?_
    refine gfX8_66 (pc := 188) hC hZ dX8_made_188 ?_
    refine lv_iload_n (pc := 191) hx hb dX8_made_191 rfl (lv_at hl 2 rfl) ?_
    refine z_iald (pc := 192) hC hZ (by decide) rfl hf dX8_made_192 (fun v30 hf => ?_)
    refine kX8_153 (pc := 193) hC hA hZ hf hl.1 (Nat.le_of_ble_eq_true rfl) ⟨Nat.le_of_ble_eq_true rfl, Nat.le_of_ble_eq_true rfl⟩ ⟨Nat.le_refl _, Nat.le_refl _⟩ dX8_made_193 (fun w31 H locs hf hZ => ?_)
    obtain rfl := Option.some.inj hf
    exact hE _ _ _ _ _ _ rfl hZ dX8_made_196
  refine lv_aload_n (pc := 103) hx hb dX8_made_103 rfl (lv_at hl 3 rfl) ?_
  refine gfX8_161 (pc := 104) hC hZ dX8_made_104 ?_
  refine lv_iconst (pc := 107) (v := (1 : Int32)) hx hb dX8_made_107 (by decide) ?_
  refine z_ine (pc := 108) (tgt := 115) hC hf dX8_made_108 (by decide) (fun hf => ?_) (fun hf => ?_)
  · refine lv_iconst (pc := 111) (v := (1 : Int32)) hx hb dX8_made_111 (by decide) ?_
    refine lv_goto (pc := 112) (tgt := 116) hx hb dX8_made_112 (by decide) ?_
    refine lv_iload (pc := 116) hx hb dX8_made_116 (lv_at hl 1 rfl) ?_
    refine lv_iload (pc := 118) hx hb dX8_made_118 (lv_at hl 0 rfl) ?_
    refine z_ige (pc := 120) (tgt := 127) hC hf dX8_made_120 (by decide) (fun hf => ?_) (fun hf => ?_)
    · refine lv_iconst (pc := 127) (v := (0 : Int32)) hx hb dX8_made_127 (by decide) ?_
      refine z_ine (pc := 128) (tgt := 136) hC hf dX8_made_128 (by decide) (fun hf => ?_) (fun hf => ?_)
      · refine lv_iload (pc := 131) hx hb dX8_made_131 (lv_at hl 1 rfl) ?_
        refine lv_goto (pc := 133) (tgt := 138) hx hb dX8_made_133 (by decide) ?_
        refine z_iast (pc := 138) hC hZ (by decide) rfl hf dX8_made_138 (fun w32 H locs hf hZ => ?_)
        refine lv_aload_n (pc := 139) hx hb dX8_made_139 rfl (lv_at hl 3 rfl) ?_
        refine lv_aload_n (pc := 140) hx hb dX8_made_140 rfl (lv_at hl 3 rfl) ?_
        refine gfX8_39 (pc := 141) hC hZ dX8_made_141 ?_
        refine lv_iload_n (pc := 144) hx hb dX8_made_144 rfl (lv_at hl 4 rfl) ?_
        refine z_iald (pc := 145) hC hZ (by decide) rfl hf dX8_made_145 (fun v33 hf => ?_)
        refine lv_aload_n (pc := 146) hx hb dX8_made_146 rfl (lv_at hl 3 rfl) ?_
        refine gfX8_45 (pc := 147) hC hZ dX8_made_147 ?_
        refine lv_iload_n (pc := 150) hx hb dX8_made_150 rfl (lv_at hl 4 rfl) ?_
        refine z_iald (pc := 151) hC hZ (by decide) rfl hf dX8_made_151 (fun v34 hf => ?_)
        refine lv_aload_n (pc := 152) hx hb dX8_made_152 rfl (lv_at hl 3 rfl) ?_
        refine gfX8_51 (pc := 153) hC hZ dX8_made_153 ?_
        refine lv_iload_n (pc := 156) hx hb dX8_made_156 rfl (lv_at hl 5 rfl) ?_
        refine z_iald (pc := 157) hC hZ (by decide) rfl hf dX8_made_157 (fun v35 hf => ?_)
        refine lv_aload_n (pc := 158) hx hb dX8_made_158 rfl (lv_at hl 3 rfl) ?_
        refine gfX8_66 (pc := 159) hC hZ dX8_made_159 ?_
        refine lv_iload_n (pc := 162) hx hb dX8_made_162 rfl (lv_at hl 2 rfl) ?_
        refine z_iald (pc := 163) hC hZ (by decide) rfl hf dX8_made_163 (fun v36 hf => ?_)
        refine lv_ineg (pc := 164) hx hb dX8_made_164 ?_
        refine kX8_153 (pc := 165) hC hA hZ hf hl.1 (Nat.le_of_ble_eq_true rfl) ⟨Nat.le_of_ble_eq_true rfl, Nat.le_of_ble_eq_true rfl⟩ ⟨Nat.le_refl _, Nat.le_refl _⟩ dX8_made_165 (fun w37 H locs hf hZ => ?_)
        refine lv_aload_n (pc := 168) hx hb dX8_made_168 rfl (lv_at hl 3 rfl) ?_
        refine lv_aload_n (pc := 169) hx hb dX8_made_169 rfl (lv_at hl 3 rfl) ?_
        refine gfX8_42 (pc := 170) hC hZ dX8_made_170 ?_
        refine lv_iload_n (pc := 173) hx hb dX8_made_173 rfl (lv_at hl 4 rfl) ?_
        refine z_iald (pc := 174) hC hZ (by decide) rfl hf dX8_made_174 (fun v38 hf => ?_)
        refine lv_aload_n (pc := 175) hx hb dX8_made_175 rfl (lv_at hl 3 rfl) ?_
        refine gfX8_45 (pc := 176) hC hZ dX8_made_176 ?_
        refine lv_iload_n (pc := 179) hx hb dX8_made_179 rfl (lv_at hl 4 rfl) ?_
        refine z_iald (pc := 180) hC hZ (by decide) rfl hf dX8_made_180 (fun v39 hf => ?_)
        refine lv_aload_n (pc := 181) hx hb dX8_made_181 rfl (lv_at hl 3 rfl) ?_
        refine gfX8_51 (pc := 182) hC hZ dX8_made_182 ?_
        refine lv_iload_n (pc := 185) hx hb dX8_made_185 rfl (lv_at hl 5 rfl) ?_
        refine z_iald (pc := 186) hC hZ (by decide) rfl hf dX8_made_186 (fun v40 hf => ?_)
        refine lv_aload_n (pc := 187) hx hb dX8_made_187 rfl (lv_at hl 3 rfl) ?_
        refine gfX8_66 (pc := 188) hC hZ dX8_made_188 ?_
        refine lv_iload_n (pc := 191) hx hb dX8_made_191 rfl (lv_at hl 2 rfl) ?_
        refine z_iald (pc := 192) hC hZ (by decide) rfl hf dX8_made_192 (fun v41 hf => ?_)
        refine kX8_153 (pc := 193) hC hA hZ hf hl.1 (Nat.le_of_ble_eq_true rfl) ⟨Nat.le_of_ble_eq_true rfl, Nat.le_of_ble_eq_true rfl⟩ ⟨Nat.le_refl _, Nat.le_refl _⟩ dX8_made_193 (fun w42 H locs hf hZ => ?_)
        obtain rfl := Option.some.inj hf
        exact hE _ _ _ _ _ _ rfl hZ dX8_made_196
      refine lv_iload (pc := 136) hx hb dX8_made_136 (lv_at hl 0 rfl) ?_
      refine z_iast (pc := 138) hC hZ (by decide) rfl hf dX8_made_138 (fun w43 H locs hf hZ => ?_)
      refine lv_aload_n (pc := 139) hx hb dX8_made_139 rfl (lv_at hl 3 rfl) ?_
      refine lv_aload_n (pc := 140) hx hb dX8_made_140 rfl (lv_at hl 3 rfl) ?_
      refine gfX8_39 (pc := 141) hC hZ dX8_made_141 ?_
      refine lv_iload_n (pc := 144) hx hb dX8_made_144 rfl (lv_at hl 4 rfl) ?_
      refine z_iald (pc := 145) hC hZ (by decide) rfl hf dX8_made_145 (fun v44 hf => ?_)
      refine lv_aload_n (pc := 146) hx hb dX8_made_146 rfl (lv_at hl 3 rfl) ?_
      refine gfX8_45 (pc := 147) hC hZ dX8_made_147 ?_
      refine lv_iload_n (pc := 150) hx hb dX8_made_150 rfl (lv_at hl 4 rfl) ?_
      refine z_iald (pc := 151) hC hZ (by decide) rfl hf dX8_made_151 (fun v45 hf => ?_)
      refine lv_aload_n (pc := 152) hx hb dX8_made_152 rfl (lv_at hl 3 rfl) ?_
      refine gfX8_51 (pc := 153) hC hZ dX8_made_153 ?_
      refine lv_iload_n (pc := 156) hx hb dX8_made_156 rfl (lv_at hl 5 rfl) ?_
      refine z_iald (pc := 157) hC hZ (by decide) rfl hf dX8_made_157 (fun v46 hf => ?_)
      refine lv_aload_n (pc := 158) hx hb dX8_made_158 rfl (lv_at hl 3 rfl) ?_
      refine gfX8_66 (pc := 159) hC hZ dX8_made_159 ?_
      refine lv_iload_n (pc := 162) hx hb dX8_made_162 rfl (lv_at hl 2 rfl) ?_
      refine z_iald (pc := 163) hC hZ (by decide) rfl hf dX8_made_163 (fun v47 hf => ?_)
      refine lv_ineg (pc := 164) hx hb dX8_made_164 ?_
      refine kX8_153 (pc := 165) hC hA hZ hf hl.1 (Nat.le_of_ble_eq_true rfl) ⟨Nat.le_of_ble_eq_true rfl, Nat.le_of_ble_eq_true rfl⟩ ⟨Nat.le_refl _, Nat.le_refl _⟩ dX8_made_165 (fun w48 H locs hf hZ => ?_)
      refine lv_aload_n (pc := 168) hx hb dX8_made_168 rfl (lv_at hl 3 rfl) ?_
      refine lv_aload_n (pc := 169) hx hb dX8_made_169 rfl (lv_at hl 3 rfl) ?_
      refine gfX8_42 (pc := 170) hC hZ dX8_made_170 ?_
      refine lv_iload_n (pc := 173) hx hb dX8_made_173 rfl (lv_at hl 4 rfl) ?_
      refine z_iald (pc := 174) hC hZ (by decide) rfl hf dX8_made_174 (fun v49 hf => ?_)
      refine lv_aload_n (pc := 175) hx hb dX8_made_175 rfl (lv_at hl 3 rfl) ?_
      refine gfX8_45 (pc := 176) hC hZ dX8_made_176 ?_
      refine lv_iload_n (pc := 179) hx hb dX8_made_179 rfl (lv_at hl 4 rfl) ?_
      refine z_iald (pc := 180) hC hZ (by decide) rfl hf dX8_made_180 (fun v50 hf => ?_)
      refine lv_aload_n (pc := 181) hx hb dX8_made_181 rfl (lv_at hl 3 rfl) ?_
      refine gfX8_51 (pc := 182) hC hZ dX8_made_182 ?_
      refine lv_iload_n (pc := 185) hx hb dX8_made_185 rfl (lv_at hl 5 rfl) ?_
      refine z_iald (pc := 186) hC hZ (by decide) rfl hf dX8_made_186 (fun v51 hf => ?_)
      refine lv_aload_n (pc := 187) hx hb dX8_made_187 rfl (lv_at hl 3 rfl) ?_
      refine gfX8_66 (pc := 188) hC hZ dX8_made_188 ?_
      refine lv_iload_n (pc := 191) hx hb dX8_made_191 rfl (lv_at hl 2 rfl) ?_
      refine z_iald (pc := 192) hC hZ (by decide) rfl hf dX8_made_192 (fun v52 hf => ?_)
      refine kX8_153 (pc := 193) hC hA hZ hf hl.1 (Nat.le_of_ble_eq_true rfl) ⟨Nat.le_of_ble_eq_true rfl, Nat.le_of_ble_eq_true rfl⟩ ⟨Nat.le_refl _, Nat.le_refl _⟩ dX8_made_193 (fun w53 H locs hf hZ => ?_)
      obtain rfl := Option.some.inj hf
      exact hE _ _ _ _ _ _ rfl hZ dX8_made_196
    refine lv_iconst (pc := 123) (v := (1 : Int32)) hx hb dX8_made_123 (by decide) ?_
    refine lv_goto (pc := 124) (tgt := 128) hx hb dX8_made_124 (by decide) ?_
    refine z_ine (pc := 128) (tgt := 136) hC hf dX8_made_128 (by decide) (fun hf => ?_) (fun hf => ?_)
    · refine lv_iload (pc := 131) hx hb dX8_made_131 (lv_at hl 1 rfl) ?_
      refine lv_goto (pc := 133) (tgt := 138) hx hb dX8_made_133 (by decide) ?_
      refine z_iast (pc := 138) hC hZ (by decide) rfl hf dX8_made_138 (fun w54 H locs hf hZ => ?_)
      refine lv_aload_n (pc := 139) hx hb dX8_made_139 rfl (lv_at hl 3 rfl) ?_
      refine lv_aload_n (pc := 140) hx hb dX8_made_140 rfl (lv_at hl 3 rfl) ?_
      refine gfX8_39 (pc := 141) hC hZ dX8_made_141 ?_
      refine lv_iload_n (pc := 144) hx hb dX8_made_144 rfl (lv_at hl 4 rfl) ?_
      refine z_iald (pc := 145) hC hZ (by decide) rfl hf dX8_made_145 (fun v55 hf => ?_)
      refine lv_aload_n (pc := 146) hx hb dX8_made_146 rfl (lv_at hl 3 rfl) ?_
      refine gfX8_45 (pc := 147) hC hZ dX8_made_147 ?_
      refine lv_iload_n (pc := 150) hx hb dX8_made_150 rfl (lv_at hl 4 rfl) ?_
      refine z_iald (pc := 151) hC hZ (by decide) rfl hf dX8_made_151 (fun v56 hf => ?_)
      refine lv_aload_n (pc := 152) hx hb dX8_made_152 rfl (lv_at hl 3 rfl) ?_
      refine gfX8_51 (pc := 153) hC hZ dX8_made_153 ?_
      refine lv_iload_n (pc := 156) hx hb dX8_made_156 rfl (lv_at hl 5 rfl) ?_
      refine z_iald (pc := 157) hC hZ (by decide) rfl hf dX8_made_157 (fun v57 hf => ?_)
      refine lv_aload_n (pc := 158) hx hb dX8_made_158 rfl (lv_at hl 3 rfl) ?_
      refine gfX8_66 (pc := 159) hC hZ dX8_made_159 ?_
      refine lv_iload_n (pc := 162) hx hb dX8_made_162 rfl (lv_at hl 2 rfl) ?_
      refine z_iald (pc := 163) hC hZ (by decide) rfl hf dX8_made_163 (fun v58 hf => ?_)
      refine lv_ineg (pc := 164) hx hb dX8_made_164 ?_
      refine kX8_153 (pc := 165) hC hA hZ hf hl.1 (Nat.le_of_ble_eq_true rfl) ⟨Nat.le_of_ble_eq_true rfl, Nat.le_of_ble_eq_true rfl⟩ ⟨Nat.le_refl _, Nat.le_refl _⟩ dX8_made_165 (fun w59 H locs hf hZ => ?_)
      refine lv_aload_n (pc := 168) hx hb dX8_made_168 rfl (lv_at hl 3 rfl) ?_
      refine lv_aload_n (pc := 169) hx hb dX8_made_169 rfl (lv_at hl 3 rfl) ?_
      refine gfX8_42 (pc := 170) hC hZ dX8_made_170 ?_
      refine lv_iload_n (pc := 173) hx hb dX8_made_173 rfl (lv_at hl 4 rfl) ?_
      refine z_iald (pc := 174) hC hZ (by decide) rfl hf dX8_made_174 (fun v60 hf => ?_)
      refine lv_aload_n (pc := 175) hx hb dX8_made_175 rfl (lv_at hl 3 rfl) ?_
      refine gfX8_45 (pc := 176) hC hZ dX8_made_176 ?_
      refine lv_iload_n (pc := 179) hx hb dX8_made_179 rfl (lv_at hl 4 rfl) ?_
      refine z_iald (pc := 180) hC hZ (by decide) rfl hf dX8_made_180 (fun v61 hf => ?_)
      refine lv_aload_n (pc := 181) hx hb dX8_made_181 rfl (lv_at hl 3 rfl) ?_
      refine gfX8_51 (pc := 182) hC hZ dX8_made_182 ?_
      refine lv_iload_n (pc := 185) hx hb dX8_made_185 rfl (lv_at hl 5 rfl) ?_
      refine z_iald (pc := 186) hC hZ (by decide) rfl hf dX8_made_186 (fun v62 hf => ?_)
      refine lv_aload_n (pc := 187) hx hb dX8_made_187 rfl (lv_at hl 3 rfl) ?_
      refine gfX8_66 (pc := 188) hC hZ dX8_made_188 ?_
      refine lv_iload_n (pc := 191) hx hb dX8_made_191 rfl (lv_at hl 2 rfl) ?_
      refine z_iald (pc := 192) hC hZ (by decide) rfl hf dX8_made_192 (fun v63 hf => ?_)
      refine kX8_153 (pc := 193) hC hA hZ hf hl.1 (Nat.le_of_ble_eq_true rfl) ⟨Nat.le_of_ble_eq_true rfl, Nat.le_of_ble_eq_true rfl⟩ ⟨Nat.le_refl _, Nat.le_refl _⟩ dX8_made_193 (fun w64 H locs hf hZ => ?_)
      obtain rfl := Option.some.inj hf
      exact hE _ _ _ _ _ _ rfl hZ dX8_made_196
    refine lv_iload (pc := 136) hx hb dX8_made_136 (lv_at hl 0 rfl) ?_
    refine z_iast (pc := 138) hC hZ (by decide) rfl hf dX8_made_138 (fun w65 H locs hf hZ => ?_)
    refine lv_aload_n (pc := 139) hx hb dX8_made_139 rfl (lv_at hl 3 rfl) ?_
    refine lv_aload_n (pc := 140) hx hb dX8_made_140 rfl (lv_at hl 3 rfl) ?_
    refine gfX8_39 (pc := 141) hC hZ dX8_made_141 ?_
    refine lv_iload_n (pc := 144) hx hb dX8_made_144 rfl (lv_at hl 4 rfl) ?_
    refine z_iald (pc := 145) hC hZ (by decide) rfl hf dX8_made_145 (fun v66 hf => ?_)
    refine lv_aload_n (pc := 146) hx hb dX8_made_146 rfl (lv_at hl 3 rfl) ?_
    refine gfX8_45 (pc := 147) hC hZ dX8_made_147 ?_
    refine lv_iload_n (pc := 150) hx hb dX8_made_150 rfl (lv_at hl 4 rfl) ?_
    refine z_iald (pc := 151) hC hZ (by decide) rfl hf dX8_made_151 (fun v67 hf => ?_)
    refine lv_aload_n (pc := 152) hx hb dX8_made_152 rfl (lv_at hl 3 rfl) ?_
    refine gfX8_51 (pc := 153) hC hZ dX8_made_153 ?_
    refine lv_iload_n (pc := 156) hx hb dX8_made_156 rfl (lv_at hl 5 rfl) ?_
    refine z_iald (pc := 157) hC hZ (by decide) rfl hf dX8_made_157 (fun v68 hf => ?_)
    refine lv_aload_n (pc := 158) hx hb dX8_made_158 rfl (lv_at hl 3 rfl) ?_
    refine gfX8_66 (pc := 159) hC hZ dX8_made_159 ?_
    refine lv_iload_n (pc := 162) hx hb dX8_made_162 rfl (lv_at hl 2 rfl) ?_
    refine z_iald (pc := 163) hC hZ (by decide) rfl hf dX8_made_163 (fun v69 hf => ?_)
    refine lv_ineg (pc := 164) hx hb dX8_made_164 ?_
    refine kX8_153 (pc := 165) hC hA hZ hf hl.1 (Nat.le_of_ble_eq_true rfl) ⟨Nat.le_of_ble_eq_true rfl, Nat.le_of_ble_eq_true rfl⟩ ⟨Nat.le_refl _, Nat.le_refl _⟩ dX8_made_165 (fun w70 H locs hf hZ => ?_)
    refine lv_aload_n (pc := 168) hx hb dX8_made_168 rfl (lv_at hl 3 rfl) ?_
    refine lv_aload_n (pc := 169) hx hb dX8_made_169 rfl (lv_at hl 3 rfl) ?_
    refine gfX8_42 (pc := 170) hC hZ dX8_made_170 ?_
    refine lv_iload_n (pc := 173) hx hb dX8_made_173 rfl (lv_at hl 4 rfl) ?_
    refine z_iald (pc := 174) hC hZ (by decide) rfl hf dX8_made_174 (fun v71 hf => ?_)
    refine lv_aload_n (pc := 175) hx hb dX8_made_175 rfl (lv_at hl 3 rfl) ?_
    refine gfX8_45 (pc := 176) hC hZ dX8_made_176 ?_
    refine lv_iload_n (pc := 179) hx hb dX8_made_179 rfl (lv_at hl 4 rfl) ?_
    refine z_iald (pc := 180) hC hZ (by decide) rfl hf dX8_made_180 (fun v72 hf => ?_)
    refine lv_aload_n (pc := 181) hx hb dX8_made_181 rfl (lv_at hl 3 rfl) ?_
    refine gfX8_51 (pc := 182) hC hZ dX8_made_182 ?_
    refine lv_iload_n (pc := 185) hx hb dX8_made_185 rfl (lv_at hl 5 rfl) ?_
    refine z_iald (pc := 186) hC hZ (by decide) rfl hf dX8_made_186 (fun v73 hf => ?_)
    refine lv_aload_n (pc := 187) hx hb dX8_made_187 rfl (lv_at hl 3 rfl) ?_
    refine gfX8_66 (pc := 188) hC hZ dX8_made_188 ?_
    refine lv_iload_n (pc := 191) hx hb dX8_made_191 rfl (lv_at hl 2 rfl) ?_
    refine z_iald (pc := 192) hC hZ (by decide) rfl hf dX8_made_192 (fun v74 hf => ?_)
    refine kX8_153 (pc := 193) hC hA hZ hf hl.1 (Nat.le_of_ble_eq_true rfl) ⟨Nat.le_of_ble_eq_true rfl, Nat.le_of_ble_eq_true rfl⟩ ⟨Nat.le_refl _, Nat.le_refl _⟩ dX8_made_193 (fun w75 H locs hf hZ => ?_)
    obtain rfl := Option.some.inj hf
    exact hE _ _ _ _ _ _ rfl hZ dX8_made_196
  refine lv_iconst (pc := 115) (v := (0 : Int32)) hx hb dX8_made_115 (by decide) ?_
  refine lv_iload (pc := 116) hx hb dX8_made_116 (lv_at hl 1 rfl) ?_
  refine lv_iload (pc := 118) hx hb dX8_made_118 (lv_at hl 0 rfl) ?_
  refine z_ige (pc := 120) (tgt := 127) hC hf dX8_made_120 (by decide) (fun hf => ?_) (fun hf => ?_)
  · refine lv_iconst (pc := 127) (v := (0 : Int32)) hx hb dX8_made_127 (by decide) ?_
    refine z_ine (pc := 128) (tgt := 136) hC hf dX8_made_128 (by decide) (fun hf => ?_) (fun hf => ?_)
    · refine lv_iload (pc := 131) hx hb dX8_made_131 (lv_at hl 1 rfl) ?_
      refine lv_goto (pc := 133) (tgt := 138) hx hb dX8_made_133 (by decide) ?_
      refine z_iast (pc := 138) hC hZ (by decide) rfl hf dX8_made_138 (fun w76 H locs hf hZ => ?_)
      refine lv_aload_n (pc := 139) hx hb dX8_made_139 rfl (lv_at hl 3 rfl) ?_
      refine lv_aload_n (pc := 140) hx hb dX8_made_140 rfl (lv_at hl 3 rfl) ?_
      refine gfX8_39 (pc := 141) hC hZ dX8_made_141 ?_
      refine lv_iload_n (pc := 144) hx hb dX8_made_144 rfl (lv_at hl 4 rfl) ?_
      refine z_iald (pc := 145) hC hZ (by decide) rfl hf dX8_made_145 (fun v77 hf => ?_)
      refine lv_aload_n (pc := 146) hx hb dX8_made_146 rfl (lv_at hl 3 rfl) ?_
      refine gfX8_45 (pc := 147) hC hZ dX8_made_147 ?_
      refine lv_iload_n (pc := 150) hx hb dX8_made_150 rfl (lv_at hl 4 rfl) ?_
      refine z_iald (pc := 151) hC hZ (by decide) rfl hf dX8_made_151 (fun v78 hf => ?_)
      refine lv_aload_n (pc := 152) hx hb dX8_made_152 rfl (lv_at hl 3 rfl) ?_
      refine gfX8_51 (pc := 153) hC hZ dX8_made_153 ?_
      refine lv_iload_n (pc := 156) hx hb dX8_made_156 rfl (lv_at hl 5 rfl) ?_
      refine z_iald (pc := 157) hC hZ (by decide) rfl hf dX8_made_157 (fun v79 hf => ?_)
      refine lv_aload_n (pc := 158) hx hb dX8_made_158 rfl (lv_at hl 3 rfl) ?_
      refine gfX8_66 (pc := 159) hC hZ dX8_made_159 ?_
      refine lv_iload_n (pc := 162) hx hb dX8_made_162 rfl (lv_at hl 2 rfl) ?_
      refine z_iald (pc := 163) hC hZ (by decide) rfl hf dX8_made_163 (fun v80 hf => ?_)
      refine lv_ineg (pc := 164) hx hb dX8_made_164 ?_
      refine kX8_153 (pc := 165) hC hA hZ hf hl.1 (Nat.le_of_ble_eq_true rfl) ⟨Nat.le_of_ble_eq_true rfl, Nat.le_of_ble_eq_true rfl⟩ ⟨Nat.le_refl _, Nat.le_refl _⟩ dX8_made_165 (fun w81 H locs hf hZ => ?_)
      refine lv_aload_n (pc := 168) hx hb dX8_made_168 rfl (lv_at hl 3 rfl) ?_
      refine lv_aload_n (pc := 169) hx hb dX8_made_169 rfl (lv_at hl 3 rfl) ?_
      refine gfX8_42 (pc := 170) hC hZ dX8_made_170 ?_
      refine lv_iload_n (pc := 173) hx hb dX8_made_173 rfl (lv_at hl 4 rfl) ?_
      refine z_iald (pc := 174) hC hZ (by decide) rfl hf dX8_made_174 (fun v82 hf => ?_)
      refine lv_aload_n (pc := 175) hx hb dX8_made_175 rfl (lv_at hl 3 rfl) ?_
      refine gfX8_45 (pc := 176) hC hZ dX8_made_176 ?_
      refine lv_iload_n (pc := 179) hx hb dX8_made_179 rfl (lv_at hl 4 rfl) ?_
      refine z_iald (pc := 180) hC hZ (by decide) rfl hf dX8_made_180 (fun v83 hf => ?_)
      refine lv_aload_n (pc := 181) hx hb dX8_made_181 rfl (lv_at hl 3 rfl) ?_
      refine gfX8_51 (pc := 182) hC hZ dX8_made_182 ?_
      refine lv_iload_n (pc := 185) hx hb dX8_made_185 rfl (lv_at hl 5 rfl) ?_
      refine z_iald (pc := 186) hC hZ (by decide) rfl hf dX8_made_186 (fun v84 hf => ?_)
      refine lv_aload_n (pc := 187) hx hb dX8_made_187 rfl (lv_at hl 3 rfl) ?_
      refine gfX8_66 (pc := 188) hC hZ dX8_made_188 ?_
      refine lv_iload_n (pc := 191) hx hb dX8_made_191 rfl (lv_at hl 2 rfl) ?_
      refine z_iald (pc := 192) hC hZ (by decide) rfl hf dX8_made_192 (fun v85 hf => ?_)
      refine kX8_153 (pc := 193) hC hA hZ hf hl.1 (Nat.le_of_ble_eq_true rfl) ⟨Nat.le_of_ble_eq_true rfl, Nat.le_of_ble_eq_true rfl⟩ ⟨Nat.le_refl _, Nat.le_refl _⟩ dX8_made_193 (fun w86 H locs hf hZ => ?_)
      obtain rfl := Option.some.inj hf
      exact hE _ _ _ _ _ _ rfl hZ dX8_made_196
    refine lv_iload (pc := 136) hx hb dX8_made_136 (lv_at hl 0 rfl) ?_
    refine z_iast (pc := 138) hC hZ (by decide) rfl hf dX8_made_138 (fun w87 H locs hf hZ => ?_)
    refine lv_aload_n (pc := 139) hx hb dX8_made_139 rfl (lv_at hl 3 rfl) ?_
    refine lv_aload_n (pc := 140) hx hb dX8_made_140 rfl (lv_at hl 3 rfl) ?_
    refine gfX8_39 (pc := 141) hC hZ dX8_made_141 ?_
    refine lv_iload_n (pc := 144) hx hb dX8_made_144 rfl (lv_at hl 4 rfl) ?_
    refine z_iald (pc := 145) hC hZ (by decide) rfl hf dX8_made_145 (fun v88 hf => ?_)
    refine lv_aload_n (pc := 146) hx hb dX8_made_146 rfl (lv_at hl 3 rfl) ?_
    refine gfX8_45 (pc := 147) hC hZ dX8_made_147 ?_
    refine lv_iload_n (pc := 150) hx hb dX8_made_150 rfl (lv_at hl 4 rfl) ?_
    refine z_iald (pc := 151) hC hZ (by decide) rfl hf dX8_made_151 (fun v89 hf => ?_)
    refine lv_aload_n (pc := 152) hx hb dX8_made_152 rfl (lv_at hl 3 rfl) ?_
    refine gfX8_51 (pc := 153) hC hZ dX8_made_153 ?_
    refine lv_iload_n (pc := 156) hx hb dX8_made_156 rfl (lv_at hl 5 rfl) ?_
    refine z_iald (pc := 157) hC hZ (by decide) rfl hf dX8_made_157 (fun v90 hf => ?_)
    refine lv_aload_n (pc := 158) hx hb dX8_made_158 rfl (lv_at hl 3 rfl) ?_
    refine gfX8_66 (pc := 159) hC hZ dX8_made_159 ?_
    refine lv_iload_n (pc := 162) hx hb dX8_made_162 rfl (lv_at hl 2 rfl) ?_
    refine z_iald (pc := 163) hC hZ (by decide) rfl hf dX8_made_163 (fun v91 hf => ?_)
    refine lv_ineg (pc := 164) hx hb dX8_made_164 ?_
    refine kX8_153 (pc := 165) hC hA hZ hf hl.1 (Nat.le_of_ble_eq_true rfl) ⟨Nat.le_of_ble_eq_true rfl, Nat.le_of_ble_eq_true rfl⟩ ⟨Nat.le_refl _, Nat.le_refl _⟩ dX8_made_165 (fun w92 H locs hf hZ => ?_)
    refine lv_aload_n (pc := 168) hx hb dX8_made_168 rfl (lv_at hl 3 rfl) ?_
    refine lv_aload_n (pc := 169) hx hb dX8_made_169 rfl (lv_at hl 3 rfl) ?_
    refine gfX8_42 (pc := 170) hC hZ dX8_made_170 ?_
    refine lv_iload_n (pc := 173) hx hb dX8_made_173 rfl (lv_at hl 4 rfl) ?_
    refine z_iald (pc := 174) hC hZ (by decide) rfl hf dX8_made_174 (fun v93 hf => ?_)
    refine lv_aload_n (pc := 175) hx hb dX8_made_175 rfl (lv_at hl 3 rfl) ?_
    refine gfX8_45 (pc := 176) hC hZ dX8_made_176 ?_
    refine lv_iload_n (pc := 179) hx hb dX8_made_179 rfl (lv_at hl 4 rfl) ?_
    refine z_iald (pc := 180) hC hZ (by decide) rfl hf dX8_made_180 (fun v94 hf => ?_)
    refine lv_aload_n (pc := 181) hx hb dX8_made_181 rfl (lv_at hl 3 rfl) ?_
    refine gfX8_51 (pc := 182) hC hZ dX8_made_182 ?_
    refine lv_iload_n (pc := 185) hx hb dX8_made_185 rfl (lv_at hl 5 rfl) ?_
    refine z_iald (pc := 186) hC hZ (by decide) rfl hf dX8_made_186 (fun v95 hf => ?_)
    refine lv_aload_n (pc := 187) hx hb dX8_made_187 rfl (lv_at hl 3 rfl) ?_
    refine gfX8_66 (pc := 188) hC hZ dX8_made_188 ?_
    refine lv_iload_n (pc := 191) hx hb dX8_made_191 rfl (lv_at hl 2 rfl) ?_
    refine z_iald (pc := 192) hC hZ (by decide) rfl hf dX8_made_192 (fun v96 hf => ?_)
    refine kX8_153 (pc := 193) hC hA hZ hf hl.1 (Nat.le_of_ble_eq_true rfl) ⟨Nat.le_of_ble_eq_true rfl, Nat.le_of_ble_eq_true rfl⟩ ⟨Nat.le_refl _, Nat.le_refl _⟩ dX8_made_193 (fun w97 H locs hf hZ => ?_)
    obtain rfl := Option.some.inj hf
    exact hE _ _ _ _ _ _ rfl hZ dX8_made_196
  refine lv_iconst (pc := 123) (v := (1 : Int32)) hx hb dX8_made_123 (by decide) ?_
  refine lv_goto (pc := 124) (tgt := 128) hx hb dX8_made_124 (by decide) ?_
  refine z_ine (pc := 128) (tgt := 136) hC hf dX8_made_128 (by decide) (fun hf => ?_) (fun hf => ?_)
  · refine lv_iload (pc := 131) hx hb dX8_made_131 (lv_at hl 1 rfl) ?_
    refine lv_goto (pc := 133) (tgt := 138) hx hb dX8_made_133 (by decide) ?_
    refine z_iast (pc := 138) hC hZ (by decide) rfl hf dX8_made_138 (fun w98 H locs hf hZ => ?_)
    refine lv_aload_n (pc := 139) hx hb dX8_made_139 rfl (lv_at hl 3 rfl) ?_
    refine lv_aload_n (pc := 140) hx hb dX8_made_140 rfl (lv_at hl 3 rfl) ?_
    refine gfX8_39 (pc := 141) hC hZ dX8_made_141 ?_
    refine lv_iload_n (pc := 144) hx hb dX8_made_144 rfl (lv_at hl 4 rfl) ?_
    refine z_iald (pc := 145) hC hZ (by decide) rfl hf dX8_made_145 (fun v99 hf => ?_)
    refine lv_aload_n (pc := 146) hx hb dX8_made_146 rfl (lv_at hl 3 rfl) ?_
    refine gfX8_45 (pc := 147) hC hZ dX8_made_147 ?_
    refine lv_iload_n (pc := 150) hx hb dX8_made_150 rfl (lv_at hl 4 rfl) ?_
    refine z_iald (pc := 151) hC hZ (by decide) rfl hf dX8_made_151 (fun v100 hf => ?_)
    refine lv_aload_n (pc := 152) hx hb dX8_made_152 rfl (lv_at hl 3 rfl) ?_
    refine gfX8_51 (pc := 153) hC hZ dX8_made_153 ?_
    refine lv_iload_n (pc := 156) hx hb dX8_made_156 rfl (lv_at hl 5 rfl) ?_
    refine z_iald (pc := 157) hC hZ (by decide) rfl hf dX8_made_157 (fun v101 hf => ?_)
    refine lv_aload_n (pc := 158) hx hb dX8_made_158 rfl (lv_at hl 3 rfl) ?_
    refine gfX8_66 (pc := 159) hC hZ dX8_made_159 ?_
    refine lv_iload_n (pc := 162) hx hb dX8_made_162 rfl (lv_at hl 2 rfl) ?_
    refine z_iald (pc := 163) hC hZ (by decide) rfl hf dX8_made_163 (fun v102 hf => ?_)
    refine lv_ineg (pc := 164) hx hb dX8_made_164 ?_
    refine kX8_153 (pc := 165) hC hA hZ hf hl.1 (Nat.le_of_ble_eq_true rfl) ⟨Nat.le_of_ble_eq_true rfl, Nat.le_of_ble_eq_true rfl⟩ ⟨Nat.le_refl _, Nat.le_refl _⟩ dX8_made_165 (fun w103 H locs hf hZ => ?_)
    refine lv_aload_n (pc := 168) hx hb dX8_made_168 rfl (lv_at hl 3 rfl) ?_
    refine lv_aload_n (pc := 169) hx hb dX8_made_169 rfl (lv_at hl 3 rfl) ?_
    refine gfX8_42 (pc := 170) hC hZ dX8_made_170 ?_
    refine lv_iload_n (pc := 173) hx hb dX8_made_173 rfl (lv_at hl 4 rfl) ?_
    refine z_iald (pc := 174) hC hZ (by decide) rfl hf dX8_made_174 (fun v104 hf => ?_)
    refine lv_aload_n (pc := 175) hx hb dX8_made_175 rfl (lv_at hl 3 rfl) ?_
    refine gfX8_45 (pc := 176) hC hZ dX8_made_176 ?_
    refine lv_iload_n (pc := 179) hx hb dX8_made_179 rfl (lv_at hl 4 rfl) ?_
    refine z_iald (pc := 180) hC hZ (by decide) rfl hf dX8_made_180 (fun v105 hf => ?_)
    refine lv_aload_n (pc := 181) hx hb dX8_made_181 rfl (lv_at hl 3 rfl) ?_
    refine gfX8_51 (pc := 182) hC hZ dX8_made_182 ?_
    refine lv_iload_n (pc := 185) hx hb dX8_made_185 rfl (lv_at hl 5 rfl) ?_
    refine z_iald (pc := 186) hC hZ (by decide) rfl hf dX8_made_186 (fun v106 hf => ?_)
    refine lv_aload_n (pc := 187) hx hb dX8_made_187 rfl (lv_at hl 3 rfl) ?_
    refine gfX8_66 (pc := 188) hC hZ dX8_made_188 ?_
    refine lv_iload_n (pc := 191) hx hb dX8_made_191 rfl (lv_at hl 2 rfl) ?_
    refine z_iald (pc := 192) hC hZ (by decide) rfl hf dX8_made_192 (fun v107 hf => ?_)
    refine kX8_153 (pc := 193) hC hA hZ hf hl.1 (Nat.le_of_ble_eq_true rfl) ⟨Nat.le_of_ble_eq_true rfl, Nat.le_of_ble_eq_true rfl⟩ ⟨Nat.le_refl _, Nat.le_refl _⟩ dX8_made_193 (fun w108 H locs hf hZ => ?_)
    obtain rfl := Option.some.inj hf
    exact hE _ _ _ _ _ _ rfl hZ dX8_made_196
  refine lv_iload (pc := 136) hx hb dX8_made_136 (lv_at hl 0 rfl) ?_
  refine z_iast (pc := 138) hC hZ (by decide) rfl hf dX8_made_138 (fun w109 H locs hf hZ => ?_)
  refine lv_aload_n (pc := 139) hx hb dX8_made_139 rfl (lv_at hl 3 rfl) ?_
  refine lv_aload_n (pc := 140) hx hb dX8_made_140 rfl (lv_at hl 3 rfl) ?_
  refine gfX8_39 (pc := 141) hC hZ dX8_made_141 ?_
  refine lv_iload_n (pc := 144) hx hb dX8_made_144 rfl (lv_at hl 4 rfl) ?_
  refine z_iald (pc := 145) hC hZ (by decide) rfl hf dX8_made_145 (fun v110 hf => ?_)
  refine lv_aload_n (pc := 146) hx hb dX8_made_146 rfl (lv_at hl 3 rfl) ?_
  refine gfX8_45 (pc := 147) hC hZ dX8_made_147 ?_
  refine lv_iload_n (pc := 150) hx hb dX8_made_150 rfl (lv_at hl 4 rfl) ?_
  refine z_iald (pc := 151) hC hZ (by decide) rfl hf dX8_made_151 (fun v111 hf => ?_)
  refine lv_aload_n (pc := 152) hx hb dX8_made_152 rfl (lv_at hl 3 rfl) ?_
  refine gfX8_51 (pc := 153) hC hZ dX8_made_153 ?_
  refine lv_iload_n (pc := 156) hx hb dX8_made_156 rfl (lv_at hl 5 rfl) ?_
  refine z_iald (pc := 157) hC hZ (by decide) rfl hf dX8_made_157 (fun v112 hf => ?_)
  refine lv_aload_n (pc := 158) hx hb dX8_made_158 rfl (lv_at hl 3 rfl) ?_
  refine gfX8_66 (pc := 159) hC hZ dX8_made_159 ?_
  refine lv_iload_n (pc := 162) hx hb dX8_made_162 rfl (lv_at hl 2 rfl) ?_
  refine z_iald (pc := 163) hC hZ (by decide) rfl hf dX8_made_163 (fun v113 hf => ?_)
  refine lv_ineg (pc := 164) hx hb dX8_made_164 ?_
  refine kX8_153 (pc := 165) hC hA hZ hf hl.1 (Nat.le_of_ble_eq_true rfl) ⟨Nat.le_of_ble_eq_true rfl, Nat.le_of_ble_eq_true rfl⟩ ⟨Nat.le_refl _, Nat.le_refl _⟩ dX8_made_165 (fun w114 H locs hf hZ => ?_)
  refine lv_aload_n (pc := 168) hx hb dX8_made_168 rfl (lv_at hl 3 rfl) ?_
  refine lv_aload_n (pc := 169) hx hb dX8_made_169 rfl (lv_at hl 3 rfl) ?_
  refine gfX8_42 (pc := 170) hC hZ dX8_made_170 ?_
  refine lv_iload_n (pc := 173) hx hb dX8_made_173 rfl (lv_at hl 4 rfl) ?_
  refine z_iald (pc := 174) hC hZ (by decide) rfl hf dX8_made_174 (fun v115 hf => ?_)
  refine lv_aload_n (pc := 175) hx hb dX8_made_175 rfl (lv_at hl 3 rfl) ?_
  refine gfX8_45 (pc := 176) hC hZ dX8_made_176 ?_
  refine lv_iload_n (pc := 179) hx hb dX8_made_179 rfl (lv_at hl 4 rfl) ?_
  refine z_iald (pc := 180) hC hZ (by decide) rfl hf dX8_made_180 (fun v116 hf => ?_)
  refine lv_aload_n (pc := 181) hx hb dX8_made_181 rfl (lv_at hl 3 rfl) ?_
  refine gfX8_51 (pc := 182) hC hZ dX8_made_182 ?_
  refine lv_iload_n (pc := 185) hx hb dX8_made_185 rfl (lv_at hl 5 rfl) ?_
  refine z_iald (pc := 186) hC hZ (by decide) rfl hf dX8_made_186 (fun v117 hf => ?_)
  refine lv_aload_n (pc := 187) hx hb dX8_made_187 rfl (lv_at hl 3 rfl) ?_
  refine gfX8_66 (pc := 188) hC hZ dX8_made_188 ?_
  refine lv_iload_n (pc := 191) hx hb dX8_made_191 rfl (lv_at hl 2 rfl) ?_
  refine z_iald (pc := 192) hC hZ (by decide) rfl hf dX8_made_192 (fun v118 hf => ?_)
  refine kX8_153 (pc := 193) hC hA hZ hf hl.1 (Nat.le_of_ble_eq_true rfl) ⟨Nat.le_of_ble_eq_true rfl, Nat.le_of_ble_eq_true rfl⟩ ⟨Nat.le_refl _, Nat.le_refl _⟩ dX8_made_193 (fun w119 H locs hf hZ => ?_)
  obtain rfl := Option.some.inj hf
  exact hE _ _ _ _ _ _ rfl hZ dX8_made_196
section ZK
variable {p : Program} {l : Launch} {e : Env} {R : Room} {s : State} {m : MethodId} {args : Array Value} {below : List Frame} {meth : Method} {c : Code} {H : Heap} {locs : List Loc} {cells slots : Nat} {Q : State → Prop}
variable {pc : Nat} {ls : Array Slot} {rest : List Value} {A : Nat → Prop} {H0 : Heap} {D : va_G} {cy : Nat → ClassId} {a0 aT aP : Nat → Nat} {σ : zS} {cc : ByteArray} {nL : Nat} {α : Type} {res : α}
theorem vkX8_172 : zVk RX8 172 yX8_made cX8_made 6 none 2 := ⟨by decide +kernel, by decide +kernel, by decide +kernel, by decide +kernel, by decide +kernel, by decide +kernel⟩
theorem kX8_172 (hC : zC p s m args c RX8 cc nL D cy) (hA : ∀ q, H0.size ≤ q → A q) (hZ : zW D cy shM 35 a0 aT aP A H0 σ H locs) {N : Nat} {x1 : Int32} {x2 : Int32} {k : zS → Option α} (hf : zbv (fX8_made N x1 x2 σ) k = some res) (hsz : ls.size = nL) (hW : (rest.map fun v => v.category).sum ≤ 8) (hR : rmX8_made.frames + 1 ≤ R.frames ∧ 8 + (6 + 11) + rmX8_made.locals ≤ R.locals) (hcs : cells ≤ R.cells ∧ slots ≤ R.slots) (hdg : decode cc pc = .ok (.invokevirtual 172, 3)) (kk : ∀ (τ : zS) (H1 : Heap) (locs1 : List Loc), k τ = some res → zW D cy shM 35 a0 aT aP A H0 τ H1 locs1 → W p l e R s m args below meth c H1 locs1 cells slots Q (F0 m (pc + 3) ls (rest))) : W p l e R s m args below meth c H locs cells slots Q (F0 m pc ls (.int x2 :: .int x1 :: .ref (a0 0) :: rest)) := by
  cases hq : fX8_made N x1 x2 σ with
  | none => rw [hq] at hf; cases hf
  | some q =>
    rw [hq] at hf
    exact zcallv hA hZ (zrun hC hZ vkX8_172 rfl (zw0 (by decide)) (cX8_made_ok l D cy a0 aT aP N x1 x2 σ q hq H.size) hR rfl hsz rfl hW hcs hdg) (fun u H1 locs1 hU hZ1 => by subst hU; exact kk q H1 locs1 hf hZ1)
end ZK
