theorem vkL_13 : zVk RL 13 yX7_house cX7_house 1 (some .int) 0 := ⟨by decide +kernel, by decide +kernel, by decide +kernel, by decide +kernel, by decide +kernel, by decide +kernel⟩
theorem vkL_17 : zVk RL 17 yX8_house cX8_house 1 (some .int) 0 := ⟨by decide +kernel, by decide +kernel, by decide +kernel, by decide +kernel, by decide +kernel, by decide +kernel⟩
theorem vkL_18 : zVk RL 18 yX7_kind cX7_kind 3 (some .int) 2 := ⟨by decide +kernel, by decide +kernel, by decide +kernel, by decide +kernel, by decide +kernel, by decide +kernel⟩
theorem vkL_22 : zVk RL 22 yX8_kind cX8_kind 3 (some .int) 2 := ⟨by decide +kernel, by decide +kernel, by decide +kernel, by decide +kernel, by decide +kernel, by decide +kernel⟩
theorem vkL_23 : zVk RL 23 yX7_days cX7_days 2 (some .int) 1 := ⟨by decide +kernel, by decide +kernel, by decide +kernel, by decide +kernel, by decide +kernel, by decide +kernel⟩
theorem vkL_27 : zVk RL 27 yX8_days cX8_days 2 (some .int) 1 := ⟨by decide +kernel, by decide +kernel, by decide +kernel, by decide +kernel, by decide +kernel, by decide +kernel⟩
theorem vkL_28 : zVk RL 28 yX7_buy cX7_buy 4 (some .int) 3 := ⟨by decide +kernel, by decide +kernel, by decide +kernel, by decide +kernel, by decide +kernel, by decide +kernel⟩
theorem vkL_32 : zVk RL 32 yX8_buy cX8_buy 4 (some .int) 3 := ⟨by decide +kernel, by decide +kernel, by decide +kernel, by decide +kernel, by decide +kernel, by decide +kernel⟩
theorem vkL_33 : zVk RL 33 yX7_scrap cX7_scrap 4 (some .int) 3 := ⟨by decide +kernel, by decide +kernel, by decide +kernel, by decide +kernel, by decide +kernel, by decide +kernel⟩
theorem vkL_36 : zVk RL 36 yX8_scrap cX8_scrap 4 (some .int) 3 := ⟨by decide +kernel, by decide +kernel, by decide +kernel, by decide +kernel, by decide +kernel, by decide +kernel⟩
theorem vkL_37 : zVk RL 37 yX7_tell cX7_tell 7 (some .int) 5 := ⟨by decide +kernel, by decide +kernel, by decide +kernel, by decide +kernel, by decide +kernel, by decide +kernel⟩
theorem vkL_41 : zVk RL 41 yX8_tell cX8_tell 7 (some .int) 5 := ⟨by decide +kernel, by decide +kernel, by decide +kernel, by decide +kernel, by decide +kernel, by decide +kernel⟩
theorem vkL_42 : zVk RL 42 yX7_drop cX7_drop 3 (some .int) 1 := ⟨by decide +kernel, by decide +kernel, by decide +kernel, by decide +kernel, by decide +kernel, by decide +kernel⟩
theorem vkL_45 : zVk RL 45 yX8_drop cX8_drop 2 (some .int) 1 := ⟨by decide +kernel, by decide +kernel, by decide +kernel, by decide +kernel, by decide +kernel, by decide +kernel⟩
theorem vkL_46 : zVk RL 46 yX7_rule cX7_rule 3 (some .int) 1 := ⟨by decide +kernel, by decide +kernel, by decide +kernel, by decide +kernel, by decide +kernel, by decide +kernel⟩
theorem vkL_49 : zVk RL 49 yX8_rule cX8_rule 3 (some .int) 1 := ⟨by decide +kernel, by decide +kernel, by decide +kernel, by decide +kernel, by decide +kernel, by decide +kernel⟩
theorem vkL_50 : zVk RL 50 yX7_pair cX7_pair 5 (some .int) 0 := ⟨by decide +kernel, by decide +kernel, by decide +kernel, by decide +kernel, by decide +kernel, by decide +kernel⟩
theorem vkL_53 : zVk RL 53 yX8_pair cX8_pair 5 (some .int) 0 := ⟨by decide +kernel, by decide +kernel, by decide +kernel, by decide +kernel, by decide +kernel, by decide +kernel⟩
theorem vkL_54 : zVk RL 54 yX7_judge cX7_judge 5 (some .int) 2 := ⟨by decide +kernel, by decide +kernel, by decide +kernel, by decide +kernel, by decide +kernel, by decide +kernel⟩
theorem vkL_57 : zVk RL 57 yX8_judge cX8_judge 5 (some .int) 2 := ⟨by decide +kernel, by decide +kernel, by decide +kernel, by decide +kernel, by decide +kernel, by decide +kernel⟩
theorem vkL_58 : zVk RL 58 yX7_found cX7_found 5 (some .int) 3 := ⟨by decide +kernel, by decide +kernel, by decide +kernel, by decide +kernel, by decide +kernel, by decide +kernel⟩
theorem vkL_61 : zVk RL 61 yX8_found cX8_found 5 (some .int) 3 := ⟨by decide +kernel, by decide +kernel, by decide +kernel, by decide +kernel, by decide +kernel, by decide +kernel⟩
theorem vkL_62 : zVk RL 62 yX7_account cX7_account 4 (some .int) 3 := ⟨by decide +kernel, by decide +kernel, by decide +kernel, by decide +kernel, by decide +kernel, by decide +kernel⟩
theorem vkL_65 : zVk RL 65 yX8_account cX8_account 4 (some .int) 3 := ⟨by decide +kernel, by decide +kernel, by decide +kernel, by decide +kernel, by decide +kernel, by decide +kernel⟩
theorem vkL_66 : zVk RL 66 yX7_lost cX7_lost 3 (some .int) 2 := ⟨by decide +kernel, by decide +kernel, by decide +kernel, by decide +kernel, by decide +kernel, by decide +kernel⟩
theorem vkL_69 : zVk RL 69 yX8_lost cX8_lost 3 (some .int) 2 := ⟨by decide +kernel, by decide +kernel, by decide +kernel, by decide +kernel, by decide +kernel, by decide +kernel⟩
theorem vkL_70 : zVk RL 70 yX7_turns cX7_turns 3 (some .int) 2 := ⟨by decide +kernel, by decide +kernel, by decide +kernel, by decide +kernel, by decide +kernel, by decide +kernel⟩
theorem vkL_73 : zVk RL 73 yX8_turns cX8_turns 3 (some .int) 2 := ⟨by decide +kernel, by decide +kernel, by decide +kernel, by decide +kernel, by decide +kernel, by decide +kernel⟩
theorem vkL_74 : zVk RL 74 yX7_share cX7_share 3 (some .int) 2 := ⟨by decide +kernel, by decide +kernel, by decide +kernel, by decide +kernel, by decide +kernel, by decide +kernel⟩
theorem vkL_77 : zVk RL 77 yX8_share cX8_share 15 (some .int) 2 := ⟨by decide +kernel, by decide +kernel, by decide +kernel, by decide +kernel, by decide +kernel, by decide +kernel⟩
theorem vkL_78 : zVk RL 78 yX7_fees cX7_fees 4 (some .long) 2 := ⟨by decide +kernel, by decide +kernel, by decide +kernel, by decide +kernel, by decide +kernel, by decide +kernel⟩
theorem vkL_82 : zVk RL 82 yX8_fees cX8_fees 4 (some .long) 2 := ⟨by decide +kernel, by decide +kernel, by decide +kernel, by decide +kernel, by decide +kernel, by decide +kernel⟩
theorem vkL_83 : zVk RL 83 yX7_close cX7_close 3 (some .int) 0 := ⟨by decide +kernel, by decide +kernel, by decide +kernel, by decide +kernel, by decide +kernel, by decide +kernel⟩
theorem vkL_86 : zVk RL 86 yX8_close cX8_close 2 (some .int) 0 := ⟨by decide +kernel, by decide +kernel, by decide +kernel, by decide +kernel, by decide +kernel, by decide +kernel⟩
theorem vkL_87 : zVk RL 87 yX7_bill cX7_bill 4 (some .long) 2 := ⟨by decide +kernel, by decide +kernel, by decide +kernel, by decide +kernel, by decide +kernel, by decide +kernel⟩
theorem vkL_90 : zVk RL 90 yX8_bill cX8_bill 4 (some .long) 2 := ⟨by decide +kernel, by decide +kernel, by decide +kernel, by decide +kernel, by decide +kernel, by decide +kernel⟩
theorem vkL_91 : zVk RL 91 yX7_telling cX7_telling 4 (some .int) 2 := ⟨by decide +kernel, by decide +kernel, by decide +kernel, by decide +kernel, by decide +kernel, by decide +kernel⟩
theorem vkL_94 : zVk RL 94 yX8_telling cX8_telling 3 (some .int) 2 := ⟨by decide +kernel, by decide +kernel, by decide +kernel, by decide +kernel, by decide +kernel, by decide +kernel⟩
theorem vkL_95 : zVk RL 95 yX7_pairOf cX7_pairOf 4 (some .int) 2 := ⟨by decide +kernel, by decide +kernel, by decide +kernel, by decide +kernel, by decide +kernel, by decide +kernel⟩
theorem vkL_98 : zVk RL 98 yX8_pairOf cX8_pairOf 3 (some .int) 2 := ⟨by decide +kernel, by decide +kernel, by decide +kernel, by decide +kernel, by decide +kernel, by decide +kernel⟩
theorem vkL_99 : zVk RL 99 yX7_owe cX7_owe 5 (some .int) 4 := ⟨by decide +kernel, by decide +kernel, by decide +kernel, by decide +kernel, by decide +kernel, by decide +kernel⟩
theorem vkL_103 : zVk RL 103 yX8_owe cX8_owe 5 (some .int) 4 := ⟨by decide +kernel, by decide +kernel, by decide +kernel, by decide +kernel, by decide +kernel, by decide +kernel⟩
theorem vkL_104 : zVk RL 104 yX7_owes cX7_owes 4 (some .int) 3 := ⟨by decide +kernel, by decide +kernel, by decide +kernel, by decide +kernel, by decide +kernel, by decide +kernel⟩
theorem vkL_107 : zVk RL 107 yX8_owes cX8_owes 4 (some .int) 3 := ⟨by decide +kernel, by decide +kernel, by decide +kernel, by decide +kernel, by decide +kernel, by decide +kernel⟩
theorem vkL_108 : zVk RL 108 yX7_ring cX7_ring 3 (some .int) 2 := ⟨by decide +kernel, by decide +kernel, by decide +kernel, by decide +kernel, by decide +kernel, by decide +kernel⟩
theorem vkL_111 : zVk RL 111 yX8_ring cX8_ring 3 (some .int) 2 := ⟨by decide +kernel, by decide +kernel, by decide +kernel, by decide +kernel, by decide +kernel, by decide +kernel⟩
theorem vkL_112 : zVk RL 112 yX7_off cX7_off 2 (some .int) 1 := ⟨by decide +kernel, by decide +kernel, by decide +kernel, by decide +kernel, by decide +kernel, by decide +kernel⟩
theorem vkL_115 : zVk RL 115 yX8_off cX8_off 6 (some .int) 1 := ⟨by decide +kernel, by decide +kernel, by decide +kernel, by decide +kernel, by decide +kernel, by decide +kernel⟩
theorem vkL_116 : zVk RL 116 yX7_want cX7_want 4 (some .int) 3 := ⟨by decide +kernel, by decide +kernel, by decide +kernel, by decide +kernel, by decide +kernel, by decide +kernel⟩
theorem vkL_119 : zVk RL 119 yX8_want cX8_want 4 (some .int) 3 := ⟨by decide +kernel, by decide +kernel, by decide +kernel, by decide +kernel, by decide +kernel, by decide +kernel⟩
theorem vkL_120 : zVk RL 120 yX7_way cX7_way 5 (some .int) 3 := ⟨by decide +kernel, by decide +kernel, by decide +kernel, by decide +kernel, by decide +kernel, by decide +kernel⟩
theorem vkL_123 : zVk RL 123 yX8_way cX8_way 5 (some .int) 3 := ⟨by decide +kernel, by decide +kernel, by decide +kernel, by decide +kernel, by decide +kernel, by decide +kernel⟩
theorem vkL_124 : zVk RL 124 yX7_plan cX7_plan 1 (some .int) 0 := ⟨by decide +kernel, by decide +kernel, by decide +kernel, by decide +kernel, by decide +kernel, by decide +kernel⟩
theorem vkL_127 : zVk RL 127 yX8_plan cX8_plan 5 (some .int) 0 := ⟨by decide +kernel, by decide +kernel, by decide +kernel, by decide +kernel, by decide +kernel, by decide +kernel⟩
theorem vkL_128 : zVk RL 128 yX7_check cX7_check 2 (some .boolean) 1 := ⟨by decide +kernel, by decide +kernel, by decide +kernel, by decide +kernel, by decide +kernel, by decide +kernel⟩
theorem vkL_132 : zVk RL 132 yX8_check cX8_check 5 (some .boolean) 1 := ⟨by decide +kernel, by decide +kernel, by decide +kernel, by decide +kernel, by decide +kernel, by decide +kernel⟩
theorem vkL_133 : zVk RL 133 yX7_count cX7_count 2 (some .int) 1 := ⟨by decide +kernel, by decide +kernel, by decide +kernel, by decide +kernel, by decide +kernel, by decide +kernel⟩
theorem vkL_136 : zVk RL 136 yX8_count cX8_count 4 (some .int) 1 := ⟨by decide +kernel, by decide +kernel, by decide +kernel, by decide +kernel, by decide +kernel, by decide +kernel⟩
set_option maxHeartbeats 4000000 in
set_option maxRecDepth 100000 in
theorem law_case_0 {p : Program} {l : Launch} {e : Env} {s : State} {m : MethodId} {args : Array Value} {below : List Frame} {meth : Method} {c : Code} {H : Heap} {locs : List Loc} {cells slots : Nat} {Q : State → Prop} {A : Nat → Prop} {H0 : Heap} {D : va_G} {cy : Nat → ClassId} {a0 aT aP b0 : Nat → Nat} {σ μ τ ν : zS} {ls : Array Slot} {b L k N : Nat} {xs : Nat → Int32} {r : Int32} (hC : zC p s m args c RL cL_law 4 D cy) (hA : ∀ q, H0.size ≤ q → A q) (hXs : va_X b L xs s H0) (hbl : b < H0.size) (hbA : ¬ A b) (hk : 6 * k + 6 ≤ L) (hL : L ≤ 3072) (hcs : cells + 300 ≤ 600000 ∧ slots + 1100 ≤ 7302250) (hZ : zLW D cy a0 aT aP b0 A H0 σ μ H locs) (hl : lv_has ls 4 [(0, .ref b), (1, .ref (a0 0)), (2, .ref (b0 0)), (3, .int (nI (6 * k)))]) (hfx : fX7_house N  σ = some (r, τ)) (hfm : fX8_house N  μ = some (r, ν)) (kk : ∀ (aT aP : Nat → Nat) (H : Heap) (locs : List Loc), zLW D cy a0 aT aP b0 A H0 τ ν H locs → W p l e room_1 s m args below meth c H locs (cells + 0) (slots + 0) Q (F0 m 1119 ls [])) : W p l e room_1 s m args below meth c H locs cells slots Q (F0 m 164 ls []) := by
  have hx := hC.1.1
  have hb := hC.1.2.1
  refine lv_aload_n (pc := 164) hx hb dL_law_164 rfl (lv_at hl 1 rfl) ?_
  refine lawXi (pc := 165) (rm := rmX7_house) (cells := cells) (slots := slots) hC hA hZ vkL_13 rfl (cX7_house_ok l D cy a0 aT aP N  σ r τ hfx) ⟨Nat.le_of_ble_eq_true rfl, Nat.le_of_ble_eq_true rfl⟩ rfl hl.1 rfl (Nat.le_of_ble_eq_true rfl) ⟨by show cells + 0 ≤ 600000; omega, by show slots + 0 ≤ 7302250; omega⟩ dL_law_165 (fun u H locs hU hZ => ?_)
  refine lv_aload_n (pc := 168) hx hb dL_law_168 rfl (lv_at hl 2 rfl) ?_
  refine lawMi (pc := 169) (rm := rmX8_house) (cells := cells + 0) (slots := slots + 0) hC hA hZ vkL_17 rfl (cX8_house_ok l D cy b0 zf0 zf0 N  μ r ν hfm) ⟨Nat.le_of_ble_eq_true rfl, Nat.le_of_ble_eq_true rfl⟩ rfl hl.1 rfl (Nat.le_of_ble_eq_true rfl) ⟨by show cells + 0 + 0 ≤ 600000; omega, by show slots + 0 + 0 ≤ 7302250; omega⟩ dL_law_169 (fun H locs hZ => ?_)
  refine lv_icmp_eq (pc := 172) (tgt := 1119) hx hb dL_law_172 (by decide) (fun _ => ?_) (fun h => absurd rfl h)
  exact kk u.1 u.2 H locs hZ
set_option maxHeartbeats 4000000 in
set_option maxRecDepth 100000 in
theorem law_case_1 {p : Program} {l : Launch} {e : Env} {s : State} {m : MethodId} {args : Array Value} {below : List Frame} {meth : Method} {c : Code} {H : Heap} {locs : List Loc} {cells slots : Nat} {Q : State → Prop} {A : Nat → Prop} {H0 : Heap} {D : va_G} {cy : Nat → ClassId} {a0 aT aP b0 : Nat → Nat} {σ μ τ ν : zS} {ls : Array Slot} {b L k N : Nat} {xs : Nat → Int32} {r : Int32} (hC : zC p s m args c RL cL_law 4 D cy) (hA : ∀ q, H0.size ≤ q → A q) (hXs : va_X b L xs s H0) (hbl : b < H0.size) (hbA : ¬ A b) (hk : 6 * k + 6 ≤ L) (hL : L ≤ 3072) (hcs : cells + 300 ≤ 600000 ∧ slots + 1100 ≤ 7302250) (hZ : zLW D cy a0 aT aP b0 A H0 σ μ H locs) (hl : lv_has ls 4 [(0, .ref b), (1, .ref (a0 0)), (2, .ref (b0 0)), (3, .int (nI (6 * k)))]) (hfx : fX7_kind N (xs (6 * k + 1)) (xs (6 * k + 2)) σ = some (r, τ)) (hfm : fX8_kind N (xs (6 * k + 1)) (xs (6 * k + 2)) μ = some (r, ν)) (kk : ∀ (aT aP : Nat → Nat) (H : Heap) (locs : List Loc), zLW D cy a0 aT aP b0 A H0 τ ν H locs → W p l e room_1 s m args below meth c H locs (cells + 0) (slots + 0) Q (F0 m 1119 ls [])) : W p l e room_1 s m args below meth c H locs cells slots Q (F0 m 177 ls []) := by
  have hx := hC.1.1
  have hb := hC.1.2.1
  refine lv_aload_n (pc := 177) hx hb dL_law_177 rfl (lv_at hl 1 rfl) ?_
  refine lv_aload_n (pc := 178) hx hb dL_law_178 rfl (lv_at hl 0 rfl) ?_
  refine lv_iload_n (pc := 179) hx hb dL_law_179 rfl (lv_at hl 3 rfl) ?_
  refine lv_iconst (pc := 180) (v := (1 : Int32)) hx hb dL_law_180 (by decide) ?_
  refine lv_iadd (pc := 181) hx hb dL_law_181 ?_
  refine law_sld (pc := 182) (q := 6 * k + 1) hC hXs hbl hbA hZ.2.2 (nI_add (6 * k) 1) (by omega) hL dL_law_182 ?_
  refine lv_aload_n (pc := 183) hx hb dL_law_183 rfl (lv_at hl 0 rfl) ?_
  refine lv_iload_n (pc := 184) hx hb dL_law_184 rfl (lv_at hl 3 rfl) ?_
  refine lv_iconst (pc := 185) (v := (2 : Int32)) hx hb dL_law_185 (by decide) ?_
  refine lv_iadd (pc := 186) hx hb dL_law_186 ?_
  refine law_sld (pc := 187) (q := 6 * k + 2) hC hXs hbl hbA hZ.2.2 (nI_add (6 * k) 2) (by omega) hL dL_law_187 ?_
  refine lawXi (pc := 188) (rm := rmX7_kind) (cells := cells) (slots := slots) hC hA hZ vkL_18 rfl (cX7_kind_ok l D cy a0 aT aP N (xs (6 * k + 1)) (xs (6 * k + 2)) σ r τ hfx) ⟨Nat.le_of_ble_eq_true rfl, Nat.le_of_ble_eq_true rfl⟩ rfl hl.1 rfl (Nat.le_of_ble_eq_true rfl) ⟨by show cells + 0 ≤ 600000; omega, by show slots + 0 ≤ 7302250; omega⟩ dL_law_188 (fun u H locs hU hZ => ?_)
  refine lv_aload_n (pc := 191) hx hb dL_law_191 rfl (lv_at hl 2 rfl) ?_
  refine lv_aload_n (pc := 192) hx hb dL_law_192 rfl (lv_at hl 0 rfl) ?_
  refine lv_iload_n (pc := 193) hx hb dL_law_193 rfl (lv_at hl 3 rfl) ?_
  refine lv_iconst (pc := 194) (v := (1 : Int32)) hx hb dL_law_194 (by decide) ?_
  refine lv_iadd (pc := 195) hx hb dL_law_195 ?_
  refine law_sld (pc := 196) (q := 6 * k + 1) hC hXs hbl hbA hZ.2.2 (nI_add (6 * k) 1) (by omega) hL dL_law_196 ?_
  refine lv_aload_n (pc := 197) hx hb dL_law_197 rfl (lv_at hl 0 rfl) ?_
  refine lv_iload_n (pc := 198) hx hb dL_law_198 rfl (lv_at hl 3 rfl) ?_
  refine lv_iconst (pc := 199) (v := (2 : Int32)) hx hb dL_law_199 (by decide) ?_
  refine lv_iadd (pc := 200) hx hb dL_law_200 ?_
  refine law_sld (pc := 201) (q := 6 * k + 2) hC hXs hbl hbA hZ.2.2 (nI_add (6 * k) 2) (by omega) hL dL_law_201 ?_
  refine lawMi (pc := 202) (rm := rmX8_kind) (cells := cells + 0) (slots := slots + 0) hC hA hZ vkL_22 rfl (cX8_kind_ok l D cy b0 zf0 zf0 N (xs (6 * k + 1)) (xs (6 * k + 2)) μ r ν hfm) ⟨Nat.le_of_ble_eq_true rfl, Nat.le_of_ble_eq_true rfl⟩ rfl hl.1 rfl (Nat.le_of_ble_eq_true rfl) ⟨by show cells + 0 + 0 ≤ 600000; omega, by show slots + 0 + 0 ≤ 7302250; omega⟩ dL_law_202 (fun H locs hZ => ?_)
  refine lv_icmp_eq (pc := 205) (tgt := 1119) hx hb dL_law_205 (by decide) (fun _ => ?_) (fun h => absurd rfl h)
  exact kk u.1 u.2 H locs hZ
set_option maxHeartbeats 4000000 in
set_option maxRecDepth 100000 in
theorem law_case_2 {p : Program} {l : Launch} {e : Env} {s : State} {m : MethodId} {args : Array Value} {below : List Frame} {meth : Method} {c : Code} {H : Heap} {locs : List Loc} {cells slots : Nat} {Q : State → Prop} {A : Nat → Prop} {H0 : Heap} {D : va_G} {cy : Nat → ClassId} {a0 aT aP b0 : Nat → Nat} {σ μ τ ν : zS} {ls : Array Slot} {b L k N : Nat} {xs : Nat → Int32} {r : Int32} (hC : zC p s m args c RL cL_law 4 D cy) (hA : ∀ q, H0.size ≤ q → A q) (hXs : va_X b L xs s H0) (hbl : b < H0.size) (hbA : ¬ A b) (hk : 6 * k + 6 ≤ L) (hL : L ≤ 3072) (hcs : cells + 300 ≤ 600000 ∧ slots + 1100 ≤ 7302250) (hZ : zLW D cy a0 aT aP b0 A H0 σ μ H locs) (hl : lv_has ls 4 [(0, .ref b), (1, .ref (a0 0)), (2, .ref (b0 0)), (3, .int (nI (6 * k)))]) (hfx : fX7_days N (xs (6 * k + 1)) σ = some (r, τ)) (hfm : fX8_days N (xs (6 * k + 1)) μ = some (r, ν)) (kk : ∀ (aT aP : Nat → Nat) (H : Heap) (locs : List Loc), zLW D cy a0 aT aP b0 A H0 τ ν H locs → W p l e room_1 s m args below meth c H locs (cells + 0) (slots + 0) Q (F0 m 1119 ls [])) : W p l e room_1 s m args below meth c H locs cells slots Q (F0 m 210 ls []) := by
  have hx := hC.1.1
  have hb := hC.1.2.1
  refine lv_aload_n (pc := 210) hx hb dL_law_210 rfl (lv_at hl 1 rfl) ?_
  refine lv_aload_n (pc := 211) hx hb dL_law_211 rfl (lv_at hl 0 rfl) ?_
  refine lv_iload_n (pc := 212) hx hb dL_law_212 rfl (lv_at hl 3 rfl) ?_
  refine lv_iconst (pc := 213) (v := (1 : Int32)) hx hb dL_law_213 (by decide) ?_
  refine lv_iadd (pc := 214) hx hb dL_law_214 ?_
  refine law_sld (pc := 215) (q := 6 * k + 1) hC hXs hbl hbA hZ.2.2 (nI_add (6 * k) 1) (by omega) hL dL_law_215 ?_
  refine lawXi (pc := 216) (rm := rmX7_days) (cells := cells) (slots := slots) hC hA hZ vkL_23 rfl (cX7_days_ok l D cy a0 aT aP N (xs (6 * k + 1)) σ r τ hfx) ⟨Nat.le_of_ble_eq_true rfl, Nat.le_of_ble_eq_true rfl⟩ rfl hl.1 rfl (Nat.le_of_ble_eq_true rfl) ⟨by show cells + 0 ≤ 600000; omega, by show slots + 0 ≤ 7302250; omega⟩ dL_law_216 (fun u H locs hU hZ => ?_)
  refine lv_aload_n (pc := 219) hx hb dL_law_219 rfl (lv_at hl 2 rfl) ?_
  refine lv_aload_n (pc := 220) hx hb dL_law_220 rfl (lv_at hl 0 rfl) ?_
  refine lv_iload_n (pc := 221) hx hb dL_law_221 rfl (lv_at hl 3 rfl) ?_
  refine lv_iconst (pc := 222) (v := (1 : Int32)) hx hb dL_law_222 (by decide) ?_
  refine lv_iadd (pc := 223) hx hb dL_law_223 ?_
  refine law_sld (pc := 224) (q := 6 * k + 1) hC hXs hbl hbA hZ.2.2 (nI_add (6 * k) 1) (by omega) hL dL_law_224 ?_
  refine lawMi (pc := 225) (rm := rmX8_days) (cells := cells + 0) (slots := slots + 0) hC hA hZ vkL_27 rfl (cX8_days_ok l D cy b0 zf0 zf0 N (xs (6 * k + 1)) μ r ν hfm) ⟨Nat.le_of_ble_eq_true rfl, Nat.le_of_ble_eq_true rfl⟩ rfl hl.1 rfl (Nat.le_of_ble_eq_true rfl) ⟨by show cells + 0 + 0 ≤ 600000; omega, by show slots + 0 + 0 ≤ 7302250; omega⟩ dL_law_225 (fun H locs hZ => ?_)
  refine lv_icmp_eq (pc := 228) (tgt := 1119) hx hb dL_law_228 (by decide) (fun _ => ?_) (fun h => absurd rfl h)
  exact kk u.1 u.2 H locs hZ
set_option maxHeartbeats 4000000 in
set_option maxRecDepth 100000 in
theorem law_case_3 {p : Program} {l : Launch} {e : Env} {s : State} {m : MethodId} {args : Array Value} {below : List Frame} {meth : Method} {c : Code} {H : Heap} {locs : List Loc} {cells slots : Nat} {Q : State → Prop} {A : Nat → Prop} {H0 : Heap} {D : va_G} {cy : Nat → ClassId} {a0 aT aP b0 : Nat → Nat} {σ μ τ ν : zS} {ls : Array Slot} {b L k N : Nat} {xs : Nat → Int32} {r : Int32} (hC : zC p s m args c RL cL_law 4 D cy) (hA : ∀ q, H0.size ≤ q → A q) (hXs : va_X b L xs s H0) (hbl : b < H0.size) (hbA : ¬ A b) (hk : 6 * k + 6 ≤ L) (hL : L ≤ 3072) (hcs : cells + 300 ≤ 600000 ∧ slots + 1100 ≤ 7302250) (hZ : zLW D cy a0 aT aP b0 A H0 σ μ H locs) (hl : lv_has ls 4 [(0, .ref b), (1, .ref (a0 0)), (2, .ref (b0 0)), (3, .int (nI (6 * k)))]) (hfx : fX7_buy N (xs (6 * k + 1)) (xs (6 * k + 2)) (xs (6 * k + 3)) σ = some (r, τ)) (hfm : fX8_buy N (xs (6 * k + 1)) (xs (6 * k + 2)) (xs (6 * k + 3)) μ = some (r, ν)) (kk : ∀ (aT aP : Nat → Nat) (H : Heap) (locs : List Loc), zLW D cy a0 aT aP b0 A H0 τ ν H locs → W p l e room_1 s m args below meth c H locs (cells + 0) (slots + 0) Q (F0 m 1119 ls [])) : W p l e room_1 s m args below meth c H locs cells slots Q (F0 m 233 ls []) := by
  have hx := hC.1.1
  have hb := hC.1.2.1
  refine lv_aload_n (pc := 233) hx hb dL_law_233 rfl (lv_at hl 1 rfl) ?_
  refine lv_aload_n (pc := 234) hx hb dL_law_234 rfl (lv_at hl 0 rfl) ?_
  refine lv_iload_n (pc := 235) hx hb dL_law_235 rfl (lv_at hl 3 rfl) ?_
  refine lv_iconst (pc := 236) (v := (1 : Int32)) hx hb dL_law_236 (by decide) ?_
  refine lv_iadd (pc := 237) hx hb dL_law_237 ?_
  refine law_sld (pc := 238) (q := 6 * k + 1) hC hXs hbl hbA hZ.2.2 (nI_add (6 * k) 1) (by omega) hL dL_law_238 ?_
  refine lv_aload_n (pc := 239) hx hb dL_law_239 rfl (lv_at hl 0 rfl) ?_
  refine lv_iload_n (pc := 240) hx hb dL_law_240 rfl (lv_at hl 3 rfl) ?_
  refine lv_iconst (pc := 241) (v := (2 : Int32)) hx hb dL_law_241 (by decide) ?_
  refine lv_iadd (pc := 242) hx hb dL_law_242 ?_
  refine law_sld (pc := 243) (q := 6 * k + 2) hC hXs hbl hbA hZ.2.2 (nI_add (6 * k) 2) (by omega) hL dL_law_243 ?_
  refine lv_aload_n (pc := 244) hx hb dL_law_244 rfl (lv_at hl 0 rfl) ?_
  refine lv_iload_n (pc := 245) hx hb dL_law_245 rfl (lv_at hl 3 rfl) ?_
  refine lv_iconst (pc := 246) (v := (3 : Int32)) hx hb dL_law_246 (by decide) ?_
  refine lv_iadd (pc := 247) hx hb dL_law_247 ?_
  refine law_sld (pc := 248) (q := 6 * k + 3) hC hXs hbl hbA hZ.2.2 (nI_add (6 * k) 3) (by omega) hL dL_law_248 ?_
  refine lawXi (pc := 249) (rm := rmX7_buy) (cells := cells) (slots := slots) hC hA hZ vkL_28 rfl (cX7_buy_ok l D cy a0 aT aP N (xs (6 * k + 1)) (xs (6 * k + 2)) (xs (6 * k + 3)) σ r τ hfx) ⟨Nat.le_of_ble_eq_true rfl, Nat.le_of_ble_eq_true rfl⟩ rfl hl.1 rfl (Nat.le_of_ble_eq_true rfl) ⟨by show cells + 0 ≤ 600000; omega, by show slots + 0 ≤ 7302250; omega⟩ dL_law_249 (fun u H locs hU hZ => ?_)
  refine lv_aload_n (pc := 252) hx hb dL_law_252 rfl (lv_at hl 2 rfl) ?_
  refine lv_aload_n (pc := 253) hx hb dL_law_253 rfl (lv_at hl 0 rfl) ?_
  refine lv_iload_n (pc := 254) hx hb dL_law_254 rfl (lv_at hl 3 rfl) ?_
  refine lv_iconst (pc := 255) (v := (1 : Int32)) hx hb dL_law_255 (by decide) ?_
  refine lv_iadd (pc := 256) hx hb dL_law_256 ?_
  refine law_sld (pc := 257) (q := 6 * k + 1) hC hXs hbl hbA hZ.2.2 (nI_add (6 * k) 1) (by omega) hL dL_law_257 ?_
  refine lv_aload_n (pc := 258) hx hb dL_law_258 rfl (lv_at hl 0 rfl) ?_
  refine lv_iload_n (pc := 259) hx hb dL_law_259 rfl (lv_at hl 3 rfl) ?_
  refine lv_iconst (pc := 260) (v := (2 : Int32)) hx hb dL_law_260 (by decide) ?_
  refine lv_iadd (pc := 261) hx hb dL_law_261 ?_
  refine law_sld (pc := 262) (q := 6 * k + 2) hC hXs hbl hbA hZ.2.2 (nI_add (6 * k) 2) (by omega) hL dL_law_262 ?_
  refine lv_aload_n (pc := 263) hx hb dL_law_263 rfl (lv_at hl 0 rfl) ?_
  refine lv_iload_n (pc := 264) hx hb dL_law_264 rfl (lv_at hl 3 rfl) ?_
  refine lv_iconst (pc := 265) (v := (3 : Int32)) hx hb dL_law_265 (by decide) ?_
  refine lv_iadd (pc := 266) hx hb dL_law_266 ?_
  refine law_sld (pc := 267) (q := 6 * k + 3) hC hXs hbl hbA hZ.2.2 (nI_add (6 * k) 3) (by omega) hL dL_law_267 ?_
  refine lawMi (pc := 268) (rm := rmX8_buy) (cells := cells + 0) (slots := slots + 0) hC hA hZ vkL_32 rfl (cX8_buy_ok l D cy b0 zf0 zf0 N (xs (6 * k + 1)) (xs (6 * k + 2)) (xs (6 * k + 3)) μ r ν hfm) ⟨Nat.le_of_ble_eq_true rfl, Nat.le_of_ble_eq_true rfl⟩ rfl hl.1 rfl (Nat.le_of_ble_eq_true rfl) ⟨by show cells + 0 + 0 ≤ 600000; omega, by show slots + 0 + 0 ≤ 7302250; omega⟩ dL_law_268 (fun H locs hZ => ?_)
  refine lv_icmp_eq (pc := 271) (tgt := 1119) hx hb dL_law_271 (by decide) (fun _ => ?_) (fun h => absurd rfl h)
  exact kk u.1 u.2 H locs hZ
set_option maxHeartbeats 4000000 in
set_option maxRecDepth 100000 in
theorem law_case_4 {p : Program} {l : Launch} {e : Env} {s : State} {m : MethodId} {args : Array Value} {below : List Frame} {meth : Method} {c : Code} {H : Heap} {locs : List Loc} {cells slots : Nat} {Q : State → Prop} {A : Nat → Prop} {H0 : Heap} {D : va_G} {cy : Nat → ClassId} {a0 aT aP b0 : Nat → Nat} {σ μ τ ν : zS} {ls : Array Slot} {b L k N : Nat} {xs : Nat → Int32} {r : Int32} (hC : zC p s m args c RL cL_law 4 D cy) (hA : ∀ q, H0.size ≤ q → A q) (hXs : va_X b L xs s H0) (hbl : b < H0.size) (hbA : ¬ A b) (hk : 6 * k + 6 ≤ L) (hL : L ≤ 3072) (hcs : cells + 300 ≤ 600000 ∧ slots + 1100 ≤ 7302250) (hZ : zLW D cy a0 aT aP b0 A H0 σ μ H locs) (hl : lv_has ls 4 [(0, .ref b), (1, .ref (a0 0)), (2, .ref (b0 0)), (3, .int (nI (6 * k)))]) (hfx : fX7_scrap N (xs (6 * k + 1)) (xs (6 * k + 2)) (xs (6 * k + 3)) σ = some (r, τ)) (hfm : fX8_scrap N (xs (6 * k + 1)) (xs (6 * k + 2)) (xs (6 * k + 3)) μ = some (r, ν)) (kk : ∀ (aT aP : Nat → Nat) (H : Heap) (locs : List Loc), zLW D cy a0 aT aP b0 A H0 τ ν H locs → W p l e room_1 s m args below meth c H locs (cells + 0) (slots + 0) Q (F0 m 1119 ls [])) : W p l e room_1 s m args below meth c H locs cells slots Q (F0 m 276 ls []) := by
  have hx := hC.1.1
  have hb := hC.1.2.1
  refine lv_aload_n (pc := 276) hx hb dL_law_276 rfl (lv_at hl 1 rfl) ?_
  refine lv_aload_n (pc := 277) hx hb dL_law_277 rfl (lv_at hl 0 rfl) ?_
  refine lv_iload_n (pc := 278) hx hb dL_law_278 rfl (lv_at hl 3 rfl) ?_
  refine lv_iconst (pc := 279) (v := (1 : Int32)) hx hb dL_law_279 (by decide) ?_
  refine lv_iadd (pc := 280) hx hb dL_law_280 ?_
  refine law_sld (pc := 281) (q := 6 * k + 1) hC hXs hbl hbA hZ.2.2 (nI_add (6 * k) 1) (by omega) hL dL_law_281 ?_
  refine lv_aload_n (pc := 282) hx hb dL_law_282 rfl (lv_at hl 0 rfl) ?_
  refine lv_iload_n (pc := 283) hx hb dL_law_283 rfl (lv_at hl 3 rfl) ?_
  refine lv_iconst (pc := 284) (v := (2 : Int32)) hx hb dL_law_284 (by decide) ?_
  refine lv_iadd (pc := 285) hx hb dL_law_285 ?_
  refine law_sld (pc := 286) (q := 6 * k + 2) hC hXs hbl hbA hZ.2.2 (nI_add (6 * k) 2) (by omega) hL dL_law_286 ?_
  refine lv_aload_n (pc := 287) hx hb dL_law_287 rfl (lv_at hl 0 rfl) ?_
  refine lv_iload_n (pc := 288) hx hb dL_law_288 rfl (lv_at hl 3 rfl) ?_
  refine lv_iconst (pc := 289) (v := (3 : Int32)) hx hb dL_law_289 (by decide) ?_
  refine lv_iadd (pc := 290) hx hb dL_law_290 ?_
  refine law_sld (pc := 291) (q := 6 * k + 3) hC hXs hbl hbA hZ.2.2 (nI_add (6 * k) 3) (by omega) hL dL_law_291 ?_
  refine lawXi (pc := 292) (rm := rmX7_scrap) (cells := cells) (slots := slots) hC hA hZ vkL_33 rfl (cX7_scrap_ok l D cy a0 aT aP N (xs (6 * k + 1)) (xs (6 * k + 2)) (xs (6 * k + 3)) σ r τ hfx) ⟨Nat.le_of_ble_eq_true rfl, Nat.le_of_ble_eq_true rfl⟩ rfl hl.1 rfl (Nat.le_of_ble_eq_true rfl) ⟨by show cells + 0 ≤ 600000; omega, by show slots + 0 ≤ 7302250; omega⟩ dL_law_292 (fun u H locs hU hZ => ?_)
  refine lv_aload_n (pc := 295) hx hb dL_law_295 rfl (lv_at hl 2 rfl) ?_
  refine lv_aload_n (pc := 296) hx hb dL_law_296 rfl (lv_at hl 0 rfl) ?_
  refine lv_iload_n (pc := 297) hx hb dL_law_297 rfl (lv_at hl 3 rfl) ?_
  refine lv_iconst (pc := 298) (v := (1 : Int32)) hx hb dL_law_298 (by decide) ?_
  refine lv_iadd (pc := 299) hx hb dL_law_299 ?_
  refine law_sld (pc := 300) (q := 6 * k + 1) hC hXs hbl hbA hZ.2.2 (nI_add (6 * k) 1) (by omega) hL dL_law_300 ?_
  refine lv_aload_n (pc := 301) hx hb dL_law_301 rfl (lv_at hl 0 rfl) ?_
  refine lv_iload_n (pc := 302) hx hb dL_law_302 rfl (lv_at hl 3 rfl) ?_
  refine lv_iconst (pc := 303) (v := (2 : Int32)) hx hb dL_law_303 (by decide) ?_
  refine lv_iadd (pc := 304) hx hb dL_law_304 ?_
  refine law_sld (pc := 305) (q := 6 * k + 2) hC hXs hbl hbA hZ.2.2 (nI_add (6 * k) 2) (by omega) hL dL_law_305 ?_
  refine lv_aload_n (pc := 306) hx hb dL_law_306 rfl (lv_at hl 0 rfl) ?_
  refine lv_iload_n (pc := 307) hx hb dL_law_307 rfl (lv_at hl 3 rfl) ?_
  refine lv_iconst (pc := 308) (v := (3 : Int32)) hx hb dL_law_308 (by decide) ?_
  refine lv_iadd (pc := 309) hx hb dL_law_309 ?_
  refine law_sld (pc := 310) (q := 6 * k + 3) hC hXs hbl hbA hZ.2.2 (nI_add (6 * k) 3) (by omega) hL dL_law_310 ?_
  refine lawMi (pc := 311) (rm := rmX8_scrap) (cells := cells + 0) (slots := slots + 0) hC hA hZ vkL_36 rfl (cX8_scrap_ok l D cy b0 zf0 zf0 N (xs (6 * k + 1)) (xs (6 * k + 2)) (xs (6 * k + 3)) μ r ν hfm) ⟨Nat.le_of_ble_eq_true rfl, Nat.le_of_ble_eq_true rfl⟩ rfl hl.1 rfl (Nat.le_of_ble_eq_true rfl) ⟨by show cells + 0 + 0 ≤ 600000; omega, by show slots + 0 + 0 ≤ 7302250; omega⟩ dL_law_311 (fun H locs hZ => ?_)
  refine lv_icmp_eq (pc := 314) (tgt := 1119) hx hb dL_law_314 (by decide) (fun _ => ?_) (fun h => absurd rfl h)
  exact kk u.1 u.2 H locs hZ
set_option maxHeartbeats 4000000 in
set_option maxRecDepth 100000 in
theorem law_case_5 {p : Program} {l : Launch} {e : Env} {s : State} {m : MethodId} {args : Array Value} {below : List Frame} {meth : Method} {c : Code} {H : Heap} {locs : List Loc} {cells slots : Nat} {Q : State → Prop} {A : Nat → Prop} {H0 : Heap} {D : va_G} {cy : Nat → ClassId} {a0 aT aP b0 : Nat → Nat} {σ μ τ ν : zS} {ls : Array Slot} {b L k N : Nat} {xs : Nat → Int32} {r : Int32} (hC : zC p s m args c RL cL_law 4 D cy) (hA : ∀ q, H0.size ≤ q → A q) (hXs : va_X b L xs s H0) (hbl : b < H0.size) (hbA : ¬ A b) (hk : 6 * k + 6 ≤ L) (hL : L ≤ 3072) (hcs : cells + 300 ≤ 600000 ∧ slots + 1100 ≤ 7302250) (hZ : zLW D cy a0 aT aP b0 A H0 σ μ H locs) (hl : lv_has ls 4 [(0, .ref b), (1, .ref (a0 0)), (2, .ref (b0 0)), (3, .int (nI (6 * k)))]) (hfx : fX7_tell N (if xs (6 * k + 1) = 0 then (0 : Int32) else 1) (xs (6 * k + 2)) (xs (6 * k + 3)) (xs (6 * k + 4)) (xs (6 * k + 5)) σ = some (r, τ)) (hfm : fX8_tell N (if xs (6 * k + 1) = 0 then (0 : Int32) else 1) (xs (6 * k + 2)) (xs (6 * k + 3)) (xs (6 * k + 4)) (xs (6 * k + 5)) μ = some (r, ν)) (kk : ∀ (aT aP : Nat → Nat) (H : Heap) (locs : List Loc), zLW D cy a0 aT aP b0 A H0 τ ν H locs → W p l e room_1 s m args below meth c H locs (cells + 1) (slots + 10) Q (F0 m 1119 ls [])) : W p l e room_1 s m args below meth c H locs cells slots Q (F0 m 319 ls []) := by
  have hx := hC.1.1
  have hb := hC.1.2.1
  by_cases hg : xs (6 * k + 1) = 0
  · rw [if_pos hg] at hfx hfm
    refine lv_aload_n (pc := 319) hx hb dL_law_319 rfl (lv_at hl 1 rfl) ?_
    refine lv_aload_n (pc := 320) hx hb dL_law_320 rfl (lv_at hl 0 rfl) ?_
    refine lv_iload_n (pc := 321) hx hb dL_law_321 rfl (lv_at hl 3 rfl) ?_
    refine lv_iconst (pc := 322) (v := (1 : Int32)) hx hb dL_law_322 (by decide) ?_
    refine lv_iadd (pc := 323) hx hb dL_law_323 ?_
    refine law_sld (pc := 324) (q := 6 * k + 1) hC hXs hbl hbA hZ.2.2 (nI_add (6 * k) 1) (by omega) hL dL_law_324 ?_
    refine lv_if_eq (pc := 325) (tgt := 332) hx hb dL_law_325 (by decide) (fun _ => ?_) (fun h => absurd hg h)
    refine lv_iconst (pc := 332) (v := (0 : Int32)) hx hb dL_law_332 (by decide) ?_
    refine lv_aload_n (pc := 333) hx hb dL_law_333 rfl (lv_at hl 0 rfl) ?_
    refine lv_iload_n (pc := 334) hx hb dL_law_334 rfl (lv_at hl 3 rfl) ?_
    refine lv_iconst (pc := 335) (v := (2 : Int32)) hx hb dL_law_335 (by decide) ?_
    refine lv_iadd (pc := 336) hx hb dL_law_336 ?_
    refine law_sld (pc := 337) (q := 6 * k + 2) hC hXs hbl hbA hZ.2.2 (nI_add (6 * k) 2) (by omega) hL dL_law_337 ?_
    refine lv_aload_n (pc := 338) hx hb dL_law_338 rfl (lv_at hl 0 rfl) ?_
    refine lv_iload_n (pc := 339) hx hb dL_law_339 rfl (lv_at hl 3 rfl) ?_
    refine lv_iconst (pc := 340) (v := (3 : Int32)) hx hb dL_law_340 (by decide) ?_
    refine lv_iadd (pc := 341) hx hb dL_law_341 ?_
    refine law_sld (pc := 342) (q := 6 * k + 3) hC hXs hbl hbA hZ.2.2 (nI_add (6 * k) 3) (by omega) hL dL_law_342 ?_
    refine lv_aload_n (pc := 343) hx hb dL_law_343 rfl (lv_at hl 0 rfl) ?_
    refine lv_iload_n (pc := 344) hx hb dL_law_344 rfl (lv_at hl 3 rfl) ?_
    refine lv_iconst (pc := 345) (v := (4 : Int32)) hx hb dL_law_345 (by decide) ?_
    refine lv_iadd (pc := 346) hx hb dL_law_346 ?_
    refine law_sld (pc := 347) (q := 6 * k + 4) hC hXs hbl hbA hZ.2.2 (nI_add (6 * k) 4) (by omega) hL dL_law_347 ?_
    refine lv_aload_n (pc := 348) hx hb dL_law_348 rfl (lv_at hl 0 rfl) ?_
    refine lv_iload_n (pc := 349) hx hb dL_law_349 rfl (lv_at hl 3 rfl) ?_
    refine lv_iconst (pc := 350) (v := (5 : Int32)) hx hb dL_law_350 (by decide) ?_
    refine lv_iadd (pc := 351) hx hb dL_law_351 ?_
    refine law_sld (pc := 352) (q := 6 * k + 5) hC hXs hbl hbA hZ.2.2 (nI_add (6 * k) 5) (by omega) hL dL_law_352 ?_
    refine lawXi (pc := 353) (rm := rmX7_tell) (cells := cells) (slots := slots) hC hA hZ vkL_37 rfl (cX7_tell_ok l D cy a0 aT aP N (0 : Int32) (xs (6 * k + 2)) (xs (6 * k + 3)) (xs (6 * k + 4)) (xs (6 * k + 5)) σ r τ hfx) ⟨Nat.le_of_ble_eq_true rfl, Nat.le_of_ble_eq_true rfl⟩ rfl hl.1 rfl (Nat.le_of_ble_eq_true rfl) ⟨by show cells + 1 ≤ 600000; omega, by show slots + 10 ≤ 7302250; omega⟩ dL_law_353 (fun u H locs hU hZ => ?_)
    refine lv_aload_n (pc := 356) hx hb dL_law_356 rfl (lv_at hl 2 rfl) ?_
    refine lv_aload_n (pc := 357) hx hb dL_law_357 rfl (lv_at hl 0 rfl) ?_
    refine lv_iload_n (pc := 358) hx hb dL_law_358 rfl (lv_at hl 3 rfl) ?_
    refine lv_iconst (pc := 359) (v := (1 : Int32)) hx hb dL_law_359 (by decide) ?_
    refine lv_iadd (pc := 360) hx hb dL_law_360 ?_
    refine law_sld (pc := 361) (q := 6 * k + 1) hC hXs hbl hbA hZ.2.2 (nI_add (6 * k) 1) (by omega) hL dL_law_361 ?_
    refine lv_if_eq (pc := 362) (tgt := 369) hx hb dL_law_362 (by decide) (fun _ => ?_) (fun h => absurd hg h)
    refine lv_iconst (pc := 369) (v := (0 : Int32)) hx hb dL_law_369 (by decide) ?_
    refine lv_aload_n (pc := 370) hx hb dL_law_370 rfl (lv_at hl 0 rfl) ?_
    refine lv_iload_n (pc := 371) hx hb dL_law_371 rfl (lv_at hl 3 rfl) ?_
    refine lv_iconst (pc := 372) (v := (2 : Int32)) hx hb dL_law_372 (by decide) ?_
    refine lv_iadd (pc := 373) hx hb dL_law_373 ?_
    refine law_sld (pc := 374) (q := 6 * k + 2) hC hXs hbl hbA hZ.2.2 (nI_add (6 * k) 2) (by omega) hL dL_law_374 ?_
    refine lv_aload_n (pc := 375) hx hb dL_law_375 rfl (lv_at hl 0 rfl) ?_
    refine lv_iload_n (pc := 376) hx hb dL_law_376 rfl (lv_at hl 3 rfl) ?_
    refine lv_iconst (pc := 377) (v := (3 : Int32)) hx hb dL_law_377 (by decide) ?_
    refine lv_iadd (pc := 378) hx hb dL_law_378 ?_
    refine law_sld (pc := 379) (q := 6 * k + 3) hC hXs hbl hbA hZ.2.2 (nI_add (6 * k) 3) (by omega) hL dL_law_379 ?_
    refine lv_aload_n (pc := 380) hx hb dL_law_380 rfl (lv_at hl 0 rfl) ?_
    refine lv_iload_n (pc := 381) hx hb dL_law_381 rfl (lv_at hl 3 rfl) ?_
    refine lv_iconst (pc := 382) (v := (4 : Int32)) hx hb dL_law_382 (by decide) ?_
    refine lv_iadd (pc := 383) hx hb dL_law_383 ?_
    refine law_sld (pc := 384) (q := 6 * k + 4) hC hXs hbl hbA hZ.2.2 (nI_add (6 * k) 4) (by omega) hL dL_law_384 ?_
    refine lv_aload_n (pc := 385) hx hb dL_law_385 rfl (lv_at hl 0 rfl) ?_
    refine lv_iload_n (pc := 386) hx hb dL_law_386 rfl (lv_at hl 3 rfl) ?_
    refine lv_iconst (pc := 387) (v := (5 : Int32)) hx hb dL_law_387 (by decide) ?_
    refine lv_iadd (pc := 388) hx hb dL_law_388 ?_
    refine law_sld (pc := 389) (q := 6 * k + 5) hC hXs hbl hbA hZ.2.2 (nI_add (6 * k) 5) (by omega) hL dL_law_389 ?_
    refine lawMi (pc := 390) (rm := rmX8_tell) (cells := cells + 1) (slots := slots + 10) hC hA hZ vkL_41 rfl (cX8_tell_ok l D cy b0 zf0 zf0 N (0 : Int32) (xs (6 * k + 2)) (xs (6 * k + 3)) (xs (6 * k + 4)) (xs (6 * k + 5)) μ r ν hfm) ⟨Nat.le_of_ble_eq_true rfl, Nat.le_of_ble_eq_true rfl⟩ rfl hl.1 rfl (Nat.le_of_ble_eq_true rfl) ⟨by show cells + 1 + 0 ≤ 600000; omega, by show slots + 10 + 0 ≤ 7302250; omega⟩ dL_law_390 (fun H locs hZ => ?_)
    refine lv_icmp_eq (pc := 393) (tgt := 1119) hx hb dL_law_393 (by decide) (fun _ => ?_) (fun h => absurd rfl h)
    exact kk u.1 u.2 H locs hZ
  rw [if_neg hg] at hfx hfm
  refine lv_aload_n (pc := 319) hx hb dL_law_319 rfl (lv_at hl 1 rfl) ?_
  refine lv_aload_n (pc := 320) hx hb dL_law_320 rfl (lv_at hl 0 rfl) ?_
  refine lv_iload_n (pc := 321) hx hb dL_law_321 rfl (lv_at hl 3 rfl) ?_
  refine lv_iconst (pc := 322) (v := (1 : Int32)) hx hb dL_law_322 (by decide) ?_
  refine lv_iadd (pc := 323) hx hb dL_law_323 ?_
  refine law_sld (pc := 324) (q := 6 * k + 1) hC hXs hbl hbA hZ.2.2 (nI_add (6 * k) 1) (by omega) hL dL_law_324 ?_
  refine lv_if_eq (pc := 325) (tgt := 332) hx hb dL_law_325 (by decide) (fun h => absurd h hg) (fun _ => ?_)
  refine lv_iconst (pc := 328) (v := (1 : Int32)) hx hb dL_law_328 (by decide) ?_
  refine lv_goto (pc := 329) (tgt := 333) hx hb dL_law_329 (by decide) ?_
  refine lv_aload_n (pc := 333) hx hb dL_law_333 rfl (lv_at hl 0 rfl) ?_
  refine lv_iload_n (pc := 334) hx hb dL_law_334 rfl (lv_at hl 3 rfl) ?_
  refine lv_iconst (pc := 335) (v := (2 : Int32)) hx hb dL_law_335 (by decide) ?_
  refine lv_iadd (pc := 336) hx hb dL_law_336 ?_
  refine law_sld (pc := 337) (q := 6 * k + 2) hC hXs hbl hbA hZ.2.2 (nI_add (6 * k) 2) (by omega) hL dL_law_337 ?_
  refine lv_aload_n (pc := 338) hx hb dL_law_338 rfl (lv_at hl 0 rfl) ?_
  refine lv_iload_n (pc := 339) hx hb dL_law_339 rfl (lv_at hl 3 rfl) ?_
  refine lv_iconst (pc := 340) (v := (3 : Int32)) hx hb dL_law_340 (by decide) ?_
  refine lv_iadd (pc := 341) hx hb dL_law_341 ?_
  refine law_sld (pc := 342) (q := 6 * k + 3) hC hXs hbl hbA hZ.2.2 (nI_add (6 * k) 3) (by omega) hL dL_law_342 ?_
  refine lv_aload_n (pc := 343) hx hb dL_law_343 rfl (lv_at hl 0 rfl) ?_
  refine lv_iload_n (pc := 344) hx hb dL_law_344 rfl (lv_at hl 3 rfl) ?_
  refine lv_iconst (pc := 345) (v := (4 : Int32)) hx hb dL_law_345 (by decide) ?_
  refine lv_iadd (pc := 346) hx hb dL_law_346 ?_
  refine law_sld (pc := 347) (q := 6 * k + 4) hC hXs hbl hbA hZ.2.2 (nI_add (6 * k) 4) (by omega) hL dL_law_347 ?_
  refine lv_aload_n (pc := 348) hx hb dL_law_348 rfl (lv_at hl 0 rfl) ?_
  refine lv_iload_n (pc := 349) hx hb dL_law_349 rfl (lv_at hl 3 rfl) ?_
  refine lv_iconst (pc := 350) (v := (5 : Int32)) hx hb dL_law_350 (by decide) ?_
  refine lv_iadd (pc := 351) hx hb dL_law_351 ?_
  refine law_sld (pc := 352) (q := 6 * k + 5) hC hXs hbl hbA hZ.2.2 (nI_add (6 * k) 5) (by omega) hL dL_law_352 ?_
  refine lawXi (pc := 353) (rm := rmX7_tell) (cells := cells) (slots := slots) hC hA hZ vkL_37 rfl (cX7_tell_ok l D cy a0 aT aP N (1 : Int32) (xs (6 * k + 2)) (xs (6 * k + 3)) (xs (6 * k + 4)) (xs (6 * k + 5)) σ r τ hfx) ⟨Nat.le_of_ble_eq_true rfl, Nat.le_of_ble_eq_true rfl⟩ rfl hl.1 rfl (Nat.le_of_ble_eq_true rfl) ⟨by show cells + 1 ≤ 600000; omega, by show slots + 10 ≤ 7302250; omega⟩ dL_law_353 (fun u H locs hU hZ => ?_)
  refine lv_aload_n (pc := 356) hx hb dL_law_356 rfl (lv_at hl 2 rfl) ?_
  refine lv_aload_n (pc := 357) hx hb dL_law_357 rfl (lv_at hl 0 rfl) ?_
  refine lv_iload_n (pc := 358) hx hb dL_law_358 rfl (lv_at hl 3 rfl) ?_
  refine lv_iconst (pc := 359) (v := (1 : Int32)) hx hb dL_law_359 (by decide) ?_
  refine lv_iadd (pc := 360) hx hb dL_law_360 ?_
  refine law_sld (pc := 361) (q := 6 * k + 1) hC hXs hbl hbA hZ.2.2 (nI_add (6 * k) 1) (by omega) hL dL_law_361 ?_
  refine lv_if_eq (pc := 362) (tgt := 369) hx hb dL_law_362 (by decide) (fun h => absurd h hg) (fun _ => ?_)
  refine lv_iconst (pc := 365) (v := (1 : Int32)) hx hb dL_law_365 (by decide) ?_
  refine lv_goto (pc := 366) (tgt := 370) hx hb dL_law_366 (by decide) ?_
  refine lv_aload_n (pc := 370) hx hb dL_law_370 rfl (lv_at hl 0 rfl) ?_
  refine lv_iload_n (pc := 371) hx hb dL_law_371 rfl (lv_at hl 3 rfl) ?_
  refine lv_iconst (pc := 372) (v := (2 : Int32)) hx hb dL_law_372 (by decide) ?_
  refine lv_iadd (pc := 373) hx hb dL_law_373 ?_
  refine law_sld (pc := 374) (q := 6 * k + 2) hC hXs hbl hbA hZ.2.2 (nI_add (6 * k) 2) (by omega) hL dL_law_374 ?_
  refine lv_aload_n (pc := 375) hx hb dL_law_375 rfl (lv_at hl 0 rfl) ?_
  refine lv_iload_n (pc := 376) hx hb dL_law_376 rfl (lv_at hl 3 rfl) ?_
  refine lv_iconst (pc := 377) (v := (3 : Int32)) hx hb dL_law_377 (by decide) ?_
  refine lv_iadd (pc := 378) hx hb dL_law_378 ?_
  refine law_sld (pc := 379) (q := 6 * k + 3) hC hXs hbl hbA hZ.2.2 (nI_add (6 * k) 3) (by omega) hL dL_law_379 ?_
  refine lv_aload_n (pc := 380) hx hb dL_law_380 rfl (lv_at hl 0 rfl) ?_
  refine lv_iload_n (pc := 381) hx hb dL_law_381 rfl (lv_at hl 3 rfl) ?_
  refine lv_iconst (pc := 382) (v := (4 : Int32)) hx hb dL_law_382 (by decide) ?_
  refine lv_iadd (pc := 383) hx hb dL_law_383 ?_
  refine law_sld (pc := 384) (q := 6 * k + 4) hC hXs hbl hbA hZ.2.2 (nI_add (6 * k) 4) (by omega) hL dL_law_384 ?_
  refine lv_aload_n (pc := 385) hx hb dL_law_385 rfl (lv_at hl 0 rfl) ?_
  refine lv_iload_n (pc := 386) hx hb dL_law_386 rfl (lv_at hl 3 rfl) ?_
  refine lv_iconst (pc := 387) (v := (5 : Int32)) hx hb dL_law_387 (by decide) ?_
  refine lv_iadd (pc := 388) hx hb dL_law_388 ?_
  refine law_sld (pc := 389) (q := 6 * k + 5) hC hXs hbl hbA hZ.2.2 (nI_add (6 * k) 5) (by omega) hL dL_law_389 ?_
  refine lawMi (pc := 390) (rm := rmX8_tell) (cells := cells + 1) (slots := slots + 10) hC hA hZ vkL_41 rfl (cX8_tell_ok l D cy b0 zf0 zf0 N (1 : Int32) (xs (6 * k + 2)) (xs (6 * k + 3)) (xs (6 * k + 4)) (xs (6 * k + 5)) μ r ν hfm) ⟨Nat.le_of_ble_eq_true rfl, Nat.le_of_ble_eq_true rfl⟩ rfl hl.1 rfl (Nat.le_of_ble_eq_true rfl) ⟨by show cells + 1 + 0 ≤ 600000; omega, by show slots + 10 + 0 ≤ 7302250; omega⟩ dL_law_390 (fun H locs hZ => ?_)
  refine lv_icmp_eq (pc := 393) (tgt := 1119) hx hb dL_law_393 (by decide) (fun _ => ?_) (fun h => absurd rfl h)
  exact kk u.1 u.2 H locs hZ
set_option maxHeartbeats 4000000 in
set_option maxRecDepth 100000 in
theorem law_case_6 {p : Program} {l : Launch} {e : Env} {s : State} {m : MethodId} {args : Array Value} {below : List Frame} {meth : Method} {c : Code} {H : Heap} {locs : List Loc} {cells slots : Nat} {Q : State → Prop} {A : Nat → Prop} {H0 : Heap} {D : va_G} {cy : Nat → ClassId} {a0 aT aP b0 : Nat → Nat} {σ μ τ ν : zS} {ls : Array Slot} {b L k N : Nat} {xs : Nat → Int32} {r : Int32} (hC : zC p s m args c RL cL_law 4 D cy) (hA : ∀ q, H0.size ≤ q → A q) (hXs : va_X b L xs s H0) (hbl : b < H0.size) (hbA : ¬ A b) (hk : 6 * k + 6 ≤ L) (hL : L ≤ 3072) (hcs : cells + 300 ≤ 600000 ∧ slots + 1100 ≤ 7302250) (hZ : zLW D cy a0 aT aP b0 A H0 σ μ H locs) (hl : lv_has ls 4 [(0, .ref b), (1, .ref (a0 0)), (2, .ref (b0 0)), (3, .int (nI (6 * k)))]) (hfx : fX7_drop N (xs (6 * k + 1)) σ = some (r, τ)) (hfm : fX8_drop N (xs (6 * k + 1)) μ = some (r, ν)) (kk : ∀ (aT aP : Nat → Nat) (H : Heap) (locs : List Loc), zLW D cy a0 aT aP b0 A H0 τ ν H locs → W p l e room_1 s m args below meth c H locs (cells + 0) (slots + 0) Q (F0 m 1119 ls [])) : W p l e room_1 s m args below meth c H locs cells slots Q (F0 m 398 ls []) := by
  have hx := hC.1.1
  have hb := hC.1.2.1
  refine lv_aload_n (pc := 398) hx hb dL_law_398 rfl (lv_at hl 1 rfl) ?_
  refine lv_aload_n (pc := 399) hx hb dL_law_399 rfl (lv_at hl 0 rfl) ?_
  refine lv_iload_n (pc := 400) hx hb dL_law_400 rfl (lv_at hl 3 rfl) ?_
  refine lv_iconst (pc := 401) (v := (1 : Int32)) hx hb dL_law_401 (by decide) ?_
  refine lv_iadd (pc := 402) hx hb dL_law_402 ?_
  refine law_sld (pc := 403) (q := 6 * k + 1) hC hXs hbl hbA hZ.2.2 (nI_add (6 * k) 1) (by omega) hL dL_law_403 ?_
  refine lawXi (pc := 404) (rm := rmX7_drop) (cells := cells) (slots := slots) hC hA hZ vkL_42 rfl (cX7_drop_ok l D cy a0 aT aP N (xs (6 * k + 1)) σ r τ hfx) ⟨Nat.le_of_ble_eq_true rfl, Nat.le_of_ble_eq_true rfl⟩ rfl hl.1 rfl (Nat.le_of_ble_eq_true rfl) ⟨by show cells + 0 ≤ 600000; omega, by show slots + 0 ≤ 7302250; omega⟩ dL_law_404 (fun u H locs hU hZ => ?_)
  refine lv_aload_n (pc := 407) hx hb dL_law_407 rfl (lv_at hl 2 rfl) ?_
  refine lv_aload_n (pc := 408) hx hb dL_law_408 rfl (lv_at hl 0 rfl) ?_
  refine lv_iload_n (pc := 409) hx hb dL_law_409 rfl (lv_at hl 3 rfl) ?_
  refine lv_iconst (pc := 410) (v := (1 : Int32)) hx hb dL_law_410 (by decide) ?_
  refine lv_iadd (pc := 411) hx hb dL_law_411 ?_
  refine law_sld (pc := 412) (q := 6 * k + 1) hC hXs hbl hbA hZ.2.2 (nI_add (6 * k) 1) (by omega) hL dL_law_412 ?_
  refine lawMi (pc := 413) (rm := rmX8_drop) (cells := cells + 0) (slots := slots + 0) hC hA hZ vkL_45 rfl (cX8_drop_ok l D cy b0 zf0 zf0 N (xs (6 * k + 1)) μ r ν hfm) ⟨Nat.le_of_ble_eq_true rfl, Nat.le_of_ble_eq_true rfl⟩ rfl hl.1 rfl (Nat.le_of_ble_eq_true rfl) ⟨by show cells + 0 + 0 ≤ 600000; omega, by show slots + 0 + 0 ≤ 7302250; omega⟩ dL_law_413 (fun H locs hZ => ?_)
  refine lv_icmp_eq (pc := 416) (tgt := 1119) hx hb dL_law_416 (by decide) (fun _ => ?_) (fun h => absurd rfl h)
  exact kk u.1 u.2 H locs hZ
set_option maxHeartbeats 4000000 in
set_option maxRecDepth 100000 in
theorem law_case_7 {p : Program} {l : Launch} {e : Env} {s : State} {m : MethodId} {args : Array Value} {below : List Frame} {meth : Method} {c : Code} {H : Heap} {locs : List Loc} {cells slots : Nat} {Q : State → Prop} {A : Nat → Prop} {H0 : Heap} {D : va_G} {cy : Nat → ClassId} {a0 aT aP b0 : Nat → Nat} {σ μ τ ν : zS} {ls : Array Slot} {b L k N : Nat} {xs : Nat → Int32} {r : Int32} (hC : zC p s m args c RL cL_law 4 D cy) (hA : ∀ q, H0.size ≤ q → A q) (hXs : va_X b L xs s H0) (hbl : b < H0.size) (hbA : ¬ A b) (hk : 6 * k + 6 ≤ L) (hL : L ≤ 3072) (hcs : cells + 300 ≤ 600000 ∧ slots + 1100 ≤ 7302250) (hZ : zLW D cy a0 aT aP b0 A H0 σ μ H locs) (hl : lv_has ls 4 [(0, .ref b), (1, .ref (a0 0)), (2, .ref (b0 0)), (3, .int (nI (6 * k)))]) (hfx : fX7_rule N (xs (6 * k + 1)) σ = some (r, τ)) (hfm : fX8_rule N (xs (6 * k + 1)) μ = some (r, ν)) (kk : ∀ (aT aP : Nat → Nat) (H : Heap) (locs : List Loc), zLW D cy a0 aT aP b0 A H0 τ ν H locs → W p l e room_1 s m args below meth c H locs (cells + 0) (slots + 0) Q (F0 m 1119 ls [])) : W p l e room_1 s m args below meth c H locs cells slots Q (F0 m 421 ls []) := by
  have hx := hC.1.1
  have hb := hC.1.2.1
  refine lv_aload_n (pc := 421) hx hb dL_law_421 rfl (lv_at hl 1 rfl) ?_
  refine lv_aload_n (pc := 422) hx hb dL_law_422 rfl (lv_at hl 0 rfl) ?_
  refine lv_iload_n (pc := 423) hx hb dL_law_423 rfl (lv_at hl 3 rfl) ?_
  refine lv_iconst (pc := 424) (v := (1 : Int32)) hx hb dL_law_424 (by decide) ?_
  refine lv_iadd (pc := 425) hx hb dL_law_425 ?_
  refine law_sld (pc := 426) (q := 6 * k + 1) hC hXs hbl hbA hZ.2.2 (nI_add (6 * k) 1) (by omega) hL dL_law_426 ?_
  refine lawXi (pc := 427) (rm := rmX7_rule) (cells := cells) (slots := slots) hC hA hZ vkL_46 rfl (cX7_rule_ok l D cy a0 aT aP N (xs (6 * k + 1)) σ r τ hfx) ⟨Nat.le_of_ble_eq_true rfl, Nat.le_of_ble_eq_true rfl⟩ rfl hl.1 rfl (Nat.le_of_ble_eq_true rfl) ⟨by show cells + 0 ≤ 600000; omega, by show slots + 0 ≤ 7302250; omega⟩ dL_law_427 (fun u H locs hU hZ => ?_)
  refine lv_aload_n (pc := 430) hx hb dL_law_430 rfl (lv_at hl 2 rfl) ?_
  refine lv_aload_n (pc := 431) hx hb dL_law_431 rfl (lv_at hl 0 rfl) ?_
  refine lv_iload_n (pc := 432) hx hb dL_law_432 rfl (lv_at hl 3 rfl) ?_
  refine lv_iconst (pc := 433) (v := (1 : Int32)) hx hb dL_law_433 (by decide) ?_
  refine lv_iadd (pc := 434) hx hb dL_law_434 ?_
  refine law_sld (pc := 435) (q := 6 * k + 1) hC hXs hbl hbA hZ.2.2 (nI_add (6 * k) 1) (by omega) hL dL_law_435 ?_
  refine lawMi (pc := 436) (rm := rmX8_rule) (cells := cells + 0) (slots := slots + 0) hC hA hZ vkL_49 rfl (cX8_rule_ok l D cy b0 zf0 zf0 N (xs (6 * k + 1)) μ r ν hfm) ⟨Nat.le_of_ble_eq_true rfl, Nat.le_of_ble_eq_true rfl⟩ rfl hl.1 rfl (Nat.le_of_ble_eq_true rfl) ⟨by show cells + 0 + 0 ≤ 600000; omega, by show slots + 0 + 0 ≤ 7302250; omega⟩ dL_law_436 (fun H locs hZ => ?_)
  refine lv_icmp_eq (pc := 439) (tgt := 1119) hx hb dL_law_439 (by decide) (fun _ => ?_) (fun h => absurd rfl h)
  exact kk u.1 u.2 H locs hZ
set_option maxHeartbeats 4000000 in
set_option maxRecDepth 100000 in
theorem law_case_8 {p : Program} {l : Launch} {e : Env} {s : State} {m : MethodId} {args : Array Value} {below : List Frame} {meth : Method} {c : Code} {H : Heap} {locs : List Loc} {cells slots : Nat} {Q : State → Prop} {A : Nat → Prop} {H0 : Heap} {D : va_G} {cy : Nat → ClassId} {a0 aT aP b0 : Nat → Nat} {σ μ τ ν : zS} {ls : Array Slot} {b L k N : Nat} {xs : Nat → Int32} {r : Int32} (hC : zC p s m args c RL cL_law 4 D cy) (hA : ∀ q, H0.size ≤ q → A q) (hXs : va_X b L xs s H0) (hbl : b < H0.size) (hbA : ¬ A b) (hk : 6 * k + 6 ≤ L) (hL : L ≤ 3072) (hcs : cells + 300 ≤ 600000 ∧ slots + 1100 ≤ 7302250) (hZ : zLW D cy a0 aT aP b0 A H0 σ μ H locs) (hl : lv_has ls 4 [(0, .ref b), (1, .ref (a0 0)), (2, .ref (b0 0)), (3, .int (nI (6 * k)))]) (hfx : fX7_pair N  σ = some (r, τ)) (hfm : fX8_pair N  μ = some (r, ν)) (kk : ∀ (aT aP : Nat → Nat) (H : Heap) (locs : List Loc), zLW D cy a0 aT aP b0 A H0 τ ν H locs → W p l e room_1 s m args below meth c H locs (cells + 256) (slots + 1024) Q (F0 m 1119 ls [])) : W p l e room_1 s m args below meth c H locs cells slots Q (F0 m 444 ls []) := by
  have hx := hC.1.1
  have hb := hC.1.2.1
  refine lv_aload_n (pc := 444) hx hb dL_law_444 rfl (lv_at hl 1 rfl) ?_
  refine lawXi (pc := 445) (rm := rmX7_pair) (cells := cells) (slots := slots) hC hA hZ vkL_50 rfl (cX7_pair_ok l D cy a0 aT aP N  σ r τ hfx) ⟨Nat.le_of_ble_eq_true rfl, Nat.le_of_ble_eq_true rfl⟩ rfl hl.1 rfl (Nat.le_of_ble_eq_true rfl) ⟨by show cells + 256 ≤ 600000; omega, by show slots + 1024 ≤ 7302250; omega⟩ dL_law_445 (fun u H locs hU hZ => ?_)
  refine lv_aload_n (pc := 448) hx hb dL_law_448 rfl (lv_at hl 2 rfl) ?_
  refine lawMi (pc := 449) (rm := rmX8_pair) (cells := cells + 256) (slots := slots + 1024) hC hA hZ vkL_53 rfl (cX8_pair_ok l D cy b0 zf0 zf0 N  μ r ν hfm) ⟨Nat.le_of_ble_eq_true rfl, Nat.le_of_ble_eq_true rfl⟩ rfl hl.1 rfl (Nat.le_of_ble_eq_true rfl) ⟨by show cells + 256 + 0 ≤ 600000; omega, by show slots + 1024 + 0 ≤ 7302250; omega⟩ dL_law_449 (fun H locs hZ => ?_)
  refine lv_icmp_eq (pc := 452) (tgt := 1119) hx hb dL_law_452 (by decide) (fun _ => ?_) (fun h => absurd rfl h)
  exact kk u.1 u.2 H locs hZ
set_option maxHeartbeats 4000000 in
set_option maxRecDepth 100000 in
theorem law_case_9 {p : Program} {l : Launch} {e : Env} {s : State} {m : MethodId} {args : Array Value} {below : List Frame} {meth : Method} {c : Code} {H : Heap} {locs : List Loc} {cells slots : Nat} {Q : State → Prop} {A : Nat → Prop} {H0 : Heap} {D : va_G} {cy : Nat → ClassId} {a0 aT aP b0 : Nat → Nat} {σ μ τ ν : zS} {ls : Array Slot} {b L k N : Nat} {xs : Nat → Int32} {r : Int32} (hC : zC p s m args c RL cL_law 4 D cy) (hA : ∀ q, H0.size ≤ q → A q) (hXs : va_X b L xs s H0) (hbl : b < H0.size) (hbA : ¬ A b) (hk : 6 * k + 6 ≤ L) (hL : L ≤ 3072) (hcs : cells + 300 ≤ 600000 ∧ slots + 1100 ≤ 7302250) (hZ : zLW D cy a0 aT aP b0 A H0 σ μ H locs) (hl : lv_has ls 4 [(0, .ref b), (1, .ref (a0 0)), (2, .ref (b0 0)), (3, .int (nI (6 * k)))]) (hfx : fX7_judge N (xs (6 * k + 1)) (xs (6 * k + 2)) σ = some (r, τ)) (hfm : fX8_judge N (xs (6 * k + 1)) (xs (6 * k + 2)) μ = some (r, ν)) (kk : ∀ (aT aP : Nat → Nat) (H : Heap) (locs : List Loc), zLW D cy a0 aT aP b0 A H0 τ ν H locs → W p l e room_1 s m args below meth c H locs (cells + 0) (slots + 0) Q (F0 m 1119 ls [])) : W p l e room_1 s m args below meth c H locs cells slots Q (F0 m 457 ls []) := by
  have hx := hC.1.1
  have hb := hC.1.2.1
  refine lv_aload_n (pc := 457) hx hb dL_law_457 rfl (lv_at hl 1 rfl) ?_
  refine lv_aload_n (pc := 458) hx hb dL_law_458 rfl (lv_at hl 0 rfl) ?_
  refine lv_iload_n (pc := 459) hx hb dL_law_459 rfl (lv_at hl 3 rfl) ?_
  refine lv_iconst (pc := 460) (v := (1 : Int32)) hx hb dL_law_460 (by decide) ?_
  refine lv_iadd (pc := 461) hx hb dL_law_461 ?_
  refine law_sld (pc := 462) (q := 6 * k + 1) hC hXs hbl hbA hZ.2.2 (nI_add (6 * k) 1) (by omega) hL dL_law_462 ?_
  refine lv_aload_n (pc := 463) hx hb dL_law_463 rfl (lv_at hl 0 rfl) ?_
  refine lv_iload_n (pc := 464) hx hb dL_law_464 rfl (lv_at hl 3 rfl) ?_
  refine lv_iconst (pc := 465) (v := (2 : Int32)) hx hb dL_law_465 (by decide) ?_
  refine lv_iadd (pc := 466) hx hb dL_law_466 ?_
  refine law_sld (pc := 467) (q := 6 * k + 2) hC hXs hbl hbA hZ.2.2 (nI_add (6 * k) 2) (by omega) hL dL_law_467 ?_
  refine lawXi (pc := 468) (rm := rmX7_judge) (cells := cells) (slots := slots) hC hA hZ vkL_54 rfl (cX7_judge_ok l D cy a0 aT aP N (xs (6 * k + 1)) (xs (6 * k + 2)) σ r τ hfx) ⟨Nat.le_of_ble_eq_true rfl, Nat.le_of_ble_eq_true rfl⟩ rfl hl.1 rfl (Nat.le_of_ble_eq_true rfl) ⟨by show cells + 0 ≤ 600000; omega, by show slots + 0 ≤ 7302250; omega⟩ dL_law_468 (fun u H locs hU hZ => ?_)
  refine lv_aload_n (pc := 471) hx hb dL_law_471 rfl (lv_at hl 2 rfl) ?_
  refine lv_aload_n (pc := 472) hx hb dL_law_472 rfl (lv_at hl 0 rfl) ?_
  refine lv_iload_n (pc := 473) hx hb dL_law_473 rfl (lv_at hl 3 rfl) ?_
  refine lv_iconst (pc := 474) (v := (1 : Int32)) hx hb dL_law_474 (by decide) ?_
  refine lv_iadd (pc := 475) hx hb dL_law_475 ?_
  refine law_sld (pc := 476) (q := 6 * k + 1) hC hXs hbl hbA hZ.2.2 (nI_add (6 * k) 1) (by omega) hL dL_law_476 ?_
  refine lv_aload_n (pc := 477) hx hb dL_law_477 rfl (lv_at hl 0 rfl) ?_
  refine lv_iload_n (pc := 478) hx hb dL_law_478 rfl (lv_at hl 3 rfl) ?_
  refine lv_iconst (pc := 479) (v := (2 : Int32)) hx hb dL_law_479 (by decide) ?_
  refine lv_iadd (pc := 480) hx hb dL_law_480 ?_
  refine law_sld (pc := 481) (q := 6 * k + 2) hC hXs hbl hbA hZ.2.2 (nI_add (6 * k) 2) (by omega) hL dL_law_481 ?_
  refine lawMi (pc := 482) (rm := rmX8_judge) (cells := cells + 0) (slots := slots + 0) hC hA hZ vkL_57 rfl (cX8_judge_ok l D cy b0 zf0 zf0 N (xs (6 * k + 1)) (xs (6 * k + 2)) μ r ν hfm) ⟨Nat.le_of_ble_eq_true rfl, Nat.le_of_ble_eq_true rfl⟩ rfl hl.1 rfl (Nat.le_of_ble_eq_true rfl) ⟨by show cells + 0 + 0 ≤ 600000; omega, by show slots + 0 + 0 ≤ 7302250; omega⟩ dL_law_482 (fun H locs hZ => ?_)
  refine lv_icmp_eq (pc := 485) (tgt := 1119) hx hb dL_law_485 (by decide) (fun _ => ?_) (fun h => absurd rfl h)
  exact kk u.1 u.2 H locs hZ
set_option maxHeartbeats 4000000 in
set_option maxRecDepth 100000 in
theorem law_case_10 {p : Program} {l : Launch} {e : Env} {s : State} {m : MethodId} {args : Array Value} {below : List Frame} {meth : Method} {c : Code} {H : Heap} {locs : List Loc} {cells slots : Nat} {Q : State → Prop} {A : Nat → Prop} {H0 : Heap} {D : va_G} {cy : Nat → ClassId} {a0 aT aP b0 : Nat → Nat} {σ μ τ ν : zS} {ls : Array Slot} {b L k N : Nat} {xs : Nat → Int32} {r : Int32} (hC : zC p s m args c RL cL_law 4 D cy) (hA : ∀ q, H0.size ≤ q → A q) (hXs : va_X b L xs s H0) (hbl : b < H0.size) (hbA : ¬ A b) (hk : 6 * k + 6 ≤ L) (hL : L ≤ 3072) (hcs : cells + 300 ≤ 600000 ∧ slots + 1100 ≤ 7302250) (hZ : zLW D cy a0 aT aP b0 A H0 σ μ H locs) (hl : lv_has ls 4 [(0, .ref b), (1, .ref (a0 0)), (2, .ref (b0 0)), (3, .int (nI (6 * k)))]) (hfx : fX7_found N (xs (6 * k + 1)) (xs (6 * k + 2)) (xs (6 * k + 3)) σ = some (r, τ)) (hfm : fX8_found N (xs (6 * k + 1)) (xs (6 * k + 2)) (xs (6 * k + 3)) μ = some (r, ν)) (kk : ∀ (aT aP : Nat → Nat) (H : Heap) (locs : List Loc), zLW D cy a0 aT aP b0 A H0 τ ν H locs → W p l e room_1 s m args below meth c H locs (cells + 0) (slots + 0) Q (F0 m 1119 ls [])) : W p l e room_1 s m args below meth c H locs cells slots Q (F0 m 490 ls []) := by
  have hx := hC.1.1
  have hb := hC.1.2.1
  refine lv_aload_n (pc := 490) hx hb dL_law_490 rfl (lv_at hl 1 rfl) ?_
  refine lv_aload_n (pc := 491) hx hb dL_law_491 rfl (lv_at hl 0 rfl) ?_
  refine lv_iload_n (pc := 492) hx hb dL_law_492 rfl (lv_at hl 3 rfl) ?_
  refine lv_iconst (pc := 493) (v := (1 : Int32)) hx hb dL_law_493 (by decide) ?_
  refine lv_iadd (pc := 494) hx hb dL_law_494 ?_
  refine law_sld (pc := 495) (q := 6 * k + 1) hC hXs hbl hbA hZ.2.2 (nI_add (6 * k) 1) (by omega) hL dL_law_495 ?_
  refine lv_aload_n (pc := 496) hx hb dL_law_496 rfl (lv_at hl 0 rfl) ?_
  refine lv_iload_n (pc := 497) hx hb dL_law_497 rfl (lv_at hl 3 rfl) ?_
  refine lv_iconst (pc := 498) (v := (2 : Int32)) hx hb dL_law_498 (by decide) ?_
  refine lv_iadd (pc := 499) hx hb dL_law_499 ?_
  refine law_sld (pc := 500) (q := 6 * k + 2) hC hXs hbl hbA hZ.2.2 (nI_add (6 * k) 2) (by omega) hL dL_law_500 ?_
  refine lv_aload_n (pc := 501) hx hb dL_law_501 rfl (lv_at hl 0 rfl) ?_
  refine lv_iload_n (pc := 502) hx hb dL_law_502 rfl (lv_at hl 3 rfl) ?_
  refine lv_iconst (pc := 503) (v := (3 : Int32)) hx hb dL_law_503 (by decide) ?_
  refine lv_iadd (pc := 504) hx hb dL_law_504 ?_
  refine law_sld (pc := 505) (q := 6 * k + 3) hC hXs hbl hbA hZ.2.2 (nI_add (6 * k) 3) (by omega) hL dL_law_505 ?_
  refine lawXi (pc := 506) (rm := rmX7_found) (cells := cells) (slots := slots) hC hA hZ vkL_58 rfl (cX7_found_ok l D cy a0 aT aP N (xs (6 * k + 1)) (xs (6 * k + 2)) (xs (6 * k + 3)) σ r τ hfx) ⟨Nat.le_of_ble_eq_true rfl, Nat.le_of_ble_eq_true rfl⟩ rfl hl.1 rfl (Nat.le_of_ble_eq_true rfl) ⟨by show cells + 0 ≤ 600000; omega, by show slots + 0 ≤ 7302250; omega⟩ dL_law_506 (fun u H locs hU hZ => ?_)
  refine lv_aload_n (pc := 509) hx hb dL_law_509 rfl (lv_at hl 2 rfl) ?_
  refine lv_aload_n (pc := 510) hx hb dL_law_510 rfl (lv_at hl 0 rfl) ?_
  refine lv_iload_n (pc := 511) hx hb dL_law_511 rfl (lv_at hl 3 rfl) ?_
  refine lv_iconst (pc := 512) (v := (1 : Int32)) hx hb dL_law_512 (by decide) ?_
  refine lv_iadd (pc := 513) hx hb dL_law_513 ?_
  refine law_sld (pc := 514) (q := 6 * k + 1) hC hXs hbl hbA hZ.2.2 (nI_add (6 * k) 1) (by omega) hL dL_law_514 ?_
  refine lv_aload_n (pc := 515) hx hb dL_law_515 rfl (lv_at hl 0 rfl) ?_
  refine lv_iload_n (pc := 516) hx hb dL_law_516 rfl (lv_at hl 3 rfl) ?_
  refine lv_iconst (pc := 517) (v := (2 : Int32)) hx hb dL_law_517 (by decide) ?_
  refine lv_iadd (pc := 518) hx hb dL_law_518 ?_
  refine law_sld (pc := 519) (q := 6 * k + 2) hC hXs hbl hbA hZ.2.2 (nI_add (6 * k) 2) (by omega) hL dL_law_519 ?_
  refine lv_aload_n (pc := 520) hx hb dL_law_520 rfl (lv_at hl 0 rfl) ?_
  refine lv_iload_n (pc := 521) hx hb dL_law_521 rfl (lv_at hl 3 rfl) ?_
  refine lv_iconst (pc := 522) (v := (3 : Int32)) hx hb dL_law_522 (by decide) ?_
  refine lv_iadd (pc := 523) hx hb dL_law_523 ?_
  refine law_sld (pc := 524) (q := 6 * k + 3) hC hXs hbl hbA hZ.2.2 (nI_add (6 * k) 3) (by omega) hL dL_law_524 ?_
  refine lawMi (pc := 525) (rm := rmX8_found) (cells := cells + 0) (slots := slots + 0) hC hA hZ vkL_61 rfl (cX8_found_ok l D cy b0 zf0 zf0 N (xs (6 * k + 1)) (xs (6 * k + 2)) (xs (6 * k + 3)) μ r ν hfm) ⟨Nat.le_of_ble_eq_true rfl, Nat.le_of_ble_eq_true rfl⟩ rfl hl.1 rfl (Nat.le_of_ble_eq_true rfl) ⟨by show cells + 0 + 0 ≤ 600000; omega, by show slots + 0 + 0 ≤ 7302250; omega⟩ dL_law_525 (fun H locs hZ => ?_)
  refine lv_icmp_eq (pc := 528) (tgt := 1119) hx hb dL_law_528 (by decide) (fun _ => ?_) (fun h => absurd rfl h)
  exact kk u.1 u.2 H locs hZ
set_option maxHeartbeats 4000000 in
set_option maxRecDepth 100000 in
theorem law_case_11 {p : Program} {l : Launch} {e : Env} {s : State} {m : MethodId} {args : Array Value} {below : List Frame} {meth : Method} {c : Code} {H : Heap} {locs : List Loc} {cells slots : Nat} {Q : State → Prop} {A : Nat → Prop} {H0 : Heap} {D : va_G} {cy : Nat → ClassId} {a0 aT aP b0 : Nat → Nat} {σ μ τ ν : zS} {ls : Array Slot} {b L k N : Nat} {xs : Nat → Int32} {r : Int32} (hC : zC p s m args c RL cL_law 4 D cy) (hA : ∀ q, H0.size ≤ q → A q) (hXs : va_X b L xs s H0) (hbl : b < H0.size) (hbA : ¬ A b) (hk : 6 * k + 6 ≤ L) (hL : L ≤ 3072) (hcs : cells + 300 ≤ 600000 ∧ slots + 1100 ≤ 7302250) (hZ : zLW D cy a0 aT aP b0 A H0 σ μ H locs) (hl : lv_has ls 4 [(0, .ref b), (1, .ref (a0 0)), (2, .ref (b0 0)), (3, .int (nI (6 * k)))]) (hfx : fX7_account N (xs (6 * k + 1)) (xs (6 * k + 2)) (xs (6 * k + 3)) σ = some (r, τ)) (hfm : fX8_account N (xs (6 * k + 1)) (xs (6 * k + 2)) (xs (6 * k + 3)) μ = some (r, ν)) (kk : ∀ (aT aP : Nat → Nat) (H : Heap) (locs : List Loc), zLW D cy a0 aT aP b0 A H0 τ ν H locs → W p l e room_1 s m args below meth c H locs (cells + 0) (slots + 0) Q (F0 m 1119 ls [])) : W p l e room_1 s m args below meth c H locs cells slots Q (F0 m 533 ls []) := by
  have hx := hC.1.1
  have hb := hC.1.2.1
  refine lv_aload_n (pc := 533) hx hb dL_law_533 rfl (lv_at hl 1 rfl) ?_
  refine lv_aload_n (pc := 534) hx hb dL_law_534 rfl (lv_at hl 0 rfl) ?_
  refine lv_iload_n (pc := 535) hx hb dL_law_535 rfl (lv_at hl 3 rfl) ?_
  refine lv_iconst (pc := 536) (v := (1 : Int32)) hx hb dL_law_536 (by decide) ?_
  refine lv_iadd (pc := 537) hx hb dL_law_537 ?_
  refine law_sld (pc := 538) (q := 6 * k + 1) hC hXs hbl hbA hZ.2.2 (nI_add (6 * k) 1) (by omega) hL dL_law_538 ?_
  refine lv_aload_n (pc := 539) hx hb dL_law_539 rfl (lv_at hl 0 rfl) ?_
  refine lv_iload_n (pc := 540) hx hb dL_law_540 rfl (lv_at hl 3 rfl) ?_
  refine lv_iconst (pc := 541) (v := (2 : Int32)) hx hb dL_law_541 (by decide) ?_
  refine lv_iadd (pc := 542) hx hb dL_law_542 ?_
  refine law_sld (pc := 543) (q := 6 * k + 2) hC hXs hbl hbA hZ.2.2 (nI_add (6 * k) 2) (by omega) hL dL_law_543 ?_
  refine lv_aload_n (pc := 544) hx hb dL_law_544 rfl (lv_at hl 0 rfl) ?_
  refine lv_iload_n (pc := 545) hx hb dL_law_545 rfl (lv_at hl 3 rfl) ?_
  refine lv_iconst (pc := 546) (v := (3 : Int32)) hx hb dL_law_546 (by decide) ?_
  refine lv_iadd (pc := 547) hx hb dL_law_547 ?_
  refine law_sld (pc := 548) (q := 6 * k + 3) hC hXs hbl hbA hZ.2.2 (nI_add (6 * k) 3) (by omega) hL dL_law_548 ?_
  refine lawXi (pc := 549) (rm := rmX7_account) (cells := cells) (slots := slots) hC hA hZ vkL_62 rfl (cX7_account_ok l D cy a0 aT aP N (xs (6 * k + 1)) (xs (6 * k + 2)) (xs (6 * k + 3)) σ r τ hfx) ⟨Nat.le_of_ble_eq_true rfl, Nat.le_of_ble_eq_true rfl⟩ rfl hl.1 rfl (Nat.le_of_ble_eq_true rfl) ⟨by show cells + 0 ≤ 600000; omega, by show slots + 0 ≤ 7302250; omega⟩ dL_law_549 (fun u H locs hU hZ => ?_)
  refine lv_aload_n (pc := 552) hx hb dL_law_552 rfl (lv_at hl 2 rfl) ?_
  refine lv_aload_n (pc := 553) hx hb dL_law_553 rfl (lv_at hl 0 rfl) ?_
  refine lv_iload_n (pc := 554) hx hb dL_law_554 rfl (lv_at hl 3 rfl) ?_
  refine lv_iconst (pc := 555) (v := (1 : Int32)) hx hb dL_law_555 (by decide) ?_
  refine lv_iadd (pc := 556) hx hb dL_law_556 ?_
  refine law_sld (pc := 557) (q := 6 * k + 1) hC hXs hbl hbA hZ.2.2 (nI_add (6 * k) 1) (by omega) hL dL_law_557 ?_
  refine lv_aload_n (pc := 558) hx hb dL_law_558 rfl (lv_at hl 0 rfl) ?_
  refine lv_iload_n (pc := 559) hx hb dL_law_559 rfl (lv_at hl 3 rfl) ?_
  refine lv_iconst (pc := 560) (v := (2 : Int32)) hx hb dL_law_560 (by decide) ?_
  refine lv_iadd (pc := 561) hx hb dL_law_561 ?_
  refine law_sld (pc := 562) (q := 6 * k + 2) hC hXs hbl hbA hZ.2.2 (nI_add (6 * k) 2) (by omega) hL dL_law_562 ?_
  refine lv_aload_n (pc := 563) hx hb dL_law_563 rfl (lv_at hl 0 rfl) ?_
  refine lv_iload_n (pc := 564) hx hb dL_law_564 rfl (lv_at hl 3 rfl) ?_
  refine lv_iconst (pc := 565) (v := (3 : Int32)) hx hb dL_law_565 (by decide) ?_
  refine lv_iadd (pc := 566) hx hb dL_law_566 ?_
  refine law_sld (pc := 567) (q := 6 * k + 3) hC hXs hbl hbA hZ.2.2 (nI_add (6 * k) 3) (by omega) hL dL_law_567 ?_
  refine lawMi (pc := 568) (rm := rmX8_account) (cells := cells + 0) (slots := slots + 0) hC hA hZ vkL_65 rfl (cX8_account_ok l D cy b0 zf0 zf0 N (xs (6 * k + 1)) (xs (6 * k + 2)) (xs (6 * k + 3)) μ r ν hfm) ⟨Nat.le_of_ble_eq_true rfl, Nat.le_of_ble_eq_true rfl⟩ rfl hl.1 rfl (Nat.le_of_ble_eq_true rfl) ⟨by show cells + 0 + 0 ≤ 600000; omega, by show slots + 0 + 0 ≤ 7302250; omega⟩ dL_law_568 (fun H locs hZ => ?_)
  refine lv_icmp_eq (pc := 571) (tgt := 1119) hx hb dL_law_571 (by decide) (fun _ => ?_) (fun h => absurd rfl h)
  exact kk u.1 u.2 H locs hZ
set_option maxHeartbeats 4000000 in
set_option maxRecDepth 100000 in
theorem law_case_12 {p : Program} {l : Launch} {e : Env} {s : State} {m : MethodId} {args : Array Value} {below : List Frame} {meth : Method} {c : Code} {H : Heap} {locs : List Loc} {cells slots : Nat} {Q : State → Prop} {A : Nat → Prop} {H0 : Heap} {D : va_G} {cy : Nat → ClassId} {a0 aT aP b0 : Nat → Nat} {σ μ τ ν : zS} {ls : Array Slot} {b L k N : Nat} {xs : Nat → Int32} {r : Int32} (hC : zC p s m args c RL cL_law 4 D cy) (hA : ∀ q, H0.size ≤ q → A q) (hXs : va_X b L xs s H0) (hbl : b < H0.size) (hbA : ¬ A b) (hk : 6 * k + 6 ≤ L) (hL : L ≤ 3072) (hcs : cells + 300 ≤ 600000 ∧ slots + 1100 ≤ 7302250) (hZ : zLW D cy a0 aT aP b0 A H0 σ μ H locs) (hl : lv_has ls 4 [(0, .ref b), (1, .ref (a0 0)), (2, .ref (b0 0)), (3, .int (nI (6 * k)))]) (hfx : fX7_lost N (xs (6 * k + 1)) (xs (6 * k + 2)) σ = some (r, τ)) (hfm : fX8_lost N (xs (6 * k + 1)) (xs (6 * k + 2)) μ = some (r, ν)) (kk : ∀ (aT aP : Nat → Nat) (H : Heap) (locs : List Loc), zLW D cy a0 aT aP b0 A H0 τ ν H locs → W p l e room_1 s m args below meth c H locs (cells + 0) (slots + 0) Q (F0 m 1119 ls [])) : W p l e room_1 s m args below meth c H locs cells slots Q (F0 m 576 ls []) := by
  have hx := hC.1.1
  have hb := hC.1.2.1
  refine lv_aload_n (pc := 576) hx hb dL_law_576 rfl (lv_at hl 1 rfl) ?_
  refine lv_aload_n (pc := 577) hx hb dL_law_577 rfl (lv_at hl 0 rfl) ?_
  refine lv_iload_n (pc := 578) hx hb dL_law_578 rfl (lv_at hl 3 rfl) ?_
  refine lv_iconst (pc := 579) (v := (1 : Int32)) hx hb dL_law_579 (by decide) ?_
  refine lv_iadd (pc := 580) hx hb dL_law_580 ?_
  refine law_sld (pc := 581) (q := 6 * k + 1) hC hXs hbl hbA hZ.2.2 (nI_add (6 * k) 1) (by omega) hL dL_law_581 ?_
  refine lv_aload_n (pc := 582) hx hb dL_law_582 rfl (lv_at hl 0 rfl) ?_
  refine lv_iload_n (pc := 583) hx hb dL_law_583 rfl (lv_at hl 3 rfl) ?_
  refine lv_iconst (pc := 584) (v := (2 : Int32)) hx hb dL_law_584 (by decide) ?_
  refine lv_iadd (pc := 585) hx hb dL_law_585 ?_
  refine law_sld (pc := 586) (q := 6 * k + 2) hC hXs hbl hbA hZ.2.2 (nI_add (6 * k) 2) (by omega) hL dL_law_586 ?_
  refine lawXi (pc := 587) (rm := rmX7_lost) (cells := cells) (slots := slots) hC hA hZ vkL_66 rfl (cX7_lost_ok l D cy a0 aT aP N (xs (6 * k + 1)) (xs (6 * k + 2)) σ r τ hfx) ⟨Nat.le_of_ble_eq_true rfl, Nat.le_of_ble_eq_true rfl⟩ rfl hl.1 rfl (Nat.le_of_ble_eq_true rfl) ⟨by show cells + 0 ≤ 600000; omega, by show slots + 0 ≤ 7302250; omega⟩ dL_law_587 (fun u H locs hU hZ => ?_)
  refine lv_aload_n (pc := 590) hx hb dL_law_590 rfl (lv_at hl 2 rfl) ?_
  refine lv_aload_n (pc := 591) hx hb dL_law_591 rfl (lv_at hl 0 rfl) ?_
  refine lv_iload_n (pc := 592) hx hb dL_law_592 rfl (lv_at hl 3 rfl) ?_
  refine lv_iconst (pc := 593) (v := (1 : Int32)) hx hb dL_law_593 (by decide) ?_
  refine lv_iadd (pc := 594) hx hb dL_law_594 ?_
  refine law_sld (pc := 595) (q := 6 * k + 1) hC hXs hbl hbA hZ.2.2 (nI_add (6 * k) 1) (by omega) hL dL_law_595 ?_
  refine lv_aload_n (pc := 596) hx hb dL_law_596 rfl (lv_at hl 0 rfl) ?_
  refine lv_iload_n (pc := 597) hx hb dL_law_597 rfl (lv_at hl 3 rfl) ?_
  refine lv_iconst (pc := 598) (v := (2 : Int32)) hx hb dL_law_598 (by decide) ?_
  refine lv_iadd (pc := 599) hx hb dL_law_599 ?_
  refine law_sld (pc := 600) (q := 6 * k + 2) hC hXs hbl hbA hZ.2.2 (nI_add (6 * k) 2) (by omega) hL dL_law_600 ?_
  refine lawMi (pc := 601) (rm := rmX8_lost) (cells := cells + 0) (slots := slots + 0) hC hA hZ vkL_69 rfl (cX8_lost_ok l D cy b0 zf0 zf0 N (xs (6 * k + 1)) (xs (6 * k + 2)) μ r ν hfm) ⟨Nat.le_of_ble_eq_true rfl, Nat.le_of_ble_eq_true rfl⟩ rfl hl.1 rfl (Nat.le_of_ble_eq_true rfl) ⟨by show cells + 0 + 0 ≤ 600000; omega, by show slots + 0 + 0 ≤ 7302250; omega⟩ dL_law_601 (fun H locs hZ => ?_)
  refine lv_icmp_eq (pc := 604) (tgt := 1119) hx hb dL_law_604 (by decide) (fun _ => ?_) (fun h => absurd rfl h)
  exact kk u.1 u.2 H locs hZ
set_option maxHeartbeats 4000000 in
set_option maxRecDepth 100000 in
theorem law_case_13 {p : Program} {l : Launch} {e : Env} {s : State} {m : MethodId} {args : Array Value} {below : List Frame} {meth : Method} {c : Code} {H : Heap} {locs : List Loc} {cells slots : Nat} {Q : State → Prop} {A : Nat → Prop} {H0 : Heap} {D : va_G} {cy : Nat → ClassId} {a0 aT aP b0 : Nat → Nat} {σ μ τ ν : zS} {ls : Array Slot} {b L k N : Nat} {xs : Nat → Int32} {r : Int32} (hC : zC p s m args c RL cL_law 4 D cy) (hA : ∀ q, H0.size ≤ q → A q) (hXs : va_X b L xs s H0) (hbl : b < H0.size) (hbA : ¬ A b) (hk : 6 * k + 6 ≤ L) (hL : L ≤ 3072) (hcs : cells + 300 ≤ 600000 ∧ slots + 1100 ≤ 7302250) (hZ : zLW D cy a0 aT aP b0 A H0 σ μ H locs) (hl : lv_has ls 4 [(0, .ref b), (1, .ref (a0 0)), (2, .ref (b0 0)), (3, .int (nI (6 * k)))]) (hfx : fX7_turns N (xs (6 * k + 1)) (xs (6 * k + 2)) σ = some (r, τ)) (hfm : fX8_turns N (xs (6 * k + 1)) (xs (6 * k + 2)) μ = some (r, ν)) (kk : ∀ (aT aP : Nat → Nat) (H : Heap) (locs : List Loc), zLW D cy a0 aT aP b0 A H0 τ ν H locs → W p l e room_1 s m args below meth c H locs (cells + 0) (slots + 0) Q (F0 m 1119 ls [])) : W p l e room_1 s m args below meth c H locs cells slots Q (F0 m 609 ls []) := by
  have hx := hC.1.1
  have hb := hC.1.2.1
  refine lv_aload_n (pc := 609) hx hb dL_law_609 rfl (lv_at hl 1 rfl) ?_
  refine lv_aload_n (pc := 610) hx hb dL_law_610 rfl (lv_at hl 0 rfl) ?_
  refine lv_iload_n (pc := 611) hx hb dL_law_611 rfl (lv_at hl 3 rfl) ?_
  refine lv_iconst (pc := 612) (v := (1 : Int32)) hx hb dL_law_612 (by decide) ?_
  refine lv_iadd (pc := 613) hx hb dL_law_613 ?_
  refine law_sld (pc := 614) (q := 6 * k + 1) hC hXs hbl hbA hZ.2.2 (nI_add (6 * k) 1) (by omega) hL dL_law_614 ?_
  refine lv_aload_n (pc := 615) hx hb dL_law_615 rfl (lv_at hl 0 rfl) ?_
  refine lv_iload_n (pc := 616) hx hb dL_law_616 rfl (lv_at hl 3 rfl) ?_
  refine lv_iconst (pc := 617) (v := (2 : Int32)) hx hb dL_law_617 (by decide) ?_
  refine lv_iadd (pc := 618) hx hb dL_law_618 ?_
  refine law_sld (pc := 619) (q := 6 * k + 2) hC hXs hbl hbA hZ.2.2 (nI_add (6 * k) 2) (by omega) hL dL_law_619 ?_
  refine lawXi (pc := 620) (rm := rmX7_turns) (cells := cells) (slots := slots) hC hA hZ vkL_70 rfl (cX7_turns_ok l D cy a0 aT aP N (xs (6 * k + 1)) (xs (6 * k + 2)) σ r τ hfx) ⟨Nat.le_of_ble_eq_true rfl, Nat.le_of_ble_eq_true rfl⟩ rfl hl.1 rfl (Nat.le_of_ble_eq_true rfl) ⟨by show cells + 0 ≤ 600000; omega, by show slots + 0 ≤ 7302250; omega⟩ dL_law_620 (fun u H locs hU hZ => ?_)
  refine lv_aload_n (pc := 623) hx hb dL_law_623 rfl (lv_at hl 2 rfl) ?_
  refine lv_aload_n (pc := 624) hx hb dL_law_624 rfl (lv_at hl 0 rfl) ?_
  refine lv_iload_n (pc := 625) hx hb dL_law_625 rfl (lv_at hl 3 rfl) ?_
  refine lv_iconst (pc := 626) (v := (1 : Int32)) hx hb dL_law_626 (by decide) ?_
  refine lv_iadd (pc := 627) hx hb dL_law_627 ?_
  refine law_sld (pc := 628) (q := 6 * k + 1) hC hXs hbl hbA hZ.2.2 (nI_add (6 * k) 1) (by omega) hL dL_law_628 ?_
  refine lv_aload_n (pc := 629) hx hb dL_law_629 rfl (lv_at hl 0 rfl) ?_
  refine lv_iload_n (pc := 630) hx hb dL_law_630 rfl (lv_at hl 3 rfl) ?_
  refine lv_iconst (pc := 631) (v := (2 : Int32)) hx hb dL_law_631 (by decide) ?_
  refine lv_iadd (pc := 632) hx hb dL_law_632 ?_
  refine law_sld (pc := 633) (q := 6 * k + 2) hC hXs hbl hbA hZ.2.2 (nI_add (6 * k) 2) (by omega) hL dL_law_633 ?_
  refine lawMi (pc := 634) (rm := rmX8_turns) (cells := cells + 0) (slots := slots + 0) hC hA hZ vkL_73 rfl (cX8_turns_ok l D cy b0 zf0 zf0 N (xs (6 * k + 1)) (xs (6 * k + 2)) μ r ν hfm) ⟨Nat.le_of_ble_eq_true rfl, Nat.le_of_ble_eq_true rfl⟩ rfl hl.1 rfl (Nat.le_of_ble_eq_true rfl) ⟨by show cells + 0 + 0 ≤ 600000; omega, by show slots + 0 + 0 ≤ 7302250; omega⟩ dL_law_634 (fun H locs hZ => ?_)
  refine lv_icmp_eq (pc := 637) (tgt := 1119) hx hb dL_law_637 (by decide) (fun _ => ?_) (fun h => absurd rfl h)
  exact kk u.1 u.2 H locs hZ
set_option maxHeartbeats 4000000 in
set_option maxRecDepth 100000 in
theorem law_case_14 {p : Program} {l : Launch} {e : Env} {s : State} {m : MethodId} {args : Array Value} {below : List Frame} {meth : Method} {c : Code} {H : Heap} {locs : List Loc} {cells slots : Nat} {Q : State → Prop} {A : Nat → Prop} {H0 : Heap} {D : va_G} {cy : Nat → ClassId} {a0 aT aP b0 : Nat → Nat} {σ μ τ ν : zS} {ls : Array Slot} {b L k N : Nat} {xs : Nat → Int32} {r : Int32} (hC : zC p s m args c RL cL_law 4 D cy) (hA : ∀ q, H0.size ≤ q → A q) (hXs : va_X b L xs s H0) (hbl : b < H0.size) (hbA : ¬ A b) (hk : 6 * k + 6 ≤ L) (hL : L ≤ 3072) (hcs : cells + 300 ≤ 600000 ∧ slots + 1100 ≤ 7302250) (hZ : zLW D cy a0 aT aP b0 A H0 σ μ H locs) (hl : lv_has ls 4 [(0, .ref b), (1, .ref (a0 0)), (2, .ref (b0 0)), (3, .int (nI (6 * k)))]) (hfx : fX7_share N (xs (6 * k + 1)) (xs (6 * k + 2)) σ = some (r, τ)) (hfm : fX8_share N (xs (6 * k + 1)) (xs (6 * k + 2)) μ = some (r, ν)) (kk : ∀ (aT aP : Nat → Nat) (H : Heap) (locs : List Loc), zLW D cy a0 aT aP b0 A H0 τ ν H locs → W p l e room_1 s m args below meth c H locs (cells + 0) (slots + 0) Q (F0 m 1119 ls [])) : W p l e room_1 s m args below meth c H locs cells slots Q (F0 m 642 ls []) := by
  have hx := hC.1.1
  have hb := hC.1.2.1
  refine lv_aload_n (pc := 642) hx hb dL_law_642 rfl (lv_at hl 1 rfl) ?_
  refine lv_aload_n (pc := 643) hx hb dL_law_643 rfl (lv_at hl 0 rfl) ?_
  refine lv_iload_n (pc := 644) hx hb dL_law_644 rfl (lv_at hl 3 rfl) ?_
  refine lv_iconst (pc := 645) (v := (1 : Int32)) hx hb dL_law_645 (by decide) ?_
  refine lv_iadd (pc := 646) hx hb dL_law_646 ?_
  refine law_sld (pc := 647) (q := 6 * k + 1) hC hXs hbl hbA hZ.2.2 (nI_add (6 * k) 1) (by omega) hL dL_law_647 ?_
  refine lv_aload_n (pc := 648) hx hb dL_law_648 rfl (lv_at hl 0 rfl) ?_
  refine lv_iload_n (pc := 649) hx hb dL_law_649 rfl (lv_at hl 3 rfl) ?_
  refine lv_iconst (pc := 650) (v := (2 : Int32)) hx hb dL_law_650 (by decide) ?_
  refine lv_iadd (pc := 651) hx hb dL_law_651 ?_
  refine law_sld (pc := 652) (q := 6 * k + 2) hC hXs hbl hbA hZ.2.2 (nI_add (6 * k) 2) (by omega) hL dL_law_652 ?_
  refine lawXi (pc := 653) (rm := rmX7_share) (cells := cells) (slots := slots) hC hA hZ vkL_74 rfl (cX7_share_ok l D cy a0 aT aP N (xs (6 * k + 1)) (xs (6 * k + 2)) σ r τ hfx) ⟨Nat.le_of_ble_eq_true rfl, Nat.le_of_ble_eq_true rfl⟩ rfl hl.1 rfl (Nat.le_of_ble_eq_true rfl) ⟨by show cells + 0 ≤ 600000; omega, by show slots + 0 ≤ 7302250; omega⟩ dL_law_653 (fun u H locs hU hZ => ?_)
  refine lv_aload_n (pc := 656) hx hb dL_law_656 rfl (lv_at hl 2 rfl) ?_
  refine lv_aload_n (pc := 657) hx hb dL_law_657 rfl (lv_at hl 0 rfl) ?_
  refine lv_iload_n (pc := 658) hx hb dL_law_658 rfl (lv_at hl 3 rfl) ?_
  refine lv_iconst (pc := 659) (v := (1 : Int32)) hx hb dL_law_659 (by decide) ?_
  refine lv_iadd (pc := 660) hx hb dL_law_660 ?_
  refine law_sld (pc := 661) (q := 6 * k + 1) hC hXs hbl hbA hZ.2.2 (nI_add (6 * k) 1) (by omega) hL dL_law_661 ?_
  refine lv_aload_n (pc := 662) hx hb dL_law_662 rfl (lv_at hl 0 rfl) ?_
  refine lv_iload_n (pc := 663) hx hb dL_law_663 rfl (lv_at hl 3 rfl) ?_
  refine lv_iconst (pc := 664) (v := (2 : Int32)) hx hb dL_law_664 (by decide) ?_
  refine lv_iadd (pc := 665) hx hb dL_law_665 ?_
  refine law_sld (pc := 666) (q := 6 * k + 2) hC hXs hbl hbA hZ.2.2 (nI_add (6 * k) 2) (by omega) hL dL_law_666 ?_
  refine lawMi (pc := 667) (rm := rmX8_share) (cells := cells + 0) (slots := slots + 0) hC hA hZ vkL_77 rfl (cX8_share_ok l D cy b0 zf0 zf0 N (xs (6 * k + 1)) (xs (6 * k + 2)) μ r ν hfm) ⟨Nat.le_of_ble_eq_true rfl, Nat.le_of_ble_eq_true rfl⟩ rfl hl.1 rfl (Nat.le_of_ble_eq_true rfl) ⟨by show cells + 0 + 0 ≤ 600000; omega, by show slots + 0 + 0 ≤ 7302250; omega⟩ dL_law_667 (fun H locs hZ => ?_)
  refine lv_icmp_eq (pc := 670) (tgt := 1119) hx hb dL_law_670 (by decide) (fun _ => ?_) (fun h => absurd rfl h)
  exact kk u.1 u.2 H locs hZ
set_option maxHeartbeats 4000000 in
set_option maxRecDepth 100000 in
theorem law_case_15 {p : Program} {l : Launch} {e : Env} {s : State} {m : MethodId} {args : Array Value} {below : List Frame} {meth : Method} {c : Code} {H : Heap} {locs : List Loc} {cells slots : Nat} {Q : State → Prop} {A : Nat → Prop} {H0 : Heap} {D : va_G} {cy : Nat → ClassId} {a0 aT aP b0 : Nat → Nat} {σ μ τ ν : zS} {ls : Array Slot} {b L k N : Nat} {xs : Nat → Int32} {r : Int64} (hC : zC p s m args c RL cL_law 4 D cy) (hA : ∀ q, H0.size ≤ q → A q) (hXs : va_X b L xs s H0) (hbl : b < H0.size) (hbA : ¬ A b) (hk : 6 * k + 6 ≤ L) (hL : L ≤ 3072) (hcs : cells + 300 ≤ 600000 ∧ slots + 1100 ≤ 7302250) (hZ : zLW D cy a0 aT aP b0 A H0 σ μ H locs) (hl : lv_has ls 4 [(0, .ref b), (1, .ref (a0 0)), (2, .ref (b0 0)), (3, .int (nI (6 * k)))]) (hfx : fX7_fees N (xs (6 * k + 1)) (xs (6 * k + 2)) σ = some (r, τ)) (hfm : fX8_fees N (xs (6 * k + 1)) (xs (6 * k + 2)) μ = some (r, ν)) (kk : ∀ (aT aP : Nat → Nat) (H : Heap) (locs : List Loc), zLW D cy a0 aT aP b0 A H0 τ ν H locs → W p l e room_1 s m args below meth c H locs (cells + 0) (slots + 0) Q (F0 m 1119 ls [])) : W p l e room_1 s m args below meth c H locs cells slots Q (F0 m 675 ls []) := by
  have hx := hC.1.1
  have hb := hC.1.2.1
  refine lv_aload_n (pc := 675) hx hb dL_law_675 rfl (lv_at hl 1 rfl) ?_
  refine lv_aload_n (pc := 676) hx hb dL_law_676 rfl (lv_at hl 0 rfl) ?_
  refine lv_iload_n (pc := 677) hx hb dL_law_677 rfl (lv_at hl 3 rfl) ?_
  refine lv_iconst (pc := 678) (v := (1 : Int32)) hx hb dL_law_678 (by decide) ?_
  refine lv_iadd (pc := 679) hx hb dL_law_679 ?_
  refine law_sld (pc := 680) (q := 6 * k + 1) hC hXs hbl hbA hZ.2.2 (nI_add (6 * k) 1) (by omega) hL dL_law_680 ?_
  refine lv_aload_n (pc := 681) hx hb dL_law_681 rfl (lv_at hl 0 rfl) ?_
  refine lv_iload_n (pc := 682) hx hb dL_law_682 rfl (lv_at hl 3 rfl) ?_
  refine lv_iconst (pc := 683) (v := (2 : Int32)) hx hb dL_law_683 (by decide) ?_
  refine lv_iadd (pc := 684) hx hb dL_law_684 ?_
  refine law_sld (pc := 685) (q := 6 * k + 2) hC hXs hbl hbA hZ.2.2 (nI_add (6 * k) 2) (by omega) hL dL_law_685 ?_
  refine lawXl (pc := 686) (rm := rmX7_fees) (cells := cells) (slots := slots) hC hA hZ vkL_78 rfl (cX7_fees_ok l D cy a0 aT aP N (xs (6 * k + 1)) (xs (6 * k + 2)) σ r τ hfx) ⟨Nat.le_of_ble_eq_true rfl, Nat.le_of_ble_eq_true rfl⟩ rfl hl.1 rfl (Nat.le_of_ble_eq_true rfl) ⟨by show cells + 0 ≤ 600000; omega, by show slots + 0 ≤ 7302250; omega⟩ dL_law_686 (fun u H locs hU hZ => ?_)
  refine lv_aload_n (pc := 689) hx hb dL_law_689 rfl (lv_at hl 2 rfl) ?_
  refine lv_aload_n (pc := 690) hx hb dL_law_690 rfl (lv_at hl 0 rfl) ?_
  refine lv_iload_n (pc := 691) hx hb dL_law_691 rfl (lv_at hl 3 rfl) ?_
  refine lv_iconst (pc := 692) (v := (1 : Int32)) hx hb dL_law_692 (by decide) ?_
  refine lv_iadd (pc := 693) hx hb dL_law_693 ?_
  refine law_sld (pc := 694) (q := 6 * k + 1) hC hXs hbl hbA hZ.2.2 (nI_add (6 * k) 1) (by omega) hL dL_law_694 ?_
  refine lv_aload_n (pc := 695) hx hb dL_law_695 rfl (lv_at hl 0 rfl) ?_
  refine lv_iload_n (pc := 696) hx hb dL_law_696 rfl (lv_at hl 3 rfl) ?_
  refine lv_iconst (pc := 697) (v := (2 : Int32)) hx hb dL_law_697 (by decide) ?_
  refine lv_iadd (pc := 698) hx hb dL_law_698 ?_
  refine law_sld (pc := 699) (q := 6 * k + 2) hC hXs hbl hbA hZ.2.2 (nI_add (6 * k) 2) (by omega) hL dL_law_699 ?_
  refine lawMl (pc := 700) (rm := rmX8_fees) (cells := cells + 0) (slots := slots + 0) hC hA hZ vkL_82 rfl (cX8_fees_ok l D cy b0 zf0 zf0 N (xs (6 * k + 1)) (xs (6 * k + 2)) μ r ν hfm) ⟨Nat.le_of_ble_eq_true rfl, Nat.le_of_ble_eq_true rfl⟩ rfl hl.1 rfl (Nat.le_of_ble_eq_true rfl) ⟨by show cells + 0 + 0 ≤ 600000; omega, by show slots + 0 + 0 ≤ 7302250; omega⟩ dL_law_700 (fun H locs hZ => ?_)
  refine W.lcmp (pc := 703) hx hb dL_law_703 ?_
  refine lv_if_eq (pc := 704) (tgt := 1119) hx hb dL_law_704 (by decide) (fun _ => ?_) (fun h => absurd ((lg_cmp_eq r r).mpr rfl) h)
  exact kk u.1 u.2 H locs hZ
set_option maxHeartbeats 4000000 in
set_option maxRecDepth 100000 in
theorem law_case_16 {p : Program} {l : Launch} {e : Env} {s : State} {m : MethodId} {args : Array Value} {below : List Frame} {meth : Method} {c : Code} {H : Heap} {locs : List Loc} {cells slots : Nat} {Q : State → Prop} {A : Nat → Prop} {H0 : Heap} {D : va_G} {cy : Nat → ClassId} {a0 aT aP b0 : Nat → Nat} {σ μ τ ν : zS} {ls : Array Slot} {b L k N : Nat} {xs : Nat → Int32} {r : Int32} (hC : zC p s m args c RL cL_law 4 D cy) (hA : ∀ q, H0.size ≤ q → A q) (hXs : va_X b L xs s H0) (hbl : b < H0.size) (hbA : ¬ A b) (hk : 6 * k + 6 ≤ L) (hL : L ≤ 3072) (hcs : cells + 300 ≤ 600000 ∧ slots + 1100 ≤ 7302250) (hZ : zLW D cy a0 aT aP b0 A H0 σ μ H locs) (hl : lv_has ls 4 [(0, .ref b), (1, .ref (a0 0)), (2, .ref (b0 0)), (3, .int (nI (6 * k)))]) (hfx : fX7_close N  σ = some (r, τ)) (hfm : fX8_close N  μ = some (r, ν)) (kk : ∀ (aT aP : Nat → Nat) (H : Heap) (locs : List Loc), zLW D cy a0 aT aP b0 A H0 τ ν H locs → W p l e room_1 s m args below meth c H locs (cells + 0) (slots + 0) Q (F0 m 1119 ls [])) : W p l e room_1 s m args below meth c H locs cells slots Q (F0 m 709 ls []) := by
  have hx := hC.1.1
  have hb := hC.1.2.1
  refine lv_aload_n (pc := 709) hx hb dL_law_709 rfl (lv_at hl 1 rfl) ?_
  refine lawXi (pc := 710) (rm := rmX7_close) (cells := cells) (slots := slots) hC hA hZ vkL_83 rfl (cX7_close_ok l D cy a0 aT aP N  σ r τ hfx) ⟨Nat.le_of_ble_eq_true rfl, Nat.le_of_ble_eq_true rfl⟩ rfl hl.1 rfl (Nat.le_of_ble_eq_true rfl) ⟨by show cells + 0 ≤ 600000; omega, by show slots + 0 ≤ 7302250; omega⟩ dL_law_710 (fun u H locs hU hZ => ?_)
  refine lv_aload_n (pc := 713) hx hb dL_law_713 rfl (lv_at hl 2 rfl) ?_
  refine lawMi (pc := 714) (rm := rmX8_close) (cells := cells + 0) (slots := slots + 0) hC hA hZ vkL_86 rfl (cX8_close_ok l D cy b0 zf0 zf0 N  μ r ν hfm) ⟨Nat.le_of_ble_eq_true rfl, Nat.le_of_ble_eq_true rfl⟩ rfl hl.1 rfl (Nat.le_of_ble_eq_true rfl) ⟨by show cells + 0 + 0 ≤ 600000; omega, by show slots + 0 + 0 ≤ 7302250; omega⟩ dL_law_714 (fun H locs hZ => ?_)
  refine lv_icmp_eq (pc := 717) (tgt := 1119) hx hb dL_law_717 (by decide) (fun _ => ?_) (fun h => absurd rfl h)
  exact kk u.1 u.2 H locs hZ
set_option maxHeartbeats 4000000 in
set_option maxRecDepth 100000 in
theorem law_case_17 {p : Program} {l : Launch} {e : Env} {s : State} {m : MethodId} {args : Array Value} {below : List Frame} {meth : Method} {c : Code} {H : Heap} {locs : List Loc} {cells slots : Nat} {Q : State → Prop} {A : Nat → Prop} {H0 : Heap} {D : va_G} {cy : Nat → ClassId} {a0 aT aP b0 : Nat → Nat} {σ μ τ ν : zS} {ls : Array Slot} {b L k N : Nat} {xs : Nat → Int32} {r : Int64} (hC : zC p s m args c RL cL_law 4 D cy) (hA : ∀ q, H0.size ≤ q → A q) (hXs : va_X b L xs s H0) (hbl : b < H0.size) (hbA : ¬ A b) (hk : 6 * k + 6 ≤ L) (hL : L ≤ 3072) (hcs : cells + 300 ≤ 600000 ∧ slots + 1100 ≤ 7302250) (hZ : zLW D cy a0 aT aP b0 A H0 σ μ H locs) (hl : lv_has ls 4 [(0, .ref b), (1, .ref (a0 0)), (2, .ref (b0 0)), (3, .int (nI (6 * k)))]) (hfx : fX7_bill N (xs (6 * k + 1)) (xs (6 * k + 2)) σ = some (r, τ)) (hfm : fX8_bill N (xs (6 * k + 1)) (xs (6 * k + 2)) μ = some (r, ν)) (kk : ∀ (aT aP : Nat → Nat) (H : Heap) (locs : List Loc), zLW D cy a0 aT aP b0 A H0 τ ν H locs → W p l e room_1 s m args below meth c H locs (cells + 0) (slots + 0) Q (F0 m 1119 ls [])) : W p l e room_1 s m args below meth c H locs cells slots Q (F0 m 722 ls []) := by
  have hx := hC.1.1
  have hb := hC.1.2.1
  refine lv_aload_n (pc := 722) hx hb dL_law_722 rfl (lv_at hl 1 rfl) ?_
  refine lv_aload_n (pc := 723) hx hb dL_law_723 rfl (lv_at hl 0 rfl) ?_
  refine lv_iload_n (pc := 724) hx hb dL_law_724 rfl (lv_at hl 3 rfl) ?_
  refine lv_iconst (pc := 725) (v := (1 : Int32)) hx hb dL_law_725 (by decide) ?_
  refine lv_iadd (pc := 726) hx hb dL_law_726 ?_
  refine law_sld (pc := 727) (q := 6 * k + 1) hC hXs hbl hbA hZ.2.2 (nI_add (6 * k) 1) (by omega) hL dL_law_727 ?_
  refine lv_aload_n (pc := 728) hx hb dL_law_728 rfl (lv_at hl 0 rfl) ?_
  refine lv_iload_n (pc := 729) hx hb dL_law_729 rfl (lv_at hl 3 rfl) ?_
  refine lv_iconst (pc := 730) (v := (2 : Int32)) hx hb dL_law_730 (by decide) ?_
  refine lv_iadd (pc := 731) hx hb dL_law_731 ?_
  refine law_sld (pc := 732) (q := 6 * k + 2) hC hXs hbl hbA hZ.2.2 (nI_add (6 * k) 2) (by omega) hL dL_law_732 ?_
  refine lawXl (pc := 733) (rm := rmX7_bill) (cells := cells) (slots := slots) hC hA hZ vkL_87 rfl (cX7_bill_ok l D cy a0 aT aP N (xs (6 * k + 1)) (xs (6 * k + 2)) σ r τ hfx) ⟨Nat.le_of_ble_eq_true rfl, Nat.le_of_ble_eq_true rfl⟩ rfl hl.1 rfl (Nat.le_of_ble_eq_true rfl) ⟨by show cells + 0 ≤ 600000; omega, by show slots + 0 ≤ 7302250; omega⟩ dL_law_733 (fun u H locs hU hZ => ?_)
  refine lv_aload_n (pc := 736) hx hb dL_law_736 rfl (lv_at hl 2 rfl) ?_
  refine lv_aload_n (pc := 737) hx hb dL_law_737 rfl (lv_at hl 0 rfl) ?_
  refine lv_iload_n (pc := 738) hx hb dL_law_738 rfl (lv_at hl 3 rfl) ?_
  refine lv_iconst (pc := 739) (v := (1 : Int32)) hx hb dL_law_739 (by decide) ?_
  refine lv_iadd (pc := 740) hx hb dL_law_740 ?_
  refine law_sld (pc := 741) (q := 6 * k + 1) hC hXs hbl hbA hZ.2.2 (nI_add (6 * k) 1) (by omega) hL dL_law_741 ?_
  refine lv_aload_n (pc := 742) hx hb dL_law_742 rfl (lv_at hl 0 rfl) ?_
  refine lv_iload_n (pc := 743) hx hb dL_law_743 rfl (lv_at hl 3 rfl) ?_
  refine lv_iconst (pc := 744) (v := (2 : Int32)) hx hb dL_law_744 (by decide) ?_
  refine lv_iadd (pc := 745) hx hb dL_law_745 ?_
  refine law_sld (pc := 746) (q := 6 * k + 2) hC hXs hbl hbA hZ.2.2 (nI_add (6 * k) 2) (by omega) hL dL_law_746 ?_
  refine lawMl (pc := 747) (rm := rmX8_bill) (cells := cells + 0) (slots := slots + 0) hC hA hZ vkL_90 rfl (cX8_bill_ok l D cy b0 zf0 zf0 N (xs (6 * k + 1)) (xs (6 * k + 2)) μ r ν hfm) ⟨Nat.le_of_ble_eq_true rfl, Nat.le_of_ble_eq_true rfl⟩ rfl hl.1 rfl (Nat.le_of_ble_eq_true rfl) ⟨by show cells + 0 + 0 ≤ 600000; omega, by show slots + 0 + 0 ≤ 7302250; omega⟩ dL_law_747 (fun H locs hZ => ?_)
  refine W.lcmp (pc := 750) hx hb dL_law_750 ?_
  refine lv_if_eq (pc := 751) (tgt := 1119) hx hb dL_law_751 (by decide) (fun _ => ?_) (fun h => absurd ((lg_cmp_eq r r).mpr rfl) h)
  exact kk u.1 u.2 H locs hZ
set_option maxHeartbeats 4000000 in
set_option maxRecDepth 100000 in
theorem law_case_18 {p : Program} {l : Launch} {e : Env} {s : State} {m : MethodId} {args : Array Value} {below : List Frame} {meth : Method} {c : Code} {H : Heap} {locs : List Loc} {cells slots : Nat} {Q : State → Prop} {A : Nat → Prop} {H0 : Heap} {D : va_G} {cy : Nat → ClassId} {a0 aT aP b0 : Nat → Nat} {σ μ τ ν : zS} {ls : Array Slot} {b L k N : Nat} {xs : Nat → Int32} {r : Int32} (hC : zC p s m args c RL cL_law 4 D cy) (hA : ∀ q, H0.size ≤ q → A q) (hXs : va_X b L xs s H0) (hbl : b < H0.size) (hbA : ¬ A b) (hk : 6 * k + 6 ≤ L) (hL : L ≤ 3072) (hcs : cells + 300 ≤ 600000 ∧ slots + 1100 ≤ 7302250) (hZ : zLW D cy a0 aT aP b0 A H0 σ μ H locs) (hl : lv_has ls 4 [(0, .ref b), (1, .ref (a0 0)), (2, .ref (b0 0)), (3, .int (nI (6 * k)))]) (hfx : fX7_telling N (xs (6 * k + 1)) (xs (6 * k + 2)) σ = some (r, τ)) (hfm : fX8_telling N (xs (6 * k + 1)) (xs (6 * k + 2)) μ = some (r, ν)) (kk : ∀ (aT aP : Nat → Nat) (H : Heap) (locs : List Loc), zLW D cy a0 aT aP b0 A H0 τ ν H locs → W p l e room_1 s m args below meth c H locs (cells + 0) (slots + 0) Q (F0 m 1119 ls [])) : W p l e room_1 s m args below meth c H locs cells slots Q (F0 m 756 ls []) := by
  have hx := hC.1.1
  have hb := hC.1.2.1
  refine lv_aload_n (pc := 756) hx hb dL_law_756 rfl (lv_at hl 1 rfl) ?_
  refine lv_aload_n (pc := 757) hx hb dL_law_757 rfl (lv_at hl 0 rfl) ?_
  refine lv_iload_n (pc := 758) hx hb dL_law_758 rfl (lv_at hl 3 rfl) ?_
  refine lv_iconst (pc := 759) (v := (1 : Int32)) hx hb dL_law_759 (by decide) ?_
  refine lv_iadd (pc := 760) hx hb dL_law_760 ?_
  refine law_sld (pc := 761) (q := 6 * k + 1) hC hXs hbl hbA hZ.2.2 (nI_add (6 * k) 1) (by omega) hL dL_law_761 ?_
  refine lv_aload_n (pc := 762) hx hb dL_law_762 rfl (lv_at hl 0 rfl) ?_
  refine lv_iload_n (pc := 763) hx hb dL_law_763 rfl (lv_at hl 3 rfl) ?_
  refine lv_iconst (pc := 764) (v := (2 : Int32)) hx hb dL_law_764 (by decide) ?_
  refine lv_iadd (pc := 765) hx hb dL_law_765 ?_
  refine law_sld (pc := 766) (q := 6 * k + 2) hC hXs hbl hbA hZ.2.2 (nI_add (6 * k) 2) (by omega) hL dL_law_766 ?_
  refine lawXi (pc := 767) (rm := rmX7_telling) (cells := cells) (slots := slots) hC hA hZ vkL_91 rfl (cX7_telling_ok l D cy a0 aT aP N (xs (6 * k + 1)) (xs (6 * k + 2)) σ r τ hfx) ⟨Nat.le_of_ble_eq_true rfl, Nat.le_of_ble_eq_true rfl⟩ rfl hl.1 rfl (Nat.le_of_ble_eq_true rfl) ⟨by show cells + 0 ≤ 600000; omega, by show slots + 0 ≤ 7302250; omega⟩ dL_law_767 (fun u H locs hU hZ => ?_)
  refine lv_aload_n (pc := 770) hx hb dL_law_770 rfl (lv_at hl 2 rfl) ?_
  refine lv_aload_n (pc := 771) hx hb dL_law_771 rfl (lv_at hl 0 rfl) ?_
  refine lv_iload_n (pc := 772) hx hb dL_law_772 rfl (lv_at hl 3 rfl) ?_
  refine lv_iconst (pc := 773) (v := (1 : Int32)) hx hb dL_law_773 (by decide) ?_
  refine lv_iadd (pc := 774) hx hb dL_law_774 ?_
  refine law_sld (pc := 775) (q := 6 * k + 1) hC hXs hbl hbA hZ.2.2 (nI_add (6 * k) 1) (by omega) hL dL_law_775 ?_
  refine lv_aload_n (pc := 776) hx hb dL_law_776 rfl (lv_at hl 0 rfl) ?_
  refine lv_iload_n (pc := 777) hx hb dL_law_777 rfl (lv_at hl 3 rfl) ?_
  refine lv_iconst (pc := 778) (v := (2 : Int32)) hx hb dL_law_778 (by decide) ?_
  refine lv_iadd (pc := 779) hx hb dL_law_779 ?_
  refine law_sld (pc := 780) (q := 6 * k + 2) hC hXs hbl hbA hZ.2.2 (nI_add (6 * k) 2) (by omega) hL dL_law_780 ?_
  refine lawMi (pc := 781) (rm := rmX8_telling) (cells := cells + 0) (slots := slots + 0) hC hA hZ vkL_94 rfl (cX8_telling_ok l D cy b0 zf0 zf0 N (xs (6 * k + 1)) (xs (6 * k + 2)) μ r ν hfm) ⟨Nat.le_of_ble_eq_true rfl, Nat.le_of_ble_eq_true rfl⟩ rfl hl.1 rfl (Nat.le_of_ble_eq_true rfl) ⟨by show cells + 0 + 0 ≤ 600000; omega, by show slots + 0 + 0 ≤ 7302250; omega⟩ dL_law_781 (fun H locs hZ => ?_)
  refine lv_icmp_eq (pc := 784) (tgt := 1119) hx hb dL_law_784 (by decide) (fun _ => ?_) (fun h => absurd rfl h)
  exact kk u.1 u.2 H locs hZ
set_option maxHeartbeats 4000000 in
set_option maxRecDepth 100000 in
theorem law_case_19 {p : Program} {l : Launch} {e : Env} {s : State} {m : MethodId} {args : Array Value} {below : List Frame} {meth : Method} {c : Code} {H : Heap} {locs : List Loc} {cells slots : Nat} {Q : State → Prop} {A : Nat → Prop} {H0 : Heap} {D : va_G} {cy : Nat → ClassId} {a0 aT aP b0 : Nat → Nat} {σ μ τ ν : zS} {ls : Array Slot} {b L k N : Nat} {xs : Nat → Int32} {r : Int32} (hC : zC p s m args c RL cL_law 4 D cy) (hA : ∀ q, H0.size ≤ q → A q) (hXs : va_X b L xs s H0) (hbl : b < H0.size) (hbA : ¬ A b) (hk : 6 * k + 6 ≤ L) (hL : L ≤ 3072) (hcs : cells + 300 ≤ 600000 ∧ slots + 1100 ≤ 7302250) (hZ : zLW D cy a0 aT aP b0 A H0 σ μ H locs) (hl : lv_has ls 4 [(0, .ref b), (1, .ref (a0 0)), (2, .ref (b0 0)), (3, .int (nI (6 * k)))]) (hfx : fX7_pairOf N (xs (6 * k + 1)) (xs (6 * k + 2)) σ = some (r, τ)) (hfm : fX8_pairOf N (xs (6 * k + 1)) (xs (6 * k + 2)) μ = some (r, ν)) (kk : ∀ (aT aP : Nat → Nat) (H : Heap) (locs : List Loc), zLW D cy a0 aT aP b0 A H0 τ ν H locs → W p l e room_1 s m args below meth c H locs (cells + 0) (slots + 0) Q (F0 m 1119 ls [])) : W p l e room_1 s m args below meth c H locs cells slots Q (F0 m 789 ls []) := by
  have hx := hC.1.1
  have hb := hC.1.2.1
  refine lv_aload_n (pc := 789) hx hb dL_law_789 rfl (lv_at hl 1 rfl) ?_
  refine lv_aload_n (pc := 790) hx hb dL_law_790 rfl (lv_at hl 0 rfl) ?_
  refine lv_iload_n (pc := 791) hx hb dL_law_791 rfl (lv_at hl 3 rfl) ?_
  refine lv_iconst (pc := 792) (v := (1 : Int32)) hx hb dL_law_792 (by decide) ?_
  refine lv_iadd (pc := 793) hx hb dL_law_793 ?_
  refine law_sld (pc := 794) (q := 6 * k + 1) hC hXs hbl hbA hZ.2.2 (nI_add (6 * k) 1) (by omega) hL dL_law_794 ?_
  refine lv_aload_n (pc := 795) hx hb dL_law_795 rfl (lv_at hl 0 rfl) ?_
  refine lv_iload_n (pc := 796) hx hb dL_law_796 rfl (lv_at hl 3 rfl) ?_
  refine lv_iconst (pc := 797) (v := (2 : Int32)) hx hb dL_law_797 (by decide) ?_
  refine lv_iadd (pc := 798) hx hb dL_law_798 ?_
  refine law_sld (pc := 799) (q := 6 * k + 2) hC hXs hbl hbA hZ.2.2 (nI_add (6 * k) 2) (by omega) hL dL_law_799 ?_
  refine lawXi (pc := 800) (rm := rmX7_pairOf) (cells := cells) (slots := slots) hC hA hZ vkL_95 rfl (cX7_pairOf_ok l D cy a0 aT aP N (xs (6 * k + 1)) (xs (6 * k + 2)) σ r τ hfx) ⟨Nat.le_of_ble_eq_true rfl, Nat.le_of_ble_eq_true rfl⟩ rfl hl.1 rfl (Nat.le_of_ble_eq_true rfl) ⟨by show cells + 0 ≤ 600000; omega, by show slots + 0 ≤ 7302250; omega⟩ dL_law_800 (fun u H locs hU hZ => ?_)
  refine lv_aload_n (pc := 803) hx hb dL_law_803 rfl (lv_at hl 2 rfl) ?_
  refine lv_aload_n (pc := 804) hx hb dL_law_804 rfl (lv_at hl 0 rfl) ?_
  refine lv_iload_n (pc := 805) hx hb dL_law_805 rfl (lv_at hl 3 rfl) ?_
  refine lv_iconst (pc := 806) (v := (1 : Int32)) hx hb dL_law_806 (by decide) ?_
  refine lv_iadd (pc := 807) hx hb dL_law_807 ?_
  refine law_sld (pc := 808) (q := 6 * k + 1) hC hXs hbl hbA hZ.2.2 (nI_add (6 * k) 1) (by omega) hL dL_law_808 ?_
  refine lv_aload_n (pc := 809) hx hb dL_law_809 rfl (lv_at hl 0 rfl) ?_
  refine lv_iload_n (pc := 810) hx hb dL_law_810 rfl (lv_at hl 3 rfl) ?_
  refine lv_iconst (pc := 811) (v := (2 : Int32)) hx hb dL_law_811 (by decide) ?_
  refine lv_iadd (pc := 812) hx hb dL_law_812 ?_
  refine law_sld (pc := 813) (q := 6 * k + 2) hC hXs hbl hbA hZ.2.2 (nI_add (6 * k) 2) (by omega) hL dL_law_813 ?_
  refine lawMi (pc := 814) (rm := rmX8_pairOf) (cells := cells + 0) (slots := slots + 0) hC hA hZ vkL_98 rfl (cX8_pairOf_ok l D cy b0 zf0 zf0 N (xs (6 * k + 1)) (xs (6 * k + 2)) μ r ν hfm) ⟨Nat.le_of_ble_eq_true rfl, Nat.le_of_ble_eq_true rfl⟩ rfl hl.1 rfl (Nat.le_of_ble_eq_true rfl) ⟨by show cells + 0 + 0 ≤ 600000; omega, by show slots + 0 + 0 ≤ 7302250; omega⟩ dL_law_814 (fun H locs hZ => ?_)
  refine lv_icmp_eq (pc := 817) (tgt := 1119) hx hb dL_law_817 (by decide) (fun _ => ?_) (fun h => absurd rfl h)
  exact kk u.1 u.2 H locs hZ
set_option maxHeartbeats 4000000 in
set_option maxRecDepth 100000 in
theorem law_case_20 {p : Program} {l : Launch} {e : Env} {s : State} {m : MethodId} {args : Array Value} {below : List Frame} {meth : Method} {c : Code} {H : Heap} {locs : List Loc} {cells slots : Nat} {Q : State → Prop} {A : Nat → Prop} {H0 : Heap} {D : va_G} {cy : Nat → ClassId} {a0 aT aP b0 : Nat → Nat} {σ μ τ ν : zS} {ls : Array Slot} {b L k N : Nat} {xs : Nat → Int32} {r : Int32} (hC : zC p s m args c RL cL_law 4 D cy) (hA : ∀ q, H0.size ≤ q → A q) (hXs : va_X b L xs s H0) (hbl : b < H0.size) (hbA : ¬ A b) (hk : 6 * k + 6 ≤ L) (hL : L ≤ 3072) (hcs : cells + 300 ≤ 600000 ∧ slots + 1100 ≤ 7302250) (hZ : zLW D cy a0 aT aP b0 A H0 σ μ H locs) (hl : lv_has ls 4 [(0, .ref b), (1, .ref (a0 0)), (2, .ref (b0 0)), (3, .int (nI (6 * k)))]) (hfx : fX7_owe N (xs (6 * k + 1)) (xs (6 * k + 2)) (xs (6 * k + 3)) (xs (6 * k + 4)) σ = some (r, τ)) (hfm : fX8_owe N (xs (6 * k + 1)) (xs (6 * k + 2)) (xs (6 * k + 3)) (xs (6 * k + 4)) μ = some (r, ν)) (kk : ∀ (aT aP : Nat → Nat) (H : Heap) (locs : List Loc), zLW D cy a0 aT aP b0 A H0 τ ν H locs → W p l e room_1 s m args below meth c H locs (cells + 0) (slots + 0) Q (F0 m 1119 ls [])) : W p l e room_1 s m args below meth c H locs cells slots Q (F0 m 822 ls []) := by
  have hx := hC.1.1
  have hb := hC.1.2.1
  refine lv_aload_n (pc := 822) hx hb dL_law_822 rfl (lv_at hl 1 rfl) ?_
  refine lv_aload_n (pc := 823) hx hb dL_law_823 rfl (lv_at hl 0 rfl) ?_
  refine lv_iload_n (pc := 824) hx hb dL_law_824 rfl (lv_at hl 3 rfl) ?_
  refine lv_iconst (pc := 825) (v := (1 : Int32)) hx hb dL_law_825 (by decide) ?_
  refine lv_iadd (pc := 826) hx hb dL_law_826 ?_
  refine law_sld (pc := 827) (q := 6 * k + 1) hC hXs hbl hbA hZ.2.2 (nI_add (6 * k) 1) (by omega) hL dL_law_827 ?_
  refine lv_aload_n (pc := 828) hx hb dL_law_828 rfl (lv_at hl 0 rfl) ?_
  refine lv_iload_n (pc := 829) hx hb dL_law_829 rfl (lv_at hl 3 rfl) ?_
  refine lv_iconst (pc := 830) (v := (2 : Int32)) hx hb dL_law_830 (by decide) ?_
  refine lv_iadd (pc := 831) hx hb dL_law_831 ?_
  refine law_sld (pc := 832) (q := 6 * k + 2) hC hXs hbl hbA hZ.2.2 (nI_add (6 * k) 2) (by omega) hL dL_law_832 ?_
  refine lv_aload_n (pc := 833) hx hb dL_law_833 rfl (lv_at hl 0 rfl) ?_
  refine lv_iload_n (pc := 834) hx hb dL_law_834 rfl (lv_at hl 3 rfl) ?_
  refine lv_iconst (pc := 835) (v := (3 : Int32)) hx hb dL_law_835 (by decide) ?_
  refine lv_iadd (pc := 836) hx hb dL_law_836 ?_
  refine law_sld (pc := 837) (q := 6 * k + 3) hC hXs hbl hbA hZ.2.2 (nI_add (6 * k) 3) (by omega) hL dL_law_837 ?_
  refine lv_aload_n (pc := 838) hx hb dL_law_838 rfl (lv_at hl 0 rfl) ?_
  refine lv_iload_n (pc := 839) hx hb dL_law_839 rfl (lv_at hl 3 rfl) ?_
  refine lv_iconst (pc := 840) (v := (4 : Int32)) hx hb dL_law_840 (by decide) ?_
  refine lv_iadd (pc := 841) hx hb dL_law_841 ?_
  refine law_sld (pc := 842) (q := 6 * k + 4) hC hXs hbl hbA hZ.2.2 (nI_add (6 * k) 4) (by omega) hL dL_law_842 ?_
  refine lawXi (pc := 843) (rm := rmX7_owe) (cells := cells) (slots := slots) hC hA hZ vkL_99 rfl (cX7_owe_ok l D cy a0 aT aP N (xs (6 * k + 1)) (xs (6 * k + 2)) (xs (6 * k + 3)) (xs (6 * k + 4)) σ r τ hfx) ⟨Nat.le_of_ble_eq_true rfl, Nat.le_of_ble_eq_true rfl⟩ rfl hl.1 rfl (Nat.le_of_ble_eq_true rfl) ⟨by show cells + 0 ≤ 600000; omega, by show slots + 0 ≤ 7302250; omega⟩ dL_law_843 (fun u H locs hU hZ => ?_)
  refine lv_aload_n (pc := 846) hx hb dL_law_846 rfl (lv_at hl 2 rfl) ?_
  refine lv_aload_n (pc := 847) hx hb dL_law_847 rfl (lv_at hl 0 rfl) ?_
  refine lv_iload_n (pc := 848) hx hb dL_law_848 rfl (lv_at hl 3 rfl) ?_
  refine lv_iconst (pc := 849) (v := (1 : Int32)) hx hb dL_law_849 (by decide) ?_
  refine lv_iadd (pc := 850) hx hb dL_law_850 ?_
  refine law_sld (pc := 851) (q := 6 * k + 1) hC hXs hbl hbA hZ.2.2 (nI_add (6 * k) 1) (by omega) hL dL_law_851 ?_
  refine lv_aload_n (pc := 852) hx hb dL_law_852 rfl (lv_at hl 0 rfl) ?_
  refine lv_iload_n (pc := 853) hx hb dL_law_853 rfl (lv_at hl 3 rfl) ?_
  refine lv_iconst (pc := 854) (v := (2 : Int32)) hx hb dL_law_854 (by decide) ?_
  refine lv_iadd (pc := 855) hx hb dL_law_855 ?_
  refine law_sld (pc := 856) (q := 6 * k + 2) hC hXs hbl hbA hZ.2.2 (nI_add (6 * k) 2) (by omega) hL dL_law_856 ?_
  refine lv_aload_n (pc := 857) hx hb dL_law_857 rfl (lv_at hl 0 rfl) ?_
  refine lv_iload_n (pc := 858) hx hb dL_law_858 rfl (lv_at hl 3 rfl) ?_
  refine lv_iconst (pc := 859) (v := (3 : Int32)) hx hb dL_law_859 (by decide) ?_
  refine lv_iadd (pc := 860) hx hb dL_law_860 ?_
  refine law_sld (pc := 861) (q := 6 * k + 3) hC hXs hbl hbA hZ.2.2 (nI_add (6 * k) 3) (by omega) hL dL_law_861 ?_
  refine lv_aload_n (pc := 862) hx hb dL_law_862 rfl (lv_at hl 0 rfl) ?_
  refine lv_iload_n (pc := 863) hx hb dL_law_863 rfl (lv_at hl 3 rfl) ?_
  refine lv_iconst (pc := 864) (v := (4 : Int32)) hx hb dL_law_864 (by decide) ?_
  refine lv_iadd (pc := 865) hx hb dL_law_865 ?_
  refine law_sld (pc := 866) (q := 6 * k + 4) hC hXs hbl hbA hZ.2.2 (nI_add (6 * k) 4) (by omega) hL dL_law_866 ?_
  refine lawMi (pc := 867) (rm := rmX8_owe) (cells := cells + 0) (slots := slots + 0) hC hA hZ vkL_103 rfl (cX8_owe_ok l D cy b0 zf0 zf0 N (xs (6 * k + 1)) (xs (6 * k + 2)) (xs (6 * k + 3)) (xs (6 * k + 4)) μ r ν hfm) ⟨Nat.le_of_ble_eq_true rfl, Nat.le_of_ble_eq_true rfl⟩ rfl hl.1 rfl (Nat.le_of_ble_eq_true rfl) ⟨by show cells + 0 + 0 ≤ 600000; omega, by show slots + 0 + 0 ≤ 7302250; omega⟩ dL_law_867 (fun H locs hZ => ?_)
  refine lv_icmp_eq (pc := 870) (tgt := 1119) hx hb dL_law_870 (by decide) (fun _ => ?_) (fun h => absurd rfl h)
  exact kk u.1 u.2 H locs hZ
set_option maxHeartbeats 4000000 in
set_option maxRecDepth 100000 in
theorem law_case_21 {p : Program} {l : Launch} {e : Env} {s : State} {m : MethodId} {args : Array Value} {below : List Frame} {meth : Method} {c : Code} {H : Heap} {locs : List Loc} {cells slots : Nat} {Q : State → Prop} {A : Nat → Prop} {H0 : Heap} {D : va_G} {cy : Nat → ClassId} {a0 aT aP b0 : Nat → Nat} {σ μ τ ν : zS} {ls : Array Slot} {b L k N : Nat} {xs : Nat → Int32} {r : Int32} (hC : zC p s m args c RL cL_law 4 D cy) (hA : ∀ q, H0.size ≤ q → A q) (hXs : va_X b L xs s H0) (hbl : b < H0.size) (hbA : ¬ A b) (hk : 6 * k + 6 ≤ L) (hL : L ≤ 3072) (hcs : cells + 300 ≤ 600000 ∧ slots + 1100 ≤ 7302250) (hZ : zLW D cy a0 aT aP b0 A H0 σ μ H locs) (hl : lv_has ls 4 [(0, .ref b), (1, .ref (a0 0)), (2, .ref (b0 0)), (3, .int (nI (6 * k)))]) (hfx : fX7_owes N (xs (6 * k + 1)) (xs (6 * k + 2)) (xs (6 * k + 3)) σ = some (r, τ)) (hfm : fX8_owes N (xs (6 * k + 1)) (xs (6 * k + 2)) (xs (6 * k + 3)) μ = some (r, ν)) (kk : ∀ (aT aP : Nat → Nat) (H : Heap) (locs : List Loc), zLW D cy a0 aT aP b0 A H0 τ ν H locs → W p l e room_1 s m args below meth c H locs (cells + 0) (slots + 0) Q (F0 m 1119 ls [])) : W p l e room_1 s m args below meth c H locs cells slots Q (F0 m 875 ls []) := by
  have hx := hC.1.1
  have hb := hC.1.2.1
  refine lv_aload_n (pc := 875) hx hb dL_law_875 rfl (lv_at hl 1 rfl) ?_
  refine lv_aload_n (pc := 876) hx hb dL_law_876 rfl (lv_at hl 0 rfl) ?_
  refine lv_iload_n (pc := 877) hx hb dL_law_877 rfl (lv_at hl 3 rfl) ?_
  refine lv_iconst (pc := 878) (v := (1 : Int32)) hx hb dL_law_878 (by decide) ?_
  refine lv_iadd (pc := 879) hx hb dL_law_879 ?_
  refine law_sld (pc := 880) (q := 6 * k + 1) hC hXs hbl hbA hZ.2.2 (nI_add (6 * k) 1) (by omega) hL dL_law_880 ?_
  refine lv_aload_n (pc := 881) hx hb dL_law_881 rfl (lv_at hl 0 rfl) ?_
  refine lv_iload_n (pc := 882) hx hb dL_law_882 rfl (lv_at hl 3 rfl) ?_
  refine lv_iconst (pc := 883) (v := (2 : Int32)) hx hb dL_law_883 (by decide) ?_
  refine lv_iadd (pc := 884) hx hb dL_law_884 ?_
  refine law_sld (pc := 885) (q := 6 * k + 2) hC hXs hbl hbA hZ.2.2 (nI_add (6 * k) 2) (by omega) hL dL_law_885 ?_
  refine lv_aload_n (pc := 886) hx hb dL_law_886 rfl (lv_at hl 0 rfl) ?_
  refine lv_iload_n (pc := 887) hx hb dL_law_887 rfl (lv_at hl 3 rfl) ?_
  refine lv_iconst (pc := 888) (v := (3 : Int32)) hx hb dL_law_888 (by decide) ?_
  refine lv_iadd (pc := 889) hx hb dL_law_889 ?_
  refine law_sld (pc := 890) (q := 6 * k + 3) hC hXs hbl hbA hZ.2.2 (nI_add (6 * k) 3) (by omega) hL dL_law_890 ?_
  refine lawXi (pc := 891) (rm := rmX7_owes) (cells := cells) (slots := slots) hC hA hZ vkL_104 rfl (cX7_owes_ok l D cy a0 aT aP N (xs (6 * k + 1)) (xs (6 * k + 2)) (xs (6 * k + 3)) σ r τ hfx) ⟨Nat.le_of_ble_eq_true rfl, Nat.le_of_ble_eq_true rfl⟩ rfl hl.1 rfl (Nat.le_of_ble_eq_true rfl) ⟨by show cells + 0 ≤ 600000; omega, by show slots + 0 ≤ 7302250; omega⟩ dL_law_891 (fun u H locs hU hZ => ?_)
  refine lv_aload_n (pc := 894) hx hb dL_law_894 rfl (lv_at hl 2 rfl) ?_
  refine lv_aload_n (pc := 895) hx hb dL_law_895 rfl (lv_at hl 0 rfl) ?_
  refine lv_iload_n (pc := 896) hx hb dL_law_896 rfl (lv_at hl 3 rfl) ?_
  refine lv_iconst (pc := 897) (v := (1 : Int32)) hx hb dL_law_897 (by decide) ?_
  refine lv_iadd (pc := 898) hx hb dL_law_898 ?_
  refine law_sld (pc := 899) (q := 6 * k + 1) hC hXs hbl hbA hZ.2.2 (nI_add (6 * k) 1) (by omega) hL dL_law_899 ?_
  refine lv_aload_n (pc := 900) hx hb dL_law_900 rfl (lv_at hl 0 rfl) ?_
  refine lv_iload_n (pc := 901) hx hb dL_law_901 rfl (lv_at hl 3 rfl) ?_
  refine lv_iconst (pc := 902) (v := (2 : Int32)) hx hb dL_law_902 (by decide) ?_
  refine lv_iadd (pc := 903) hx hb dL_law_903 ?_
  refine law_sld (pc := 904) (q := 6 * k + 2) hC hXs hbl hbA hZ.2.2 (nI_add (6 * k) 2) (by omega) hL dL_law_904 ?_
  refine lv_aload_n (pc := 905) hx hb dL_law_905 rfl (lv_at hl 0 rfl) ?_
  refine lv_iload_n (pc := 906) hx hb dL_law_906 rfl (lv_at hl 3 rfl) ?_
  refine lv_iconst (pc := 907) (v := (3 : Int32)) hx hb dL_law_907 (by decide) ?_
  refine lv_iadd (pc := 908) hx hb dL_law_908 ?_
  refine law_sld (pc := 909) (q := 6 * k + 3) hC hXs hbl hbA hZ.2.2 (nI_add (6 * k) 3) (by omega) hL dL_law_909 ?_
  refine lawMi (pc := 910) (rm := rmX8_owes) (cells := cells + 0) (slots := slots + 0) hC hA hZ vkL_107 rfl (cX8_owes_ok l D cy b0 zf0 zf0 N (xs (6 * k + 1)) (xs (6 * k + 2)) (xs (6 * k + 3)) μ r ν hfm) ⟨Nat.le_of_ble_eq_true rfl, Nat.le_of_ble_eq_true rfl⟩ rfl hl.1 rfl (Nat.le_of_ble_eq_true rfl) ⟨by show cells + 0 + 0 ≤ 600000; omega, by show slots + 0 + 0 ≤ 7302250; omega⟩ dL_law_910 (fun H locs hZ => ?_)
  refine lv_icmp_eq (pc := 913) (tgt := 1119) hx hb dL_law_913 (by decide) (fun _ => ?_) (fun h => absurd rfl h)
  exact kk u.1 u.2 H locs hZ
set_option maxHeartbeats 4000000 in
set_option maxRecDepth 100000 in
theorem law_case_22 {p : Program} {l : Launch} {e : Env} {s : State} {m : MethodId} {args : Array Value} {below : List Frame} {meth : Method} {c : Code} {H : Heap} {locs : List Loc} {cells slots : Nat} {Q : State → Prop} {A : Nat → Prop} {H0 : Heap} {D : va_G} {cy : Nat → ClassId} {a0 aT aP b0 : Nat → Nat} {σ μ τ ν : zS} {ls : Array Slot} {b L k N : Nat} {xs : Nat → Int32} {r : Int32} (hC : zC p s m args c RL cL_law 4 D cy) (hA : ∀ q, H0.size ≤ q → A q) (hXs : va_X b L xs s H0) (hbl : b < H0.size) (hbA : ¬ A b) (hk : 6 * k + 6 ≤ L) (hL : L ≤ 3072) (hcs : cells + 300 ≤ 600000 ∧ slots + 1100 ≤ 7302250) (hZ : zLW D cy a0 aT aP b0 A H0 σ μ H locs) (hl : lv_has ls 4 [(0, .ref b), (1, .ref (a0 0)), (2, .ref (b0 0)), (3, .int (nI (6 * k)))]) (hfx : fX7_ring N (xs (6 * k + 1)) (xs (6 * k + 2)) σ = some (r, τ)) (hfm : fX8_ring N (xs (6 * k + 1)) (xs (6 * k + 2)) μ = some (r, ν)) (kk : ∀ (aT aP : Nat → Nat) (H : Heap) (locs : List Loc), zLW D cy a0 aT aP b0 A H0 τ ν H locs → W p l e room_1 s m args below meth c H locs (cells + 0) (slots + 0) Q (F0 m 1119 ls [])) : W p l e room_1 s m args below meth c H locs cells slots Q (F0 m 918 ls []) := by
  have hx := hC.1.1
  have hb := hC.1.2.1
  refine lv_aload_n (pc := 918) hx hb dL_law_918 rfl (lv_at hl 1 rfl) ?_
  refine lv_aload_n (pc := 919) hx hb dL_law_919 rfl (lv_at hl 0 rfl) ?_
  refine lv_iload_n (pc := 920) hx hb dL_law_920 rfl (lv_at hl 3 rfl) ?_
  refine lv_iconst (pc := 921) (v := (1 : Int32)) hx hb dL_law_921 (by decide) ?_
  refine lv_iadd (pc := 922) hx hb dL_law_922 ?_
  refine law_sld (pc := 923) (q := 6 * k + 1) hC hXs hbl hbA hZ.2.2 (nI_add (6 * k) 1) (by omega) hL dL_law_923 ?_
  refine lv_aload_n (pc := 924) hx hb dL_law_924 rfl (lv_at hl 0 rfl) ?_
  refine lv_iload_n (pc := 925) hx hb dL_law_925 rfl (lv_at hl 3 rfl) ?_
  refine lv_iconst (pc := 926) (v := (2 : Int32)) hx hb dL_law_926 (by decide) ?_
  refine lv_iadd (pc := 927) hx hb dL_law_927 ?_
  refine law_sld (pc := 928) (q := 6 * k + 2) hC hXs hbl hbA hZ.2.2 (nI_add (6 * k) 2) (by omega) hL dL_law_928 ?_
  refine lawXi (pc := 929) (rm := rmX7_ring) (cells := cells) (slots := slots) hC hA hZ vkL_108 rfl (cX7_ring_ok l D cy a0 aT aP N (xs (6 * k + 1)) (xs (6 * k + 2)) σ r τ hfx) ⟨Nat.le_of_ble_eq_true rfl, Nat.le_of_ble_eq_true rfl⟩ rfl hl.1 rfl (Nat.le_of_ble_eq_true rfl) ⟨by show cells + 0 ≤ 600000; omega, by show slots + 0 ≤ 7302250; omega⟩ dL_law_929 (fun u H locs hU hZ => ?_)
  refine lv_aload_n (pc := 932) hx hb dL_law_932 rfl (lv_at hl 2 rfl) ?_
  refine lv_aload_n (pc := 933) hx hb dL_law_933 rfl (lv_at hl 0 rfl) ?_
  refine lv_iload_n (pc := 934) hx hb dL_law_934 rfl (lv_at hl 3 rfl) ?_
  refine lv_iconst (pc := 935) (v := (1 : Int32)) hx hb dL_law_935 (by decide) ?_
  refine lv_iadd (pc := 936) hx hb dL_law_936 ?_
  refine law_sld (pc := 937) (q := 6 * k + 1) hC hXs hbl hbA hZ.2.2 (nI_add (6 * k) 1) (by omega) hL dL_law_937 ?_
  refine lv_aload_n (pc := 938) hx hb dL_law_938 rfl (lv_at hl 0 rfl) ?_
  refine lv_iload_n (pc := 939) hx hb dL_law_939 rfl (lv_at hl 3 rfl) ?_
  refine lv_iconst (pc := 940) (v := (2 : Int32)) hx hb dL_law_940 (by decide) ?_
  refine lv_iadd (pc := 941) hx hb dL_law_941 ?_
  refine law_sld (pc := 942) (q := 6 * k + 2) hC hXs hbl hbA hZ.2.2 (nI_add (6 * k) 2) (by omega) hL dL_law_942 ?_
  refine lawMi (pc := 943) (rm := rmX8_ring) (cells := cells + 0) (slots := slots + 0) hC hA hZ vkL_111 rfl (cX8_ring_ok l D cy b0 zf0 zf0 N (xs (6 * k + 1)) (xs (6 * k + 2)) μ r ν hfm) ⟨Nat.le_of_ble_eq_true rfl, Nat.le_of_ble_eq_true rfl⟩ rfl hl.1 rfl (Nat.le_of_ble_eq_true rfl) ⟨by show cells + 0 + 0 ≤ 600000; omega, by show slots + 0 + 0 ≤ 7302250; omega⟩ dL_law_943 (fun H locs hZ => ?_)
  refine lv_icmp_eq (pc := 946) (tgt := 1119) hx hb dL_law_946 (by decide) (fun _ => ?_) (fun h => absurd rfl h)
  exact kk u.1 u.2 H locs hZ
set_option maxHeartbeats 4000000 in
set_option maxRecDepth 100000 in
theorem law_case_23 {p : Program} {l : Launch} {e : Env} {s : State} {m : MethodId} {args : Array Value} {below : List Frame} {meth : Method} {c : Code} {H : Heap} {locs : List Loc} {cells slots : Nat} {Q : State → Prop} {A : Nat → Prop} {H0 : Heap} {D : va_G} {cy : Nat → ClassId} {a0 aT aP b0 : Nat → Nat} {σ μ τ ν : zS} {ls : Array Slot} {b L k N : Nat} {xs : Nat → Int32} {r : Int32} (hC : zC p s m args c RL cL_law 4 D cy) (hA : ∀ q, H0.size ≤ q → A q) (hXs : va_X b L xs s H0) (hbl : b < H0.size) (hbA : ¬ A b) (hk : 6 * k + 6 ≤ L) (hL : L ≤ 3072) (hcs : cells + 300 ≤ 600000 ∧ slots + 1100 ≤ 7302250) (hZ : zLW D cy a0 aT aP b0 A H0 σ μ H locs) (hl : lv_has ls 4 [(0, .ref b), (1, .ref (a0 0)), (2, .ref (b0 0)), (3, .int (nI (6 * k)))]) (hfx : fX7_off N (xs (6 * k + 1)) σ = some (r, τ)) (hfm : fX8_off N (xs (6 * k + 1)) μ = some (r, ν)) (kk : ∀ (aT aP : Nat → Nat) (H : Heap) (locs : List Loc), zLW D cy a0 aT aP b0 A H0 τ ν H locs → W p l e room_1 s m args below meth c H locs (cells + 0) (slots + 0) Q (F0 m 1119 ls [])) : W p l e room_1 s m args below meth c H locs cells slots Q (F0 m 951 ls []) := by
  have hx := hC.1.1
  have hb := hC.1.2.1
  refine lv_aload_n (pc := 951) hx hb dL_law_951 rfl (lv_at hl 1 rfl) ?_
  refine lv_aload_n (pc := 952) hx hb dL_law_952 rfl (lv_at hl 0 rfl) ?_
  refine lv_iload_n (pc := 953) hx hb dL_law_953 rfl (lv_at hl 3 rfl) ?_
  refine lv_iconst (pc := 954) (v := (1 : Int32)) hx hb dL_law_954 (by decide) ?_
  refine lv_iadd (pc := 955) hx hb dL_law_955 ?_
  refine law_sld (pc := 956) (q := 6 * k + 1) hC hXs hbl hbA hZ.2.2 (nI_add (6 * k) 1) (by omega) hL dL_law_956 ?_
  refine lawXi (pc := 957) (rm := rmX7_off) (cells := cells) (slots := slots) hC hA hZ vkL_112 rfl (cX7_off_ok l D cy a0 aT aP N (xs (6 * k + 1)) σ r τ hfx) ⟨Nat.le_of_ble_eq_true rfl, Nat.le_of_ble_eq_true rfl⟩ rfl hl.1 rfl (Nat.le_of_ble_eq_true rfl) ⟨by show cells + 0 ≤ 600000; omega, by show slots + 0 ≤ 7302250; omega⟩ dL_law_957 (fun u H locs hU hZ => ?_)
  refine lv_aload_n (pc := 960) hx hb dL_law_960 rfl (lv_at hl 2 rfl) ?_
  refine lv_aload_n (pc := 961) hx hb dL_law_961 rfl (lv_at hl 0 rfl) ?_
  refine lv_iload_n (pc := 962) hx hb dL_law_962 rfl (lv_at hl 3 rfl) ?_
  refine lv_iconst (pc := 963) (v := (1 : Int32)) hx hb dL_law_963 (by decide) ?_
  refine lv_iadd (pc := 964) hx hb dL_law_964 ?_
  refine law_sld (pc := 965) (q := 6 * k + 1) hC hXs hbl hbA hZ.2.2 (nI_add (6 * k) 1) (by omega) hL dL_law_965 ?_
  refine lawMi (pc := 966) (rm := rmX8_off) (cells := cells + 0) (slots := slots + 0) hC hA hZ vkL_115 rfl (cX8_off_ok l D cy b0 zf0 zf0 N (xs (6 * k + 1)) μ r ν hfm) ⟨Nat.le_of_ble_eq_true rfl, Nat.le_of_ble_eq_true rfl⟩ rfl hl.1 rfl (Nat.le_of_ble_eq_true rfl) ⟨by show cells + 0 + 0 ≤ 600000; omega, by show slots + 0 + 0 ≤ 7302250; omega⟩ dL_law_966 (fun H locs hZ => ?_)
  refine lv_icmp_eq (pc := 969) (tgt := 1119) hx hb dL_law_969 (by decide) (fun _ => ?_) (fun h => absurd rfl h)
  exact kk u.1 u.2 H locs hZ
set_option maxHeartbeats 4000000 in
set_option maxRecDepth 100000 in
theorem law_case_24 {p : Program} {l : Launch} {e : Env} {s : State} {m : MethodId} {args : Array Value} {below : List Frame} {meth : Method} {c : Code} {H : Heap} {locs : List Loc} {cells slots : Nat} {Q : State → Prop} {A : Nat → Prop} {H0 : Heap} {D : va_G} {cy : Nat → ClassId} {a0 aT aP b0 : Nat → Nat} {σ μ τ ν : zS} {ls : Array Slot} {b L k N : Nat} {xs : Nat → Int32} {r : Int32} (hC : zC p s m args c RL cL_law 4 D cy) (hA : ∀ q, H0.size ≤ q → A q) (hXs : va_X b L xs s H0) (hbl : b < H0.size) (hbA : ¬ A b) (hk : 6 * k + 6 ≤ L) (hL : L ≤ 3072) (hcs : cells + 300 ≤ 600000 ∧ slots + 1100 ≤ 7302250) (hZ : zLW D cy a0 aT aP b0 A H0 σ μ H locs) (hl : lv_has ls 4 [(0, .ref b), (1, .ref (a0 0)), (2, .ref (b0 0)), (3, .int (nI (6 * k)))]) (hfx : fX7_want N (xs (6 * k + 1)) (xs (6 * k + 2)) (xs (6 * k + 3)) σ = some (r, τ)) (hfm : fX8_want N (xs (6 * k + 1)) (xs (6 * k + 2)) (xs (6 * k + 3)) μ = some (r, ν)) (kk : ∀ (aT aP : Nat → Nat) (H : Heap) (locs : List Loc), zLW D cy a0 aT aP b0 A H0 τ ν H locs → W p l e room_1 s m args below meth c H locs (cells + 0) (slots + 0) Q (F0 m 1119 ls [])) : W p l e room_1 s m args below meth c H locs cells slots Q (F0 m 974 ls []) := by
  have hx := hC.1.1
  have hb := hC.1.2.1
  refine lv_aload_n (pc := 974) hx hb dL_law_974 rfl (lv_at hl 1 rfl) ?_
  refine lv_aload_n (pc := 975) hx hb dL_law_975 rfl (lv_at hl 0 rfl) ?_
  refine lv_iload_n (pc := 976) hx hb dL_law_976 rfl (lv_at hl 3 rfl) ?_
  refine lv_iconst (pc := 977) (v := (1 : Int32)) hx hb dL_law_977 (by decide) ?_
  refine lv_iadd (pc := 978) hx hb dL_law_978 ?_
  refine law_sld (pc := 979) (q := 6 * k + 1) hC hXs hbl hbA hZ.2.2 (nI_add (6 * k) 1) (by omega) hL dL_law_979 ?_
  refine lv_aload_n (pc := 980) hx hb dL_law_980 rfl (lv_at hl 0 rfl) ?_
  refine lv_iload_n (pc := 981) hx hb dL_law_981 rfl (lv_at hl 3 rfl) ?_
  refine lv_iconst (pc := 982) (v := (2 : Int32)) hx hb dL_law_982 (by decide) ?_
  refine lv_iadd (pc := 983) hx hb dL_law_983 ?_
  refine law_sld (pc := 984) (q := 6 * k + 2) hC hXs hbl hbA hZ.2.2 (nI_add (6 * k) 2) (by omega) hL dL_law_984 ?_
  refine lv_aload_n (pc := 985) hx hb dL_law_985 rfl (lv_at hl 0 rfl) ?_
  refine lv_iload_n (pc := 986) hx hb dL_law_986 rfl (lv_at hl 3 rfl) ?_
  refine lv_iconst (pc := 987) (v := (3 : Int32)) hx hb dL_law_987 (by decide) ?_
  refine lv_iadd (pc := 988) hx hb dL_law_988 ?_
  refine law_sld (pc := 989) (q := 6 * k + 3) hC hXs hbl hbA hZ.2.2 (nI_add (6 * k) 3) (by omega) hL dL_law_989 ?_
  refine lawXi (pc := 990) (rm := rmX7_want) (cells := cells) (slots := slots) hC hA hZ vkL_116 rfl (cX7_want_ok l D cy a0 aT aP N (xs (6 * k + 1)) (xs (6 * k + 2)) (xs (6 * k + 3)) σ r τ hfx) ⟨Nat.le_of_ble_eq_true rfl, Nat.le_of_ble_eq_true rfl⟩ rfl hl.1 rfl (Nat.le_of_ble_eq_true rfl) ⟨by show cells + 0 ≤ 600000; omega, by show slots + 0 ≤ 7302250; omega⟩ dL_law_990 (fun u H locs hU hZ => ?_)
  refine lv_aload_n (pc := 993) hx hb dL_law_993 rfl (lv_at hl 2 rfl) ?_
  refine lv_aload_n (pc := 994) hx hb dL_law_994 rfl (lv_at hl 0 rfl) ?_
  refine lv_iload_n (pc := 995) hx hb dL_law_995 rfl (lv_at hl 3 rfl) ?_
  refine lv_iconst (pc := 996) (v := (1 : Int32)) hx hb dL_law_996 (by decide) ?_
  refine lv_iadd (pc := 997) hx hb dL_law_997 ?_
  refine law_sld (pc := 998) (q := 6 * k + 1) hC hXs hbl hbA hZ.2.2 (nI_add (6 * k) 1) (by omega) hL dL_law_998 ?_
  refine lv_aload_n (pc := 999) hx hb dL_law_999 rfl (lv_at hl 0 rfl) ?_
  refine lv_iload_n (pc := 1000) hx hb dL_law_1000 rfl (lv_at hl 3 rfl) ?_
  refine lv_iconst (pc := 1001) (v := (2 : Int32)) hx hb dL_law_1001 (by decide) ?_
  refine lv_iadd (pc := 1002) hx hb dL_law_1002 ?_
  refine law_sld (pc := 1003) (q := 6 * k + 2) hC hXs hbl hbA hZ.2.2 (nI_add (6 * k) 2) (by omega) hL dL_law_1003 ?_
  refine lv_aload_n (pc := 1004) hx hb dL_law_1004 rfl (lv_at hl 0 rfl) ?_
  refine lv_iload_n (pc := 1005) hx hb dL_law_1005 rfl (lv_at hl 3 rfl) ?_
  refine lv_iconst (pc := 1006) (v := (3 : Int32)) hx hb dL_law_1006 (by decide) ?_
  refine lv_iadd (pc := 1007) hx hb dL_law_1007 ?_
  refine law_sld (pc := 1008) (q := 6 * k + 3) hC hXs hbl hbA hZ.2.2 (nI_add (6 * k) 3) (by omega) hL dL_law_1008 ?_
  refine lawMi (pc := 1009) (rm := rmX8_want) (cells := cells + 0) (slots := slots + 0) hC hA hZ vkL_119 rfl (cX8_want_ok l D cy b0 zf0 zf0 N (xs (6 * k + 1)) (xs (6 * k + 2)) (xs (6 * k + 3)) μ r ν hfm) ⟨Nat.le_of_ble_eq_true rfl, Nat.le_of_ble_eq_true rfl⟩ rfl hl.1 rfl (Nat.le_of_ble_eq_true rfl) ⟨by show cells + 0 + 0 ≤ 600000; omega, by show slots + 0 + 0 ≤ 7302250; omega⟩ dL_law_1009 (fun H locs hZ => ?_)
  refine lv_icmp_eq (pc := 1012) (tgt := 1119) hx hb dL_law_1012 (by decide) (fun _ => ?_) (fun h => absurd rfl h)
  exact kk u.1 u.2 H locs hZ
set_option maxHeartbeats 4000000 in
set_option maxRecDepth 100000 in
theorem law_case_25 {p : Program} {l : Launch} {e : Env} {s : State} {m : MethodId} {args : Array Value} {below : List Frame} {meth : Method} {c : Code} {H : Heap} {locs : List Loc} {cells slots : Nat} {Q : State → Prop} {A : Nat → Prop} {H0 : Heap} {D : va_G} {cy : Nat → ClassId} {a0 aT aP b0 : Nat → Nat} {σ μ τ ν : zS} {ls : Array Slot} {b L k N : Nat} {xs : Nat → Int32} {r : Int32} (hC : zC p s m args c RL cL_law 4 D cy) (hA : ∀ q, H0.size ≤ q → A q) (hXs : va_X b L xs s H0) (hbl : b < H0.size) (hbA : ¬ A b) (hk : 6 * k + 6 ≤ L) (hL : L ≤ 3072) (hcs : cells + 300 ≤ 600000 ∧ slots + 1100 ≤ 7302250) (hZ : zLW D cy a0 aT aP b0 A H0 σ μ H locs) (hl : lv_has ls 4 [(0, .ref b), (1, .ref (a0 0)), (2, .ref (b0 0)), (3, .int (nI (6 * k)))]) (hfx : fX7_way N (xs (6 * k + 1)) (xs (6 * k + 2)) (xs (6 * k + 3)) σ = some (r, τ)) (hfm : fX8_way N (xs (6 * k + 1)) (xs (6 * k + 2)) (xs (6 * k + 3)) μ = some (r, ν)) (kk : ∀ (aT aP : Nat → Nat) (H : Heap) (locs : List Loc), zLW D cy a0 aT aP b0 A H0 τ ν H locs → W p l e room_1 s m args below meth c H locs (cells + 0) (slots + 0) Q (F0 m 1119 ls [])) : W p l e room_1 s m args below meth c H locs cells slots Q (F0 m 1017 ls []) := by
  have hx := hC.1.1
  have hb := hC.1.2.1
  refine lv_aload_n (pc := 1017) hx hb dL_law_1017 rfl (lv_at hl 1 rfl) ?_
  refine lv_aload_n (pc := 1018) hx hb dL_law_1018 rfl (lv_at hl 0 rfl) ?_
  refine lv_iload_n (pc := 1019) hx hb dL_law_1019 rfl (lv_at hl 3 rfl) ?_
  refine lv_iconst (pc := 1020) (v := (1 : Int32)) hx hb dL_law_1020 (by decide) ?_
  refine lv_iadd (pc := 1021) hx hb dL_law_1021 ?_
  refine law_sld (pc := 1022) (q := 6 * k + 1) hC hXs hbl hbA hZ.2.2 (nI_add (6 * k) 1) (by omega) hL dL_law_1022 ?_
  refine lv_aload_n (pc := 1023) hx hb dL_law_1023 rfl (lv_at hl 0 rfl) ?_
  refine lv_iload_n (pc := 1024) hx hb dL_law_1024 rfl (lv_at hl 3 rfl) ?_
  refine lv_iconst (pc := 1025) (v := (2 : Int32)) hx hb dL_law_1025 (by decide) ?_
  refine lv_iadd (pc := 1026) hx hb dL_law_1026 ?_
  refine law_sld (pc := 1027) (q := 6 * k + 2) hC hXs hbl hbA hZ.2.2 (nI_add (6 * k) 2) (by omega) hL dL_law_1027 ?_
  refine lv_aload_n (pc := 1028) hx hb dL_law_1028 rfl (lv_at hl 0 rfl) ?_
  refine lv_iload_n (pc := 1029) hx hb dL_law_1029 rfl (lv_at hl 3 rfl) ?_
  refine lv_iconst (pc := 1030) (v := (3 : Int32)) hx hb dL_law_1030 (by decide) ?_
  refine lv_iadd (pc := 1031) hx hb dL_law_1031 ?_
  refine law_sld (pc := 1032) (q := 6 * k + 3) hC hXs hbl hbA hZ.2.2 (nI_add (6 * k) 3) (by omega) hL dL_law_1032 ?_
  refine lawXi (pc := 1033) (rm := rmX7_way) (cells := cells) (slots := slots) hC hA hZ vkL_120 rfl (cX7_way_ok l D cy a0 aT aP N (xs (6 * k + 1)) (xs (6 * k + 2)) (xs (6 * k + 3)) σ r τ hfx) ⟨Nat.le_of_ble_eq_true rfl, Nat.le_of_ble_eq_true rfl⟩ rfl hl.1 rfl (Nat.le_of_ble_eq_true rfl) ⟨by show cells + 0 ≤ 600000; omega, by show slots + 0 ≤ 7302250; omega⟩ dL_law_1033 (fun u H locs hU hZ => ?_)
  refine lv_aload_n (pc := 1036) hx hb dL_law_1036 rfl (lv_at hl 2 rfl) ?_
  refine lv_aload_n (pc := 1037) hx hb dL_law_1037 rfl (lv_at hl 0 rfl) ?_
  refine lv_iload_n (pc := 1038) hx hb dL_law_1038 rfl (lv_at hl 3 rfl) ?_
  refine lv_iconst (pc := 1039) (v := (1 : Int32)) hx hb dL_law_1039 (by decide) ?_
  refine lv_iadd (pc := 1040) hx hb dL_law_1040 ?_
  refine law_sld (pc := 1041) (q := 6 * k + 1) hC hXs hbl hbA hZ.2.2 (nI_add (6 * k) 1) (by omega) hL dL_law_1041 ?_
  refine lv_aload_n (pc := 1042) hx hb dL_law_1042 rfl (lv_at hl 0 rfl) ?_
  refine lv_iload_n (pc := 1043) hx hb dL_law_1043 rfl (lv_at hl 3 rfl) ?_
  refine lv_iconst (pc := 1044) (v := (2 : Int32)) hx hb dL_law_1044 (by decide) ?_
  refine lv_iadd (pc := 1045) hx hb dL_law_1045 ?_
  refine law_sld (pc := 1046) (q := 6 * k + 2) hC hXs hbl hbA hZ.2.2 (nI_add (6 * k) 2) (by omega) hL dL_law_1046 ?_
  refine lv_aload_n (pc := 1047) hx hb dL_law_1047 rfl (lv_at hl 0 rfl) ?_
  refine lv_iload_n (pc := 1048) hx hb dL_law_1048 rfl (lv_at hl 3 rfl) ?_
  refine lv_iconst (pc := 1049) (v := (3 : Int32)) hx hb dL_law_1049 (by decide) ?_
  refine lv_iadd (pc := 1050) hx hb dL_law_1050 ?_
  refine law_sld (pc := 1051) (q := 6 * k + 3) hC hXs hbl hbA hZ.2.2 (nI_add (6 * k) 3) (by omega) hL dL_law_1051 ?_
  refine lawMi (pc := 1052) (rm := rmX8_way) (cells := cells + 0) (slots := slots + 0) hC hA hZ vkL_123 rfl (cX8_way_ok l D cy b0 zf0 zf0 N (xs (6 * k + 1)) (xs (6 * k + 2)) (xs (6 * k + 3)) μ r ν hfm) ⟨Nat.le_of_ble_eq_true rfl, Nat.le_of_ble_eq_true rfl⟩ rfl hl.1 rfl (Nat.le_of_ble_eq_true rfl) ⟨by show cells + 0 + 0 ≤ 600000; omega, by show slots + 0 + 0 ≤ 7302250; omega⟩ dL_law_1052 (fun H locs hZ => ?_)
  refine lv_icmp_eq (pc := 1055) (tgt := 1119) hx hb dL_law_1055 (by decide) (fun _ => ?_) (fun h => absurd rfl h)
  exact kk u.1 u.2 H locs hZ
set_option maxHeartbeats 4000000 in
set_option maxRecDepth 100000 in
theorem law_case_26 {p : Program} {l : Launch} {e : Env} {s : State} {m : MethodId} {args : Array Value} {below : List Frame} {meth : Method} {c : Code} {H : Heap} {locs : List Loc} {cells slots : Nat} {Q : State → Prop} {A : Nat → Prop} {H0 : Heap} {D : va_G} {cy : Nat → ClassId} {a0 aT aP b0 : Nat → Nat} {σ μ τ ν : zS} {ls : Array Slot} {b L k N : Nat} {xs : Nat → Int32} {r : Int32} (hC : zC p s m args c RL cL_law 4 D cy) (hA : ∀ q, H0.size ≤ q → A q) (hXs : va_X b L xs s H0) (hbl : b < H0.size) (hbA : ¬ A b) (hk : 6 * k + 6 ≤ L) (hL : L ≤ 3072) (hcs : cells + 300 ≤ 600000 ∧ slots + 1100 ≤ 7302250) (hZ : zLW D cy a0 aT aP b0 A H0 σ μ H locs) (hl : lv_has ls 4 [(0, .ref b), (1, .ref (a0 0)), (2, .ref (b0 0)), (3, .int (nI (6 * k)))]) (hfx : fX7_plan N  σ = some (r, τ)) (hfm : fX8_plan N  μ = some (r, ν)) (kk : ∀ (aT aP : Nat → Nat) (H : Heap) (locs : List Loc), zLW D cy a0 aT aP b0 A H0 τ ν H locs → W p l e room_1 s m args below meth c H locs (cells + 0) (slots + 0) Q (F0 m 1119 ls [])) : W p l e room_1 s m args below meth c H locs cells slots Q (F0 m 1060 ls []) := by
  have hx := hC.1.1
  have hb := hC.1.2.1
  refine lv_aload_n (pc := 1060) hx hb dL_law_1060 rfl (lv_at hl 1 rfl) ?_
  refine lawXi (pc := 1061) (rm := rmX7_plan) (cells := cells) (slots := slots) hC hA hZ vkL_124 rfl (cX7_plan_ok l D cy a0 aT aP N  σ r τ hfx) ⟨Nat.le_of_ble_eq_true rfl, Nat.le_of_ble_eq_true rfl⟩ rfl hl.1 rfl (Nat.le_of_ble_eq_true rfl) ⟨by show cells + 0 ≤ 600000; omega, by show slots + 0 ≤ 7302250; omega⟩ dL_law_1061 (fun u H locs hU hZ => ?_)
  refine lv_aload_n (pc := 1064) hx hb dL_law_1064 rfl (lv_at hl 2 rfl) ?_
  refine lawMi (pc := 1065) (rm := rmX8_plan) (cells := cells + 0) (slots := slots + 0) hC hA hZ vkL_127 rfl (cX8_plan_ok l D cy b0 zf0 zf0 N  μ r ν hfm) ⟨Nat.le_of_ble_eq_true rfl, Nat.le_of_ble_eq_true rfl⟩ rfl hl.1 rfl (Nat.le_of_ble_eq_true rfl) ⟨by show cells + 0 + 0 ≤ 600000; omega, by show slots + 0 + 0 ≤ 7302250; omega⟩ dL_law_1065 (fun H locs hZ => ?_)
  refine lv_icmp_eq (pc := 1068) (tgt := 1119) hx hb dL_law_1068 (by decide) (fun _ => ?_) (fun h => absurd rfl h)
  exact kk u.1 u.2 H locs hZ
set_option maxHeartbeats 4000000 in
set_option maxRecDepth 100000 in
theorem law_case_27 {p : Program} {l : Launch} {e : Env} {s : State} {m : MethodId} {args : Array Value} {below : List Frame} {meth : Method} {c : Code} {H : Heap} {locs : List Loc} {cells slots : Nat} {Q : State → Prop} {A : Nat → Prop} {H0 : Heap} {D : va_G} {cy : Nat → ClassId} {a0 aT aP b0 : Nat → Nat} {σ μ τ ν : zS} {ls : Array Slot} {b L k N : Nat} {xs : Nat → Int32} {r : Int32} (hC : zC p s m args c RL cL_law 4 D cy) (hA : ∀ q, H0.size ≤ q → A q) (hXs : va_X b L xs s H0) (hbl : b < H0.size) (hbA : ¬ A b) (hk : 6 * k + 6 ≤ L) (hL : L ≤ 3072) (hcs : cells + 300 ≤ 600000 ∧ slots + 1100 ≤ 7302250) (hZ : zLW D cy a0 aT aP b0 A H0 σ μ H locs) (hl : lv_has ls 4 [(0, .ref b), (1, .ref (a0 0)), (2, .ref (b0 0)), (3, .int (nI (6 * k)))]) (hfx : fX7_check N (xs (6 * k + 1)) σ = some (r, τ)) (hfm : fX8_check N (xs (6 * k + 1)) μ = some (r, ν)) (kk : ∀ (aT aP : Nat → Nat) (H : Heap) (locs : List Loc), zLW D cy a0 aT aP b0 A H0 τ ν H locs → W p l e room_1 s m args below meth c H locs (cells + 0) (slots + 0) Q (F0 m 1119 ls [])) : W p l e room_1 s m args below meth c H locs cells slots Q (F0 m 1073 ls []) := by
  have hx := hC.1.1
  have hb := hC.1.2.1
  refine lv_aload_n (pc := 1073) hx hb dL_law_1073 rfl (lv_at hl 1 rfl) ?_
  refine lv_aload_n (pc := 1074) hx hb dL_law_1074 rfl (lv_at hl 0 rfl) ?_
  refine lv_iload_n (pc := 1075) hx hb dL_law_1075 rfl (lv_at hl 3 rfl) ?_
  refine lv_iconst (pc := 1076) (v := (1 : Int32)) hx hb dL_law_1076 (by decide) ?_
  refine lv_iadd (pc := 1077) hx hb dL_law_1077 ?_
  refine law_sld (pc := 1078) (q := 6 * k + 1) hC hXs hbl hbA hZ.2.2 (nI_add (6 * k) 1) (by omega) hL dL_law_1078 ?_
  refine lawXi (pc := 1079) (rm := rmX7_check) (cells := cells) (slots := slots) hC hA hZ vkL_128 rfl (cX7_check_ok l D cy a0 aT aP N (xs (6 * k + 1)) σ r τ hfx) ⟨Nat.le_of_ble_eq_true rfl, Nat.le_of_ble_eq_true rfl⟩ rfl hl.1 rfl (Nat.le_of_ble_eq_true rfl) ⟨by show cells + 0 ≤ 600000; omega, by show slots + 0 ≤ 7302250; omega⟩ dL_law_1079 (fun u H locs hU hZ => ?_)
  refine lv_aload_n (pc := 1082) hx hb dL_law_1082 rfl (lv_at hl 2 rfl) ?_
  refine lv_aload_n (pc := 1083) hx hb dL_law_1083 rfl (lv_at hl 0 rfl) ?_
  refine lv_iload_n (pc := 1084) hx hb dL_law_1084 rfl (lv_at hl 3 rfl) ?_
  refine lv_iconst (pc := 1085) (v := (1 : Int32)) hx hb dL_law_1085 (by decide) ?_
  refine lv_iadd (pc := 1086) hx hb dL_law_1086 ?_
  refine law_sld (pc := 1087) (q := 6 * k + 1) hC hXs hbl hbA hZ.2.2 (nI_add (6 * k) 1) (by omega) hL dL_law_1087 ?_
  refine lawMi (pc := 1088) (rm := rmX8_check) (cells := cells + 0) (slots := slots + 0) hC hA hZ vkL_132 rfl (cX8_check_ok l D cy b0 zf0 zf0 N (xs (6 * k + 1)) μ r ν hfm) ⟨Nat.le_of_ble_eq_true rfl, Nat.le_of_ble_eq_true rfl⟩ rfl hl.1 rfl (Nat.le_of_ble_eq_true rfl) ⟨by show cells + 0 + 0 ≤ 600000; omega, by show slots + 0 + 0 ≤ 7302250; omega⟩ dL_law_1088 (fun H locs hZ => ?_)
  refine lv_icmp_eq (pc := 1091) (tgt := 1119) hx hb dL_law_1091 (by decide) (fun _ => ?_) (fun h => absurd rfl h)
  exact kk u.1 u.2 H locs hZ
set_option maxHeartbeats 4000000 in
set_option maxRecDepth 100000 in
theorem law_case_28 {p : Program} {l : Launch} {e : Env} {s : State} {m : MethodId} {args : Array Value} {below : List Frame} {meth : Method} {c : Code} {H : Heap} {locs : List Loc} {cells slots : Nat} {Q : State → Prop} {A : Nat → Prop} {H0 : Heap} {D : va_G} {cy : Nat → ClassId} {a0 aT aP b0 : Nat → Nat} {σ μ τ ν : zS} {ls : Array Slot} {b L k N : Nat} {xs : Nat → Int32} {r : Int32} (hC : zC p s m args c RL cL_law 4 D cy) (hA : ∀ q, H0.size ≤ q → A q) (hXs : va_X b L xs s H0) (hbl : b < H0.size) (hbA : ¬ A b) (hk : 6 * k + 6 ≤ L) (hL : L ≤ 3072) (hcs : cells + 300 ≤ 600000 ∧ slots + 1100 ≤ 7302250) (hZ : zLW D cy a0 aT aP b0 A H0 σ μ H locs) (hl : lv_has ls 4 [(0, .ref b), (1, .ref (a0 0)), (2, .ref (b0 0)), (3, .int (nI (6 * k)))]) (hfx : fX7_count N (xs (6 * k + 1)) σ = some (r, τ)) (hfm : fX8_count N (xs (6 * k + 1)) μ = some (r, ν)) (kk : ∀ (aT aP : Nat → Nat) (H : Heap) (locs : List Loc), zLW D cy a0 aT aP b0 A H0 τ ν H locs → W p l e room_1 s m args below meth c H locs (cells + 0) (slots + 0) Q (F0 m 1119 ls [])) : W p l e room_1 s m args below meth c H locs cells slots Q (F0 m 1096 ls []) := by
  have hx := hC.1.1
  have hb := hC.1.2.1
  refine lv_aload_n (pc := 1096) hx hb dL_law_1096 rfl (lv_at hl 1 rfl) ?_
  refine lv_aload_n (pc := 1097) hx hb dL_law_1097 rfl (lv_at hl 0 rfl) ?_
  refine lv_iload_n (pc := 1098) hx hb dL_law_1098 rfl (lv_at hl 3 rfl) ?_
  refine lv_iconst (pc := 1099) (v := (1 : Int32)) hx hb dL_law_1099 (by decide) ?_
  refine lv_iadd (pc := 1100) hx hb dL_law_1100 ?_
  refine law_sld (pc := 1101) (q := 6 * k + 1) hC hXs hbl hbA hZ.2.2 (nI_add (6 * k) 1) (by omega) hL dL_law_1101 ?_
  refine lawXi (pc := 1102) (rm := rmX7_count) (cells := cells) (slots := slots) hC hA hZ vkL_133 rfl (cX7_count_ok l D cy a0 aT aP N (xs (6 * k + 1)) σ r τ hfx) ⟨Nat.le_of_ble_eq_true rfl, Nat.le_of_ble_eq_true rfl⟩ rfl hl.1 rfl (Nat.le_of_ble_eq_true rfl) ⟨by show cells + 0 ≤ 600000; omega, by show slots + 0 ≤ 7302250; omega⟩ dL_law_1102 (fun u H locs hU hZ => ?_)
  refine lv_aload_n (pc := 1105) hx hb dL_law_1105 rfl (lv_at hl 2 rfl) ?_
  refine lv_aload_n (pc := 1106) hx hb dL_law_1106 rfl (lv_at hl 0 rfl) ?_
  refine lv_iload_n (pc := 1107) hx hb dL_law_1107 rfl (lv_at hl 3 rfl) ?_
  refine lv_iconst (pc := 1108) (v := (1 : Int32)) hx hb dL_law_1108 (by decide) ?_
  refine lv_iadd (pc := 1109) hx hb dL_law_1109 ?_
  refine law_sld (pc := 1110) (q := 6 * k + 1) hC hXs hbl hbA hZ.2.2 (nI_add (6 * k) 1) (by omega) hL dL_law_1110 ?_
  refine lawMi (pc := 1111) (rm := rmX8_count) (cells := cells + 0) (slots := slots + 0) hC hA hZ vkL_136 rfl (cX8_count_ok l D cy b0 zf0 zf0 N (xs (6 * k + 1)) μ r ν hfm) ⟨Nat.le_of_ble_eq_true rfl, Nat.le_of_ble_eq_true rfl⟩ rfl hl.1 rfl (Nat.le_of_ble_eq_true rfl) ⟨by show cells + 0 + 0 ≤ 600000; omega, by show slots + 0 + 0 ≤ 7302250; omega⟩ dL_law_1111 (fun H locs hZ => ?_)
  refine lv_icmp_eq (pc := 1114) (tgt := 1119) hx hb dL_law_1114 (by decide) (fun _ => ?_) (fun h => absurd rfl h)
  exact kk u.1 u.2 H locs hZ
