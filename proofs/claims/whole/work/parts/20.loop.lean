/-- what is left to show of the pure functions: from states that belong together, every call answers alike on both sides, and leads to states that belong together -/
def zGo (N : Nat) (J : Nat → zS → zS → Prop) : Prop := J 0 zσ0 zσ0 ∧ ∀ (k : Nat) (σ μ : zS), k < 512 → J k σ μ → J (k + 1) σ μ ∧ (∃ r τ ν, fX7_house N  σ = some (r, τ) ∧ fX8_house N  μ = some (r, ν) ∧ J (k + 1) τ ν) ∧ (∀ a1 a2 : Int32, ∃ r τ ν, fX7_kind N a1 a2 σ = some (r, τ) ∧ fX8_kind N a1 a2 μ = some (r, ν) ∧ J (k + 1) τ ν) ∧ (∀ a1 : Int32, ∃ r τ ν, fX7_days N a1 σ = some (r, τ) ∧ fX8_days N a1 μ = some (r, ν) ∧ J (k + 1) τ ν) ∧ (∀ a1 a2 a3 : Int32, ∃ r τ ν, fX7_buy N a1 a2 a3 σ = some (r, τ) ∧ fX8_buy N a1 a2 a3 μ = some (r, ν) ∧ J (k + 1) τ ν) ∧ (∀ a1 a2 a3 : Int32, ∃ r τ ν, fX7_scrap N a1 a2 a3 σ = some (r, τ) ∧ fX8_scrap N a1 a2 a3 μ = some (r, ν) ∧ J (k + 1) τ ν) ∧ (∀ a1 a2 a3 a4 a5 : Int32, ∃ r τ ν, fX7_tell N (if a1 = 0 then (0 : Int32) else 1) a2 a3 a4 a5 σ = some (r, τ) ∧ fX8_tell N (if a1 = 0 then (0 : Int32) else 1) a2 a3 a4 a5 μ = some (r, ν) ∧ J (k + 1) τ ν) ∧ (∀ a1 : Int32, ∃ r τ ν, fX7_drop N a1 σ = some (r, τ) ∧ fX8_drop N a1 μ = some (r, ν) ∧ J (k + 1) τ ν) ∧ (∀ a1 : Int32, ∃ r τ ν, fX7_rule N a1 σ = some (r, τ) ∧ fX8_rule N a1 μ = some (r, ν) ∧ J (k + 1) τ ν) ∧ (∃ r τ ν, fX7_pair N  σ = some (r, τ) ∧ fX8_pair N  μ = some (r, ν) ∧ J (k + 1) τ ν) ∧ (∀ a1 a2 : Int32, ∃ r τ ν, fX7_judge N a1 a2 σ = some (r, τ) ∧ fX8_judge N a1 a2 μ = some (r, ν) ∧ J (k + 1) τ ν) ∧ (∀ a1 a2 a3 : Int32, ∃ r τ ν, fX7_found N a1 a2 a3 σ = some (r, τ) ∧ fX8_found N a1 a2 a3 μ = some (r, ν) ∧ J (k + 1) τ ν) ∧ (∀ a1 a2 a3 : Int32, ∃ r τ ν, fX7_account N a1 a2 a3 σ = some (r, τ) ∧ fX8_account N a1 a2 a3 μ = some (r, ν) ∧ J (k + 1) τ ν) ∧ (∀ a1 a2 : Int32, ∃ r τ ν, fX7_lost N a1 a2 σ = some (r, τ) ∧ fX8_lost N a1 a2 μ = some (r, ν) ∧ J (k + 1) τ ν) ∧ (∀ a1 a2 : Int32, ∃ r τ ν, fX7_turns N a1 a2 σ = some (r, τ) ∧ fX8_turns N a1 a2 μ = some (r, ν) ∧ J (k + 1) τ ν) ∧ (∀ a1 a2 : Int32, ∃ r τ ν, fX7_share N a1 a2 σ = some (r, τ) ∧ fX8_share N a1 a2 μ = some (r, ν) ∧ J (k + 1) τ ν) ∧ (∀ a1 a2 : Int32, ∃ r τ ν, fX7_fees N a1 a2 σ = some (r, τ) ∧ fX8_fees N a1 a2 μ = some (r, ν) ∧ J (k + 1) τ ν) ∧ (∃ r τ ν, fX7_close N  σ = some (r, τ) ∧ fX8_close N  μ = some (r, ν) ∧ J (k + 1) τ ν) ∧ (∀ a1 a2 : Int32, ∃ r τ ν, fX7_bill N a1 a2 σ = some (r, τ) ∧ fX8_bill N a1 a2 μ = some (r, ν) ∧ J (k + 1) τ ν) ∧ (∀ a1 a2 : Int32, ∃ r τ ν, fX7_telling N a1 a2 σ = some (r, τ) ∧ fX8_telling N a1 a2 μ = some (r, ν) ∧ J (k + 1) τ ν) ∧ (∀ a1 a2 : Int32, ∃ r τ ν, fX7_pairOf N a1 a2 σ = some (r, τ) ∧ fX8_pairOf N a1 a2 μ = some (r, ν) ∧ J (k + 1) τ ν) ∧ (∀ a1 a2 a3 a4 : Int32, ∃ r τ ν, fX7_owe N a1 a2 a3 a4 σ = some (r, τ) ∧ fX8_owe N a1 a2 a3 a4 μ = some (r, ν) ∧ J (k + 1) τ ν) ∧ (∀ a1 a2 a3 : Int32, ∃ r τ ν, fX7_owes N a1 a2 a3 σ = some (r, τ) ∧ fX8_owes N a1 a2 a3 μ = some (r, ν) ∧ J (k + 1) τ ν) ∧ (∀ a1 a2 : Int32, ∃ r τ ν, fX7_ring N a1 a2 σ = some (r, τ) ∧ fX8_ring N a1 a2 μ = some (r, ν) ∧ J (k + 1) τ ν) ∧ (∀ a1 : Int32, ∃ r τ ν, fX7_off N a1 σ = some (r, τ) ∧ fX8_off N a1 μ = some (r, ν) ∧ J (k + 1) τ ν) ∧ (∀ a1 a2 a3 : Int32, ∃ r τ ν, fX7_want N a1 a2 a3 σ = some (r, τ) ∧ fX8_want N a1 a2 a3 μ = some (r, ν) ∧ J (k + 1) τ ν) ∧ (∀ a1 a2 a3 : Int32, ∃ r τ ν, fX7_way N a1 a2 a3 σ = some (r, τ) ∧ fX8_way N a1 a2 a3 μ = some (r, ν) ∧ J (k + 1) τ ν) ∧ (∃ r τ ν, fX7_plan N  σ = some (r, τ) ∧ fX8_plan N  μ = some (r, ν) ∧ J (k + 1) τ ν) ∧ (∀ a1 : Int32, ∃ r τ ν, fX7_check N a1 σ = some (r, τ) ∧ fX8_check N a1 μ = some (r, ν) ∧ J (k + 1) τ ν) ∧ (∀ a1 : Int32, ∃ r τ ν, fX7_count N a1 σ = some (r, τ) ∧ fX8_count N a1 μ = some (r, ν) ∧ J (k + 1) τ ν)
set_option maxHeartbeats 4000000 in
set_option maxRecDepth 100000 in
theorem law_loop {p : Program} {l : Launch} {e : Env} {s : State} {m : MethodId} {below : List Frame} {meth : Method} {c : Code} {D : va_G} {cy : Nat → ClassId} {b L N : Nat} {xs : Nat → Int32} {J : Nat → zS → zS → Prop} (hJ : zGo N J) (hL : L ≤ 3072) (C0 : lw_At p s m meth c b L xs) (hC : zC p s m #[Value.ref b] c RL cL_law 4 D cy) :
    ∀ (n k : Nat), k + n = 513 → ∀ (a0 aT aP b0 : Nat → Nat) (σ μ : zS) (H : Heap) (locs : List Loc) (ls : Array Slot), 6 * k ≤ L → J k σ μ → zLW D cy a0 aT aP b0 (fun q : Nat => s.heap.size ≤ q) s.heap σ μ H locs → lv_has ls 4 [(0, .ref b), (1, .ref (a0 0)), (2, .ref (b0 0)), (3, .int (nI (6 * k)))] → W p l e room_1 s m #[Value.ref b] below meth c H locs (80 + 300 * k) (24600 + 1100 * k) (lw_Z below #[Value.ref b] s) (F0 m 18 ls []) := by
  obtain ⟨hx, hb, hr, hml, hown, -, hX, hbl, hlocks, -⟩ := C0
  have hA : ∀ q : Nat, s.heap.size ≤ q → (fun q : Nat => s.heap.size ≤ q) q := fun _ h => h
  have hbA : ¬ (fun q : Nat => s.heap.size ≤ q) b := Nat.not_le.mpr hbl
  intro n
  induction n with
  | zero => intro k hk a0 aT aP b0 σ μ H locs ls h6; exact absurd h6 (by omega)
  | succ n ih =>
    intro k hkn a0 aT aP b0 σ μ H locs ls h6 hJk hZ hl
    refine lv_iload_n (pc := 18) hx hb dL_law_18 rfl (lv_at hl 3 rfl) ?_
    refine lv_aload_n (pc := 19) hx hb dL_law_19 rfl (lv_at hl 0 rfl) ?_
    refine va_slen (pc := 20) hx hb hX hbl hbA hZ.2.2 dL_law_20 ?_
    refine lv_bipush (pc := 21) (v := (6 : Int32)) hx hb dL_law_21 (by decide) ?_
    refine lv_isub (pc := 23) hx hb dL_law_23 ?_
    refine lv_icmp_gt (pc := 24) (tgt := 1125) hx hb dL_law_24 (by decide) (fun hgt => ?_) (fun hgt => ?_)
    · refine lv_iconst (pc := 1125) (v := (1 : Int32)) hx hb dL_law_1125 (by decide) ?_
      refine va_forget (fun q hq => hZ.2.2.2.2 q hq) ?_
      refine W.widen (k := 600000) (n := 7302250) (by omega) (by omega) ?_
      exact lw_ret hx hb hr hlocks dL_law_1126
    · have hk6 : 6 * k + 6 ≤ L := by
        rcases Nat.lt_or_ge L (6 * k + 6) with q | q
        · exfalso
          apply hgt
          rcases Nat.lt_or_ge L 6 with q6 | q6
          · have e0 : Int32.ofNat L - 6 < 0 := pk_sneg (a := L) (b := 6) (by omega) q6
            exact Int32.lt_of_lt_of_le e0 (nI_pos' (by omega))
          · have e1 : Int32.ofNat L - 6 = nI (L - 6) := pk_sub (a := L) (b := 6) q6
            rw [e1]
            exact nI_lt (by omega) (by omega)
        · exact q
      have hk5 : k < 512 := by omega
      have hcs : (80 + 300 * k) + 300 ≤ 600000 ∧ (24600 + 1100 * k) + 1100 ≤ 7302250 := by omega
      have hstep := hJ.2 k σ μ hk5 hJk
      refine lv_aload_n (pc := 27) hx hb dL_law_27 rfl (lv_at hl 0 rfl) ?_
      refine lv_iload_n (pc := 28) hx hb dL_law_28 rfl (lv_at hl 3 rfl) ?_
      refine law_sld (pc := 29) (q := 6 * k) hC hX hbl hbA hZ.2.2 rfl (by omega) hL dL_law_29 ?_
      refine lv_bipush (pc := 30) (v := (31 : Int32)) hx hb dL_law_30 (by decide) ?_
      refine lv_iand (pc := 32) hx hb dL_law_32 ?_
      have go : ∀ (c1 c2 : Nat) (aT aP : Nat → Nat) (τ ν : zS) (H : Heap) (locs : List Loc), c1 ≤ 300 → c2 ≤ 1100 → J (k + 1) τ ν → zLW D cy a0 aT aP b0 (fun q : Nat => s.heap.size ≤ q) s.heap τ ν H locs → W p l e room_1 s m #[Value.ref b] below meth c H locs ((80 + 300 * k) + c1) ((24600 + 1100 * k) + c2) (lw_Z below #[Value.ref b] s) (F0 m 1119 ls []) := by
        intro c1 c2 aT aP τ ν H locs h1 h2 hJ2 hZ
        refine lv_iinc (pc := 1119) (v := nI (6 * (k + 1))) (lv' := [(3, .int (nI (6 * (k + 1)))), (0, .ref b), (1, .ref (a0 0)), (2, .ref (b0 0))]) hx hb dL_law_1119 hl (k := 3) rfl (by rw [show 6 * (k + 1) = 6 * k + 6 by omega]; exact nI_add (6 * k) 6) (by decide) rfl (fun ls hl => ?_)
        refine lv_goto (pc := 1122) (tgt := 18) hx hb dL_law_1122 (by decide) ?_
        refine W.widen (k := 80 + 300 * (k + 1)) (n := 24600 + 1100 * (k + 1)) (by omega) (by omega) ?_
        exact ih (k + 1) (by omega) a0 aT aP b0 τ ν H locs ls (by omega) hJ2 hZ (lv_sub hl [1, 2, 3, 0] rfl)
      generalize xs (6 * k) &&& 31 = sel
      by_cases n0 : sel = (0 : Int32)
      · refine z_tabIn (pc := 33) (tgt := 164) hC n0 dL_law_33 (by decide) (by decide) rfl (by decide) ?_
        obtain ⟨r, τ, ν, hfx, hfm, hJ2⟩ := hstep.2.1 
        exact law_case_0 hC hA hX hbl hbA hk6 hL hcs hZ hl hfx hfm (fun aT aP H locs hZ => go 0 0 aT aP τ ν H locs (by decide) (by decide) hJ2 hZ)
      by_cases n1 : sel = (1 : Int32)
      · refine z_tabIn (pc := 33) (tgt := 177) hC n1 dL_law_33 (by decide) (by decide) rfl (by decide) ?_
        obtain ⟨r, τ, ν, hfx, hfm, hJ2⟩ := hstep.2.2.1 (xs (6 * k + 1)) (xs (6 * k + 2))
        exact law_case_1 hC hA hX hbl hbA hk6 hL hcs hZ hl hfx hfm (fun aT aP H locs hZ => go 0 0 aT aP τ ν H locs (by decide) (by decide) hJ2 hZ)
      by_cases n2 : sel = (2 : Int32)
      · refine z_tabIn (pc := 33) (tgt := 210) hC n2 dL_law_33 (by decide) (by decide) rfl (by decide) ?_
        obtain ⟨r, τ, ν, hfx, hfm, hJ2⟩ := hstep.2.2.2.1 (xs (6 * k + 1))
        exact law_case_2 hC hA hX hbl hbA hk6 hL hcs hZ hl hfx hfm (fun aT aP H locs hZ => go 0 0 aT aP τ ν H locs (by decide) (by decide) hJ2 hZ)
      by_cases n3 : sel = (3 : Int32)
      · refine z_tabIn (pc := 33) (tgt := 233) hC n3 dL_law_33 (by decide) (by decide) rfl (by decide) ?_
        obtain ⟨r, τ, ν, hfx, hfm, hJ2⟩ := hstep.2.2.2.2.1 (xs (6 * k + 1)) (xs (6 * k + 2)) (xs (6 * k + 3))
        exact law_case_3 hC hA hX hbl hbA hk6 hL hcs hZ hl hfx hfm (fun aT aP H locs hZ => go 0 0 aT aP τ ν H locs (by decide) (by decide) hJ2 hZ)
      by_cases n4 : sel = (4 : Int32)
      · refine z_tabIn (pc := 33) (tgt := 276) hC n4 dL_law_33 (by decide) (by decide) rfl (by decide) ?_
        obtain ⟨r, τ, ν, hfx, hfm, hJ2⟩ := hstep.2.2.2.2.2.1 (xs (6 * k + 1)) (xs (6 * k + 2)) (xs (6 * k + 3))
        exact law_case_4 hC hA hX hbl hbA hk6 hL hcs hZ hl hfx hfm (fun aT aP H locs hZ => go 0 0 aT aP τ ν H locs (by decide) (by decide) hJ2 hZ)
      by_cases n5 : sel = (5 : Int32)
      · refine z_tabIn (pc := 33) (tgt := 319) hC n5 dL_law_33 (by decide) (by decide) rfl (by decide) ?_
        obtain ⟨r, τ, ν, hfx, hfm, hJ2⟩ := hstep.2.2.2.2.2.2.1 (xs (6 * k + 1)) (xs (6 * k + 2)) (xs (6 * k + 3)) (xs (6 * k + 4)) (xs (6 * k + 5))
        exact law_case_5 hC hA hX hbl hbA hk6 hL hcs hZ hl hfx hfm (fun aT aP H locs hZ => go 1 10 aT aP τ ν H locs (by decide) (by decide) hJ2 hZ)
      by_cases n6 : sel = (6 : Int32)
      · refine z_tabIn (pc := 33) (tgt := 398) hC n6 dL_law_33 (by decide) (by decide) rfl (by decide) ?_
        obtain ⟨r, τ, ν, hfx, hfm, hJ2⟩ := hstep.2.2.2.2.2.2.2.1 (xs (6 * k + 1))
        exact law_case_6 hC hA hX hbl hbA hk6 hL hcs hZ hl hfx hfm (fun aT aP H locs hZ => go 0 0 aT aP τ ν H locs (by decide) (by decide) hJ2 hZ)
      by_cases n7 : sel = (7 : Int32)
      · refine z_tabIn (pc := 33) (tgt := 421) hC n7 dL_law_33 (by decide) (by decide) rfl (by decide) ?_
        obtain ⟨r, τ, ν, hfx, hfm, hJ2⟩ := hstep.2.2.2.2.2.2.2.2.1 (xs (6 * k + 1))
        exact law_case_7 hC hA hX hbl hbA hk6 hL hcs hZ hl hfx hfm (fun aT aP H locs hZ => go 0 0 aT aP τ ν H locs (by decide) (by decide) hJ2 hZ)
      by_cases n8 : sel = (8 : Int32)
      · refine z_tabIn (pc := 33) (tgt := 444) hC n8 dL_law_33 (by decide) (by decide) rfl (by decide) ?_
        obtain ⟨r, τ, ν, hfx, hfm, hJ2⟩ := hstep.2.2.2.2.2.2.2.2.2.1 
        exact law_case_8 hC hA hX hbl hbA hk6 hL hcs hZ hl hfx hfm (fun aT aP H locs hZ => go 256 1024 aT aP τ ν H locs (by decide) (by decide) hJ2 hZ)
      by_cases n9 : sel = (9 : Int32)
      · refine z_tabIn (pc := 33) (tgt := 457) hC n9 dL_law_33 (by decide) (by decide) rfl (by decide) ?_
        obtain ⟨r, τ, ν, hfx, hfm, hJ2⟩ := hstep.2.2.2.2.2.2.2.2.2.2.1 (xs (6 * k + 1)) (xs (6 * k + 2))
        exact law_case_9 hC hA hX hbl hbA hk6 hL hcs hZ hl hfx hfm (fun aT aP H locs hZ => go 0 0 aT aP τ ν H locs (by decide) (by decide) hJ2 hZ)
      by_cases n10 : sel = (10 : Int32)
      · refine z_tabIn (pc := 33) (tgt := 490) hC n10 dL_law_33 (by decide) (by decide) rfl (by decide) ?_
        obtain ⟨r, τ, ν, hfx, hfm, hJ2⟩ := hstep.2.2.2.2.2.2.2.2.2.2.2.1 (xs (6 * k + 1)) (xs (6 * k + 2)) (xs (6 * k + 3))
        exact law_case_10 hC hA hX hbl hbA hk6 hL hcs hZ hl hfx hfm (fun aT aP H locs hZ => go 0 0 aT aP τ ν H locs (by decide) (by decide) hJ2 hZ)
      by_cases n11 : sel = (11 : Int32)
      · refine z_tabIn (pc := 33) (tgt := 533) hC n11 dL_law_33 (by decide) (by decide) rfl (by decide) ?_
        obtain ⟨r, τ, ν, hfx, hfm, hJ2⟩ := hstep.2.2.2.2.2.2.2.2.2.2.2.2.1 (xs (6 * k + 1)) (xs (6 * k + 2)) (xs (6 * k + 3))
        exact law_case_11 hC hA hX hbl hbA hk6 hL hcs hZ hl hfx hfm (fun aT aP H locs hZ => go 0 0 aT aP τ ν H locs (by decide) (by decide) hJ2 hZ)
      by_cases n12 : sel = (12 : Int32)
      · refine z_tabIn (pc := 33) (tgt := 576) hC n12 dL_law_33 (by decide) (by decide) rfl (by decide) ?_
        obtain ⟨r, τ, ν, hfx, hfm, hJ2⟩ := hstep.2.2.2.2.2.2.2.2.2.2.2.2.2.1 (xs (6 * k + 1)) (xs (6 * k + 2))
        exact law_case_12 hC hA hX hbl hbA hk6 hL hcs hZ hl hfx hfm (fun aT aP H locs hZ => go 0 0 aT aP τ ν H locs (by decide) (by decide) hJ2 hZ)
      by_cases n13 : sel = (13 : Int32)
      · refine z_tabIn (pc := 33) (tgt := 609) hC n13 dL_law_33 (by decide) (by decide) rfl (by decide) ?_
        obtain ⟨r, τ, ν, hfx, hfm, hJ2⟩ := hstep.2.2.2.2.2.2.2.2.2.2.2.2.2.2.1 (xs (6 * k + 1)) (xs (6 * k + 2))
        exact law_case_13 hC hA hX hbl hbA hk6 hL hcs hZ hl hfx hfm (fun aT aP H locs hZ => go 0 0 aT aP τ ν H locs (by decide) (by decide) hJ2 hZ)
      by_cases n14 : sel = (14 : Int32)
      · refine z_tabIn (pc := 33) (tgt := 642) hC n14 dL_law_33 (by decide) (by decide) rfl (by decide) ?_
        obtain ⟨r, τ, ν, hfx, hfm, hJ2⟩ := hstep.2.2.2.2.2.2.2.2.2.2.2.2.2.2.2.1 (xs (6 * k + 1)) (xs (6 * k + 2))
        exact law_case_14 hC hA hX hbl hbA hk6 hL hcs hZ hl hfx hfm (fun aT aP H locs hZ => go 0 0 aT aP τ ν H locs (by decide) (by decide) hJ2 hZ)
      by_cases n15 : sel = (15 : Int32)
      · refine z_tabIn (pc := 33) (tgt := 675) hC n15 dL_law_33 (by decide) (by decide) rfl (by decide) ?_
        obtain ⟨r, τ, ν, hfx, hfm, hJ2⟩ := hstep.2.2.2.2.2.2.2.2.2.2.2.2.2.2.2.2.1 (xs (6 * k + 1)) (xs (6 * k + 2))
        exact law_case_15 hC hA hX hbl hbA hk6 hL hcs hZ hl hfx hfm (fun aT aP H locs hZ => go 0 0 aT aP τ ν H locs (by decide) (by decide) hJ2 hZ)
      by_cases n16 : sel = (16 : Int32)
      · refine z_tabIn (pc := 33) (tgt := 709) hC n16 dL_law_33 (by decide) (by decide) rfl (by decide) ?_
        obtain ⟨r, τ, ν, hfx, hfm, hJ2⟩ := hstep.2.2.2.2.2.2.2.2.2.2.2.2.2.2.2.2.2.1 
        exact law_case_16 hC hA hX hbl hbA hk6 hL hcs hZ hl hfx hfm (fun aT aP H locs hZ => go 0 0 aT aP τ ν H locs (by decide) (by decide) hJ2 hZ)
      by_cases n17 : sel = (17 : Int32)
      · refine z_tabIn (pc := 33) (tgt := 722) hC n17 dL_law_33 (by decide) (by decide) rfl (by decide) ?_
        obtain ⟨r, τ, ν, hfx, hfm, hJ2⟩ := hstep.2.2.2.2.2.2.2.2.2.2.2.2.2.2.2.2.2.2.1 (xs (6 * k + 1)) (xs (6 * k + 2))
        exact law_case_17 hC hA hX hbl hbA hk6 hL hcs hZ hl hfx hfm (fun aT aP H locs hZ => go 0 0 aT aP τ ν H locs (by decide) (by decide) hJ2 hZ)
      by_cases n18 : sel = (18 : Int32)
      · refine z_tabIn (pc := 33) (tgt := 756) hC n18 dL_law_33 (by decide) (by decide) rfl (by decide) ?_
        obtain ⟨r, τ, ν, hfx, hfm, hJ2⟩ := hstep.2.2.2.2.2.2.2.2.2.2.2.2.2.2.2.2.2.2.2.1 (xs (6 * k + 1)) (xs (6 * k + 2))
        exact law_case_18 hC hA hX hbl hbA hk6 hL hcs hZ hl hfx hfm (fun aT aP H locs hZ => go 0 0 aT aP τ ν H locs (by decide) (by decide) hJ2 hZ)
      by_cases n19 : sel = (19 : Int32)
      · refine z_tabIn (pc := 33) (tgt := 789) hC n19 dL_law_33 (by decide) (by decide) rfl (by decide) ?_
        obtain ⟨r, τ, ν, hfx, hfm, hJ2⟩ := hstep.2.2.2.2.2.2.2.2.2.2.2.2.2.2.2.2.2.2.2.2.1 (xs (6 * k + 1)) (xs (6 * k + 2))
        exact law_case_19 hC hA hX hbl hbA hk6 hL hcs hZ hl hfx hfm (fun aT aP H locs hZ => go 0 0 aT aP τ ν H locs (by decide) (by decide) hJ2 hZ)
      by_cases n20 : sel = (20 : Int32)
      · refine z_tabIn (pc := 33) (tgt := 822) hC n20 dL_law_33 (by decide) (by decide) rfl (by decide) ?_
        obtain ⟨r, τ, ν, hfx, hfm, hJ2⟩ := hstep.2.2.2.2.2.2.2.2.2.2.2.2.2.2.2.2.2.2.2.2.2.1 (xs (6 * k + 1)) (xs (6 * k + 2)) (xs (6 * k + 3)) (xs (6 * k + 4))
        exact law_case_20 hC hA hX hbl hbA hk6 hL hcs hZ hl hfx hfm (fun aT aP H locs hZ => go 0 0 aT aP τ ν H locs (by decide) (by decide) hJ2 hZ)
      by_cases n21 : sel = (21 : Int32)
      · refine z_tabIn (pc := 33) (tgt := 875) hC n21 dL_law_33 (by decide) (by decide) rfl (by decide) ?_
        obtain ⟨r, τ, ν, hfx, hfm, hJ2⟩ := hstep.2.2.2.2.2.2.2.2.2.2.2.2.2.2.2.2.2.2.2.2.2.2.1 (xs (6 * k + 1)) (xs (6 * k + 2)) (xs (6 * k + 3))
        exact law_case_21 hC hA hX hbl hbA hk6 hL hcs hZ hl hfx hfm (fun aT aP H locs hZ => go 0 0 aT aP τ ν H locs (by decide) (by decide) hJ2 hZ)
      by_cases n22 : sel = (22 : Int32)
      · refine z_tabIn (pc := 33) (tgt := 918) hC n22 dL_law_33 (by decide) (by decide) rfl (by decide) ?_
        obtain ⟨r, τ, ν, hfx, hfm, hJ2⟩ := hstep.2.2.2.2.2.2.2.2.2.2.2.2.2.2.2.2.2.2.2.2.2.2.2.1 (xs (6 * k + 1)) (xs (6 * k + 2))
        exact law_case_22 hC hA hX hbl hbA hk6 hL hcs hZ hl hfx hfm (fun aT aP H locs hZ => go 0 0 aT aP τ ν H locs (by decide) (by decide) hJ2 hZ)
      by_cases n23 : sel = (23 : Int32)
      · refine z_tabIn (pc := 33) (tgt := 951) hC n23 dL_law_33 (by decide) (by decide) rfl (by decide) ?_
        obtain ⟨r, τ, ν, hfx, hfm, hJ2⟩ := hstep.2.2.2.2.2.2.2.2.2.2.2.2.2.2.2.2.2.2.2.2.2.2.2.2.1 (xs (6 * k + 1))
        exact law_case_23 hC hA hX hbl hbA hk6 hL hcs hZ hl hfx hfm (fun aT aP H locs hZ => go 0 0 aT aP τ ν H locs (by decide) (by decide) hJ2 hZ)
      by_cases n24 : sel = (24 : Int32)
      · refine z_tabIn (pc := 33) (tgt := 974) hC n24 dL_law_33 (by decide) (by decide) rfl (by decide) ?_
        obtain ⟨r, τ, ν, hfx, hfm, hJ2⟩ := hstep.2.2.2.2.2.2.2.2.2.2.2.2.2.2.2.2.2.2.2.2.2.2.2.2.2.1 (xs (6 * k + 1)) (xs (6 * k + 2)) (xs (6 * k + 3))
        exact law_case_24 hC hA hX hbl hbA hk6 hL hcs hZ hl hfx hfm (fun aT aP H locs hZ => go 0 0 aT aP τ ν H locs (by decide) (by decide) hJ2 hZ)
      by_cases n25 : sel = (25 : Int32)
      · refine z_tabIn (pc := 33) (tgt := 1017) hC n25 dL_law_33 (by decide) (by decide) rfl (by decide) ?_
        obtain ⟨r, τ, ν, hfx, hfm, hJ2⟩ := hstep.2.2.2.2.2.2.2.2.2.2.2.2.2.2.2.2.2.2.2.2.2.2.2.2.2.2.1 (xs (6 * k + 1)) (xs (6 * k + 2)) (xs (6 * k + 3))
        exact law_case_25 hC hA hX hbl hbA hk6 hL hcs hZ hl hfx hfm (fun aT aP H locs hZ => go 0 0 aT aP τ ν H locs (by decide) (by decide) hJ2 hZ)
      by_cases n26 : sel = (26 : Int32)
      · refine z_tabIn (pc := 33) (tgt := 1060) hC n26 dL_law_33 (by decide) (by decide) rfl (by decide) ?_
        obtain ⟨r, τ, ν, hfx, hfm, hJ2⟩ := hstep.2.2.2.2.2.2.2.2.2.2.2.2.2.2.2.2.2.2.2.2.2.2.2.2.2.2.2.1 
        exact law_case_26 hC hA hX hbl hbA hk6 hL hcs hZ hl hfx hfm (fun aT aP H locs hZ => go 0 0 aT aP τ ν H locs (by decide) (by decide) hJ2 hZ)
      by_cases n27 : sel = (27 : Int32)
      · refine z_tabIn (pc := 33) (tgt := 1073) hC n27 dL_law_33 (by decide) (by decide) rfl (by decide) ?_
        obtain ⟨r, τ, ν, hfx, hfm, hJ2⟩ := hstep.2.2.2.2.2.2.2.2.2.2.2.2.2.2.2.2.2.2.2.2.2.2.2.2.2.2.2.2.1 (xs (6 * k + 1))
        exact law_case_27 hC hA hX hbl hbA hk6 hL hcs hZ hl hfx hfm (fun aT aP H locs hZ => go 0 0 aT aP τ ν H locs (by decide) (by decide) hJ2 hZ)
      by_cases n28 : sel = (28 : Int32)
      · refine z_tabIn (pc := 33) (tgt := 1096) hC n28 dL_law_33 (by decide) (by decide) rfl (by decide) ?_
        obtain ⟨r, τ, ν, hfx, hfm, hJ2⟩ := hstep.2.2.2.2.2.2.2.2.2.2.2.2.2.2.2.2.2.2.2.2.2.2.2.2.2.2.2.2.2 (xs (6 * k + 1))
        exact law_case_28 hC hA hX hbl hbA hk6 hL hcs hZ hl hfx hfm (fun aT aP H locs hZ => go 0 0 aT aP τ ν H locs (by decide) (by decide) hJ2 hZ)
      refine lv_tableOut (pc := 33) (tgt := 1119) hx hb dL_law_33 (zsw_out (fun q h1 h2 h3 => by rcases (show q = 0 ∨ q = 1 ∨ q = 2 ∨ q = 3 ∨ q = 4 ∨ q = 5 ∨ q = 6 ∨ q = 7 ∨ q = 8 ∨ q = 9 ∨ q = 10 ∨ q = 11 ∨ q = 12 ∨ q = 13 ∨ q = 14 ∨ q = 15 ∨ q = 16 ∨ q = 17 ∨ q = 18 ∨ q = 19 ∨ q = 20 ∨ q = 21 ∨ q = 22 ∨ q = 23 ∨ q = 24 ∨ q = 25 ∨ q = 26 ∨ q = 27 ∨ q = 28 by omega) with rfl | rfl | rfl | rfl | rfl | rfl | rfl | rfl | rfl | rfl | rfl | rfl | rfl | rfl | rfl | rfl | rfl | rfl | rfl | rfl | rfl | rfl | rfl | rfl | rfl | rfl | rfl | rfl | rfl <;> first | exact n0 h3 | exact n1 h3 | exact n2 h3 | exact n3 h3 | exact n4 h3 | exact n5 h3 | exact n6 h3 | exact n7 h3 | exact n8 h3 | exact n9 h3 | exact n10 h3 | exact n11 h3 | exact n12 h3 | exact n13 h3 | exact n14 h3 | exact n15 h3 | exact n16 h3 | exact n17 h3 | exact n18 h3 | exact n19 h3 | exact n20 h3 | exact n21 h3 | exact n22 h3 | exact n23 h3 | exact n24 h3 | exact n25 h3 | exact n26 h3 | exact n27 h3 | exact n28 h3)) (by decide) ?_
      exact go 0 0 aT aP σ μ H locs (by decide) (by decide) hstep.1 hZ
