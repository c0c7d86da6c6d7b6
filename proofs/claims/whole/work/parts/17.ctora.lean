def zσ0 : zS := (fun _ _ _ => 0, fun _ _ _ => 0, fun _ _ _ => none, (0, 0))
theorem ac_0 : Cond.arrayClass .int ∈ zT := by decide +kernel
theorem ac_1 : Cond.arrayClass .long ∈ zT := by decide +kernel
theorem ac_2 : Cond.arrayClass .boolean ∈ zT := by decide +kernel
theorem oiX3_3 : Cond.methodLink RX3 3 objectInit ∈ zT ∧ Cond.instanceMethod objectInit ∈ zT ∧ Cond.code objectInit ⟨#[0xb1]⟩ 1 none ∈ zT := ⟨by decide +kernel, by decide +kernel, by decide +kernel⟩
theorem oiX4_1 : Cond.methodLink RX4 1 objectInit ∈ zT ∧ Cond.instanceMethod objectInit ∈ zT ∧ Cond.code objectInit ⟨#[0xb1]⟩ 1 none ∈ zT := ⟨by decide +kernel, by decide +kernel, by decide +kernel⟩
theorem oiX2_3 : Cond.methodLink RX2 3 objectInit ∈ zT ∧ Cond.instanceMethod objectInit ∈ zT ∧ Cond.code objectInit ⟨#[0xb1]⟩ 1 none ∈ zT := ⟨by decide +kernel, by decide +kernel, by decide +kernel⟩
theorem oiX1_3 : Cond.methodLink RX1 3 objectInit ∈ zT ∧ Cond.instanceMethod objectInit ∈ zT ∧ Cond.code objectInit ⟨#[0xb1]⟩ 1 none ∈ zT := ⟨by decide +kernel, by decide +kernel, by decide +kernel⟩
theorem oiX0_3 : Cond.methodLink RX0 3 objectInit ∈ zT ∧ Cond.instanceMethod objectInit ∈ zT ∧ Cond.code objectInit ⟨#[0xb1]⟩ 1 none ∈ zT := ⟨by decide +kernel, by decide +kernel, by decide +kernel⟩
theorem oiX7_3 : Cond.methodLink RX7 3 objectInit ∈ zT ∧ Cond.instanceMethod objectInit ∈ zT ∧ Cond.code objectInit ⟨#[0xb1]⟩ 1 none ∈ zT := ⟨by decide +kernel, by decide +kernel, by decide +kernel⟩
theorem oiX8_1 : Cond.methodLink RX8 1 objectInit ∈ zT ∧ Cond.instanceMethod objectInit ∈ zT ∧ Cond.code objectInit ⟨#[0xb1]⟩ 1 none ∈ zT := ⟨by decide +kernel, by decide +kernel, by decide +kernel⟩
theorem clX4_9 : Cond.classLink RX4 9 RX6 ∈ zT := by decide +kernel
theorem clX2_9 : Cond.classLink RX2 9 RX6 ∈ zT := by decide +kernel
theorem clX2_17 : Cond.classLink RX2 17 RX5 ∈ zT := by decide +kernel
theorem clX2_26 : Cond.classLink RX2 26 RX4 ∈ zT := by decide +kernel
theorem clX7_32 : Cond.classLink RX7 32 RX3 ∈ zT := by decide +kernel
theorem clX7_39 : Cond.classLink RX7 39 RX2 ∈ zT := by decide +kernel
theorem clX7_46 : Cond.classLink RX7 46 RX1 ∈ zT := by decide +kernel
theorem clX7_53 : Cond.classLink RX7 53 RX0 ∈ zT := by decide +kernel
theorem inX4 : Cond.instantiable RX4 7 ∈ zT := by decide +kernel
theorem iiX4 : Cond.initialized RX4 ∈ zT := by decide +kernel
theorem ikX4 : Cond.initialized yX4_init.cls ∈ zT ∧ Cond.code yX4_init cX4_init 1 none ∈ zT ∧ Cond.instanceMethod yX4_init ∈ zT ∧ (yX4_init.cls ≠ "java/lang/invoke/MethodHandle" ∧ yX4_init.cls ≠ "java/lang/invoke/VarHandle" ∧ (parseMethodDescriptor yX4_init.desc).map (fun d => d.parameters.length) = some 0) := ⟨by decide +kernel, by decide +kernel, by decide +kernel, by decide +kernel⟩
theorem inX3 : Cond.instantiable RX3 6 ∈ zT := by decide +kernel
theorem iiX3 : Cond.initialized RX3 ∈ zT := by decide +kernel
theorem ikX3 : Cond.initialized yX3_init.cls ∈ zT ∧ Cond.code yX3_init cX3_init 1 none ∈ zT ∧ Cond.instanceMethod yX3_init ∈ zT ∧ (yX3_init.cls ≠ "java/lang/invoke/MethodHandle" ∧ yX3_init.cls ≠ "java/lang/invoke/VarHandle" ∧ (parseMethodDescriptor yX3_init.desc).map (fun d => d.parameters.length) = some 0) := ⟨by decide +kernel, by decide +kernel, by decide +kernel, by decide +kernel⟩
theorem inX2 : Cond.instantiable RX2 6 ∈ zT := by decide +kernel
theorem iiX2 : Cond.initialized RX2 ∈ zT := by decide +kernel
theorem ikX2 : Cond.initialized yX2_init.cls ∈ zT ∧ Cond.code yX2_init cX2_init 1 none ∈ zT ∧ Cond.instanceMethod yX2_init ∈ zT ∧ (yX2_init.cls ≠ "java/lang/invoke/MethodHandle" ∧ yX2_init.cls ≠ "java/lang/invoke/VarHandle" ∧ (parseMethodDescriptor yX2_init.desc).map (fun d => d.parameters.length) = some 0) := ⟨by decide +kernel, by decide +kernel, by decide +kernel, by decide +kernel⟩
theorem inX1 : Cond.instantiable RX1 5 ∈ zT := by decide +kernel
theorem iiX1 : Cond.initialized RX1 ∈ zT := by decide +kernel
theorem ikX1 : Cond.initialized yX1_init.cls ∈ zT ∧ Cond.code yX1_init cX1_init 1 none ∈ zT ∧ Cond.instanceMethod yX1_init ∈ zT ∧ (yX1_init.cls ≠ "java/lang/invoke/MethodHandle" ∧ yX1_init.cls ≠ "java/lang/invoke/VarHandle" ∧ (parseMethodDescriptor yX1_init.desc).map (fun d => d.parameters.length) = some 0) := ⟨by decide +kernel, by decide +kernel, by decide +kernel, by decide +kernel⟩
theorem inX0 : Cond.instantiable RX0 11 ∈ zT := by decide +kernel
theorem iiX0 : Cond.initialized RX0 ∈ zT := by decide +kernel
theorem ikX0 : Cond.initialized yX0_init.cls ∈ zT ∧ Cond.code yX0_init cX0_init 1 none ∈ zT ∧ Cond.instanceMethod yX0_init ∈ zT ∧ (yX0_init.cls ≠ "java/lang/invoke/MethodHandle" ∧ yX0_init.cls ≠ "java/lang/invoke/VarHandle" ∧ (parseMethodDescriptor yX0_init.desc).map (fun d => d.parameters.length) = some 0) := ⟨by decide +kernel, by decide +kernel, by decide +kernel, by decide +kernel⟩
theorem fqX3_9 : zFq RX3 9 3 0 (.array .int) := ⟨_, _, tyX3, rfl, izX3, by decide, by decide +kernel, rfl, tyX3_ok, nmX3, by decide +kernel, rfl⟩
theorem fqX3_15 : zFq RX3 15 3 1 (.array .int) := ⟨_, _, tyX3, rfl, izX3, by decide, by decide +kernel, rfl, tyX3_ok, nmX3, by decide +kernel, rfl⟩
theorem fqX3_18 : zFq RX3 18 3 2 (.array .int) := ⟨_, _, tyX3, rfl, izX3, by decide, by decide +kernel, rfl, tyX3_ok, nmX3, by decide +kernel, rfl⟩
theorem fqX3_21 : zFq RX3 21 3 3 (.array .int) := ⟨_, _, tyX3, rfl, izX3, by decide, by decide +kernel, rfl, tyX3_ok, nmX3, by decide +kernel, rfl⟩
theorem fqX4_11 : zFq RX4 11 4 0 (.array (.object "CarrierPool$Telling")) := ⟨_, _, tyX4, rfl, izX4, by decide, by decide +kernel, rfl, tyX4_ok, nmX4, by decide +kernel, rfl⟩
theorem fqX4_15 : zFq RX4 15 4 1 (.array (.object "CarrierPool$Telling")) := ⟨_, _, tyX4, rfl, izX4, by decide, by decide +kernel, rfl, tyX4_ok, nmX4, by decide +kernel, rfl⟩
theorem fqX4_18 : zFq RX4 18 4 2 (.array .long) := ⟨_, _, tyX4, rfl, izX4, by decide, by decide +kernel, rfl, tyX4_ok, nmX4, by decide +kernel, rfl⟩
theorem fqX4_22 : zFq RX4 22 4 3 (.array .long) := ⟨_, _, tyX4, rfl, izX4, by decide, by decide +kernel, rfl, tyX4_ok, nmX4, by decide +kernel, rfl⟩
theorem fqX2_11 : zFq RX2 11 2 0 (.array (.object "CarrierPool$Telling")) := ⟨_, _, tyX2, rfl, izX2, by decide, by decide +kernel, rfl, tyX2_ok, nmX2, by decide +kernel, rfl⟩
theorem fqX2_19 : zFq RX2 19 2 1 (.array (.object "CarrierPool$Pair")) := ⟨_, _, tyX2, rfl, izX2, by decide, by decide +kernel, rfl, tyX2_ok, nmX2, by decide +kernel, rfl⟩
theorem fqX2_23 : zFq RX2 23 2 2 (.array (.object "CarrierPool$Telling")) := ⟨_, _, tyX2, rfl, izX2, by decide, by decide +kernel, rfl, tyX2_ok, nmX2, by decide +kernel, rfl⟩
theorem fqX2_29 : zFq RX2 29 2 3 (.object "CarrierPool$Matching") := ⟨_, _, tyX2, rfl, izX2, by decide, by decide +kernel, rfl, tyX2_ok, nmX2, by decide +kernel, rfl⟩
theorem fqX1_9 : zFq RX1 9 1 0 (.array .int) := ⟨_, _, tyX1, rfl, izX1, by decide, by decide +kernel, rfl, tyX1_ok, nmX1, by decide +kernel, rfl⟩
theorem fqX1_15 : zFq RX1 15 1 1 (.array .int) := ⟨_, _, tyX1, rfl, izX1, by decide, by decide +kernel, rfl, tyX1_ok, nmX1, by decide +kernel, rfl⟩
theorem fqX1_18 : zFq RX1 18 1 2 (.array .int) := ⟨_, _, tyX1, rfl, izX1, by decide, by decide +kernel, rfl, tyX1_ok, nmX1, by decide +kernel, rfl⟩
theorem fqX1_21 : zFq RX1 21 1 3 (.array .int) := ⟨_, _, tyX1, rfl, izX1, by decide, by decide +kernel, rfl, tyX1_ok, nmX1, by decide +kernel, rfl⟩
theorem fqX0_9 : zFq RX0 9 0 0 (.array .int) := ⟨_, _, tyX0, rfl, izX0, by decide, by decide +kernel, rfl, tyX0_ok, nmX0, by decide +kernel, rfl⟩
theorem fqX0_15 : zFq RX0 15 0 1 (.array .int) := ⟨_, _, tyX0, rfl, izX0, by decide, by decide +kernel, rfl, tyX0_ok, nmX0, by decide +kernel, rfl⟩
theorem fqX0_18 : zFq RX0 18 0 2 (.array .int) := ⟨_, _, tyX0, rfl, izX0, by decide, by decide +kernel, rfl, tyX0_ok, nmX0, by decide +kernel, rfl⟩
theorem fqX0_21 : zFq RX0 21 0 3 (.array .int) := ⟨_, _, tyX0, rfl, izX0, by decide, by decide +kernel, rfl, tyX0_ok, nmX0, by decide +kernel, rfl⟩
theorem fqX0_24 : zFq RX0 24 0 4 (.array .int) := ⟨_, _, tyX0, rfl, izX0, by decide, by decide +kernel, rfl, tyX0_ok, nmX0, by decide +kernel, rfl⟩
theorem fqX0_27 : zFq RX0 27 0 5 (.array .int) := ⟨_, _, tyX0, rfl, izX0, by decide, by decide +kernel, rfl, tyX0_ok, nmX0, by decide +kernel, rfl⟩
theorem fqX0_30 : zFq RX0 30 0 6 (.array .int) := ⟨_, _, tyX0, rfl, izX0, by decide, by decide +kernel, rfl, tyX0_ok, nmX0, by decide +kernel, rfl⟩
theorem fqX0_33 : zFq RX0 33 0 7 (.array .int) := ⟨_, _, tyX0, rfl, izX0, by decide, by decide +kernel, rfl, tyX0_ok, nmX0, by decide +kernel, rfl⟩
theorem fqX0_36 : zFq RX0 36 0 8 (.array .int) := ⟨_, _, tyX0, rfl, izX0, by decide, by decide +kernel, rfl, tyX0_ok, nmX0, by decide +kernel, rfl⟩
theorem fqX0_39 : zFq RX0 39 0 9 (.array .int) := ⟨_, _, tyX0, rfl, izX0, by decide, by decide +kernel, rfl, tyX0_ok, nmX0, by decide +kernel, rfl⟩
theorem fqX7_9 : zFq RX7 9 7 4 (.array .int) := ⟨_, _, tyX7, rfl, izX7, by decide, by decide +kernel, rfl, tyX7_ok, nmX7, by decide +kernel, rfl⟩
theorem fqX7_13 : zFq RX7 13 7 5 (.array .int) := ⟨_, _, tyX7, rfl, izX7, by decide, by decide +kernel, rfl, tyX7_ok, nmX7, by decide +kernel, rfl⟩
theorem fqX7_16 : zFq RX7 16 7 6 (.array .int) := ⟨_, _, tyX7, rfl, izX7, by decide, by decide +kernel, rfl, tyX7_ok, nmX7, by decide +kernel, rfl⟩
theorem fqX7_19 : zFq RX7 19 7 7 (.array .int) := ⟨_, _, tyX7, rfl, izX7, by decide, by decide +kernel, rfl, tyX7_ok, nmX7, by decide +kernel, rfl⟩
theorem fqX7_22 : zFq RX7 22 7 8 (.array .int) := ⟨_, _, tyX7, rfl, izX7, by decide, by decide +kernel, rfl, tyX7_ok, nmX7, by decide +kernel, rfl⟩
theorem fqX7_25 : zFq RX7 25 7 9 (.array .int) := ⟨_, _, tyX7, rfl, izX7, by decide, by decide +kernel, rfl, tyX7_ok, nmX7, by decide +kernel, rfl⟩
theorem fqX7_28 : zFq RX7 28 7 10 (.array .long) := ⟨_, _, tyX7, rfl, izX7, by decide, by decide +kernel, rfl, tyX7_ok, nmX7, by decide +kernel, rfl⟩
theorem fqX7_35 : zFq RX7 35 7 11 (.object "CarrierPool$Ledger") := ⟨_, _, tyX7, rfl, izX7, by decide, by decide +kernel, rfl, tyX7_ok, nmX7, by decide +kernel, rfl⟩
theorem fqX7_42 : zFq RX7 42 7 12 (.object "CarrierPool$Doors") := ⟨_, _, tyX7, rfl, izX7, by decide, by decide +kernel, rfl, tyX7_ok, nmX7, by decide +kernel, rfl⟩
theorem fqX7_49 : zFq RX7 49 7 13 (.object "CarrierPool$Debts") := ⟨_, _, tyX7, rfl, izX7, by decide, by decide +kernel, rfl, tyX7_ok, nmX7, by decide +kernel, rfl⟩
theorem fqX7_56 : zFq RX7 56 7 14 (.object "CarrierPool$Carrying") := ⟨_, _, tyX7, rfl, izX7, by decide, by decide +kernel, rfl, tyX7_ok, nmX7, by decide +kernel, rfl⟩
theorem fqX8_7 : zFq RX8 7 8 3 (.array .int) := ⟨_, _, tyX8, rfl, izX8, by decide, by decide +kernel, rfl, tyX8_ok, nmX8, by decide +kernel, rfl⟩
theorem fqX8_13 : zFq RX8 13 8 4 (.array .int) := ⟨_, _, tyX8, rfl, izX8, by decide, by decide +kernel, rfl, tyX8_ok, nmX8, by decide +kernel, rfl⟩
theorem fqX8_16 : zFq RX8 16 8 6 (.array .int) := ⟨_, _, tyX8, rfl, izX8, by decide, by decide +kernel, rfl, tyX8_ok, nmX8, by decide +kernel, rfl⟩
theorem fqX8_19 : zFq RX8 19 8 7 (.array .int) := ⟨_, _, tyX8, rfl, izX8, by decide, by decide +kernel, rfl, tyX8_ok, nmX8, by decide +kernel, rfl⟩
theorem fqX8_22 : zFq RX8 22 8 8 (.array .int) := ⟨_, _, tyX8, rfl, izX8, by decide, by decide +kernel, rfl, tyX8_ok, nmX8, by decide +kernel, rfl⟩
theorem fqX8_25 : zFq RX8 25 8 9 (.array .int) := ⟨_, _, tyX8, rfl, izX8, by decide, by decide +kernel, rfl, tyX8_ok, nmX8, by decide +kernel, rfl⟩
theorem fqX8_28 : zFq RX8 28 8 10 (.array .long) := ⟨_, _, tyX8, rfl, izX8, by decide, by decide +kernel, rfl, tyX8_ok, nmX8, by decide +kernel, rfl⟩
theorem fqX8_32 : zFq RX8 32 8 12 (.array .long) := ⟨_, _, tyX8, rfl, izX8, by decide, by decide +kernel, rfl, tyX8_ok, nmX8, by decide +kernel, rfl⟩
theorem fqX8_35 : zFq RX8 35 8 14 (.array .boolean) := ⟨_, _, tyX8, rfl, izX8, by decide, by decide +kernel, rfl, tyX8_ok, nmX8, by decide +kernel, rfl⟩
theorem fqX8_39 : zFq RX8 39 8 15 (.array .int) := ⟨_, _, tyX8, rfl, izX8, by decide, by decide +kernel, rfl, tyX8_ok, nmX8, by decide +kernel, rfl⟩
theorem fqX8_42 : zFq RX8 42 8 16 (.array .int) := ⟨_, _, tyX8, rfl, izX8, by decide, by decide +kernel, rfl, tyX8_ok, nmX8, by decide +kernel, rfl⟩
theorem fqX8_45 : zFq RX8 45 8 17 (.array .int) := ⟨_, _, tyX8, rfl, izX8, by decide, by decide +kernel, rfl, tyX8_ok, nmX8, by decide +kernel, rfl⟩
theorem fqX8_48 : zFq RX8 48 8 18 (.array .int) := ⟨_, _, tyX8, rfl, izX8, by decide, by decide +kernel, rfl, tyX8_ok, nmX8, by decide +kernel, rfl⟩
theorem fqX8_51 : zFq RX8 51 8 19 (.array .int) := ⟨_, _, tyX8, rfl, izX8, by decide, by decide +kernel, rfl, tyX8_ok, nmX8, by decide +kernel, rfl⟩
theorem fqX8_54 : zFq RX8 54 8 20 (.array .int) := ⟨_, _, tyX8, rfl, izX8, by decide, by decide +kernel, rfl, tyX8_ok, nmX8, by decide +kernel, rfl⟩
theorem fqX8_57 : zFq RX8 57 8 21 (.array .int) := ⟨_, _, tyX8, rfl, izX8, by decide, by decide +kernel, rfl, tyX8_ok, nmX8, by decide +kernel, rfl⟩
theorem fqX8_60 : zFq RX8 60 8 24 (.array .int) := ⟨_, _, tyX8, rfl, izX8, by decide, by decide +kernel, rfl, tyX8_ok, nmX8, by decide +kernel, rfl⟩
theorem fqX8_63 : zFq RX8 63 8 25 (.array .int) := ⟨_, _, tyX8, rfl, izX8, by decide, by decide +kernel, rfl, tyX8_ok, nmX8, by decide +kernel, rfl⟩
theorem fqX8_66 : zFq RX8 66 8 26 (.array .int) := ⟨_, _, tyX8, rfl, izX8, by decide, by decide +kernel, rfl, tyX8_ok, nmX8, by decide +kernel, rfl⟩
theorem fqX8_69 : zFq RX8 69 8 27 (.array .boolean) := ⟨_, _, tyX8, rfl, izX8, by decide, by decide +kernel, rfl, tyX8_ok, nmX8, by decide +kernel, rfl⟩
theorem fqX8_72 : zFq RX8 72 8 28 (.array .int) := ⟨_, _, tyX8, rfl, izX8, by decide, by decide +kernel, rfl, tyX8_ok, nmX8, by decide +kernel, rfl⟩
theorem fqX8_75 : zFq RX8 75 8 29 (.array .int) := ⟨_, _, tyX8, rfl, izX8, by decide, by decide +kernel, rfl, tyX8_ok, nmX8, by decide +kernel, rfl⟩
theorem fqX8_78 : zFq RX8 78 8 30 (.array .int) := ⟨_, _, tyX8, rfl, izX8, by decide, by decide +kernel, rfl, tyX8_ok, nmX8, by decide +kernel, rfl⟩
theorem fqX8_81 : zFq RX8 81 8 31 (.array .int) := ⟨_, _, tyX8, rfl, izX8, by decide, by decide +kernel, rfl, tyX8_ok, nmX8, by decide +kernel, rfl⟩
theorem fqX8_84 : zFq RX8 84 8 32 (.array .int) := ⟨_, _, tyX8, rfl, izX8, by decide, by decide +kernel, rfl, tyX8_ok, nmX8, by decide +kernel, rfl⟩
theorem fqX8_87 : zFq RX8 87 8 33 (.array .int) := ⟨_, _, tyX8, rfl, izX8, by decide, by decide +kernel, rfl, tyX8_ok, nmX8, by decide +kernel, rfl⟩
theorem fqX8_90 : zFq RX8 90 8 34 (.array .int) := ⟨_, _, tyX8, rfl, izX8, by decide, by decide +kernel, rfl, tyX8_ok, nmX8, by decide +kernel, rfl⟩
theorem fqX8_93 : zFq RX8 93 8 35 (.array .int) := ⟨_, _, tyX8, rfl, izX8, by decide, by decide +kernel, rfl, tyX8_ok, nmX8, by decide +kernel, rfl⟩
theorem fqX8_96 : zFq RX8 96 8 36 (.array .int) := ⟨_, _, tyX8, rfl, izX8, by decide, by decide +kernel, rfl, tyX8_ok, nmX8, by decide +kernel, rfl⟩
theorem fqX8_99 : zFq RX8 99 8 37 (.array .int) := ⟨_, _, tyX8, rfl, izX8, by decide, by decide +kernel, rfl, tyX8_ok, nmX8, by decide +kernel, rfl⟩
theorem fqX8_102 : zFq RX8 102 8 39 (.array .int) := ⟨_, _, tyX8, rfl, izX8, by decide, by decide +kernel, rfl, tyX8_ok, nmX8, by decide +kernel, rfl⟩
theorem fqX8_105 : zFq RX8 105 8 40 (.array .int) := ⟨_, _, tyX8, rfl, izX8, by decide, by decide +kernel, rfl, tyX8_ok, nmX8, by decide +kernel, rfl⟩
theorem fqX8_108 : zFq RX8 108 8 41 (.array .int) := ⟨_, _, tyX8, rfl, izX8, by decide, by decide +kernel, rfl, tyX8_ok, nmX8, by decide +kernel, rfl⟩
theorem fqX8_111 : zFq RX8 111 8 42 (.array .int) := ⟨_, _, tyX8, rfl, izX8, by decide, by decide +kernel, rfl, tyX8_ok, nmX8, by decide +kernel, rfl⟩
abbrev rmX3_init : Room := { frames := 1, cells := 4, slots := 6180, locals := 20 }
set_option maxHeartbeats 8000000 in
set_option maxRecDepth 100000 in
theorem cX3_init_ok (l : Launch) (D : va_G) (cy : Nat → ClassId) (h0 : Nat) : zMk l yX3_init cX3_init rmX3_init D cy [.ref h0] [(h0, .inr (3, [.null, .null, .null, .null, .int 0, .int 0]))] (fun u => [(h0, .inr (3, [.ref (u 0), .ref (u 1), .ref (u 2), .ref (u 3), .int 0, .int 0])), ((u 0), .inl (cy 0, 2000, .inl (fun _ => 0))), ((u 1), .inl (cy 0, 2000, .inl (fun _ => 0))), ((u 2), .inl (cy 0, 2000, .inl (fun _ => 0))), ((u 3), .inl (cy 0, 180, .inl (fun _ => 0)))]) := by
  refine zmet_k (by decide +kernel) rfl ?_
  intro p e s m below meth c A Q ls hin hNN hC hA hP hD hS hl hE
  have hx := hC.1.1
  have hb := hC.1.2.1
  refine lv_aload_n (pc := 0) hx hb dX3_init_0 rfl (lv_at hl 0 rfl) ?_
  refine zk_obj (pc := 1) hC oiX3_3 hl.1 (Nat.le_of_ble_eq_true rfl) (Nat.le_of_ble_eq_true rfl) dX3_init_1 ?_
  refine lv_aload_n (pc := 4) hx hb dX3_init_4 rfl (lv_at hl 0 rfl) ?_
  refine lv_sipush (pc := 5) (v := (2000 : Int32)) hx hb dX3_init_5 (by decide) ?_
  refine zk_newa (pc := 8) (atype := .int) (ty := .int) (N' := 2000) (a0 := (2000, .inl (fun _ => 0))) hC hA hP hD hS 0 rfl rfl ac_0 (fun _ => rfl) (by decide) (by decide) (by decide) (Nat.le_of_ble_eq_true rfl) (Nat.le_of_ble_eq_true rfl) dX3_init_8 (fun q1 H hP hD hS => ?_)
  have hP : va_P D vwCl [(h0, .inr (3, [.null, .null, .null, .null, .int 0, .int 0])), (q1, .inl (cy 0, 2000, .inl (fun _ => 0)))] H := hP
  have hD : va_D A [(h0, .inr (3, [.null, .null, .null, .null, .int 0, .int 0])), (q1, .inl (cy 0, 2000, .inl (fun _ => 0)))] := hD
  refine W.widen (k := 1) (n := 2000) (by decide) (by decide) ?_
  refine zk_putF (pc := 10) hC hin hP hD hS fqX3_9 0 rfl rfl rfl (Nat.le_of_ble_eq_true rfl) dX3_init_10 (fun H locs hP hD hS => ?_)
  have hP : va_P D vwCl [(h0, .inr (3, [.ref q1, .null, .null, .null, .int 0, .int 0])), (q1, .inl (cy 0, 2000, .inl (fun _ => 0)))] H := hP
  have hD : va_D A [(h0, .inr (3, [.ref q1, .null, .null, .null, .int 0, .int 0])), (q1, .inl (cy 0, 2000, .inl (fun _ => 0)))] := hD
  refine lv_aload_n (pc := 13) hx hb dX3_init_13 rfl (lv_at hl 0 rfl) ?_
  refine lv_sipush (pc := 14) (v := (2000 : Int32)) hx hb dX3_init_14 (by decide) ?_
  refine zk_newa (pc := 17) (atype := .int) (ty := .int) (N' := 2000) (a0 := (2000, .inl (fun _ => 0))) hC hA hP hD hS 0 rfl rfl ac_0 (fun _ => rfl) (by decide) (by decide) (by decide) (Nat.le_of_ble_eq_true rfl) (Nat.le_of_ble_eq_true rfl) dX3_init_17 (fun q2 H hP hD hS => ?_)
  have hP : va_P D vwCl [(h0, .inr (3, [.ref q1, .null, .null, .null, .int 0, .int 0])), (q1, .inl (cy 0, 2000, .inl (fun _ => 0))), (q2, .inl (cy 0, 2000, .inl (fun _ => 0)))] H := hP
  have hD : va_D A [(h0, .inr (3, [.ref q1, .null, .null, .null, .int 0, .int 0])), (q1, .inl (cy 0, 2000, .inl (fun _ => 0))), (q2, .inl (cy 0, 2000, .inl (fun _ => 0)))] := hD
  refine W.widen (k := 2) (n := 4000) (by decide) (by decide) ?_
  refine zk_putF (pc := 19) hC hin hP hD hS fqX3_15 0 rfl rfl rfl (Nat.le_of_ble_eq_true rfl) dX3_init_19 (fun H locs hP hD hS => ?_)
  have hP : va_P D vwCl [(h0, .inr (3, [.ref q1, .ref q2, .null, .null, .int 0, .int 0])), (q1, .inl (cy 0, 2000, .inl (fun _ => 0))), (q2, .inl (cy 0, 2000, .inl (fun _ => 0)))] H := hP
  have hD : va_D A [(h0, .inr (3, [.ref q1, .ref q2, .null, .null, .int 0, .int 0])), (q1, .inl (cy 0, 2000, .inl (fun _ => 0))), (q2, .inl (cy 0, 2000, .inl (fun _ => 0)))] := hD
  refine lv_aload_n (pc := 22) hx hb dX3_init_22 rfl (lv_at hl 0 rfl) ?_
  refine lv_sipush (pc := 23) (v := (2000 : Int32)) hx hb dX3_init_23 (by decide) ?_
  refine zk_newa (pc := 26) (atype := .int) (ty := .int) (N' := 2000) (a0 := (2000, .inl (fun _ => 0))) hC hA hP hD hS 0 rfl rfl ac_0 (fun _ => rfl) (by decide) (by decide) (by decide) (Nat.le_of_ble_eq_true rfl) (Nat.le_of_ble_eq_true rfl) dX3_init_26 (fun q3 H hP hD hS => ?_)
  have hP : va_P D vwCl [(h0, .inr (3, [.ref q1, .ref q2, .null, .null, .int 0, .int 0])), (q1, .inl (cy 0, 2000, .inl (fun _ => 0))), (q2, .inl (cy 0, 2000, .inl (fun _ => 0))), (q3, .inl (cy 0, 2000, .inl (fun _ => 0)))] H := hP
  have hD : va_D A [(h0, .inr (3, [.ref q1, .ref q2, .null, .null, .int 0, .int 0])), (q1, .inl (cy 0, 2000, .inl (fun _ => 0))), (q2, .inl (cy 0, 2000, .inl (fun _ => 0))), (q3, .inl (cy 0, 2000, .inl (fun _ => 0)))] := hD
  refine W.widen (k := 3) (n := 6000) (by decide) (by decide) ?_
  refine zk_putF (pc := 28) hC hin hP hD hS fqX3_18 0 rfl rfl rfl (Nat.le_of_ble_eq_true rfl) dX3_init_28 (fun H locs hP hD hS => ?_)
  have hP : va_P D vwCl [(h0, .inr (3, [.ref q1, .ref q2, .ref q3, .null, .int 0, .int 0])), (q1, .inl (cy 0, 2000, .inl (fun _ => 0))), (q2, .inl (cy 0, 2000, .inl (fun _ => 0))), (q3, .inl (cy 0, 2000, .inl (fun _ => 0)))] H := hP
  have hD : va_D A [(h0, .inr (3, [.ref q1, .ref q2, .ref q3, .null, .int 0, .int 0])), (q1, .inl (cy 0, 2000, .inl (fun _ => 0))), (q2, .inl (cy 0, 2000, .inl (fun _ => 0))), (q3, .inl (cy 0, 2000, .inl (fun _ => 0)))] := hD
  refine lv_aload_n (pc := 31) hx hb dX3_init_31 rfl (lv_at hl 0 rfl) ?_
  refine lv_sipush (pc := 32) (v := (180 : Int32)) hx hb dX3_init_32 (by decide) ?_
  refine zk_newa (pc := 35) (atype := .int) (ty := .int) (N' := 180) (a0 := (180, .inl (fun _ => 0))) hC hA hP hD hS 0 rfl rfl ac_0 (fun _ => rfl) (by decide) (by decide) (by decide) (Nat.le_of_ble_eq_true rfl) (Nat.le_of_ble_eq_true rfl) dX3_init_35 (fun q4 H hP hD hS => ?_)
  have hP : va_P D vwCl [(h0, .inr (3, [.ref q1, .ref q2, .ref q3, .null, .int 0, .int 0])), (q1, .inl (cy 0, 2000, .inl (fun _ => 0))), (q2, .inl (cy 0, 2000, .inl (fun _ => 0))), (q3, .inl (cy 0, 2000, .inl (fun _ => 0))), (q4, .inl (cy 0, 180, .inl (fun _ => 0)))] H := hP
  have hD : va_D A [(h0, .inr (3, [.ref q1, .ref q2, .ref q3, .null, .int 0, .int 0])), (q1, .inl (cy 0, 2000, .inl (fun _ => 0))), (q2, .inl (cy 0, 2000, .inl (fun _ => 0))), (q3, .inl (cy 0, 2000, .inl (fun _ => 0))), (q4, .inl (cy 0, 180, .inl (fun _ => 0)))] := hD
  refine W.widen (k := 4) (n := 6180) (by decide) (by decide) ?_
  refine zk_putF (pc := 37) hC hin hP hD hS fqX3_21 0 rfl rfl rfl (Nat.le_of_ble_eq_true rfl) dX3_init_37 (fun H locs hP hD hS => ?_)
  have hP : va_P D vwCl [(h0, .inr (3, [.ref q1, .ref q2, .ref q3, .ref q4, .int 0, .int 0])), (q1, .inl (cy 0, 2000, .inl (fun _ => 0))), (q2, .inl (cy 0, 2000, .inl (fun _ => 0))), (q3, .inl (cy 0, 2000, .inl (fun _ => 0))), (q4, .inl (cy 0, 180, .inl (fun _ => 0)))] H := hP
  have hD : va_D A [(h0, .inr (3, [.ref q1, .ref q2, .ref q3, .ref q4, .int 0, .int 0])), (q1, .inl (cy 0, 2000, .inl (fun _ => 0))), (q2, .inl (cy 0, 2000, .inl (fun _ => 0))), (q3, .inl (cy 0, 2000, .inl (fun _ => 0))), (q4, .inl (cy 0, 180, .inl (fun _ => 0)))] := hD
  exact hE (fun i => ([q1, q2, q3, q4] : List Nat).getD i 0) H locs 40 ls hP hD hS dX3_init_40
abbrev rmX4_init : Room := { frames := 1, cells := 4, slots := 280, locals := 20 }
set_option maxHeartbeats 8000000 in
set_option maxRecDepth 100000 in
theorem cX4_init_ok (l : Launch) (D : va_G) (cy : Nat → ClassId) (h0 : Nat) : zMk l yX4_init cX4_init rmX4_init D cy [.ref h0] [(h0, .inr (4, [.null, .null, .null, .null, .int 0, .int 0, .long 0]))] (fun u => [(h0, .inr (4, [.ref (u 0), .ref (u 1), .ref (u 2), .ref (u 3), .int 0, .int 0, .long 0])), ((u 0), .inl (cy 3, 8, .inr (.inr (.inr (.inr (fun _ => none)))))), ((u 1), .inl (cy 3, 8, .inr (.inr (.inr (.inr (fun _ => none)))))), ((u 2), .inl (cy 1, 256, .inr (.inl (fun _ => 0)))), ((u 3), .inl (cy 1, 8, .inr (.inl (fun _ => 0))))]) := by
  refine zmet_k (by decide +kernel) rfl ?_
  intro p e s m below meth c A Q ls hin hNN hC hA hP hD hS hl hE
  have hx := hC.1.1
  have hb := hC.1.2.1
  refine lv_aload_n (pc := 0) hx hb dX4_init_0 rfl (lv_at hl 0 rfl) ?_
  refine zk_obj (pc := 1) hC oiX4_1 hl.1 (Nat.le_of_ble_eq_true rfl) (Nat.le_of_ble_eq_true rfl) dX4_init_1 ?_
  refine lv_aload_n (pc := 4) hx hb dX4_init_4 rfl (lv_at hl 0 rfl) ?_
  refine lv_bipush (pc := 5) (v := (8 : Int32)) hx hb dX4_init_5 (by decide) ?_
  refine zk_newq (pc := 7) (C := RX6) (N' := 8) hC hA hP hD hS 3 rfl clX4_9 hNN.2.2.2.2.2.1 (by decide) (by decide) (by decide) (Nat.le_of_ble_eq_true rfl) (Nat.le_of_ble_eq_true rfl) dX4_init_7 (fun q1 H hP hD hS => ?_)
  have hP : va_P D vwCl [(h0, .inr (4, [.null, .null, .null, .null, .int 0, .int 0, .long 0])), (q1, .inl (cy 3, 8, .inr (.inr (.inr (.inr (fun _ => none))))))] H := hP
  have hD : va_D A [(h0, .inr (4, [.null, .null, .null, .null, .int 0, .int 0, .long 0])), (q1, .inl (cy 3, 8, .inr (.inr (.inr (.inr (fun _ => none))))))] := hD
  refine W.widen (k := 1) (n := 8) (by decide) (by decide) ?_
  refine zk_putF (pc := 10) hC hin hP hD hS fqX4_11 0 rfl rfl rfl (Nat.le_of_ble_eq_true rfl) dX4_init_10 (fun H locs hP hD hS => ?_)
  have hP : va_P D vwCl [(h0, .inr (4, [.ref q1, .null, .null, .null, .int 0, .int 0, .long 0])), (q1, .inl (cy 3, 8, .inr (.inr (.inr (.inr (fun _ => none))))))] H := hP
  have hD : va_D A [(h0, .inr (4, [.ref q1, .null, .null, .null, .int 0, .int 0, .long 0])), (q1, .inl (cy 3, 8, .inr (.inr (.inr (.inr (fun _ => none))))))] := hD
  refine lv_aload_n (pc := 13) hx hb dX4_init_13 rfl (lv_at hl 0 rfl) ?_
  refine lv_bipush (pc := 14) (v := (8 : Int32)) hx hb dX4_init_14 (by decide) ?_
  refine zk_newq (pc := 16) (C := RX6) (N' := 8) hC hA hP hD hS 3 rfl clX4_9 hNN.2.2.2.2.2.1 (by decide) (by decide) (by decide) (Nat.le_of_ble_eq_true rfl) (Nat.le_of_ble_eq_true rfl) dX4_init_16 (fun q2 H hP hD hS => ?_)
  have hP : va_P D vwCl [(h0, .inr (4, [.ref q1, .null, .null, .null, .int 0, .int 0, .long 0])), (q1, .inl (cy 3, 8, .inr (.inr (.inr (.inr (fun _ => none)))))), (q2, .inl (cy 3, 8, .inr (.inr (.inr (.inr (fun _ => none))))))] H := hP
  have hD : va_D A [(h0, .inr (4, [.ref q1, .null, .null, .null, .int 0, .int 0, .long 0])), (q1, .inl (cy 3, 8, .inr (.inr (.inr (.inr (fun _ => none)))))), (q2, .inl (cy 3, 8, .inr (.inr (.inr (.inr (fun _ => none))))))] := hD
  refine W.widen (k := 2) (n := 16) (by decide) (by decide) ?_
  refine zk_putF (pc := 19) hC hin hP hD hS fqX4_15 0 rfl rfl rfl (Nat.le_of_ble_eq_true rfl) dX4_init_19 (fun H locs hP hD hS => ?_)
  have hP : va_P D vwCl [(h0, .inr (4, [.ref q1, .ref q2, .null, .null, .int 0, .int 0, .long 0])), (q1, .inl (cy 3, 8, .inr (.inr (.inr (.inr (fun _ => none)))))), (q2, .inl (cy 3, 8, .inr (.inr (.inr (.inr (fun _ => none))))))] H := hP
  have hD : va_D A [(h0, .inr (4, [.ref q1, .ref q2, .null, .null, .int 0, .int 0, .long 0])), (q1, .inl (cy 3, 8, .inr (.inr (.inr (.inr (fun _ => none)))))), (q2, .inl (cy 3, 8, .inr (.inr (.inr (.inr (fun _ => none))))))] := hD
  refine lv_aload_n (pc := 22) hx hb dX4_init_22 rfl (lv_at hl 0 rfl) ?_
  refine lv_sipush (pc := 23) (v := (256 : Int32)) hx hb dX4_init_23 (by decide) ?_
  refine zk_newa (pc := 26) (atype := .long) (ty := .long) (N' := 256) (a0 := (256, .inr (.inl (fun _ => 0)))) hC hA hP hD hS 1 rfl rfl ac_1 (fun _ => rfl) (by decide) (by decide) (by decide) (Nat.le_of_ble_eq_true rfl) (Nat.le_of_ble_eq_true rfl) dX4_init_26 (fun q3 H hP hD hS => ?_)
  have hP : va_P D vwCl [(h0, .inr (4, [.ref q1, .ref q2, .null, .null, .int 0, .int 0, .long 0])), (q1, .inl (cy 3, 8, .inr (.inr (.inr (.inr (fun _ => none)))))), (q2, .inl (cy 3, 8, .inr (.inr (.inr (.inr (fun _ => none)))))), (q3, .inl (cy 1, 256, .inr (.inl (fun _ => 0))))] H := hP
  have hD : va_D A [(h0, .inr (4, [.ref q1, .ref q2, .null, .null, .int 0, .int 0, .long 0])), (q1, .inl (cy 3, 8, .inr (.inr (.inr (.inr (fun _ => none)))))), (q2, .inl (cy 3, 8, .inr (.inr (.inr (.inr (fun _ => none)))))), (q3, .inl (cy 1, 256, .inr (.inl (fun _ => 0))))] := hD
  refine W.widen (k := 3) (n := 272) (by decide) (by decide) ?_
  refine zk_putF (pc := 28) hC hin hP hD hS fqX4_18 0 rfl rfl rfl (Nat.le_of_ble_eq_true rfl) dX4_init_28 (fun H locs hP hD hS => ?_)
  have hP : va_P D vwCl [(h0, .inr (4, [.ref q1, .ref q2, .ref q3, .null, .int 0, .int 0, .long 0])), (q1, .inl (cy 3, 8, .inr (.inr (.inr (.inr (fun _ => none)))))), (q2, .inl (cy 3, 8, .inr (.inr (.inr (.inr (fun _ => none)))))), (q3, .inl (cy 1, 256, .inr (.inl (fun _ => 0))))] H := hP
  have hD : va_D A [(h0, .inr (4, [.ref q1, .ref q2, .ref q3, .null, .int 0, .int 0, .long 0])), (q1, .inl (cy 3, 8, .inr (.inr (.inr (.inr (fun _ => none)))))), (q2, .inl (cy 3, 8, .inr (.inr (.inr (.inr (fun _ => none)))))), (q3, .inl (cy 1, 256, .inr (.inl (fun _ => 0))))] := hD
  refine lv_aload_n (pc := 31) hx hb dX4_init_31 rfl (lv_at hl 0 rfl) ?_
  refine lv_bipush (pc := 32) (v := (8 : Int32)) hx hb dX4_init_32 (by decide) ?_
  refine zk_newa (pc := 34) (atype := .long) (ty := .long) (N' := 8) (a0 := (8, .inr (.inl (fun _ => 0)))) hC hA hP hD hS 1 rfl rfl ac_1 (fun _ => rfl) (by decide) (by decide) (by decide) (Nat.le_of_ble_eq_true rfl) (Nat.le_of_ble_eq_true rfl) dX4_init_34 (fun q4 H hP hD hS => ?_)
  have hP : va_P D vwCl [(h0, .inr (4, [.ref q1, .ref q2, .ref q3, .null, .int 0, .int 0, .long 0])), (q1, .inl (cy 3, 8, .inr (.inr (.inr (.inr (fun _ => none)))))), (q2, .inl (cy 3, 8, .inr (.inr (.inr (.inr (fun _ => none)))))), (q3, .inl (cy 1, 256, .inr (.inl (fun _ => 0)))), (q4, .inl (cy 1, 8, .inr (.inl (fun _ => 0))))] H := hP
  have hD : va_D A [(h0, .inr (4, [.ref q1, .ref q2, .ref q3, .null, .int 0, .int 0, .long 0])), (q1, .inl (cy 3, 8, .inr (.inr (.inr (.inr (fun _ => none)))))), (q2, .inl (cy 3, 8, .inr (.inr (.inr (.inr (fun _ => none)))))), (q3, .inl (cy 1, 256, .inr (.inl (fun _ => 0)))), (q4, .inl (cy 1, 8, .inr (.inl (fun _ => 0))))] := hD
  refine W.widen (k := 4) (n := 280) (by decide) (by decide) ?_
  refine zk_putF (pc := 36) hC hin hP hD hS fqX4_22 0 rfl rfl rfl (Nat.le_of_ble_eq_true rfl) dX4_init_36 (fun H locs hP hD hS => ?_)
  have hP : va_P D vwCl [(h0, .inr (4, [.ref q1, .ref q2, .ref q3, .ref q4, .int 0, .int 0, .long 0])), (q1, .inl (cy 3, 8, .inr (.inr (.inr (.inr (fun _ => none)))))), (q2, .inl (cy 3, 8, .inr (.inr (.inr (.inr (fun _ => none)))))), (q3, .inl (cy 1, 256, .inr (.inl (fun _ => 0)))), (q4, .inl (cy 1, 8, .inr (.inl (fun _ => 0))))] H := hP
  have hD : va_D A [(h0, .inr (4, [.ref q1, .ref q2, .ref q3, .ref q4, .int 0, .int 0, .long 0])), (q1, .inl (cy 3, 8, .inr (.inr (.inr (.inr (fun _ => none)))))), (q2, .inl (cy 3, 8, .inr (.inr (.inr (.inr (fun _ => none)))))), (q3, .inl (cy 1, 256, .inr (.inl (fun _ => 0)))), (q4, .inl (cy 1, 8, .inr (.inl (fun _ => 0))))] := hD
  exact hE (fun i => ([q1, q2, q3, q4] : List Nat).getD i 0) H locs 39 ls hP hD hS dX4_init_39
abbrev rmX2_init : Room := { frames := 2, cells := 8, slots := 1487, locals := 40 }
set_option maxHeartbeats 8000000 in
set_option maxRecDepth 100000 in
theorem cX2_init_ok (l : Launch) (D : va_G) (cy : Nat → ClassId) (h0 : Nat) : zMk l yX2_init cX2_init rmX2_init D cy [.ref h0] [(h0, .inr (2, [.null, .null, .null, .null, .int 0, .int 0]))] (fun u => [(h0, .inr (2, [.ref (u 0), .ref (u 1), .ref (u 2), .ref (u 3), .int 0, .int 0])), ((u 0), .inl (cy 3, 400, .inr (.inr (.inr (.inr (fun _ => none)))))), ((u 1), .inl (cy 4, 200, .inr (.inr (.inr (.inr (fun _ => none)))))), ((u 2), .inl (cy 3, 600, .inr (.inr (.inr (.inr (fun _ => none)))))), ((u 3), .inr (4, [.ref (u 4), .ref (u 5), .ref (u 6), .ref (u 7), .int 0, .int 0, .long 0])), ((u 4), .inl (cy 3, 8, .inr (.inr (.inr (.inr (fun _ => none)))))), ((u 5), .inl (cy 3, 8, .inr (.inr (.inr (.inr (fun _ => none)))))), ((u 6), .inl (cy 1, 256, .inr (.inl (fun _ => 0)))), ((u 7), .inl (cy 1, 8, .inr (.inl (fun _ => 0))))]) := by
  refine zmet_k (by decide +kernel) rfl ?_
  intro p e s m below meth c A Q ls hin hNN hC hA hP hD hS hl hE
  have hx := hC.1.1
  have hb := hC.1.2.1
  refine lv_aload_n (pc := 0) hx hb dX2_init_0 rfl (lv_at hl 0 rfl) ?_
  refine zk_obj (pc := 1) hC oiX2_3 hl.1 (Nat.le_of_ble_eq_true rfl) (Nat.le_of_ble_eq_true rfl) dX2_init_1 ?_
  refine lv_aload_n (pc := 4) hx hb dX2_init_4 rfl (lv_at hl 0 rfl) ?_
  refine lv_sipush (pc := 5) (v := (400 : Int32)) hx hb dX2_init_5 (by decide) ?_
  refine zk_newq (pc := 8) (C := RX6) (N' := 400) hC hA hP hD hS 3 rfl clX2_9 hNN.2.2.2.2.2.1 (by decide) (by decide) (by decide) (Nat.le_of_ble_eq_true rfl) (Nat.le_of_ble_eq_true rfl) dX2_init_8 (fun q1 H hP hD hS => ?_)
  have hP : va_P D vwCl [(h0, .inr (2, [.null, .null, .null, .null, .int 0, .int 0])), (q1, .inl (cy 3, 400, .inr (.inr (.inr (.inr (fun _ => none))))))] H := hP
  have hD : va_D A [(h0, .inr (2, [.null, .null, .null, .null, .int 0, .int 0])), (q1, .inl (cy 3, 400, .inr (.inr (.inr (.inr (fun _ => none))))))] := hD
  refine W.widen (k := 1) (n := 400) (by decide) (by decide) ?_
  refine zk_putF (pc := 11) hC hin hP hD hS fqX2_11 0 rfl rfl rfl (Nat.le_of_ble_eq_true rfl) dX2_init_11 (fun H locs hP hD hS => ?_)
  have hP : va_P D vwCl [(h0, .inr (2, [.ref q1, .null, .null, .null, .int 0, .int 0])), (q1, .inl (cy 3, 400, .inr (.inr (.inr (.inr (fun _ => none))))))] H := hP
  have hD : va_D A [(h0, .inr (2, [.ref q1, .null, .null, .null, .int 0, .int 0])), (q1, .inl (cy 3, 400, .inr (.inr (.inr (.inr (fun _ => none))))))] := hD
  refine lv_aload_n (pc := 14) hx hb dX2_init_14 rfl (lv_at hl 0 rfl) ?_
  refine lv_sipush (pc := 15) (v := (200 : Int32)) hx hb dX2_init_15 (by decide) ?_
  refine zk_newq (pc := 18) (C := RX5) (N' := 200) hC hA hP hD hS 4 rfl clX2_17 hNN.2.2.2.2.2.2 (by decide) (by decide) (by decide) (Nat.le_of_ble_eq_true rfl) (Nat.le_of_ble_eq_true rfl) dX2_init_18 (fun q2 H hP hD hS => ?_)
  have hP : va_P D vwCl [(h0, .inr (2, [.ref q1, .null, .null, .null, .int 0, .int 0])), (q1, .inl (cy 3, 400, .inr (.inr (.inr (.inr (fun _ => none)))))), (q2, .inl (cy 4, 200, .inr (.inr (.inr (.inr (fun _ => none))))))] H := hP
  have hD : va_D A [(h0, .inr (2, [.ref q1, .null, .null, .null, .int 0, .int 0])), (q1, .inl (cy 3, 400, .inr (.inr (.inr (.inr (fun _ => none)))))), (q2, .inl (cy 4, 200, .inr (.inr (.inr (.inr (fun _ => none))))))] := hD
  refine W.widen (k := 2) (n := 600) (by decide) (by decide) ?_
  refine zk_putF (pc := 21) hC hin hP hD hS fqX2_19 0 rfl rfl rfl (Nat.le_of_ble_eq_true rfl) dX2_init_21 (fun H locs hP hD hS => ?_)
  have hP : va_P D vwCl [(h0, .inr (2, [.ref q1, .ref q2, .null, .null, .int 0, .int 0])), (q1, .inl (cy 3, 400, .inr (.inr (.inr (.inr (fun _ => none)))))), (q2, .inl (cy 4, 200, .inr (.inr (.inr (.inr (fun _ => none))))))] H := hP
  have hD : va_D A [(h0, .inr (2, [.ref q1, .ref q2, .null, .null, .int 0, .int 0])), (q1, .inl (cy 3, 400, .inr (.inr (.inr (.inr (fun _ => none)))))), (q2, .inl (cy 4, 200, .inr (.inr (.inr (.inr (fun _ => none))))))] := hD
  refine lv_aload_n (pc := 24) hx hb dX2_init_24 rfl (lv_at hl 0 rfl) ?_
  refine lv_sipush (pc := 25) (v := (600 : Int32)) hx hb dX2_init_25 (by decide) ?_
  refine zk_newq (pc := 28) (C := RX6) (N' := 600) hC hA hP hD hS 3 rfl clX2_9 hNN.2.2.2.2.2.1 (by decide) (by decide) (by decide) (Nat.le_of_ble_eq_true rfl) (Nat.le_of_ble_eq_true rfl) dX2_init_28 (fun q3 H hP hD hS => ?_)
  have hP : va_P D vwCl [(h0, .inr (2, [.ref q1, .ref q2, .null, .null, .int 0, .int 0])), (q1, .inl (cy 3, 400, .inr (.inr (.inr (.inr (fun _ => none)))))), (q2, .inl (cy 4, 200, .inr (.inr (.inr (.inr (fun _ => none)))))), (q3, .inl (cy 3, 600, .inr (.inr (.inr (.inr (fun _ => none))))))] H := hP
  have hD : va_D A [(h0, .inr (2, [.ref q1, .ref q2, .null, .null, .int 0, .int 0])), (q1, .inl (cy 3, 400, .inr (.inr (.inr (.inr (fun _ => none)))))), (q2, .inl (cy 4, 200, .inr (.inr (.inr (.inr (fun _ => none)))))), (q3, .inl (cy 3, 600, .inr (.inr (.inr (.inr (fun _ => none))))))] := hD
  refine W.widen (k := 3) (n := 1200) (by decide) (by decide) ?_
  refine zk_putF (pc := 31) hC hin hP hD hS fqX2_23 0 rfl rfl rfl (Nat.le_of_ble_eq_true rfl) dX2_init_31 (fun H locs hP hD hS => ?_)
  have hP : va_P D vwCl [(h0, .inr (2, [.ref q1, .ref q2, .ref q3, .null, .int 0, .int 0])), (q1, .inl (cy 3, 400, .inr (.inr (.inr (.inr (fun _ => none)))))), (q2, .inl (cy 4, 200, .inr (.inr (.inr (.inr (fun _ => none)))))), (q3, .inl (cy 3, 600, .inr (.inr (.inr (.inr (fun _ => none))))))] H := hP
  have hD : va_D A [(h0, .inr (2, [.ref q1, .ref q2, .ref q3, .null, .int 0, .int 0])), (q1, .inl (cy 3, 400, .inr (.inr (.inr (.inr (fun _ => none)))))), (q2, .inl (cy 4, 200, .inr (.inr (.inr (.inr (fun _ => none)))))), (q3, .inl (cy 3, 600, .inr (.inr (.inr (.inr (fun _ => none))))))] := hD
  refine lv_aload_n (pc := 34) hx hb dX2_init_34 rfl (lv_at hl 0 rfl) ?_
  refine va_new (pc := 35) (ci := 4) (fs := [.null, .null, .null, .null, .int 0, .int 0, .long 0]) (C := RX4) (T := TX4) (N := 7) hC.1.1 hC.1.2.1 hC.1.2.2.2.2 izX4 tyX4 tyX4_ok hC.1.2.2.2.1 (hC.1.2.2.2.2 _ clX2_26) (hC.1.2.2.2.2 _ inX4) (hC.1.2.2.2.2 _ iiX4) hC.2 hP hD hS hA rfl (fun j hj => by rcases (show j = 0 ∨ j = 1 ∨ j = 2 ∨ j = 3 ∨ j = 4 ∨ j = 5 ∨ j = 6 by omega) with rfl | rfl | rfl | rfl | rfl | rfl | rfl <;> rfl) (Nat.le_of_ble_eq_true rfl) (Nat.le_of_ble_eq_true rfl) dX2_init_35 (fun q4 H hP hD hS => ?_)
  have hP : va_P D vwCl [(h0, .inr (2, [.ref q1, .ref q2, .ref q3, .null, .int 0, .int 0])), (q1, .inl (cy 3, 400, .inr (.inr (.inr (.inr (fun _ => none)))))), (q2, .inl (cy 4, 200, .inr (.inr (.inr (.inr (fun _ => none)))))), (q3, .inl (cy 3, 600, .inr (.inr (.inr (.inr (fun _ => none)))))), (q4, .inr (4, [.null, .null, .null, .null, .int 0, .int 0, .long 0]))] H := hP
  have hD : va_D A [(h0, .inr (2, [.ref q1, .ref q2, .ref q3, .null, .int 0, .int 0])), (q1, .inl (cy 3, 400, .inr (.inr (.inr (.inr (fun _ => none)))))), (q2, .inl (cy 4, 200, .inr (.inr (.inr (.inr (fun _ => none)))))), (q3, .inl (cy 3, 600, .inr (.inr (.inr (.inr (fun _ => none)))))), (q4, .inr (4, [.null, .null, .null, .null, .int 0, .int 0, .long 0]))] := hD
  refine W.widen (k := 4) (n := 1207) (by decide) (by decide) ?_
  refine lv_dup (pc := 38) hx hb dX2_init_38 rfl ?_
  refine zk_call (pc := 39) (wr := [(h0, .inr (2, [.ref q1, .ref q2, .ref q3, .null, .int 0, .int 0])), (q1, .inl (cy 3, 400, .inr (.inr (.inr (.inr (fun _ => none)))))), (q2, .inl (cy 4, 200, .inr (.inr (.inr (.inr (fun _ => none)))))), (q3, .inl (cy 3, 600, .inr (.inr (.inr (.inr (fun _ => none))))))]) hC hNN hA hP hD hS hNN.2.2.2.2.1 ikX4.1 ikX4.2.1 ikX4.2.2.1 rfl ikX4.2.2.2 (k := 4) rfl [0, 1, 2, 3] rfl rfl (by decide) (cX4_init_ok l D cy q4) ⟨Nat.le_of_ble_eq_true rfl, Nat.le_of_ble_eq_true rfl⟩ hl.1 (Nat.le_of_ble_eq_true rfl) ⟨Nat.le_of_ble_eq_true rfl, Nat.le_of_ble_eq_true rfl⟩ dX2_init_39 (fun u39 H locs hP hD hS => ?_)
  have hP : va_P D vwCl [(h0, .inr (2, [.ref q1, .ref q2, .ref q3, .null, .int 0, .int 0])), (q1, .inl (cy 3, 400, .inr (.inr (.inr (.inr (fun _ => none)))))), (q2, .inl (cy 4, 200, .inr (.inr (.inr (.inr (fun _ => none)))))), (q3, .inl (cy 3, 600, .inr (.inr (.inr (.inr (fun _ => none)))))), (q4, .inr (4, [.ref (u39 0), .ref (u39 1), .ref (u39 2), .ref (u39 3), .int 0, .int 0, .long 0])), ((u39 0), .inl (cy 3, 8, .inr (.inr (.inr (.inr (fun _ => none)))))), ((u39 1), .inl (cy 3, 8, .inr (.inr (.inr (.inr (fun _ => none)))))), ((u39 2), .inl (cy 1, 256, .inr (.inl (fun _ => 0)))), ((u39 3), .inl (cy 1, 8, .inr (.inl (fun _ => 0))))] H := hP
  have hD : va_D A [(h0, .inr (2, [.ref q1, .ref q2, .ref q3, .null, .int 0, .int 0])), (q1, .inl (cy 3, 400, .inr (.inr (.inr (.inr (fun _ => none)))))), (q2, .inl (cy 4, 200, .inr (.inr (.inr (.inr (fun _ => none)))))), (q3, .inl (cy 3, 600, .inr (.inr (.inr (.inr (fun _ => none)))))), (q4, .inr (4, [.ref (u39 0), .ref (u39 1), .ref (u39 2), .ref (u39 3), .int 0, .int 0, .long 0])), ((u39 0), .inl (cy 3, 8, .inr (.inr (.inr (.inr (fun _ => none)))))), ((u39 1), .inl (cy 3, 8, .inr (.inr (.inr (.inr (fun _ => none)))))), ((u39 2), .inl (cy 1, 256, .inr (.inl (fun _ => 0)))), ((u39 3), .inl (cy 1, 8, .inr (.inl (fun _ => 0))))] := hD
  refine W.widen (k := 8) (n := 1487) (by decide) (by decide) ?_
  refine zk_putF (pc := 42) hC hin hP hD hS fqX2_29 0 rfl rfl rfl (Nat.le_of_ble_eq_true rfl) dX2_init_42 (fun H locs hP hD hS => ?_)
  have hP : va_P D vwCl [(h0, .inr (2, [.ref q1, .ref q2, .ref q3, .ref q4, .int 0, .int 0])), (q1, .inl (cy 3, 400, .inr (.inr (.inr (.inr (fun _ => none)))))), (q2, .inl (cy 4, 200, .inr (.inr (.inr (.inr (fun _ => none)))))), (q3, .inl (cy 3, 600, .inr (.inr (.inr (.inr (fun _ => none)))))), (q4, .inr (4, [.ref (u39 0), .ref (u39 1), .ref (u39 2), .ref (u39 3), .int 0, .int 0, .long 0])), ((u39 0), .inl (cy 3, 8, .inr (.inr (.inr (.inr (fun _ => none)))))), ((u39 1), .inl (cy 3, 8, .inr (.inr (.inr (.inr (fun _ => none)))))), ((u39 2), .inl (cy 1, 256, .inr (.inl (fun _ => 0)))), ((u39 3), .inl (cy 1, 8, .inr (.inl (fun _ => 0))))] H := hP
  have hD : va_D A [(h0, .inr (2, [.ref q1, .ref q2, .ref q3, .ref q4, .int 0, .int 0])), (q1, .inl (cy 3, 400, .inr (.inr (.inr (.inr (fun _ => none)))))), (q2, .inl (cy 4, 200, .inr (.inr (.inr (.inr (fun _ => none)))))), (q3, .inl (cy 3, 600, .inr (.inr (.inr (.inr (fun _ => none)))))), (q4, .inr (4, [.ref (u39 0), .ref (u39 1), .ref (u39 2), .ref (u39 3), .int 0, .int 0, .long 0])), ((u39 0), .inl (cy 3, 8, .inr (.inr (.inr (.inr (fun _ => none)))))), ((u39 1), .inl (cy 3, 8, .inr (.inr (.inr (.inr (fun _ => none)))))), ((u39 2), .inl (cy 1, 256, .inr (.inl (fun _ => 0)))), ((u39 3), .inl (cy 1, 8, .inr (.inl (fun _ => 0))))] := hD
  exact hE (fun i => ([q1, q2, q3, q4, (u39 0), (u39 1), (u39 2), (u39 3)] : List Nat).getD i 0) H locs 45 ls hP hD hS dX2_init_45
abbrev rmX1_init : Room := { frames := 1, cells := 4, slots := 630, locals := 20 }
set_option maxHeartbeats 8000000 in
set_option maxRecDepth 100000 in
theorem cX1_init_ok (l : Launch) (D : va_G) (cy : Nat → ClassId) (h0 : Nat) : zMk l yX1_init cX1_init rmX1_init D cy [.ref h0] [(h0, .inr (1, [.null, .null, .null, .null, .int 0]))] (fun u => [(h0, .inr (1, [.ref (u 0), .ref (u 1), .ref (u 2), .ref (u 3), .int 0])), ((u 0), .inl (cy 0, 600, .inl (fun _ => 0))), ((u 1), .inl (cy 0, 10, .inl (fun _ => 0))), ((u 2), .inl (cy 0, 10, .inl (fun _ => 0))), ((u 3), .inl (cy 0, 10, .inl (fun _ => 0)))]) := by
  refine zmet_k (by decide +kernel) rfl ?_
  intro p e s m below meth c A Q ls hin hNN hC hA hP hD hS hl hE
  have hx := hC.1.1
  have hb := hC.1.2.1
  refine lv_aload_n (pc := 0) hx hb dX1_init_0 rfl (lv_at hl 0 rfl) ?_
  refine zk_obj (pc := 1) hC oiX1_3 hl.1 (Nat.le_of_ble_eq_true rfl) (Nat.le_of_ble_eq_true rfl) dX1_init_1 ?_
  refine lv_aload_n (pc := 4) hx hb dX1_init_4 rfl (lv_at hl 0 rfl) ?_
  refine lv_sipush (pc := 5) (v := (600 : Int32)) hx hb dX1_init_5 (by decide) ?_
  refine zk_newa (pc := 8) (atype := .int) (ty := .int) (N' := 600) (a0 := (600, .inl (fun _ => 0))) hC hA hP hD hS 0 rfl rfl ac_0 (fun _ => rfl) (by decide) (by decide) (by decide) (Nat.le_of_ble_eq_true rfl) (Nat.le_of_ble_eq_true rfl) dX1_init_8 (fun q1 H hP hD hS => ?_)
  have hP : va_P D vwCl [(h0, .inr (1, [.null, .null, .null, .null, .int 0])), (q1, .inl (cy 0, 600, .inl (fun _ => 0)))] H := hP
  have hD : va_D A [(h0, .inr (1, [.null, .null, .null, .null, .int 0])), (q1, .inl (cy 0, 600, .inl (fun _ => 0)))] := hD
  refine W.widen (k := 1) (n := 600) (by decide) (by decide) ?_
  refine zk_putF (pc := 10) hC hin hP hD hS fqX1_9 0 rfl rfl rfl (Nat.le_of_ble_eq_true rfl) dX1_init_10 (fun H locs hP hD hS => ?_)
  have hP : va_P D vwCl [(h0, .inr (1, [.ref q1, .null, .null, .null, .int 0])), (q1, .inl (cy 0, 600, .inl (fun _ => 0)))] H := hP
  have hD : va_D A [(h0, .inr (1, [.ref q1, .null, .null, .null, .int 0])), (q1, .inl (cy 0, 600, .inl (fun _ => 0)))] := hD
  refine lv_aload_n (pc := 13) hx hb dX1_init_13 rfl (lv_at hl 0 rfl) ?_
  refine lv_bipush (pc := 14) (v := (10 : Int32)) hx hb dX1_init_14 (by decide) ?_
  refine zk_newa (pc := 16) (atype := .int) (ty := .int) (N' := 10) (a0 := (10, .inl (fun _ => 0))) hC hA hP hD hS 0 rfl rfl ac_0 (fun _ => rfl) (by decide) (by decide) (by decide) (Nat.le_of_ble_eq_true rfl) (Nat.le_of_ble_eq_true rfl) dX1_init_16 (fun q2 H hP hD hS => ?_)
  have hP : va_P D vwCl [(h0, .inr (1, [.ref q1, .null, .null, .null, .int 0])), (q1, .inl (cy 0, 600, .inl (fun _ => 0))), (q2, .inl (cy 0, 10, .inl (fun _ => 0)))] H := hP
  have hD : va_D A [(h0, .inr (1, [.ref q1, .null, .null, .null, .int 0])), (q1, .inl (cy 0, 600, .inl (fun _ => 0))), (q2, .inl (cy 0, 10, .inl (fun _ => 0)))] := hD
  refine W.widen (k := 2) (n := 610) (by decide) (by decide) ?_
  refine zk_putF (pc := 18) hC hin hP hD hS fqX1_15 0 rfl rfl rfl (Nat.le_of_ble_eq_true rfl) dX1_init_18 (fun H locs hP hD hS => ?_)
  have hP : va_P D vwCl [(h0, .inr (1, [.ref q1, .ref q2, .null, .null, .int 0])), (q1, .inl (cy 0, 600, .inl (fun _ => 0))), (q2, .inl (cy 0, 10, .inl (fun _ => 0)))] H := hP
  have hD : va_D A [(h0, .inr (1, [.ref q1, .ref q2, .null, .null, .int 0])), (q1, .inl (cy 0, 600, .inl (fun _ => 0))), (q2, .inl (cy 0, 10, .inl (fun _ => 0)))] := hD
  refine lv_aload_n (pc := 21) hx hb dX1_init_21 rfl (lv_at hl 0 rfl) ?_
  refine lv_bipush (pc := 22) (v := (10 : Int32)) hx hb dX1_init_22 (by decide) ?_
  refine zk_newa (pc := 24) (atype := .int) (ty := .int) (N' := 10) (a0 := (10, .inl (fun _ => 0))) hC hA hP hD hS 0 rfl rfl ac_0 (fun _ => rfl) (by decide) (by decide) (by decide) (Nat.le_of_ble_eq_true rfl) (Nat.le_of_ble_eq_true rfl) dX1_init_24 (fun q3 H hP hD hS => ?_)
  have hP : va_P D vwCl [(h0, .inr (1, [.ref q1, .ref q2, .null, .null, .int 0])), (q1, .inl (cy 0, 600, .inl (fun _ => 0))), (q2, .inl (cy 0, 10, .inl (fun _ => 0))), (q3, .inl (cy 0, 10, .inl (fun _ => 0)))] H := hP
  have hD : va_D A [(h0, .inr (1, [.ref q1, .ref q2, .null, .null, .int 0])), (q1, .inl (cy 0, 600, .inl (fun _ => 0))), (q2, .inl (cy 0, 10, .inl (fun _ => 0))), (q3, .inl (cy 0, 10, .inl (fun _ => 0)))] := hD
  refine W.widen (k := 3) (n := 620) (by decide) (by decide) ?_
  refine zk_putF (pc := 26) hC hin hP hD hS fqX1_18 0 rfl rfl rfl (Nat.le_of_ble_eq_true rfl) dX1_init_26 (fun H locs hP hD hS => ?_)
  have hP : va_P D vwCl [(h0, .inr (1, [.ref q1, .ref q2, .ref q3, .null, .int 0])), (q1, .inl (cy 0, 600, .inl (fun _ => 0))), (q2, .inl (cy 0, 10, .inl (fun _ => 0))), (q3, .inl (cy 0, 10, .inl (fun _ => 0)))] H := hP
  have hD : va_D A [(h0, .inr (1, [.ref q1, .ref q2, .ref q3, .null, .int 0])), (q1, .inl (cy 0, 600, .inl (fun _ => 0))), (q2, .inl (cy 0, 10, .inl (fun _ => 0))), (q3, .inl (cy 0, 10, .inl (fun _ => 0)))] := hD
  refine lv_aload_n (pc := 29) hx hb dX1_init_29 rfl (lv_at hl 0 rfl) ?_
  refine lv_bipush (pc := 30) (v := (10 : Int32)) hx hb dX1_init_30 (by decide) ?_
  refine zk_newa (pc := 32) (atype := .int) (ty := .int) (N' := 10) (a0 := (10, .inl (fun _ => 0))) hC hA hP hD hS 0 rfl rfl ac_0 (fun _ => rfl) (by decide) (by decide) (by decide) (Nat.le_of_ble_eq_true rfl) (Nat.le_of_ble_eq_true rfl) dX1_init_32 (fun q4 H hP hD hS => ?_)
  have hP : va_P D vwCl [(h0, .inr (1, [.ref q1, .ref q2, .ref q3, .null, .int 0])), (q1, .inl (cy 0, 600, .inl (fun _ => 0))), (q2, .inl (cy 0, 10, .inl (fun _ => 0))), (q3, .inl (cy 0, 10, .inl (fun _ => 0))), (q4, .inl (cy 0, 10, .inl (fun _ => 0)))] H := hP
  have hD : va_D A [(h0, .inr (1, [.ref q1, .ref q2, .ref q3, .null, .int 0])), (q1, .inl (cy 0, 600, .inl (fun _ => 0))), (q2, .inl (cy 0, 10, .inl (fun _ => 0))), (q3, .inl (cy 0, 10, .inl (fun _ => 0))), (q4, .inl (cy 0, 10, .inl (fun _ => 0)))] := hD
  refine W.widen (k := 4) (n := 630) (by decide) (by decide) ?_
  refine zk_putF (pc := 34) hC hin hP hD hS fqX1_21 0 rfl rfl rfl (Nat.le_of_ble_eq_true rfl) dX1_init_34 (fun H locs hP hD hS => ?_)
  have hP : va_P D vwCl [(h0, .inr (1, [.ref q1, .ref q2, .ref q3, .ref q4, .int 0])), (q1, .inl (cy 0, 600, .inl (fun _ => 0))), (q2, .inl (cy 0, 10, .inl (fun _ => 0))), (q3, .inl (cy 0, 10, .inl (fun _ => 0))), (q4, .inl (cy 0, 10, .inl (fun _ => 0)))] H := hP
  have hD : va_D A [(h0, .inr (1, [.ref q1, .ref q2, .ref q3, .ref q4, .int 0])), (q1, .inl (cy 0, 600, .inl (fun _ => 0))), (q2, .inl (cy 0, 10, .inl (fun _ => 0))), (q3, .inl (cy 0, 10, .inl (fun _ => 0))), (q4, .inl (cy 0, 10, .inl (fun _ => 0)))] := hD
  exact hE (fun i => ([q1, q2, q3, q4] : List Nat).getD i 0) H locs 37 ls hP hD hS dX1_init_37
abbrev rmX0_init : Room := { frames := 1, cells := 10, slots := 280, locals := 20 }
set_option maxHeartbeats 8000000 in
set_option maxRecDepth 100000 in
theorem cX0_init_ok (l : Launch) (D : va_G) (cy : Nat → ClassId) (h0 : Nat) : zMk l yX0_init cX0_init rmX0_init D cy [.ref h0] [(h0, .inr (0, [.null, .null, .null, .null, .null, .null, .null, .null, .null, .null, .int 0]))] (fun u => [(h0, .inr (0, [.ref (u 0), .ref (u 1), .ref (u 2), .ref (u 3), .ref (u 4), .ref (u 5), .ref (u 6), .ref (u 7), .ref (u 8), .ref (u 9), .int 0])), ((u 0), .inl (cy 0, 10, .inl (fun _ => 0))), ((u 1), .inl (cy 0, 10, .inl (fun _ => 0))), ((u 2), .inl (cy 0, 100, .inl (fun _ => 0))), ((u 3), .inl (cy 0, 100, .inl (fun _ => 0))), ((u 4), .inl (cy 0, 10, .inl (fun _ => 0))), ((u 5), .inl (cy 0, 10, .inl (fun _ => 0))), ((u 6), .inl (cy 0, 10, .inl (fun _ => 0))), ((u 7), .inl (cy 0, 10, .inl (fun _ => 0))), ((u 8), .inl (cy 0, 10, .inl (fun _ => 0))), ((u 9), .inl (cy 0, 10, .inl (fun _ => 0)))]) := by
  refine zmet_k (by decide +kernel) rfl ?_
  intro p e s m below meth c A Q ls hin hNN hC hA hP hD hS hl hE
  have hx := hC.1.1
  have hb := hC.1.2.1
  refine lv_aload_n (pc := 0) hx hb dX0_init_0 rfl (lv_at hl 0 rfl) ?_
  refine zk_obj (pc := 1) hC oiX0_3 hl.1 (Nat.le_of_ble_eq_true rfl) (Nat.le_of_ble_eq_true rfl) dX0_init_1 ?_
  refine lv_aload_n (pc := 4) hx hb dX0_init_4 rfl (lv_at hl 0 rfl) ?_
  refine lv_bipush (pc := 5) (v := (10 : Int32)) hx hb dX0_init_5 (by decide) ?_
  refine zk_newa (pc := 7) (atype := .int) (ty := .int) (N' := 10) (a0 := (10, .inl (fun _ => 0))) hC hA hP hD hS 0 rfl rfl ac_0 (fun _ => rfl) (by decide) (by decide) (by decide) (Nat.le_of_ble_eq_true rfl) (Nat.le_of_ble_eq_true rfl) dX0_init_7 (fun q1 H hP hD hS => ?_)
  have hP : va_P D vwCl [(h0, .inr (0, [.null, .null, .null, .null, .null, .null, .null, .null, .null, .null, .int 0])), (q1, .inl (cy 0, 10, .inl (fun _ => 0)))] H := hP
  have hD : va_D A [(h0, .inr (0, [.null, .null, .null, .null, .null, .null, .null, .null, .null, .null, .int 0])), (q1, .inl (cy 0, 10, .inl (fun _ => 0)))] := hD
  refine W.widen (k := 1) (n := 10) (by decide) (by decide) ?_
  refine zk_putF (pc := 9) hC hin hP hD hS fqX0_9 0 rfl rfl rfl (Nat.le_of_ble_eq_true rfl) dX0_init_9 (fun H locs hP hD hS => ?_)
  have hP : va_P D vwCl [(h0, .inr (0, [.ref q1, .null, .null, .null, .null, .null, .null, .null, .null, .null, .int 0])), (q1, .inl (cy 0, 10, .inl (fun _ => 0)))] H := hP
  have hD : va_D A [(h0, .inr (0, [.ref q1, .null, .null, .null, .null, .null, .null, .null, .null, .null, .int 0])), (q1, .inl (cy 0, 10, .inl (fun _ => 0)))] := hD
  refine lv_aload_n (pc := 12) hx hb dX0_init_12 rfl (lv_at hl 0 rfl) ?_
  refine lv_bipush (pc := 13) (v := (10 : Int32)) hx hb dX0_init_13 (by decide) ?_
  refine zk_newa (pc := 15) (atype := .int) (ty := .int) (N' := 10) (a0 := (10, .inl (fun _ => 0))) hC hA hP hD hS 0 rfl rfl ac_0 (fun _ => rfl) (by decide) (by decide) (by decide) (Nat.le_of_ble_eq_true rfl) (Nat.le_of_ble_eq_true rfl) dX0_init_15 (fun q2 H hP hD hS => ?_)
  have hP : va_P D vwCl [(h0, .inr (0, [.ref q1, .null, .null, .null, .null, .null, .null, .null, .null, .null, .int 0])), (q1, .inl (cy 0, 10, .inl (fun _ => 0))), (q2, .inl (cy 0, 10, .inl (fun _ => 0)))] H := hP
  have hD : va_D A [(h0, .inr (0, [.ref q1, .null, .null, .null, .null, .null, .null, .null, .null, .null, .int 0])), (q1, .inl (cy 0, 10, .inl (fun _ => 0))), (q2, .inl (cy 0, 10, .inl (fun _ => 0)))] := hD
  refine W.widen (k := 2) (n := 20) (by decide) (by decide) ?_
  refine zk_putF (pc := 17) hC hin hP hD hS fqX0_15 0 rfl rfl rfl (Nat.le_of_ble_eq_true rfl) dX0_init_17 (fun H locs hP hD hS => ?_)
  have hP : va_P D vwCl [(h0, .inr (0, [.ref q1, .ref q2, .null, .null, .null, .null, .null, .null, .null, .null, .int 0])), (q1, .inl (cy 0, 10, .inl (fun _ => 0))), (q2, .inl (cy 0, 10, .inl (fun _ => 0)))] H := hP
  have hD : va_D A [(h0, .inr (0, [.ref q1, .ref q2, .null, .null, .null, .null, .null, .null, .null, .null, .int 0])), (q1, .inl (cy 0, 10, .inl (fun _ => 0))), (q2, .inl (cy 0, 10, .inl (fun _ => 0)))] := hD
  refine lv_aload_n (pc := 20) hx hb dX0_init_20 rfl (lv_at hl 0 rfl) ?_
  refine lv_bipush (pc := 21) (v := (100 : Int32)) hx hb dX0_init_21 (by decide) ?_
  refine zk_newa (pc := 23) (atype := .int) (ty := .int) (N' := 100) (a0 := (100, .inl (fun _ => 0))) hC hA hP hD hS 0 rfl rfl ac_0 (fun _ => rfl) (by decide) (by decide) (by decide) (Nat.le_of_ble_eq_true rfl) (Nat.le_of_ble_eq_true rfl) dX0_init_23 (fun q3 H hP hD hS => ?_)
  have hP : va_P D vwCl [(h0, .inr (0, [.ref q1, .ref q2, .null, .null, .null, .null, .null, .null, .null, .null, .int 0])), (q1, .inl (cy 0, 10, .inl (fun _ => 0))), (q2, .inl (cy 0, 10, .inl (fun _ => 0))), (q3, .inl (cy 0, 100, .inl (fun _ => 0)))] H := hP
  have hD : va_D A [(h0, .inr (0, [.ref q1, .ref q2, .null, .null, .null, .null, .null, .null, .null, .null, .int 0])), (q1, .inl (cy 0, 10, .inl (fun _ => 0))), (q2, .inl (cy 0, 10, .inl (fun _ => 0))), (q3, .inl (cy 0, 100, .inl (fun _ => 0)))] := hD
  refine W.widen (k := 3) (n := 120) (by decide) (by decide) ?_
  refine zk_putF (pc := 25) hC hin hP hD hS fqX0_18 0 rfl rfl rfl (Nat.le_of_ble_eq_true rfl) dX0_init_25 (fun H locs hP hD hS => ?_)
  have hP : va_P D vwCl [(h0, .inr (0, [.ref q1, .ref q2, .ref q3, .null, .null, .null, .null, .null, .null, .null, .int 0])), (q1, .inl (cy 0, 10, .inl (fun _ => 0))), (q2, .inl (cy 0, 10, .inl (fun _ => 0))), (q3, .inl (cy 0, 100, .inl (fun _ => 0)))] H := hP
  have hD : va_D A [(h0, .inr (0, [.ref q1, .ref q2, .ref q3, .null, .null, .null, .null, .null, .null, .null, .int 0])), (q1, .inl (cy 0, 10, .inl (fun _ => 0))), (q2, .inl (cy 0, 10, .inl (fun _ => 0))), (q3, .inl (cy 0, 100, .inl (fun _ => 0)))] := hD
  refine lv_aload_n (pc := 28) hx hb dX0_init_28 rfl (lv_at hl 0 rfl) ?_
  refine lv_bipush (pc := 29) (v := (100 : Int32)) hx hb dX0_init_29 (by decide) ?_
  refine zk_newa (pc := 31) (atype := .int) (ty := .int) (N' := 100) (a0 := (100, .inl (fun _ => 0))) hC hA hP hD hS 0 rfl rfl ac_0 (fun _ => rfl) (by decide) (by decide) (by decide) (Nat.le_of_ble_eq_true rfl) (Nat.le_of_ble_eq_true rfl) dX0_init_31 (fun q4 H hP hD hS => ?_)
  have hP : va_P D vwCl [(h0, .inr (0, [.ref q1, .ref q2, .ref q3, .null, .null, .null, .null, .null, .null, .null, .int 0])), (q1, .inl (cy 0, 10, .inl (fun _ => 0))), (q2, .inl (cy 0, 10, .inl (fun _ => 0))), (q3, .inl (cy 0, 100, .inl (fun _ => 0))), (q4, .inl (cy 0, 100, .inl (fun _ => 0)))] H := hP
  have hD : va_D A [(h0, .inr (0, [.ref q1, .ref q2, .ref q3, .null, .null, .null, .null, .null, .null, .null, .int 0])), (q1, .inl (cy 0, 10, .inl (fun _ => 0))), (q2, .inl (cy 0, 10, .inl (fun _ => 0))), (q3, .inl (cy 0, 100, .inl (fun _ => 0))), (q4, .inl (cy 0, 100, .inl (fun _ => 0)))] := hD
  refine W.widen (k := 4) (n := 220) (by decide) (by decide) ?_
  refine zk_putF (pc := 33) hC hin hP hD hS fqX0_21 0 rfl rfl rfl (Nat.le_of_ble_eq_true rfl) dX0_init_33 (fun H locs hP hD hS => ?_)
  have hP : va_P D vwCl [(h0, .inr (0, [.ref q1, .ref q2, .ref q3, .ref q4, .null, .null, .null, .null, .null, .null, .int 0])), (q1, .inl (cy 0, 10, .inl (fun _ => 0))), (q2, .inl (cy 0, 10, .inl (fun _ => 0))), (q3, .inl (cy 0, 100, .inl (fun _ => 0))), (q4, .inl (cy 0, 100, .inl (fun _ => 0)))] H := hP
  have hD : va_D A [(h0, .inr (0, [.ref q1, .ref q2, .ref q3, .ref q4, .null, .null, .null, .null, .null, .null, .int 0])), (q1, .inl (cy 0, 10, .inl (fun _ => 0))), (q2, .inl (cy 0, 10, .inl (fun _ => 0))), (q3, .inl (cy 0, 100, .inl (fun _ => 0))), (q4, .inl (cy 0, 100, .inl (fun _ => 0)))] := hD
  refine lv_aload_n (pc := 36) hx hb dX0_init_36 rfl (lv_at hl 0 rfl) ?_
  refine lv_bipush (pc := 37) (v := (10 : Int32)) hx hb dX0_init_37 (by decide) ?_
  refine zk_newa (pc := 39) (atype := .int) (ty := .int) (N' := 10) (a0 := (10, .inl (fun _ => 0))) hC hA hP hD hS 0 rfl rfl ac_0 (fun _ => rfl) (by decide) (by decide) (by decide) (Nat.le_of_ble_eq_true rfl) (Nat.le_of_ble_eq_true rfl) dX0_init_39 (fun q5 H hP hD hS => ?_)
  have hP : va_P D vwCl [(h0, .inr (0, [.ref q1, .ref q2, .ref q3, .ref q4, .null, .null, .null, .null, .null, .null, .int 0])), (q1, .inl (cy 0, 10, .inl (fun _ => 0))), (q2, .inl (cy 0, 10, .inl (fun _ => 0))), (q3, .inl (cy 0, 100, .inl (fun _ => 0))), (q4, .inl (cy 0, 100, .inl (fun _ => 0))), (q5, .inl (cy 0, 10, .inl (fun _ => 0)))] H := hP
  have hD : va_D A [(h0, .inr (0, [.ref q1, .ref q2, .ref q3, .ref q4, .null, .null, .null, .null, .null, .null, .int 0])), (q1, .inl (cy 0, 10, .inl (fun _ => 0))), (q2, .inl (cy 0, 10, .inl (fun _ => 0))), (q3, .inl (cy 0, 100, .inl (fun _ => 0))), (q4, .inl (cy 0, 100, .inl (fun _ => 0))), (q5, .inl (cy 0, 10, .inl (fun _ => 0)))] := hD
  refine W.widen (k := 5) (n := 230) (by decide) (by decide) ?_
  refine zk_putF (pc := 41) hC hin hP hD hS fqX0_24 0 rfl rfl rfl (Nat.le_of_ble_eq_true rfl) dX0_init_41 (fun H locs hP hD hS => ?_)
  have hP : va_P D vwCl [(h0, .inr (0, [.ref q1, .ref q2, .ref q3, .ref q4, .ref q5, .null, .null, .null, .null, .null, .int 0])), (q1, .inl (cy 0, 10, .inl (fun _ => 0))), (q2, .inl (cy 0, 10, .inl (fun _ => 0))), (q3, .inl (cy 0, 100, .inl (fun _ => 0))), (q4, .inl (cy 0, 100, .inl (fun _ => 0))), (q5, .inl (cy 0, 10, .inl (fun _ => 0)))] H := hP
  have hD : va_D A [(h0, .inr (0, [.ref q1, .ref q2, .ref q3, .ref q4, .ref q5, .null, .null, .null, .null, .null, .int 0])), (q1, .inl (cy 0, 10, .inl (fun _ => 0))), (q2, .inl (cy 0, 10, .inl (fun _ => 0))), (q3, .inl (cy 0, 100, .inl (fun _ => 0))), (q4, .inl (cy 0, 100, .inl (fun _ => 0))), (q5, .inl (cy 0, 10, .inl (fun _ => 0)))] := hD
  refine lv_aload_n (pc := 44) hx hb dX0_init_44 rfl (lv_at hl 0 rfl) ?_
  refine lv_bipush (pc := 45) (v := (10 : Int32)) hx hb dX0_init_45 (by decide) ?_
  refine zk_newa (pc := 47) (atype := .int) (ty := .int) (N' := 10) (a0 := (10, .inl (fun _ => 0))) hC hA hP hD hS 0 rfl rfl ac_0 (fun _ => rfl) (by decide) (by decide) (by decide) (Nat.le_of_ble_eq_true rfl) (Nat.le_of_ble_eq_true rfl) dX0_init_47 (fun q6 H hP hD hS => ?_)
  have hP : va_P D vwCl [(h0, .inr (0, [.ref q1, .ref q2, .ref q3, .ref q4, .ref q5, .null, .null, .null, .null, .null, .int 0])), (q1, .inl (cy 0, 10, .inl (fun _ => 0))), (q2, .inl (cy 0, 10, .inl (fun _ => 0))), (q3, .inl (cy 0, 100, .inl (fun _ => 0))), (q4, .inl (cy 0, 100, .inl (fun _ => 0))), (q5, .inl (cy 0, 10, .inl (fun _ => 0))), (q6, .inl (cy 0, 10, .inl (fun _ => 0)))] H := hP
  have hD : va_D A [(h0, .inr (0, [.ref q1, .ref q2, .ref q3, .ref q4, .ref q5, .null, .null, .null, .null, .null, .int 0])), (q1, .inl (cy 0, 10, .inl (fun _ => 0))), (q2, .inl (cy 0, 10, .inl (fun _ => 0))), (q3, .inl (cy 0, 100, .inl (fun _ => 0))), (q4, .inl (cy 0, 100, .inl (fun _ => 0))), (q5, .inl (cy 0, 10, .inl (fun _ => 0))), (q6, .inl (cy 0, 10, .inl (fun _ => 0)))] := hD
  refine W.widen (k := 6) (n := 240) (by decide) (by decide) ?_
  refine zk_putF (pc := 49) hC hin hP hD hS fqX0_27 0 rfl rfl rfl (Nat.le_of_ble_eq_true rfl) dX0_init_49 (fun H locs hP hD hS => ?_)
  have hP : va_P D vwCl [(h0, .inr (0, [.ref q1, .ref q2, .ref q3, .ref q4, .ref q5, .ref q6, .null, .null, .null, .null, .int 0])), (q1, .inl (cy 0, 10, .inl (fun _ => 0))), (q2, .inl (cy 0, 10, .inl (fun _ => 0))), (q3, .inl (cy 0, 100, .inl (fun _ => 0))), (q4, .inl (cy 0, 100, .inl (fun _ => 0))), (q5, .inl (cy 0, 10, .inl (fun _ => 0))), (q6, .inl (cy 0, 10, .inl (fun _ => 0)))] H := hP
  have hD : va_D A [(h0, .inr (0, [.ref q1, .ref q2, .ref q3, .ref q4, .ref q5, .ref q6, .null, .null, .null, .null, .int 0])), (q1, .inl (cy 0, 10, .inl (fun _ => 0))), (q2, .inl (cy 0, 10, .inl (fun _ => 0))), (q3, .inl (cy 0, 100, .inl (fun _ => 0))), (q4, .inl (cy 0, 100, .inl (fun _ => 0))), (q5, .inl (cy 0, 10, .inl (fun _ => 0))), (q6, .inl (cy 0, 10, .inl (fun _ => 0)))] := hD
  refine lv_aload_n (pc := 52) hx hb dX0_init_52 rfl (lv_at hl 0 rfl) ?_
  refine lv_bipush (pc := 53) (v := (10 : Int32)) hx hb dX0_init_53 (by decide) ?_
  refine zk_newa (pc := 55) (atype := .int) (ty := .int) (N' := 10) (a0 := (10, .inl (fun _ => 0))) hC hA hP hD hS 0 rfl rfl ac_0 (fun _ => rfl) (by decide) (by decide) (by decide) (Nat.le_of_ble_eq_true rfl) (Nat.le_of_ble_eq_true rfl) dX0_init_55 (fun q7 H hP hD hS => ?_)
  have hP : va_P D vwCl [(h0, .inr (0, [.ref q1, .ref q2, .ref q3, .ref q4, .ref q5, .ref q6, .null, .null, .null, .null, .int 0])), (q1, .inl (cy 0, 10, .inl (fun _ => 0))), (q2, .inl (cy 0, 10, .inl (fun _ => 0))), (q3, .inl (cy 0, 100, .inl (fun _ => 0))), (q4, .inl (cy 0, 100, .inl (fun _ => 0))), (q5, .inl (cy 0, 10, .inl (fun _ => 0))), (q6, .inl (cy 0, 10, .inl (fun _ => 0))), (q7, .inl (cy 0, 10, .inl (fun _ => 0)))] H := hP
  have hD : va_D A [(h0, .inr (0, [.ref q1, .ref q2, .ref q3, .ref q4, .ref q5, .ref q6, .null, .null, .null, .null, .int 0])), (q1, .inl (cy 0, 10, .inl (fun _ => 0))), (q2, .inl (cy 0, 10, .inl (fun _ => 0))), (q3, .inl (cy 0, 100, .inl (fun _ => 0))), (q4, .inl (cy 0, 100, .inl (fun _ => 0))), (q5, .inl (cy 0, 10, .inl (fun _ => 0))), (q6, .inl (cy 0, 10, .inl (fun _ => 0))), (q7, .inl (cy 0, 10, .inl (fun _ => 0)))] := hD
  refine W.widen (k := 7) (n := 250) (by decide) (by decide) ?_
  refine zk_putF (pc := 57) hC hin hP hD hS fqX0_30 0 rfl rfl rfl (Nat.le_of_ble_eq_true rfl) dX0_init_57 (fun H locs hP hD hS => ?_)
  have hP : va_P D vwCl [(h0, .inr (0, [.ref q1, .ref q2, .ref q3, .ref q4, .ref q5, .ref q6, .ref q7, .null, .null, .null, .int 0])), (q1, .inl (cy 0, 10, .inl (fun _ => 0))), (q2, .inl (cy 0, 10, .inl (fun _ => 0))), (q3, .inl (cy 0, 100, .inl (fun _ => 0))), (q4, .inl (cy 0, 100, .inl (fun _ => 0))), (q5, .inl (cy 0, 10, .inl (fun _ => 0))), (q6, .inl (cy 0, 10, .inl (fun _ => 0))), (q7, .inl (cy 0, 10, .inl (fun _ => 0)))] H := hP
  have hD : va_D A [(h0, .inr (0, [.ref q1, .ref q2, .ref q3, .ref q4, .ref q5, .ref q6, .ref q7, .null, .null, .null, .int 0])), (q1, .inl (cy 0, 10, .inl (fun _ => 0))), (q2, .inl (cy 0, 10, .inl (fun _ => 0))), (q3, .inl (cy 0, 100, .inl (fun _ => 0))), (q4, .inl (cy 0, 100, .inl (fun _ => 0))), (q5, .inl (cy 0, 10, .inl (fun _ => 0))), (q6, .inl (cy 0, 10, .inl (fun _ => 0))), (q7, .inl (cy 0, 10, .inl (fun _ => 0)))] := hD
  refine lv_aload_n (pc := 60) hx hb dX0_init_60 rfl (lv_at hl 0 rfl) ?_
  refine lv_bipush (pc := 61) (v := (10 : Int32)) hx hb dX0_init_61 (by decide) ?_
  refine zk_newa (pc := 63) (atype := .int) (ty := .int) (N' := 10) (a0 := (10, .inl (fun _ => 0))) hC hA hP hD hS 0 rfl rfl ac_0 (fun _ => rfl) (by decide) (by decide) (by decide) (Nat.le_of_ble_eq_true rfl) (Nat.le_of_ble_eq_true rfl) dX0_init_63 (fun q8 H hP hD hS => ?_)
  have hP : va_P D vwCl [(h0, .inr (0, [.ref q1, .ref q2, .ref q3, .ref q4, .ref q5, .ref q6, .ref q7, .null, .null, .null, .int 0])), (q1, .inl (cy 0, 10, .inl (fun _ => 0))), (q2, .inl (cy 0, 10, .inl (fun _ => 0))), (q3, .inl (cy 0, 100, .inl (fun _ => 0))), (q4, .inl (cy 0, 100, .inl (fun _ => 0))), (q5, .inl (cy 0, 10, .inl (fun _ => 0))), (q6, .inl (cy 0, 10, .inl (fun _ => 0))), (q7, .inl (cy 0, 10, .inl (fun _ => 0))), (q8, .inl (cy 0, 10, .inl (fun _ => 0)))] H := hP
  have hD : va_D A [(h0, .inr (0, [.ref q1, .ref q2, .ref q3, .ref q4, .ref q5, .ref q6, .ref q7, .null, .null, .null, .int 0])), (q1, .inl (cy 0, 10, .inl (fun _ => 0))), (q2, .inl (cy 0, 10, .inl (fun _ => 0))), (q3, .inl (cy 0, 100, .inl (fun _ => 0))), (q4, .inl (cy 0, 100, .inl (fun _ => 0))), (q5, .inl (cy 0, 10, .inl (fun _ => 0))), (q6, .inl (cy 0, 10, .inl (fun _ => 0))), (q7, .inl (cy 0, 10, .inl (fun _ => 0))), (q8, .inl (cy 0, 10, .inl (fun _ => 0)))] := hD
  refine W.widen (k := 8) (n := 260) (by decide) (by decide) ?_
  refine zk_putF (pc := 65) hC hin hP hD hS fqX0_33 0 rfl rfl rfl (Nat.le_of_ble_eq_true rfl) dX0_init_65 (fun H locs hP hD hS => ?_)
  have hP : va_P D vwCl [(h0, .inr (0, [.ref q1, .ref q2, .ref q3, .ref q4, .ref q5, .ref q6, .ref q7, .ref q8, .null, .null, .int 0])), (q1, .inl (cy 0, 10, .inl (fun _ => 0))), (q2, .inl (cy 0, 10, .inl (fun _ => 0))), (q3, .inl (cy 0, 100, .inl (fun _ => 0))), (q4, .inl (cy 0, 100, .inl (fun _ => 0))), (q5, .inl (cy 0, 10, .inl (fun _ => 0))), (q6, .inl (cy 0, 10, .inl (fun _ => 0))), (q7, .inl (cy 0, 10, .inl (fun _ => 0))), (q8, .inl (cy 0, 10, .inl (fun _ => 0)))] H := hP
  have hD : va_D A [(h0, .inr (0, [.ref q1, .ref q2, .ref q3, .ref q4, .ref q5, .ref q6, .ref q7, .ref q8, .null, .null, .int 0])), (q1, .inl (cy 0, 10, .inl (fun _ => 0))), (q2, .inl (cy 0, 10, .inl (fun _ => 0))), (q3, .inl (cy 0, 100, .inl (fun _ => 0))), (q4, .inl (cy 0, 100, .inl (fun _ => 0))), (q5, .inl (cy 0, 10, .inl (fun _ => 0))), (q6, .inl (cy 0, 10, .inl (fun _ => 0))), (q7, .inl (cy 0, 10, .inl (fun _ => 0))), (q8, .inl (cy 0, 10, .inl (fun _ => 0)))] := hD
  refine lv_aload_n (pc := 68) hx hb dX0_init_68 rfl (lv_at hl 0 rfl) ?_
  refine lv_bipush (pc := 69) (v := (10 : Int32)) hx hb dX0_init_69 (by decide) ?_
  refine zk_newa (pc := 71) (atype := .int) (ty := .int) (N' := 10) (a0 := (10, .inl (fun _ => 0))) hC hA hP hD hS 0 rfl rfl ac_0 (fun _ => rfl) (by decide) (by decide) (by decide) (Nat.le_of_ble_eq_true rfl) (Nat.le_of_ble_eq_true rfl) dX0_init_71 (fun q9 H hP hD hS => ?_)
  have hP : va_P D vwCl [(h0, .inr (0, [.ref q1, .ref q2, .ref q3, .ref q4, .ref q5, .ref q6, .ref q7, .ref q8, .null, .null, .int 0])), (q1, .inl (cy 0, 10, .inl (fun _ => 0))), (q2, .inl (cy 0, 10, .inl (fun _ => 0))), (q3, .inl (cy 0, 100, .inl (fun _ => 0))), (q4, .inl (cy 0, 100, .inl (fun _ => 0))), (q5, .inl (cy 0, 10, .inl (fun _ => 0))), (q6, .inl (cy 0, 10, .inl (fun _ => 0))), (q7, .inl (cy 0, 10, .inl (fun _ => 0))), (q8, .inl (cy 0, 10, .inl (fun _ => 0))), (q9, .inl (cy 0, 10, .inl (fun _ => 0)))] H := hP
  have hD : va_D A [(h0, .inr (0, [.ref q1, .ref q2, .ref q3, .ref q4, .ref q5, .ref q6, .ref q7, .ref q8, .null, .null, .int 0])), (q1, .inl (cy 0, 10, .inl (fun _ => 0))), (q2, .inl (cy 0, 10, .inl (fun _ => 0))), (q3, .inl (cy 0, 100, .inl (fun _ => 0))), (q4, .inl (cy 0, 100, .inl (fun _ => 0))), (q5, .inl (cy 0, 10, .inl (fun _ => 0))), (q6, .inl (cy 0, 10, .inl (fun _ => 0))), (q7, .inl (cy 0, 10, .inl (fun _ => 0))), (q8, .inl (cy 0, 10, .inl (fun _ => 0))), (q9, .inl (cy 0, 10, .inl (fun _ => 0)))] := hD
  refine W.widen (k := 9) (n := 270) (by decide) (by decide) ?_
  refine zk_putF (pc := 73) hC hin hP hD hS fqX0_36 0 rfl rfl rfl (Nat.le_of_ble_eq_true rfl) dX0_init_73 (fun H locs hP hD hS => ?_)
  have hP : va_P D vwCl [(h0, .inr (0, [.ref q1, .ref q2, .ref q3, .ref q4, .ref q5, .ref q6, .ref q7, .ref q8, .ref q9, .null, .int 0])), (q1, .inl (cy 0, 10, .inl (fun _ => 0))), (q2, .inl (cy 0, 10, .inl (fun _ => 0))), (q3, .inl (cy 0, 100, .inl (fun _ => 0))), (q4, .inl (cy 0, 100, .inl (fun _ => 0))), (q5, .inl (cy 0, 10, .inl (fun _ => 0))), (q6, .inl (cy 0, 10, .inl (fun _ => 0))), (q7, .inl (cy 0, 10, .inl (fun _ => 0))), (q8, .inl (cy 0, 10, .inl (fun _ => 0))), (q9, .inl (cy 0, 10, .inl (fun _ => 0)))] H := hP
  have hD : va_D A [(h0, .inr (0, [.ref q1, .ref q2, .ref q3, .ref q4, .ref q5, .ref q6, .ref q7, .ref q8, .ref q9, .null, .int 0])), (q1, .inl (cy 0, 10, .inl (fun _ => 0))), (q2, .inl (cy 0, 10, .inl (fun _ => 0))), (q3, .inl (cy 0, 100, .inl (fun _ => 0))), (q4, .inl (cy 0, 100, .inl (fun _ => 0))), (q5, .inl (cy 0, 10, .inl (fun _ => 0))), (q6, .inl (cy 0, 10, .inl (fun _ => 0))), (q7, .inl (cy 0, 10, .inl (fun _ => 0))), (q8, .inl (cy 0, 10, .inl (fun _ => 0))), (q9, .inl (cy 0, 10, .inl (fun _ => 0)))] := hD
  refine lv_aload_n (pc := 76) hx hb dX0_init_76 rfl (lv_at hl 0 rfl) ?_
  refine lv_bipush (pc := 77) (v := (10 : Int32)) hx hb dX0_init_77 (by decide) ?_
  refine zk_newa (pc := 79) (atype := .int) (ty := .int) (N' := 10) (a0 := (10, .inl (fun _ => 0))) hC hA hP hD hS 0 rfl rfl ac_0 (fun _ => rfl) (by decide) (by decide) (by decide) (Nat.le_of_ble_eq_true rfl) (Nat.le_of_ble_eq_true rfl) dX0_init_79 (fun q10 H hP hD hS => ?_)
  have hP : va_P D vwCl [(h0, .inr (0, [.ref q1, .ref q2, .ref q3, .ref q4, .ref q5, .ref q6, .ref q7, .ref q8, .ref q9, .null, .int 0])), (q1, .inl (cy 0, 10, .inl (fun _ => 0))), (q2, .inl (cy 0, 10, .inl (fun _ => 0))), (q3, .inl (cy 0, 100, .inl (fun _ => 0))), (q4, .inl (cy 0, 100, .inl (fun _ => 0))), (q5, .inl (cy 0, 10, .inl (fun _ => 0))), (q6, .inl (cy 0, 10, .inl (fun _ => 0))), (q7, .inl (cy 0, 10, .inl (fun _ => 0))), (q8, .inl (cy 0, 10, .inl (fun _ => 0))), (q9, .inl (cy 0, 10, .inl (fun _ => 0))), (q10, .inl (cy 0, 10, .inl (fun _ => 0)))] H := hP
  have hD : va_D A [(h0, .inr (0, [.ref q1, .ref q2, .ref q3, .ref q4, .ref q5, .ref q6, .ref q7, .ref q8, .ref q9, .null, .int 0])), (q1, .inl (cy 0, 10, .inl (fun _ => 0))), (q2, .inl (cy 0, 10, .inl (fun _ => 0))), (q3, .inl (cy 0, 100, .inl (fun _ => 0))), (q4, .inl (cy 0, 100, .inl (fun _ => 0))), (q5, .inl (cy 0, 10, .inl (fun _ => 0))), (q6, .inl (cy 0, 10, .inl (fun _ => 0))), (q7, .inl (cy 0, 10, .inl (fun _ => 0))), (q8, .inl (cy 0, 10, .inl (fun _ => 0))), (q9, .inl (cy 0, 10, .inl (fun _ => 0))), (q10, .inl (cy 0, 10, .inl (fun _ => 0)))] := hD
  refine W.widen (k := 10) (n := 280) (by decide) (by decide) ?_
  refine zk_putF (pc := 81) hC hin hP hD hS fqX0_39 0 rfl rfl rfl (Nat.le_of_ble_eq_true rfl) dX0_init_81 (fun H locs hP hD hS => ?_)
  have hP : va_P D vwCl [(h0, .inr (0, [.ref q1, .ref q2, .ref q3, .ref q4, .ref q5, .ref q6, .ref q7, .ref q8, .ref q9, .ref q10, .int 0])), (q1, .inl (cy 0, 10, .inl (fun _ => 0))), (q2, .inl (cy 0, 10, .inl (fun _ => 0))), (q3, .inl (cy 0, 100, .inl (fun _ => 0))), (q4, .inl (cy 0, 100, .inl (fun _ => 0))), (q5, .inl (cy 0, 10, .inl (fun _ => 0))), (q6, .inl (cy 0, 10, .inl (fun _ => 0))), (q7, .inl (cy 0, 10, .inl (fun _ => 0))), (q8, .inl (cy 0, 10, .inl (fun _ => 0))), (q9, .inl (cy 0, 10, .inl (fun _ => 0))), (q10, .inl (cy 0, 10, .inl (fun _ => 0)))] H := hP
  have hD : va_D A [(h0, .inr (0, [.ref q1, .ref q2, .ref q3, .ref q4, .ref q5, .ref q6, .ref q7, .ref q8, .ref q9, .ref q10, .int 0])), (q1, .inl (cy 0, 10, .inl (fun _ => 0))), (q2, .inl (cy 0, 10, .inl (fun _ => 0))), (q3, .inl (cy 0, 100, .inl (fun _ => 0))), (q4, .inl (cy 0, 100, .inl (fun _ => 0))), (q5, .inl (cy 0, 10, .inl (fun _ => 0))), (q6, .inl (cy 0, 10, .inl (fun _ => 0))), (q7, .inl (cy 0, 10, .inl (fun _ => 0))), (q8, .inl (cy 0, 10, .inl (fun _ => 0))), (q9, .inl (cy 0, 10, .inl (fun _ => 0))), (q10, .inl (cy 0, 10, .inl (fun _ => 0)))] := hD
  exact hE (fun i => ([q1, q2, q3, q4, q5, q6, q7, q8, q9, q10] : List Nat).getD i 0) H locs 84 ls hP hD hS dX0_init_84
