theorem pf_0 : parseFieldDescriptor "I" = some .int := by decide +kernel
theorem pf_1 : parseFieldDescriptor "LEdgesOff$Jars;" = some (.object "EdgesOff$Jars") := by decide +kernel
theorem pf_2 : parseFieldDescriptor "LEdgesOff$Reader;" = some (.object "EdgesOff$Reader") := by decide +kernel
theorem pf_3 : parseFieldDescriptor "LEdgesOff$Shore;" = some (.object "EdgesOff$Shore") := by decide +kernel
theorem pf_4 : parseFieldDescriptor "LEdgesOff$Texts;" = some (.object "EdgesOff$Texts") := by decide +kernel
theorem pf_5 : parseFieldDescriptor "Z" = some .boolean := by decide +kernel
theorem pf_6 : parseFieldDescriptor "[C" = some (.array .char) := by decide +kernel
theorem pf_7 : parseFieldDescriptor "[I" = some (.array .int) := by decide +kernel
theorem pf_8 : parseFieldDescriptor "[LEdgesOff$Row;" = some (.array (.object "EdgesOff$Row")) := by decide +kernel
theorem pf_9 : parseFieldDescriptor "[LEdgesOff$Text;" = some (.array (.object "EdgesOff$Text")) := by decide +kernel
theorem pf_10 : parseFieldDescriptor "[Z" = some (.array .boolean) := by decide +kernel
theorem nf_0 : ∀ j, j < 4 → ∃ ty, parseFieldDescriptor (TX0 j).2.2.1 = some ty ∧ defaultValue ty = (if am_isR 0 j = true then .null else .int 0)
  | 0, _ => ⟨_, pf_7, rfl⟩
  | 1, _ => ⟨_, pf_7, rfl⟩
  | 2, _ => ⟨_, pf_7, rfl⟩
  | 3, _ => ⟨_, pf_0, rfl⟩
  | n + 4, h => absurd h (by omega)
theorem nf_1 : ∀ j, j < 9 → ∃ ty, parseFieldDescriptor (TX1 j).2.2.1 = some ty ∧ defaultValue ty = (if am_isR 1 j = true then .null else .int 0)
  | 0, _ => ⟨_, pf_7, rfl⟩
  | 1, _ => ⟨_, pf_0, rfl⟩
  | 2, _ => ⟨_, pf_0, rfl⟩
  | 3, _ => ⟨_, pf_7, rfl⟩
  | 4, _ => ⟨_, pf_0, rfl⟩
  | 5, _ => ⟨_, pf_0, rfl⟩
  | 6, _ => ⟨_, pf_0, rfl⟩
  | 7, _ => ⟨_, pf_0, rfl⟩
  | 8, _ => ⟨_, pf_0, rfl⟩
  | n + 9, h => absurd h (by omega)
theorem nf_2 : ∀ j, j < 3 → ∃ ty, parseFieldDescriptor (TX2 j).2.2.1 = some ty ∧ defaultValue ty = (if am_isR 2 j = true then .null else .int 0)
  | 0, _ => ⟨_, pf_7, rfl⟩
  | 1, _ => ⟨_, pf_0, rfl⟩
  | 2, _ => ⟨_, pf_0, rfl⟩
  | n + 3, h => absurd h (by omega)
theorem nf_3 : ∀ j, j < 11 → ∃ ty, parseFieldDescriptor (TX3 j).2.2.1 = some ty ∧ defaultValue ty = (if am_isR 3 j = true then .null else .int 0)
  | 0, _ => ⟨_, pf_4, rfl⟩
  | 1, _ => ⟨_, pf_7, rfl⟩
  | 2, _ => ⟨_, pf_7, rfl⟩
  | 3, _ => ⟨_, pf_7, rfl⟩
  | 4, _ => ⟨_, pf_7, rfl⟩
  | 5, _ => ⟨_, pf_7, rfl⟩
  | 6, _ => ⟨_, pf_7, rfl⟩
  | 7, _ => ⟨_, pf_7, rfl⟩
  | 8, _ => ⟨_, pf_0, rfl⟩
  | 9, _ => ⟨_, pf_0, rfl⟩
  | 10, _ => ⟨_, pf_0, rfl⟩
  | n + 11, h => absurd h (by omega)
theorem nf_4 : ∀ j, j < 3 → ∃ ty, parseFieldDescriptor (TX4 j).2.2.1 = some ty ∧ defaultValue ty = (if am_isR 4 j = true then .null else .int 0)
  | 0, _ => ⟨_, pf_7, rfl⟩
  | 1, _ => ⟨_, pf_0, rfl⟩
  | 2, _ => ⟨_, pf_0, rfl⟩
  | n + 3, h => absurd h (by omega)
theorem nf_5 : ∀ j, j < 4 → ∃ ty, parseFieldDescriptor (TX5 j).2.2.1 = some ty ∧ defaultValue ty = (if am_isR 5 j = true then .null else .int 0)
  | 0, _ => ⟨_, pf_9, rfl⟩
  | 1, _ => ⟨_, pf_7, rfl⟩
  | 2, _ => ⟨_, pf_7, rfl⟩
  | 3, _ => ⟨_, pf_0, rfl⟩
  | n + 4, h => absurd h (by omega)
theorem nf_6 : ∀ j, j < 8 → ∃ ty, parseFieldDescriptor (TX6 j).2.2.1 = some ty ∧ defaultValue ty = (if am_isR 6 j = true then .null else .int 0)
  | 0, _ => ⟨_, pf_4, rfl⟩
  | 1, _ => ⟨_, pf_2, rfl⟩
  | 2, _ => ⟨_, pf_3, rfl⟩
  | 3, _ => ⟨_, pf_3, rfl⟩
  | 4, _ => ⟨_, pf_3, rfl⟩
  | 5, _ => ⟨_, pf_1, rfl⟩
  | 6, _ => ⟨_, pf_8, rfl⟩
  | 7, _ => ⟨_, pf_5, rfl⟩
  | n + 8, h => absurd h (by omega)
theorem nf_7 : ∀ j, j < 30 → ∃ ty, parseFieldDescriptor (TX7 j).2.2.1 = some ty ∧ defaultValue ty = (if am_isR 7 j = true then .null else .int 0)
  | 0, _ => ⟨_, pf_7, rfl⟩
  | 1, _ => ⟨_, pf_7, rfl⟩
  | 2, _ => ⟨_, pf_7, rfl⟩
  | 3, _ => ⟨_, pf_5, rfl⟩
  | 4, _ => ⟨_, pf_7, rfl⟩
  | 5, _ => ⟨_, pf_0, rfl⟩
  | 6, _ => ⟨_, pf_0, rfl⟩
  | 7, _ => ⟨_, pf_0, rfl⟩
  | 8, _ => ⟨_, pf_0, rfl⟩
  | 9, _ => ⟨_, pf_0, rfl⟩
  | 10, _ => ⟨_, pf_7, rfl⟩
  | 11, _ => ⟨_, pf_7, rfl⟩
  | 12, _ => ⟨_, pf_0, rfl⟩
  | 13, _ => ⟨_, pf_0, rfl⟩
  | 14, _ => ⟨_, pf_6, rfl⟩
  | 15, _ => ⟨_, pf_7, rfl⟩
  | 16, _ => ⟨_, pf_0, rfl⟩
  | 17, _ => ⟨_, pf_7, rfl⟩
  | 18, _ => ⟨_, pf_7, rfl⟩
  | 19, _ => ⟨_, pf_7, rfl⟩
  | 20, _ => ⟨_, pf_7, rfl⟩
  | 21, _ => ⟨_, pf_7, rfl⟩
  | 22, _ => ⟨_, pf_0, rfl⟩
  | 23, _ => ⟨_, pf_0, rfl⟩
  | 24, _ => ⟨_, pf_7, rfl⟩
  | 25, _ => ⟨_, pf_7, rfl⟩
  | 26, _ => ⟨_, pf_7, rfl⟩
  | 27, _ => ⟨_, pf_7, rfl⟩
  | 28, _ => ⟨_, pf_7, rfl⟩
  | 29, _ => ⟨_, pf_10, rfl⟩
  | n + 30, h => absurd h (by omega)
theorem nkX1_51 : am_nk RX1 51 4 3 := ⟨_, _, rfl, mem_wok 557 (by decide +kernel) rfl, mem_wok 104 (by decide +kernel) rfl, mem_wok 73 (by decide +kernel) rfl, nf_4⟩
theorem nkX5_9 : am_nk RX5 9 4 3 := ⟨_, _, rfl, mem_wok 102 (by decide +kernel) rfl, mem_wok 104 (by decide +kernel) rfl, mem_wok 73 (by decide +kernel) rfl, nf_4⟩
theorem nkX6_7 : am_nk RX6 7 5 4 := ⟨_, _, rfl, mem_wok 96 (by decide +kernel) rfl, mem_wok 97 (by decide +kernel) rfl, mem_wok 72 (by decide +kernel) rfl, nf_5⟩
theorem nkX6_16 : am_nk RX6 16 1 9 := ⟨_, _, rfl, mem_wok 135 (by decide +kernel) rfl, mem_wok 136 (by decide +kernel) rfl, mem_wok 74 (by decide +kernel) rfl, nf_1⟩
theorem nkX6_23 : am_nk RX6 23 3 11 := ⟨_, _, rfl, mem_wok 171 (by decide +kernel) rfl, mem_wok 172 (by decide +kernel) rfl, mem_wok 75 (by decide +kernel) rfl, nf_3⟩
theorem nkX6_38 : am_nk RX6 38 0 4 := ⟨_, _, rfl, mem_wok 220 (by decide +kernel) rfl, mem_wok 221 (by decide +kernel) rfl, mem_wok 76 (by decide +kernel) rfl, nf_0⟩
theorem nkX6_45 : am_nk RX6 45 2 3 := ⟨_, _, rfl, mem_wok 239 (by decide +kernel) rfl, mem_wok 241 (by decide +kernel) rfl, mem_wok 77 (by decide +kernel) rfl, nf_2⟩
theorem nkL_7 : am_nk mL_law.1.cls 7 6 8 := ⟨_, _, rfl, mem_wok 88 (by decide +kernel) rfl, mem_wok 89 (by decide +kernel) rfl, mem_wok 71 (by decide +kernel) rfl, nf_6⟩
theorem nkL_10 : am_nk mL_law.1.cls 10 7 30 := ⟨_, _, rfl, mem_wok 838 (by decide +kernel) rfl, mem_wok 839 (by decide +kernel) rfl, mem_wok 78 (by decide +kernel) rfl, nf_7⟩
theorem acI : Cond.arrayClass .int ∈ wok := mem_wok 120 (by decide +kernel) rfl
theorem acC : Cond.arrayClass .char ∈ wok := mem_wok 939 (by decide +kernel) rfl
theorem acZ : Cond.arrayClass .boolean ∈ wok := mem_wok 940 (by decide +kernel) rfl
theorem oiI : Cond.instanceMethod Lib.objectInit ∈ wok := mem_wok 94 (by decide +kernel) rfl
theorem oiC : Cond.code Lib.objectInit ⟨#[0xb1]⟩ 1 none ∈ wok := mem_wok 95 (by decide +kernel) rfl
theorem cqX5 : Cond.classLink RX5 9 RX4 ∈ wok := mem_wok 102 (by decide +kernel) rfl
theorem cqX6 : Cond.classLink RX6 45 RX2 ∈ wok := mem_wok 239 (by decide +kernel) rfl
