theorem qq_1_23 : Cond.instantiable "WrongHole" 12 ∈ TB := mk_tb (ti_1 (List.mem_of_getElem? (i := 23) rfl)) rfl
theorem qq_5_146 : Cond.instantiable "WrongHoleModel" 33 ∈ TB := mk_tb (ti_5 (List.mem_of_getElem? (i := 146) rfl)) rfl
theorem fv_RX11 : ∀ j, j < 12 → defaultValue (tyX11 j) = vp_V [.null, .null, .null, .int 0, .null, .null, .null, .null, .null, .null, .null, .null] j := by
  intro j hj
  match j, hj with
  | 0, _ => rfl
  | 1, _ => rfl
  | 2, _ => rfl
  | 3, _ => rfl
  | 4, _ => rfl
  | 5, _ => rfl
  | 6, _ => rfl
  | 7, _ => rfl
  | 8, _ => rfl
  | 9, _ => rfl
  | 10, _ => rfl
  | 11, _ => rfl
  | n + 12, h => exact absurd h (by omega)
theorem qq_1_22 : Cond.classLink "WrongHoleLaw" 7 "WrongHole" ∈ TB := mk_tb (ti_1 (List.mem_of_getElem? (i := 22) rfl)) rfl
theorem dL_law_0 : decode cL_law 0 = .ok (.new 7, 3) := by decide +kernel
theorem dL_law_3 : decode cL_law 3 = .ok (.dup, 1) := by decide +kernel
theorem qq_1_26 : Cond.code yX11_init cX11_init 1 none ∈ TB := mk_tb (ti_1 (List.mem_of_getElem? (i := 26) rfl)) rfl
theorem qq_1_24 : Cond.methodLink "WrongHoleLaw" 9 yX11_init ∈ TB := mk_tb (ti_1 (List.mem_of_getElem? (i := 24) rfl)) rfl
theorem qq_1_25 : Cond.instanceMethod yX11_init ∈ TB := mk_tb (ti_1 (List.mem_of_getElem? (i := 25) rfl)) rfl
theorem dL_law_4 : decode cL_law 4 = .ok (.invokespecial 9, 3) := by decide +kernel
theorem dL_law_7 : decode cL_law 7 = .ok (.astore_n 1, 1) := by decide +kernel
theorem fv_RX12 : ∀ j, j < 33 → defaultValue (tyX12 j) = vp_V (.null :: .int 0 :: .int 0 :: .null :: .null :: .null :: .null :: .null :: .int 0 :: .int 0 :: .int 0 :: .int 0 :: .int 0 :: .int 0 :: .int 0 :: .null :: .int 0 :: .null :: .int 0 :: .null :: .null :: .int 0 :: .null :: .int 0 :: .null :: .null :: .null :: .int 0 :: .int 0 :: .long 0 :: .null :: .null :: .null :: []) j := by
  intro j hj
  match j, hj with
  | 0, _ => rfl
  | 1, _ => rfl
  | 2, _ => rfl
  | 3, _ => rfl
  | 4, _ => rfl
  | 5, _ => rfl
  | 6, _ => rfl
  | 7, _ => rfl
  | 8, _ => rfl
  | 9, _ => rfl
  | 10, _ => rfl
  | 11, _ => rfl
  | 12, _ => rfl
  | 13, _ => rfl
  | 14, _ => rfl
  | 15, _ => rfl
  | 16, _ => rfl
  | 17, _ => rfl
  | 18, _ => rfl
  | 19, _ => rfl
  | 20, _ => rfl
  | 21, _ => rfl
  | 22, _ => rfl
  | 23, _ => rfl
  | 24, _ => rfl
  | 25, _ => rfl
  | 26, _ => rfl
  | 27, _ => rfl
  | 28, _ => rfl
  | 29, _ => rfl
  | 30, _ => rfl
  | 31, _ => rfl
  | 32, _ => rfl
  | n + 33, h => exact absurd h (by omega)
theorem qq_5_145 : Cond.classLink "WrongHoleLaw" 10 "WrongHoleModel" ∈ TB := mk_tb (ti_5 (List.mem_of_getElem? (i := 145) rfl)) rfl
theorem dL_law_8 : decode cL_law 8 = .ok (.new 10, 3) := by decide +kernel
theorem dL_law_11 : decode cL_law 11 = .ok (.dup, 1) := by decide +kernel
theorem qq_5_149 : Cond.code yX12_init cX12_init 2 none ∈ TB := mk_tb (ti_5 (List.mem_of_getElem? (i := 149) rfl)) rfl
theorem qq_5_147 : Cond.methodLink "WrongHoleLaw" 12 yX12_init ∈ TB := mk_tb (ti_5 (List.mem_of_getElem? (i := 147) rfl)) rfl
theorem qq_5_148 : Cond.instanceMethod yX12_init ∈ TB := mk_tb (ti_5 (List.mem_of_getElem? (i := 148) rfl)) rfl
theorem dL_law_12 : decode cL_law 12 = .ok (.invokespecial 12, 3) := by decide +kernel
theorem dL_law_15 : decode cL_law 15 = .ok (.astore_n 2, 1) := by decide +kernel
theorem dL_law_16 : decode cL_law 16 = .ok (.iconst 0, 1) := by decide +kernel
theorem dL_law_17 : decode cL_law 17 = .ok (.istore_n 3, 1) := by decide +kernel
theorem nw_of {w : Cond} {A : Array Value} {U : State} (hg : nestWord w = true) (h : w.before A U = true) : va_Nw w U := by
  cases w <;> first | exact va_Nw.of rfl h | exact absurd hg (by simp [nestWord])
theorem ty_of {ty : FieldType} {A : Array Value} {s : State} (h : (Cond.arrayClass ty).before A s = true) : ∃ c : ClassId, ArrOfT s c ty ∧ s.vm.findClass ("[" ++ ty.toString) = some c := by
  obtain ⟨c, k, comp, h1, h2, h3⟩ := Cond.arrayClass_spec h
  exact ⟨c, fun n z => ⟨fun k h => (by cases h), k, h2, comp, h3⟩, h1⟩
def cs7 (c0 c1 c2 c3 c4 c5 c6 : ClassId) : Nat → ClassId := fun i => if i = 0 then c0 else if i = 1 then c1 else if i = 2 then c2 else if i = 3 then c3 else if i = 4 then c4 else if i = 5 then c5 else c6
def tm7 (i : Nat) : Term := ([.string "WrongHole$LiftReader" 23, .string "WrongHole$RuleReader" 34, .string "WrongHole$RuleReader" 92, .string "WrongHole$RuleReader" 51, .string "WrongHole$RuleReader" 108, .string "WrongHole$RuleReader" 104, .string "WrongHole$RuleReader" 106] : List Term).getD i (.int 0)
theorem rg_m1 {x : Int32} (r : Rg (-1) (-1) x) : x = -1 := by
  apply Int32.toInt_inj.mp
  have e1 : Int32.toInt (-1) = -1 := rfl
  have := r.1; have := r.2
  omega
theorem BK0 : BK 0 := ⟨⟨by decide, by decide⟩, by decide⟩
theorem sx_1 : ∀ i, i < 7 → Cond.exactly (tm7 i) "java/lang/String" ∈ flatC (Jvm.Cond.and given_1 narrow_1) := by decide +kernel
theorem sx_2 : ∀ i, i < 7 → Cond.eq (.field (tm7 i) "java/lang/String" "coder" "B") (.int 0) ∈ flatC (Jvm.Cond.and given_1 narrow_1) := by decide +kernel
theorem sx_3 : ∀ i, i < 7 → Cond.arrayOf (Term.field (tm7 i) "java/lang/String" "value" "[B") .byte ∈ flatC (Jvm.Cond.and given_1 narrow_1) := by decide +kernel
theorem sx_4 : ∀ i, i < 7 → Cond.eq (.length (Term.field (tm7 i) "java/lang/String" "value" "[B")) (.int (Int32.ofNat (slen.getD i 0))) ∈ flatC (Jvm.Cond.and given_1 narrow_1) := by decide +kernel
theorem sx_5 : ∀ i, i < 7 → ∀ j, j < slen.getD i 0 → Cond.eq (.elem (Term.field (tm7 i) "java/lang/String" "value" "[B") (.int (Int32.ofNat j))) (.int ((sbyt.getD i []).getD j 0)) ∈ flatC (Jvm.Cond.and given_1 narrow_1) := by decide +kernel
theorem sx_6 : ∀ i, i < 7 → ∀ j, j < 7 → i ≠ j → Cond.not (Cond.eq (tm7 i) (tm7 j)) ∈ flatC (Jvm.Cond.and given_1 narrow_1) ∨ Cond.not (Cond.eq (tm7 j) (tm7 i)) ∈ flatC (Jvm.Cond.and given_1 narrow_1) := by decide +kernel
theorem sx_7 : Cond.eq (.static "java/lang/String" "COMPACT_STRINGS" "Z") (.int 1) ∈ flatC (Jvm.Cond.and given_1 narrow_1) := by decide +kernel
theorem sx_8 : Cond.isRef (.static "jdk/internal/util/Preconditions" "SIOOBE_FORMATTER" "Ljava/util/function/BiFunction;") ∈ flatC (Jvm.Cond.and given_1 narrow_1) := by decide +kernel
