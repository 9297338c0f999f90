theorem dX7_init_0 : decode cX7_init 0 = .ok (.aload_n 0, 1) := by decide +kernel
theorem dX7_init_1 : decode cX7_init 1 = .ok (.invokespecial 1, 3) := by decide +kernel
theorem qq_3_145 : Cond.methodLink "WrongHole$Rule" 1 (⟨"java/lang/Object", "<init>", "()V"⟩ : MethodName) ∈ TB := mk_tb (ti_3 (List.mem_of_getElem? (i := 145) rfl)) rfl
theorem dX7_init_4 : decode cX7_init 4 = .ok (.aload_n 0, 1) := by decide +kernel
theorem dX7_init_5 : decode cX7_init 5 = .ok (.bipush 64, 2) := by decide +kernel
theorem dX7_init_7 : decode cX7_init 7 = .ok (.newarray .long, 2) := by decide +kernel
theorem qq_3_156 : Cond.arrayClass Jvm.ClassFile.FieldType.long ∈ TB := mk_tb (ti_3 (List.mem_of_getElem? (i := 156) rfl)) rfl
theorem dX7_init_9 : decode cX7_init 9 = .ok (.putfield 9, 3) := by decide +kernel
theorem dX7_init_12 : decode cX7_init 12 = .ok (.aload_n 0, 1) := by decide +kernel
theorem dX7_init_13 : decode cX7_init 13 = .ok (.aload_n 1, 1) := by decide +kernel
theorem dX7_init_14 : decode cX7_init 14 = .ok (.putfield 13, 3) := by decide +kernel
theorem dX7_init_17 : decode cX7_init 17 = .ok (.aload_n 0, 1) := by decide +kernel
theorem dX7_init_18 : decode cX7_init 18 = .ok (.aload_n 2, 1) := by decide +kernel
theorem dX7_init_19 : decode cX7_init 19 = .ok (.putfield 17, 3) := by decide +kernel
theorem dX7_init_22 : decode cX7_init 22 = .ok (.return_, 1) := by decide +kernel
set_option maxHeartbeats 4000000 in
set_option maxRecDepth 100000 in
theorem c_Rule_init (l : Launch) (D : va_G) (cs : Nat → ClassId) (X : XX) (sz : Nat) (hu : Nat) (ru1 : Nat) (ru2 : Nat)  : Met l yX7_init (Cond.code yX7_init cX7_init 3 none :: TB) (RM 1 1 64) (va_Pc [.ref hu, .ref ru1, .ref ru2] (PRE D cs X [(hu, .inr (5, [.null, .null, .null]))] [] sz)) (va_Qv (S := Unit) (fun _ => True) (fun _ t => ∃ (ru3 : Nat), ∃ (gs_ : Nat → Int64), va_P D vwCl [(hu, .inr (5, [.ref ru1, .ref ru2, .ref ru3])), (ru3, .inl ((cs 4), 64, .inr (.inl gs_)))] t.heap ∧ va_D (va_A [(hu, .inr (5, [.null, .null, .null]))] sz) [(hu, .inr (5, [.ref ru1, .ref ru2, .ref ru3])), (ru3, .inl ((cs 4), 64, .inr (.inl gs_)))]) (va_A [(hu, .inr (5, [.null, .null, .null]))] sz)) 1 64 (va_A [(hu, .inr (5, [.null, .null, .null]))] sz) := by
  refine MET (y := yX7_init) (cc := cX7_init) (maxL := 3) (ret := none) (d := 1) (mc := 1) (ms := 64) (D := D) (cs := cs) (X := X) (ws := [(hu, .inr (5, [.null, .null, .null]))]) (wo := []) (sz := sz) (av := [.ref hu, .ref ru1, .ref ru2]) (Qc := fun A => va_Qv (S := Unit) (fun _ => True) (fun _ t => ∃ (ru3 : Nat), ∃ (gs_ : Nat → Int64), va_P D vwCl [(hu, .inr (5, [.ref ru1, .ref ru2, .ref ru3])), (ru3, .inl ((cs 4), 64, .inr (.inl gs_)))] t.heap ∧ va_D A [(hu, .inr (5, [.ref ru1, .ref ru2, .ref ru3])), (ru3, .inl ((cs 4), 64, .inr (.inl gs_)))]) A) (by decide) (Nat.le_of_ble_eq_true rfl) ?_
  intro p e s m below meth c ls A H hHe hx hb hr hml hown hts hlocks hnm hP hK hD hA hS hN hR hX hXs hl
  have hD : va_D A [(hu, .inr (5, [.null, .null, .null]))] := hD
  obtain ⟨locs, hlc⟩ : ∃ z : List Loc, z = [] := ⟨_, rfl⟩
  rw [← hlc] at hS ⊢
  have hown : s.vm.findClass "WrongHole$Rule" = some m.cls := hown
  have hT : ∀ w ∈ TB, w.before ([.ref hu, .ref ru1, .ref ru2] : List Value).toArray s = true := fun w h => hts w (List.mem_cons_of_mem _ h)
  have hl : lv_has ls 3 [(0, .ref hu), (1, .ref ru1), (2, .ref ru2)] := hl
  have hP : va_P D vwCl [(hu, .inr (5, [.null, .null, .null]))] H := hP
  refine lv_aload_n hx hb dX7_init_0 rfl (lv_at hl 0 rfl) ?_
  refine W.objInit hx hb hown (hT _ qq_3_145) (hT _ qq_1_28) (hT _ qq_1_29) rfl (by rw [hml]; exact hl.1) rfl dX7_init_1 (Nat.le_of_ble_eq_true rfl) (Nat.le_of_ble_eq_true rfl) ?_
  refine W.eq (g2 := F0 m 4 ls []) rfl ?_
  refine lv_aload_n hx hb dX7_init_4 rfl (lv_at hl 0 rfl) ?_
  refine lv_bipush (v := 64) hx hb dX7_init_5 (by decide) ?_
  refine va_newa (atype := .long) hx hb (hT _ qq_3_156) rfl hK hP hD hS hA (a0 := (64, .inr (.inl (fun _ => 0)))) (fun _ => rfl) (by decide) (by decide) (Nat.le_of_ble_eq_true rfl) (Nat.le_of_ble_eq_true rfl) (Nat.le_of_ble_eq_true rfl) dX7_init_7 (fun q_1 k_2 H hK9 hP hD hS => ?_)
  obtain rfl := ka_eq 4 rfl (fun _ => rfl) hK9
  obtain ⟨g_3, hP, hD⟩ : ∃ g_3 : Nat → Int64, va_P D vwCl [(hu, .inr (5, [.null, .null, .null])), (q_1, .inl ((cs 4), 64, .inr (.inl g_3)))] H ∧ va_D A [(hu, .inr (5, [.null, .null, .null])), (q_1, .inl ((cs 4), 64, .inr (.inl g_3)))] := ⟨_, hP, hD⟩
  refine W.widen (k := 1) (n := 64) (Nat.le_of_ble_eq_true rfl) (Nat.le_of_ble_eq_true rfl) ?_
  refine va_putF (D := D) (ci := 5) (v := .ref q_1) (ty := .array .long) (C := "WrongHole$Rule") (T := TX7) (N := 3) hx hb hts (iq_RX7 _) tyX7 tyX7_ok nmX7 hown hK hP hD hS 0 rfl rfl 2 (by decide) (hT _ qq_3_148) (fun _ h9 => h9) rfl hnm rfl (by decide +kernel) rfl rfl (Nat.le_of_ble_eq_true rfl) dX7_init_9 (fun H locs hP hD hS => ?_)
  have hP : va_P D vwCl [(hu, .inr (5, [.null, .null, .ref q_1])), (q_1, .inl ((cs 4), 64, .inr (.inl g_3)))] H := hP
  have hD : va_D A [(hu, .inr (5, [.null, .null, .ref q_1])), (q_1, .inl ((cs 4), 64, .inr (.inl g_3)))] := hD
  refine lv_aload_n hx hb dX7_init_12 rfl (lv_at hl 0 rfl) ?_
  refine lv_aload_n hx hb dX7_init_13 rfl (lv_at hl 1 rfl) ?_
  refine va_putF (D := D) (ci := 5) (v := .ref ru1) (ty := .array .int) (C := "WrongHole$Rule") (T := TX7) (N := 3) hx hb hts (iq_RX7 _) tyX7 tyX7_ok nmX7 hown hK hP hD hS 0 rfl rfl 0 (by decide) (hT _ qq_3_146) (fun _ h9 => h9) rfl hnm rfl (by decide +kernel) rfl rfl (Nat.le_of_ble_eq_true rfl) dX7_init_14 (fun H locs hP hD hS => ?_)
  have hP : va_P D vwCl [(hu, .inr (5, [.ref ru1, .null, .ref q_1])), (q_1, .inl ((cs 4), 64, .inr (.inl g_3)))] H := hP
  have hD : va_D A [(hu, .inr (5, [.ref ru1, .null, .ref q_1])), (q_1, .inl ((cs 4), 64, .inr (.inl g_3)))] := hD
  refine lv_aload_n hx hb dX7_init_17 rfl (lv_at hl 0 rfl) ?_
  refine lv_aload_n hx hb dX7_init_18 rfl (lv_at hl 2 rfl) ?_
  refine va_putF (D := D) (ci := 5) (v := .ref ru2) (ty := .array .int) (C := "WrongHole$Rule") (T := TX7) (N := 3) hx hb hts (iq_RX7 _) tyX7 tyX7_ok nmX7 hown hK hP hD hS 0 rfl rfl 1 (by decide) (hT _ qq_3_147) (fun _ h9 => h9) rfl hnm rfl (by decide +kernel) rfl rfl (Nat.le_of_ble_eq_true rfl) dX7_init_19 (fun H locs hP hD hS => ?_)
  have hP : va_P D vwCl [(hu, .inr (5, [.ref ru1, .ref ru2, .ref q_1])), (q_1, .inl ((cs 4), 64, .inr (.inl g_3)))] H := hP
  have hD : va_D A [(hu, .inr (5, [.ref ru1, .ref ru2, .ref q_1])), (q_1, .inl ((cs 4), 64, .inr (.inl g_3)))] := hD
  refine W.widen (k := 1) (n := 64) (Nat.le_of_ble_eq_true rfl) (Nat.le_of_ble_eq_true rfl) ?_
  have hP9 := hP.sub (ws' := [(hu, .inr (5, [.ref ru1, .ref ru2, .ref q_1])), (q_1, .inl ((cs 4), 64, .inr (.inl g_3)))]) [0, 1] rfl
  have hD9 := hD.sub (ws' := [(hu, .inr (5, [.ref ru1, .ref ru2, .ref q_1])), (q_1, .inl ((cs 4), 64, .inr (.inl g_3)))]) [0, 1] (by decide) rfl
  exact W.vret hx hb hr (fun t9 ht9 hW9 => ⟨⟨(), rfl, trivial, ⟨q_1, g_3, by rw [ht9]; exact hP9, hD9⟩⟩, hS.F ht9⟩) hS.2.2 dX7_init_22
theorem dX8_readRule_0 : decode cX8_readRule 0 = .ok (.aload_n 0, 1) := by decide +kernel
theorem dX8_readRule_1 : decode cX8_readRule 1 = .ok (.iconst 0, 1) := by decide +kernel
theorem dX8_readRule_2 : decode cX8_readRule 2 = .ok (.putfield 20, 3) := by decide +kernel
theorem dX8_readRule_5 : decode cX8_readRule 5 = .ok (.aload_n 0, 1) := by decide +kernel
theorem dX8_readRule_6 : decode cX8_readRule 6 = .ok (.iconst 0, 1) := by decide +kernel
theorem dX8_readRule_7 : decode cX8_readRule 7 = .ok (.putfield 24, 3) := by decide +kernel
theorem dX8_readRule_10 : decode cX8_readRule 10 = .ok (.iconst 0, 1) := by decide +kernel
theorem dX8_readRule_11 : decode cX8_readRule 11 = .ok (.istore_n 2, 1) := by decide +kernel
theorem dX8_readRule_12 : decode cX8_readRule 12 = .ok (.aload_n 1, 1) := by decide +kernel
theorem dX8_readRule_13 : decode cX8_readRule 13 = .ok (.invokevirtual 27, 3) := by decide +kernel
theorem qq_3_71 : Cond.methodLink "WrongHole$RuleReader" 27 yX9_restart ∈ TB := mk_tb (ti_3 (List.mem_of_getElem? (i := 71) rfl)) rfl
theorem dX8_readRule_16 : decode cX8_readRule 16 = .ok (.iconst 0, 1) := by decide +kernel
theorem dX8_readRule_17 : decode cX8_readRule 17 = .ok (.istore_n 3, 1) := by decide +kernel
theorem dX8_readRule_18 : decode cX8_readRule 18 = .ok (.iload_n 3, 1) := by decide +kernel
theorem dX8_readRule_19 : decode cX8_readRule 19 = .ok (.bipush 12, 2) := by decide +kernel
theorem dX8_readRule_21 : decode cX8_readRule 21 = .ok (.if_icmp .gt 130, 3) := by decide +kernel
theorem dX8_readRule_151 : decode cX8_readRule 151 = .ok (.aload_n 1, 1) := by decide +kernel
theorem dX8_readRule_152 : decode cX8_readRule 152 = .ok (.invokevirtual 30, 3) := by decide +kernel
theorem dX8_readRule_155 : decode cX8_readRule 155 = .ok (.ifCond .ne 5, 3) := by decide +kernel
theorem dX8_readRule_160 : decode cX8_readRule 160 = .ok (.new 67, 3) := by decide +kernel
theorem qq_3_124 : Cond.classLink "WrongHole$RuleReader" 67 "WrongHole$Rule" ∈ TB := mk_tb (ti_3 (List.mem_of_getElem? (i := 124) rfl)) rfl
theorem qq_3_125 : Cond.instantiable "WrongHole$Rule" 3 ∈ TB := mk_tb (ti_3 (List.mem_of_getElem? (i := 125) rfl)) rfl
theorem fv_RX7 : ∀ j, j < 3 → defaultValue (tyX7 j) = vp_V [.null, .null, .null] j := by
  intro j hj
  match j, hj with
  | 0, _ => rfl
  | 1, _ => rfl
  | 2, _ => rfl
  | n + 3, h => exact absurd h (by omega)
theorem dX8_readRule_163 : decode cX8_readRule 163 = .ok (.dup, 1) := by decide +kernel
theorem dX8_readRule_164 : decode cX8_readRule 164 = .ok (.aload_n 0, 1) := by decide +kernel
theorem dX8_readRule_165 : decode cX8_readRule 165 = .ok (.getfield 11, 3) := by decide +kernel
theorem dX8_readRule_168 : decode cX8_readRule 168 = .ok (.aload_n 0, 1) := by decide +kernel
theorem dX8_readRule_169 : decode cX8_readRule 169 = .ok (.getfield 20, 3) := by decide +kernel
theorem dX8_readRule_172 : decode cX8_readRule 172 = .ok (.invokestatic 69, 3) := by decide +kernel
theorem qq_3_128 : Cond.code yJ7_copyOf_59c91 cJ7_copyOf_59c91 3 (some (.array .int)) ∈ TB := mk_tb (ti_3 (List.mem_of_getElem? (i := 128) rfl)) rfl
theorem qq_3_126 : Cond.methodLink "WrongHole$RuleReader" 69 yJ7_copyOf_59c91 ∈ TB := mk_tb (ti_3 (List.mem_of_getElem? (i := 126) rfl)) rfl
theorem qq_3_127 : Cond.static yJ7_copyOf_59c91 ∈ TB := mk_tb (ti_3 (List.mem_of_getElem? (i := 127) rfl)) rfl
theorem dX8_readRule_175 : decode cX8_readRule 175 = .ok (.aload_n 0, 1) := by decide +kernel
theorem dX8_readRule_176 : decode cX8_readRule 176 = .ok (.getfield 17, 3) := by decide +kernel
theorem dX8_readRule_179 : decode cX8_readRule 179 = .ok (.iconst 2, 1) := by decide +kernel
theorem dX8_readRule_180 : decode cX8_readRule 180 = .ok (.iload_n 2, 1) := by decide +kernel
theorem dX8_readRule_181 : decode cX8_readRule 181 = .ok (.imul, 1) := by decide +kernel
theorem dX8_readRule_182 : decode cX8_readRule 182 = .ok (.iconst 1, 1) := by decide +kernel
theorem dX8_readRule_183 : decode cX8_readRule 183 = .ok (.iadd, 1) := by decide +kernel
theorem dX8_readRule_184 : decode cX8_readRule 184 = .ok (.invokestatic 69, 3) := by decide +kernel
theorem dX8_readRule_187 : decode cX8_readRule 187 = .ok (.invokespecial 75, 3) := by decide +kernel
theorem qq_3_144 : Cond.code yX7_init cX7_init 3 none ∈ TB := mk_tb (ti_3 (List.mem_of_getElem? (i := 144) rfl)) rfl
theorem qq_3_142 : Cond.methodLink "WrongHole$RuleReader" 75 yX7_init ∈ TB := mk_tb (ti_3 (List.mem_of_getElem? (i := 142) rfl)) rfl
theorem qq_3_143 : Cond.instanceMethod yX7_init ∈ TB := mk_tb (ti_3 (List.mem_of_getElem? (i := 143) rfl)) rfl
theorem dX8_readRule_190 : decode cX8_readRule 190 = .ok (.areturn, 1) := by decide +kernel
theorem dX8_readRule_158 : decode cX8_readRule 158 = .ok (.aconst_null, 1) := by decide +kernel
theorem dX8_readRule_159 : decode cX8_readRule 159 = .ok (.areturn, 1) := by decide +kernel
theorem dX8_readRule_24 : decode cX8_readRule 24 = .ok (.aload_n 1, 1) := by decide +kernel
theorem dX8_readRule_25 : decode cX8_readRule 25 = .ok (.invokevirtual 30, 3) := by decide +kernel
theorem dX8_readRule_28 : decode cX8_readRule 28 = .ok (.ifCond .eq 123, 3) := by decide +kernel
theorem dX8_readRule_31 : decode cX8_readRule 31 = .ok (.aload_n 1, 1) := by decide +kernel
theorem dX8_readRule_32 : decode cX8_readRule 32 = .ok (.ldc 34, 2) := by decide +kernel
theorem dX8_readRule_34 : decode cX8_readRule 34 = .ok (.invokevirtual 36, 3) := by decide +kernel
theorem dX8_readRule_37 : decode cX8_readRule 37 = .ok (.iconst (-1), 1) := by decide +kernel
theorem dX8_readRule_38 : decode cX8_readRule 38 = .ok (.if_icmp .ne 11, 3) := by decide +kernel
theorem dX8_readRule_49 : decode cX8_readRule 49 = .ok (.iload_n 3, 1) := by decide +kernel
theorem dX8_readRule_50 : decode cX8_readRule 50 = .ok (.bipush 12, 2) := by decide +kernel
theorem dX8_readRule_52 : decode cX8_readRule 52 = .ok (.if_icmp .ne 11, 3) := by decide +kernel
theorem dX8_readRule_63 : decode cX8_readRule 63 = .ok (.aload_n 1, 1) := by decide +kernel
theorem dX8_readRule_64 : decode cX8_readRule 64 = .ok (.invokevirtual 44, 3) := by decide +kernel
theorem dX8_readRule_67 : decode cX8_readRule 67 = .ok (.aload_n 0, 1) := by decide +kernel
theorem dX8_readRule_68 : decode cX8_readRule 68 = .ok (.getfield 17, 3) := by decide +kernel
theorem dX8_readRule_71 : decode cX8_readRule 71 = .ok (.iconst 2, 1) := by decide +kernel
theorem dX8_readRule_72 : decode cX8_readRule 72 = .ok (.iload_n 3, 1) := by decide +kernel
theorem dX8_readRule_73 : decode cX8_readRule 73 = .ok (.imul, 1) := by decide +kernel
theorem dX8_readRule_74 : decode cX8_readRule 74 = .ok (.aload_n 0, 1) := by decide +kernel
theorem dX8_readRule_75 : decode cX8_readRule 75 = .ok (.getfield 20, 3) := by decide +kernel
theorem dX8_readRule_78 : decode cX8_readRule 78 = .ok (.iastore, 1) := by decide +kernel
theorem dX8_readRule_79 : decode cX8_readRule 79 = .ok (.aload_n 0, 1) := by decide +kernel
theorem dX8_readRule_80 : decode cX8_readRule 80 = .ok (.aload_n 1, 1) := by decide +kernel
theorem dX8_readRule_81 : decode cX8_readRule 81 = .ok (.invokevirtual 47, 3) := by decide +kernel
theorem dX8_readRule_84 : decode cX8_readRule 84 = .ok (.aload_n 0, 1) := by decide +kernel
theorem dX8_readRule_85 : decode cX8_readRule 85 = .ok (.getfield 17, 3) := by decide +kernel
theorem dX8_readRule_88 : decode cX8_readRule 88 = .ok (.iconst 2, 1) := by decide +kernel
theorem dX8_readRule_89 : decode cX8_readRule 89 = .ok (.iload_n 3, 1) := by decide +kernel
theorem dX8_readRule_90 : decode cX8_readRule 90 = .ok (.imul, 1) := by decide +kernel
theorem dX8_readRule_91 : decode cX8_readRule 91 = .ok (.iconst 1, 1) := by decide +kernel
theorem dX8_readRule_92 : decode cX8_readRule 92 = .ok (.iadd, 1) := by decide +kernel
theorem dX8_readRule_93 : decode cX8_readRule 93 = .ok (.aload_n 0, 1) := by decide +kernel
theorem dX8_readRule_94 : decode cX8_readRule 94 = .ok (.getfield 20, 3) := by decide +kernel
theorem dX8_readRule_97 : decode cX8_readRule 97 = .ok (.iastore, 1) := by decide +kernel
theorem dX8_readRule_98 : decode cX8_readRule 98 = .ok (.aload_n 1, 1) := by decide +kernel
theorem dX8_readRule_99 : decode cX8_readRule 99 = .ok (.ldc 51, 2) := by decide +kernel
theorem dX8_readRule_101 : decode cX8_readRule 101 = .ok (.invokevirtual 53, 3) := by decide +kernel
theorem dX8_readRule_104 : decode cX8_readRule 104 = .ok (.ifCond .eq 9, 3) := by decide +kernel
theorem dX8_readRule_113 : decode cX8_readRule 113 = .ok (.iinc 2 1, 3) := by decide +kernel
theorem dX8_readRule_116 : decode cX8_readRule 116 = .ok (.aload_n 0, 1) := by decide +kernel
theorem dX8_readRule_117 : decode cX8_readRule 117 = .ok (.getfield 17, 3) := by decide +kernel
theorem dX8_readRule_120 : decode cX8_readRule 120 = .ok (.iconst 2, 1) := by decide +kernel
theorem dX8_readRule_121 : decode cX8_readRule 121 = .ok (.iload_n 2, 1) := by decide +kernel
theorem dX8_readRule_122 : decode cX8_readRule 122 = .ok (.imul, 1) := by decide +kernel
theorem dX8_readRule_123 : decode cX8_readRule 123 = .ok (.aload_n 0, 1) := by decide +kernel
theorem dX8_readRule_124 : decode cX8_readRule 124 = .ok (.getfield 20, 3) := by decide +kernel
theorem dX8_readRule_127 : decode cX8_readRule 127 = .ok (.iastore, 1) := by decide +kernel
theorem dX8_readRule_128 : decode cX8_readRule 128 = .ok (.aload_n 1, 1) := by decide +kernel
theorem dX8_readRule_129 : decode cX8_readRule 129 = .ok (.getfield 61, 3) := by decide +kernel
theorem dX8_readRule_132 : decode cX8_readRule 132 = .ok (.iconst (-1), 1) := by decide +kernel
theorem dX8_readRule_133 : decode cX8_readRule 133 = .ok (.if_icmp .ne 6, 3) := by decide +kernel
theorem dX8_readRule_139 : decode cX8_readRule 139 = .ok (.aload_n 1, 1) := by decide +kernel
theorem dX8_readRule_140 : decode cX8_readRule 140 = .ok (.bipush 59, 2) := by decide +kernel
theorem dX8_readRule_142 : decode cX8_readRule 142 = .ok (.invokevirtual 64, 3) := by decide +kernel
theorem dX8_readRule_145 : decode cX8_readRule 145 = .ok (.iinc 3 1, 3) := by decide +kernel
theorem dX8_readRule_148 : decode cX8_readRule 148 = .ok (.goto (-130), 3) := by decide +kernel
theorem dX8_readRule_136 : decode cX8_readRule 136 = .ok (.goto 15, 3) := by decide +kernel
theorem dX8_readRule_107 : decode cX8_readRule 107 = .ok (.aload_n 0, 1) := by decide +kernel
theorem dX8_readRule_108 : decode cX8_readRule 108 = .ok (.aload_n 1, 1) := by decide +kernel
theorem dX8_readRule_109 : decode cX8_readRule 109 = .ok (.iconst 0, 1) := by decide +kernel
theorem dX8_readRule_110 : decode cX8_readRule 110 = .ok (.invokevirtual 57, 3) := by decide +kernel
theorem dX8_readRule_55 : decode cX8_readRule 55 = .ok (.aload_n 1, 1) := by decide +kernel
theorem dX8_readRule_56 : decode cX8_readRule 56 = .ok (.iconst 4, 1) := by decide +kernel
theorem dX8_readRule_57 : decode cX8_readRule 57 = .ok (.invokevirtual 40, 3) := by decide +kernel
theorem dX8_readRule_60 : decode cX8_readRule 60 = .ok (.goto 68, 3) := by decide +kernel
theorem dX8_readRule_41 : decode cX8_readRule 41 = .ok (.aload_n 1, 1) := by decide +kernel
theorem dX8_readRule_42 : decode cX8_readRule 42 = .ok (.iconst 0, 1) := by decide +kernel
theorem dX8_readRule_43 : decode cX8_readRule 43 = .ok (.invokevirtual 40, 3) := by decide +kernel
theorem dX8_readRule_46 : decode cX8_readRule 46 = .ok (.goto 82, 3) := by decide +kernel
set_option maxHeartbeats 4000000 in
set_option maxRecDepth 100000 in
theorem c_RR_readRule (l : Launch) (D : va_G) (cs : Nat → ClassId) (sa sv : Nat → Nat) (ks : List (ClassId × FieldType)) (sz : Nat) (hq : Nat) (qc : Nat) (qb : Nat) (qz : Int32) (qp : Int32) (ga : Nat → Int32) (gb : Nat → Int32) (ht : Nat) (hs : Nat) (tl : Int32) (tk : Int32) (tp : Int32) (tb : Int32) (tv : Int32) (tn : Int32) (tf : Int32) (gt : Nat → Int32) (a_gb : ∀ j, j < 25 → Rg 0 400 (gb j)) (r_tl : Rg 0 400 tl) (r_tp : Rg 0 400 tp) (r_tb : Rg 0 400 tb) : Met l yX8_readRule (Cond.code yX8_readRule cX8_readRule 4 (some (.object "WrongHole$Rule")) :: TB) (RM 62 4 867) (va_Pc [.ref hq, .ref ht] (PRE D cs (XC sa sv D ks) [(hq, .inr (6, [.ref qc, .ref qb, .int qz, .int qp])), (qc, .inl ((cs 0), 400, .inl ga)), (qb, .inl ((cs 0), 25, .inl gb)), (ht, .inr (7, [.ref hs, .int tl, .int tk, .int tp, .int tb, .int tv, .int tn, .int tf])), (hs, .inl ((cs 1), 400, .inl gt))] [] sz)) (va_Qq (S := Option Nat) (fun r u => r = u) (fun u t => match u with | none => ∃ (tk2 : Int32), ∃ (tp2 : Int32), ∃ (tb2 : Int32), ∃ (tv2 : Int32), ∃ (tn2 : Int32), ∃ (tf2 : Int32), ∃ (qz2 : Int32), ∃ (qp2 : Int32), ∃ (ga2 : Nat → Int32), ∃ (gb2 : Nat → Int32), Rg 0 400 tp2 ∧ Rg 0 400 tb2 ∧ Rg 0 400 qz2 ∧ (∀ j, j < 25 → Rg 0 400 (gb2 j)) ∧ va_P D vwCl [(hq, .inr (6, [.ref qc, .ref qb, .int qz2, .int qp2])), (qc, .inl ((cs 0), 400, .inl ga2)), (qb, .inl ((cs 0), 25, .inl gb2)), (ht, .inr (7, [.ref hs, .int tl, .int tk2, .int tp2, .int tb2, .int tv2, .int tn2, .int tf2])), (hs, .inl ((cs 1), 400, .inl gt))] t.heap ∧ va_D (va_A [(hq, .inr (6, [.ref qc, .ref qb, .int qz, .int qp])), (qc, .inl ((cs 0), 400, .inl ga)), (qb, .inl ((cs 0), 25, .inl gb)), (ht, .inr (7, [.ref hs, .int tl, .int tk, .int tp, .int tb, .int tv, .int tn, .int tf])), (hs, .inl ((cs 1), 400, .inl gt))] sz) [(hq, .inr (6, [.ref qc, .ref qb, .int qz2, .int qp2])), (qc, .inl ((cs 0), 400, .inl ga2)), (qb, .inl ((cs 0), 25, .inl gb2)), (ht, .inr (7, [.ref hs, .int tl, .int tk2, .int tp2, .int tb2, .int tv2, .int tn2, .int tf2])), (hs, .inl ((cs 1), 400, .inl gt))] | some RA => ∃ (tk2 : Int32), ∃ (tp2 : Int32), ∃ (tb2 : Int32), ∃ (tv2 : Int32), ∃ (tn2 : Int32), ∃ (tf2 : Int32), ∃ (qz2 : Int32), ∃ (qp2 : Int32), ∃ (ga2 : Nat → Int32), ∃ (gb2 : Nat → Int32), ∃ (ru1 : Nat), ∃ (ru2 : Nat), ∃ (ru3 : Nat), ∃ (n1 : Nat), ∃ (n2 : Nat), ∃ (gs_ : Nat → Int64), Rg 0 400 tp2 ∧ Rg 0 400 tb2 ∧ Rg 0 400 qz2 ∧ (∀ j, j < 25 → Rg 0 400 (gb2 j)) ∧ (n1 ≤ 400) ∧ (n2 ≤ 25) ∧ va_P D vwCl [(hq, .inr (6, [.ref qc, .ref qb, .int qz2, .int qp2])), (qc, .inl ((cs 0), 400, .inl ga2)), (qb, .inl ((cs 0), 25, .inl gb2)), (ht, .inr (7, [.ref hs, .int tl, .int tk2, .int tp2, .int tb2, .int tv2, .int tn2, .int tf2])), (hs, .inl ((cs 1), 400, .inl gt)), (RA, .inr (5, [.ref ru1, .ref ru2, .ref ru3])), (ru1, .inl ((cs 0), n1, .inl ga2)), (ru2, .inl ((cs 0), n2, .inl gb2)), (ru3, .inl ((cs 4), 64, .inr (.inl gs_)))] t.heap ∧ va_D (va_A [(hq, .inr (6, [.ref qc, .ref qb, .int qz, .int qp])), (qc, .inl ((cs 0), 400, .inl ga)), (qb, .inl ((cs 0), 25, .inl gb)), (ht, .inr (7, [.ref hs, .int tl, .int tk, .int tp, .int tb, .int tv, .int tn, .int tf])), (hs, .inl ((cs 1), 400, .inl gt))] sz) [(hq, .inr (6, [.ref qc, .ref qb, .int qz2, .int qp2])), (qc, .inl ((cs 0), 400, .inl ga2)), (qb, .inl ((cs 0), 25, .inl gb2)), (ht, .inr (7, [.ref hs, .int tl, .int tk2, .int tp2, .int tb2, .int tv2, .int tn2, .int tf2])), (hs, .inl ((cs 1), 400, .inl gt)), (RA, .inr (5, [.ref ru1, .ref ru2, .ref ru3])), (ru1, .inl ((cs 0), n1, .inl ga2)), (ru2, .inl ((cs 0), n2, .inl gb2)), (ru3, .inl ((cs 4), 64, .inr (.inl gs_)))]) (va_A [(hq, .inr (6, [.ref qc, .ref qb, .int qz, .int qp])), (qc, .inl ((cs 0), 400, .inl ga)), (qb, .inl ((cs 0), 25, .inl gb)), (ht, .inr (7, [.ref hs, .int tl, .int tk, .int tp, .int tb, .int tv, .int tn, .int tf])), (hs, .inl ((cs 1), 400, .inl gt))] sz)) 4 867 (va_A [(hq, .inr (6, [.ref qc, .ref qb, .int qz, .int qp])), (qc, .inl ((cs 0), 400, .inl ga)), (qb, .inl ((cs 0), 25, .inl gb)), (ht, .inr (7, [.ref hs, .int tl, .int tk, .int tp, .int tb, .int tv, .int tn, .int tf])), (hs, .inl ((cs 1), 400, .inl gt))] sz) := by
  refine MET (y := yX8_readRule) (cc := cX8_readRule) (maxL := 4) (ret := (some (.object "WrongHole$Rule"))) (d := 62) (mc := 4) (ms := 867) (D := D) (cs := cs) (X := (XC sa sv D ks)) (ws := [(hq, .inr (6, [.ref qc, .ref qb, .int qz, .int qp])), (qc, .inl ((cs 0), 400, .inl ga)), (qb, .inl ((cs 0), 25, .inl gb)), (ht, .inr (7, [.ref hs, .int tl, .int tk, .int tp, .int tb, .int tv, .int tn, .int tf])), (hs, .inl ((cs 1), 400, .inl gt))]) (wo := []) (sz := sz) (av := [.ref hq, .ref ht]) (Qc := fun A => va_Qq (S := Option Nat) (fun r u => r = u) (fun u t => match u with | none => ∃ (tk2 : Int32), ∃ (tp2 : Int32), ∃ (tb2 : Int32), ∃ (tv2 : Int32), ∃ (tn2 : Int32), ∃ (tf2 : Int32), ∃ (qz2 : Int32), ∃ (qp2 : Int32), ∃ (ga2 : Nat → Int32), ∃ (gb2 : Nat → Int32), Rg 0 400 tp2 ∧ Rg 0 400 tb2 ∧ Rg 0 400 qz2 ∧ (∀ j, j < 25 → Rg 0 400 (gb2 j)) ∧ va_P D vwCl [(hq, .inr (6, [.ref qc, .ref qb, .int qz2, .int qp2])), (qc, .inl ((cs 0), 400, .inl ga2)), (qb, .inl ((cs 0), 25, .inl gb2)), (ht, .inr (7, [.ref hs, .int tl, .int tk2, .int tp2, .int tb2, .int tv2, .int tn2, .int tf2])), (hs, .inl ((cs 1), 400, .inl gt))] t.heap ∧ va_D A [(hq, .inr (6, [.ref qc, .ref qb, .int qz2, .int qp2])), (qc, .inl ((cs 0), 400, .inl ga2)), (qb, .inl ((cs 0), 25, .inl gb2)), (ht, .inr (7, [.ref hs, .int tl, .int tk2, .int tp2, .int tb2, .int tv2, .int tn2, .int tf2])), (hs, .inl ((cs 1), 400, .inl gt))] | some RA => ∃ (tk2 : Int32), ∃ (tp2 : Int32), ∃ (tb2 : Int32), ∃ (tv2 : Int32), ∃ (tn2 : Int32), ∃ (tf2 : Int32), ∃ (qz2 : Int32), ∃ (qp2 : Int32), ∃ (ga2 : Nat → Int32), ∃ (gb2 : Nat → Int32), ∃ (ru1 : Nat), ∃ (ru2 : Nat), ∃ (ru3 : Nat), ∃ (n1 : Nat), ∃ (n2 : Nat), ∃ (gs_ : Nat → Int64), Rg 0 400 tp2 ∧ Rg 0 400 tb2 ∧ Rg 0 400 qz2 ∧ (∀ j, j < 25 → Rg 0 400 (gb2 j)) ∧ (n1 ≤ 400) ∧ (n2 ≤ 25) ∧ va_P D vwCl [(hq, .inr (6, [.ref qc, .ref qb, .int qz2, .int qp2])), (qc, .inl ((cs 0), 400, .inl ga2)), (qb, .inl ((cs 0), 25, .inl gb2)), (ht, .inr (7, [.ref hs, .int tl, .int tk2, .int tp2, .int tb2, .int tv2, .int tn2, .int tf2])), (hs, .inl ((cs 1), 400, .inl gt)), (RA, .inr (5, [.ref ru1, .ref ru2, .ref ru3])), (ru1, .inl ((cs 0), n1, .inl ga2)), (ru2, .inl ((cs 0), n2, .inl gb2)), (ru3, .inl ((cs 4), 64, .inr (.inl gs_)))] t.heap ∧ va_D A [(hq, .inr (6, [.ref qc, .ref qb, .int qz2, .int qp2])), (qc, .inl ((cs 0), 400, .inl ga2)), (qb, .inl ((cs 0), 25, .inl gb2)), (ht, .inr (7, [.ref hs, .int tl, .int tk2, .int tp2, .int tb2, .int tv2, .int tn2, .int tf2])), (hs, .inl ((cs 1), 400, .inl gt)), (RA, .inr (5, [.ref ru1, .ref ru2, .ref ru3])), (ru1, .inl ((cs 0), n1, .inl ga2)), (ru2, .inl ((cs 0), n2, .inl gb2)), (ru3, .inl ((cs 4), 64, .inr (.inl gs_)))]) A) (by decide) (Nat.le_of_ble_eq_true rfl) ?_
  intro p e s m below meth c ls A H hHe hx hb hr hml hown hts hlocks hnm hP hK hD hA hS hN hR hX hXs hl
  have hD : va_D A [(hq, .inr (6, [.ref qc, .ref qb, .int qz, .int qp])), (qc, .inl ((cs 0), 400, .inl ga)), (qb, .inl ((cs 0), 25, .inl gb)), (ht, .inr (7, [.ref hs, .int tl, .int tk, .int tp, .int tb, .int tv, .int tn, .int tf])), (hs, .inl ((cs 1), 400, .inl gt))] := hD
  obtain ⟨locs, hlc⟩ : ∃ z : List Loc, z = [] := ⟨_, rfl⟩
  rw [← hlc] at hS ⊢
  have hXo := hX
  have hXC := hXs
  have hX := SX_ok sa sv
  have hXs := hXs.1
  have hown : s.vm.findClass "WrongHole$RuleReader" = some m.cls := hown
  have hT : ∀ w ∈ TB, w.before ([.ref hq, .ref ht] : List Value).toArray s = true := fun w h => hts w (List.mem_cons_of_mem _ h)
  have hl : lv_has ls 4 [(0, .ref hq), (1, .ref ht)] := hl
  have hP : va_P D vwCl [(hq, .inr (6, [.ref qc, .ref qb, .int qz, .int qp])), (qc, .inl ((cs 0), 400, .inl ga)), (qb, .inl ((cs 0), 25, .inl gb)), (ht, .inr (7, [.ref hs, .int tl, .int tk, .int tp, .int tb, .int tv, .int tn, .int tf])), (hs, .inl ((cs 1), 400, .inl gt))] H := hP
  refine lv_aload_n hx hb dX8_readRule_0 rfl (lv_at hl 0 rfl) ?_
  refine lv_iconst (v := 0) hx hb dX8_readRule_1 (by decide) ?_
  refine va_put (D := D) (ci := 6) (v := .int 0) (ty := .int) (C := "WrongHole$RuleReader") (T := TX8) (N := 4) hx hb hts (iq_RX8 _) tyX8 tyX8_ok nmX8 hown hK hP hD hS 0 rfl rfl 2 (by decide) (hT _ qq_1_75) (fun _ h9 => h9) rfl (by decide +kernel) rfl rfl (Nat.le_of_ble_eq_true rfl) dX8_readRule_2 (fun H locs hP hD hS => ?_)
  have hP : va_P D vwCl [(hq, .inr (6, [.ref qc, .ref qb, .int 0, .int qp])), (qc, .inl ((cs 0), 400, .inl ga)), (qb, .inl ((cs 0), 25, .inl gb)), (ht, .inr (7, [.ref hs, .int tl, .int tk, .int tp, .int tb, .int tv, .int tn, .int tf])), (hs, .inl ((cs 1), 400, .inl gt))] H := hP
  have hD : va_D A [(hq, .inr (6, [.ref qc, .ref qb, .int 0, .int qp])), (qc, .inl ((cs 0), 400, .inl ga)), (qb, .inl ((cs 0), 25, .inl gb)), (ht, .inr (7, [.ref hs, .int tl, .int tk, .int tp, .int tb, .int tv, .int tn, .int tf])), (hs, .inl ((cs 1), 400, .inl gt))] := hD
  refine lv_aload_n hx hb dX8_readRule_5 rfl (lv_at hl 0 rfl) ?_
  refine lv_iconst (v := 0) hx hb dX8_readRule_6 (by decide) ?_
  refine va_put (D := D) (ci := 6) (v := .int 0) (ty := .int) (C := "WrongHole$RuleReader") (T := TX8) (N := 4) hx hb hts (iq_RX8 _) tyX8 tyX8_ok nmX8 hown hK hP hD hS 0 rfl rfl 3 (by decide) (hT _ qq_1_76) (fun _ h9 => h9) rfl (by decide +kernel) rfl rfl (Nat.le_of_ble_eq_true rfl) dX8_readRule_7 (fun H locs hP hD hS => ?_)
  have hP : va_P D vwCl [(hq, .inr (6, [.ref qc, .ref qb, .int 0, .int 0])), (qc, .inl ((cs 0), 400, .inl ga)), (qb, .inl ((cs 0), 25, .inl gb)), (ht, .inr (7, [.ref hs, .int tl, .int tk, .int tp, .int tb, .int tv, .int tn, .int tf])), (hs, .inl ((cs 1), 400, .inl gt))] H := hP
  have hD : va_D A [(hq, .inr (6, [.ref qc, .ref qb, .int 0, .int 0])), (qc, .inl ((cs 0), 400, .inl ga)), (qb, .inl ((cs 0), 25, .inl gb)), (ht, .inr (7, [.ref hs, .int tl, .int tk, .int tp, .int tb, .int tv, .int tn, .int tf])), (hs, .inl ((cs 1), 400, .inl gt))] := hD
  refine lv_iconst (v := 0) hx hb dX8_readRule_10 (by decide) ?_
  refine lv_istore_n (lv' := [(2, .int 0), (0, .ref hq), (1, .ref ht)]) hx hb dX8_readRule_11 rfl hl (by decide) rfl (fun ls hl => ?_)
  refine lv_aload_n hx hb dX8_readRule_12 rfl (lv_at hl 2 rfl) ?_
  have hPc := hP.sub (ws' := [(ht, .inr (7, [.ref hs, .int tl, .int tk, .int tp, .int tb, .int tv, .int tn, .int tf])), (hs, .inl ((cs 1), 400, .inl gt))]) [3, 4] rfl
  have hDc := hD.sub (ws' := [(ht, .inr (7, [.ref hs, .int tl, .int tk, .int tp, .int tb, .int tv, .int tn, .int tf])), (hs, .inl ((cs 1), 400, .inl gt))]) [3, 4] (by decide) rfl
  have hFc := va_free (wc := [(ht, .inr (7, [.ref hs, .int tl, .int tk, .int tp, .int tb, .int tv, .int tn, .int tf])), (hs, .inl ((cs 1), 400, .inl gt))]) hD hS hA [3, 4] rfl
  refine va_callv (va_runV (As := []) (rest := []) ⟨hx, hb, hml, hown, hts⟩ (c_Text_restart l D cs (XC sa sv D ks) H.size ht hs tl tk tp tb tv tn tf gt r_tl r_tp r_tb) ⟨callB_of 0 hts (gd_C qq_2_127) rfl rfl rfl (hT _ qq_1_2) (hT _ qq_3_71) (by decide +kernel) (rm_R rfl rfl), (hT _ qq_2_125), (hT _ qq_2_126)⟩ (pr_V hPc hK hDc hN (hR.sub (wo' := []) [] rfl) hS hFc hXo hXC (ci := 7) (q0 := 0) rfl rfl) rfl rfl hl.1 rfl (lv_room (Nat.le_of_ble_eq_true rfl)) dX8_readRule_13 ⟨Nat.le_of_ble_eq_true rfl, Nat.le_of_ble_eq_true rfl⟩) hS (fun q _ h => hFc q h) hFc (fun u_1 t_4 H1 locs ht9 hvm hw_2 hB_3 hz1 hk1 hS => ?_)
  obtain ⟨v_6, v_7, v_8, v_9, r_10, r_11, hP1, hD1⟩ := hB_3
  rw [ht9] at hP1
  obtain ⟨hP, hD⟩ := va_join (wr := [(hq, .inr (6, [.ref qc, .ref qb, .int 0, .int 0])), (qc, .inl ((cs 0), 400, .inl ga)), (qb, .inl ((cs 0), 25, .inl gb))]) (w1 := [(ht, .inr (7, [.ref hs, .int tl, .int v_6, .int v_7, .int v_8, .int v_9, .int tn, .int 0])), (hs, .inl ((cs 1), 400, .inl gt))]) hP hD [3, 4] [0, 1, 2] rfl rfl (by decide) (by decide) hk1 hFc hP1 hD1
  generalize H1 = H at hP hS ⊢
  have hP : va_P D vwCl [(hq, .inr (6, [.ref qc, .ref qb, .int 0, .int 0])), (qc, .inl ((cs 0), 400, .inl ga)), (qb, .inl ((cs 0), 25, .inl gb)), (ht, .inr (7, [.ref hs, .int tl, .int v_6, .int v_7, .int v_8, .int v_9, .int tn, .int 0])), (hs, .inl ((cs 1), 400, .inl gt))] H := hP
  have hD : va_D A [(hq, .inr (6, [.ref qc, .ref qb, .int 0, .int 0])), (qc, .inl ((cs 0), 400, .inl ga)), (qb, .inl ((cs 0), 25, .inl gb)), (ht, .inr (7, [.ref hs, .int tl, .int v_6, .int v_7, .int v_8, .int v_9, .int tn, .int 0])), (hs, .inl ((cs 1), 400, .inl gt))] := hD
  refine lv_iconst (v := 0) hx hb dX8_readRule_16 (by decide) ?_
  refine lv_istore_n (lv' := [(3, .int 0), (2, .int 0), (0, .ref hq), (1, .ref ht)]) hx hb dX8_readRule_17 rfl hl (by decide) rfl (fun ls hl => ?_)
  refine w_wh (σ := (Int32) × (Int32) × (Int32) × (Int32) × (Nat → Int32) × (Nat → Int32) × (Int32) × (Int32) × (Int32) × (Int32) × (Int32) × (Int32)) (fun x9 H locs ls => match x9 with | (v_334, v_335, v_336, v_337, g_338, g_339, v_340, v_341, v_342, v_343, v_344, v_345) => Rg 0 13 v_334 ∧ Rg 0 12 v_335 ∧ Rg 0 400 v_336 ∧ (∀ j, j < 25 → Rg 0 400 (g_339 j)) ∧ Rg 0 400 v_341 ∧ Rg 0 400 v_342 ∧ Int32.toInt v_335 ≤ Int32.toInt v_334 ∧ va_P D vwCl [(hq, .inr (6, [.ref qc, .ref qb, .int v_336, .int v_337])), (qc, .inl ((cs 0), 400, .inl g_338)), (qb, .inl ((cs 0), 25, .inl g_339)), (ht, .inr (7, [.ref hs, .int tl, .int v_340, .int v_341, .int v_342, .int v_343, .int v_344, .int v_345])), (hs, .inl ((cs 1), 400, .inl gt))] H ∧ va_D A [(hq, .inr (6, [.ref qc, .ref qb, .int v_336, .int v_337])), (qc, .inl ((cs 0), 400, .inl g_338)), (qb, .inl ((cs 0), 25, .inl g_339)), (ht, .inr (7, [.ref hs, .int tl, .int v_340, .int v_341, .int v_342, .int v_343, .int v_344, .int v_345])), (hs, .inl ((cs 1), 400, .inl gt))] ∧ va_S A s.heap H locs ∧ lv_has ls 4 [(3, .int v_334), (2, .int v_335), (0, .ref hq), (1, .ref ht)]) (fun x9 => match x9 with | (v_334, v_335, v_336, v_337, g_338, g_339, v_340, v_341, v_342, v_343, v_344, v_345) => (13 - Int32.toInt v_334).toNat) 18 ?_ (0, 0, 0, 0, ga, gb, v_6, v_7, v_8, v_9, tn, 0) H locs ls ⟨(Rg.wk (lo2 := 0) (hi2 := 13) (Rg.c (c := 0) (k := 0) rfl) (by decide)), (Rg.wk (lo2 := 0) (hi2 := 12) (Rg.c (c := 0) (k := 0) rfl) (by decide)), (Rg.wk (lo2 := 0) (hi2 := 400) (Rg.c (c := 0) (k := 0) rfl) (by decide)), a_gb, r_10, r_11, (by decide), hP, hD, hS, lv_sub hl [0, 1, 2, 3] rfl⟩
  rintro ⟨v_334, v_335, v_336, v_337, g_338, g_339, v_340, v_341, v_342, v_343, v_344, v_345⟩ H locs ls ⟨r_4663, r_4664, r_4665, ra_4666, r_4667, r_4668, le_4669, hP, hD, hS, hl⟩ ih_4662
  refine lv_iload_n hx hb dX8_readRule_18 rfl (lv_at hl 0 rfl) ?_
  refine lv_bipush (v := 12) hx hb dX8_readRule_19 (by decide) ?_
  refine w_cut (σ := (Int32) × (Int32) × (Int32) × (Nat → Int32) × (Nat → Int32) × (Int32) × (Int32) × (Int32) × (Int32) × (Int32) × (Int32)) (fun x9 H locs ls => match x9 with | (v_4862, v_4863, v_4864, g_4865, g_4866, v_4867, v_4868, v_4869, v_4870, v_4871, v_4872) => Rg 0 12 v_4862 ∧ Rg 0 400 v_4863 ∧ (∀ j, j < 25 → Rg 0 400 (g_4866 j)) ∧ Rg 0 400 v_4868 ∧ Rg 0 400 v_4869 ∧ va_P D vwCl [(hq, .inr (6, [.ref qc, .ref qb, .int v_4863, .int v_4864])), (qc, .inl ((cs 0), 400, .inl g_4865)), (qb, .inl ((cs 0), 25, .inl g_4866)), (ht, .inr (7, [.ref hs, .int tl, .int v_4867, .int v_4868, .int v_4869, .int v_4870, .int v_4871, .int v_4872])), (hs, .inl ((cs 1), 400, .inl gt))] H ∧ va_D A [(hq, .inr (6, [.ref qc, .ref qb, .int v_4863, .int v_4864])), (qc, .inl ((cs 0), 400, .inl g_4865)), (qb, .inl ((cs 0), 25, .inl g_4866)), (ht, .inr (7, [.ref hs, .int tl, .int v_4867, .int v_4868, .int v_4869, .int v_4870, .int v_4871, .int v_4872])), (hs, .inl ((cs 1), 400, .inl gt))] ∧ va_S A s.heap H locs ∧ lv_has ls 4 [(3, .int v_334), (2, .int v_4862), (0, .ref hq), (1, .ref ht)]) 151 (fun x9 => match x9 with | (v_4862, v_4863, v_4864, g_4865, g_4866, v_4867, v_4868, v_4869, v_4870, v_4871, v_4872) => []) ?_ (fun hj_4873 => ?_)
  · rintro ⟨v_4862, v_4863, v_4864, g_4865, g_4866, v_4867, v_4868, v_4869, v_4870, v_4871, v_4872⟩ H locs ls ⟨r_4874, r_4875, ra_4876, r_4877, r_4878, hP, hD, hS, hl⟩
    refine lv_aload_n hx hb dX8_readRule_151 rfl (lv_at hl 3 rfl) ?_
    have hPc := va_P.sub (ws' := [(ht, .inr (7, [.ref hs, .int tl, .int v_4867, .int v_4868, .int v_4869, .int v_4870, .int v_4871, .int v_4872])), (hs, .inl ((cs 1), 400, .inl gt))]) hP [3, 4] rfl
    refine cl_P (W.runV (As := []) (rest := []) ⟨hx, hb, hml, hown, hts⟩ (c_Text_sound l D cs ht hs tl v_4867 v_4868 v_4869 v_4870 v_4871 v_4872 gt) ⟨callB_of 0 hts (gd_C qq_2_148) rfl rfl rfl (hT _ qq_1_2) (hT _ qq_3_72) (by decide +kernel) (rm_R rfl rfl), (hT _ qq_2_146), (hT _ qq_2_147)⟩ (pq_V hPc hK hN (ci := 7) (q0 := 0) rfl rfl) rfl rfl hl.1 rfl (lv_room (Nat.le_of_ble_eq_true rfl)) dX8_readRule_152 ⟨Nat.le_of_ble_eq_true rfl, Nat.le_of_ble_eq_true rfl⟩) (fun v9 hz_4880 => ?_)
    obtain ⟨x_4879, rfl, r_4881⟩ := hz_4880
    refine lv_if_ne (tgt := 160) hx hb dX8_readRule_155 (by decide) (fun c_4882 => ?_) (fun c_4882 => ?_)
    · have r_4883 : Rg 1 1 x_4879 := Rg.ne c_4882 r_4881.1 (Rg.c (c := 0) (k := 0) rfl) (by decide)
      refine va_new (ci := 5) (fs := [.null, .null, .null]) (C := "WrongHole$Rule") (T := TX7) (N := 3) hx hb hts (iq_RX7 _) tyX7 tyX7_ok hown (hT _ qq_3_124) (hT _ qq_3_125) (hT _ qq_1_18) hK hP hD hS hA rfl (fv_RX7) (Nat.le_of_ble_eq_true rfl) (Nat.le_of_ble_eq_true rfl) dX8_readRule_160 (fun q_4885 H hP hD hS => ?_)
      have hP : va_P D vwCl [(hq, .inr (6, [.ref qc, .ref qb, .int v_4863, .int v_4864])), (qc, .inl ((cs 0), 400, .inl g_4865)), (qb, .inl ((cs 0), 25, .inl g_4866)), (ht, .inr (7, [.ref hs, .int tl, .int v_4867, .int v_4868, .int v_4869, .int v_4870, .int v_4871, .int v_4872])), (hs, .inl ((cs 1), 400, .inl gt)), (q_4885, .inr (5, [.null, .null, .null]))] H := hP
      have hD : va_D A [(hq, .inr (6, [.ref qc, .ref qb, .int v_4863, .int v_4864])), (qc, .inl ((cs 0), 400, .inl g_4865)), (qb, .inl ((cs 0), 25, .inl g_4866)), (ht, .inr (7, [.ref hs, .int tl, .int v_4867, .int v_4868, .int v_4869, .int v_4870, .int v_4871, .int v_4872])), (hs, .inl ((cs 1), 400, .inl gt)), (q_4885, .inr (5, [.null, .null, .null]))] := hD
      refine W.widen (k := 1) (n := 3) (Nat.le_of_ble_eq_true rfl) (Nat.le_of_ble_eq_true rfl) ?_
      refine lv_dup hx hb dX8_readRule_163 rfl ?_
      refine lv_aload_n hx hb dX8_readRule_164 rfl (lv_at hl 2 rfl) ?_
      refine va_get (D := D) (ci := 6) (v := .ref qc) (C := "WrongHole$RuleReader") (T := TX8) (N := 4) hx hb hts (iq_RX8 _) hown hK hP 0 rfl rfl 0 (by decide) (hT _ qq_1_73) (fun _ h9 => h9) rfl dX8_readRule_165 ?_
      refine lv_aload_n hx hb dX8_readRule_168 rfl (lv_at hl 2 rfl) ?_
      refine va_get (D := D) (ci := 6) (v := .int v_4863) (C := "WrongHole$RuleReader") (T := TX8) (N := 4) hx hb hts (iq_RX8 _) hown hK hP 0 rfl rfl 2 (by decide) (hT _ qq_1_75) (fun _ h9 => h9) rfl dX8_readRule_169 ?_
      have hPc := hP.sub (ws' := [(qc, .inl ((cs 0), 400, .inl g_4865))]) [1] rfl
      have hDc := hD.sub (ws' := [(qc, .inl ((cs 0), 400, .inl g_4865))]) [1] (by decide) rfl
      have hFc := va_free (wc := [(qc, .inl ((cs 0), 400, .inl g_4865))]) hD hS hA [1] rfl
      refine va_callr (va_runS (As := [.ref qc, .int v_4863]) (rest := [.ref q_4885, .ref q_4885]) ⟨hx, hb, hml, hown, hts⟩ (c_copyOf l D cs sa sv ks H.size qc 400 g_4865 v_4863 (Nat.le_of_ble_eq_true rfl) r_4875 (rg_cl (r_4875) (by decide))) ⟨callB_of 2 hts (gd_C qq_3_128) rfl rfl rfl (hT _ qq_1_5) (hT _ qq_3_126) (by decide +kernel) (rm_R rfl rfl), (hT _ qq_3_127)⟩ (pr_S hPc hK hDc hN (hR.sub (wo' := []) [] rfl) hS hFc hXo hXC) rfl rfl hl.1 rfl (lv_room (Nat.le_of_ble_eq_true rfl)) dX8_readRule_172 ⟨Nat.le_of_ble_eq_true rfl, Nat.le_of_ble_eq_true rfl⟩) hS (fun q _ h => hFc q h) hFc (fun u_4886 x_4890 t_4889 H1 locs ht9 hvm hw_4887 hB_4888 hz1 hk1 hS => ?_)
      obtain ⟨q_4891, rp_4892, hP1, hD1⟩ := hB_4888
      rw [ht9] at hP1
      obtain ⟨hP, hD⟩ := va_join (wr := [(hq, .inr (6, [.ref qc, .ref qb, .int v_4863, .int v_4864])), (qb, .inl ((cs 0), 25, .inl g_4866)), (ht, .inr (7, [.ref hs, .int tl, .int v_4867, .int v_4868, .int v_4869, .int v_4870, .int v_4871, .int v_4872])), (hs, .inl ((cs 1), 400, .inl gt)), (q_4885, .inr (5, [.null, .null, .null]))]) (w1 := [(qc, .inl ((cs 0), 400, .inl g_4865)), (x_4890, .inl ((cs 0), q_4891, .inl g_4865))]) hP hD [1] [0, 2, 3, 4, 5] rfl rfl (by decide) (by decide) hk1 hFc hP1 hD1
      generalize H1 = H at hP hS ⊢
      have hP : va_P D vwCl [(hq, .inr (6, [.ref qc, .ref qb, .int v_4863, .int v_4864])), (qb, .inl ((cs 0), 25, .inl g_4866)), (ht, .inr (7, [.ref hs, .int tl, .int v_4867, .int v_4868, .int v_4869, .int v_4870, .int v_4871, .int v_4872])), (hs, .inl ((cs 1), 400, .inl gt)), (q_4885, .inr (5, [.null, .null, .null])), (qc, .inl ((cs 0), 400, .inl g_4865)), (x_4890, .inl ((cs 0), q_4891, .inl g_4865))] H := hP
      have hD : va_D A [(hq, .inr (6, [.ref qc, .ref qb, .int v_4863, .int v_4864])), (qb, .inl ((cs 0), 25, .inl g_4866)), (ht, .inr (7, [.ref hs, .int tl, .int v_4867, .int v_4868, .int v_4869, .int v_4870, .int v_4871, .int v_4872])), (hs, .inl ((cs 1), 400, .inl gt)), (q_4885, .inr (5, [.null, .null, .null])), (qc, .inl ((cs 0), 400, .inl g_4865)), (x_4890, .inl ((cs 0), q_4891, .inl g_4865))] := hD
      refine W.widen (k := 2) (n := 403) (Nat.le_of_ble_eq_true rfl) (Nat.le_of_ble_eq_true rfl) ?_
      have hn_4893 : q_4891 ≤ 400 := by rw [rp_4892]; exact rg_cl r_4875 (by decide)
      have hP := hP.sub (ws' := [(hq, .inr (6, [.ref qc, .ref qb, .int v_4863, .int v_4864])), (qc, .inl ((cs 0), 400, .inl g_4865)), (qb, .inl ((cs 0), 25, .inl g_4866)), (ht, .inr (7, [.ref hs, .int tl, .int v_4867, .int v_4868, .int v_4869, .int v_4870, .int v_4871, .int v_4872])), (hs, .inl ((cs 1), 400, .inl gt)), (q_4885, .inr (5, [.null, .null, .null])), (x_4890, .inl ((cs 0), q_4891, .inl g_4865))]) [0, 5, 1, 2, 3, 4, 6] rfl
      have hD := hD.sub (ws' := [(hq, .inr (6, [.ref qc, .ref qb, .int v_4863, .int v_4864])), (qc, .inl ((cs 0), 400, .inl g_4865)), (qb, .inl ((cs 0), 25, .inl g_4866)), (ht, .inr (7, [.ref hs, .int tl, .int v_4867, .int v_4868, .int v_4869, .int v_4870, .int v_4871, .int v_4872])), (hs, .inl ((cs 1), 400, .inl gt)), (q_4885, .inr (5, [.null, .null, .null])), (x_4890, .inl ((cs 0), q_4891, .inl g_4865))]) [0, 5, 1, 2, 3, 4, 6] (by decide) rfl
      refine lv_aload_n hx hb dX8_readRule_175 rfl (lv_at hl 2 rfl) ?_
      refine va_get (D := D) (ci := 6) (v := .ref qb) (C := "WrongHole$RuleReader") (T := TX8) (N := 4) hx hb hts (iq_RX8 _) hown hK hP 0 rfl rfl 1 (by decide) (hT _ qq_1_74) (fun _ h9 => h9) rfl dX8_readRule_176 ?_
      refine lv_iconst (v := 2) hx hb dX8_readRule_179 (by decide) ?_
      refine lv_iload_n hx hb dX8_readRule_180 rfl (lv_at hl 1 rfl) ?_
      refine lv_imul hx hb dX8_readRule_181 ?_
      refine lv_topi (fun x_4894 e_4895 => ?_)
      have r_4896 : Rg 0 24 x_4894 := Rg.mul (ha := 2) (hb := 12) e_4895 (Rg.wk (lo2 := 0) (hi2 := 2) (Rg.c (c := 2) (k := 2) rfl) (by decide)) r_4874 (by decide)
      refine lv_iconst (v := 1) hx hb dX8_readRule_182 (by decide) ?_
      refine lv_iadd hx hb dX8_readRule_183 ?_
      refine lv_topi (fun x_4897 e_4898 => ?_)
      have r_4899 : Rg 1 25 x_4897 := Rg.add e_4898 r_4896 (Rg.c (c := 1) (k := 1) rfl) (by decide)
      have hPc := hP.sub (ws' := [(qb, .inl ((cs 0), 25, .inl g_4866))]) [2] rfl
      have hDc := hD.sub (ws' := [(qb, .inl ((cs 0), 25, .inl g_4866))]) [2] (by decide) rfl
      have hFc := va_free (wc := [(qb, .inl ((cs 0), 25, .inl g_4866))]) hD hS hA [2] rfl
      refine va_callr (va_runS (As := [.ref qb, .int x_4897]) (rest := [.ref x_4890, .ref q_4885, .ref q_4885]) ⟨hx, hb, hml, hown, hts⟩ (c_copyOf l D cs sa sv ks H.size qb 25 g_4866 x_4897 (Nat.le_of_ble_eq_true rfl) (Rg.wk (lo2 := 0) (hi2 := 400) r_4899 (by decide)) (rg_cl (r_4899) (by decide))) ⟨callB_of 2 hts (gd_C qq_3_128) rfl rfl rfl (hT _ qq_1_5) (hT _ qq_3_126) (by decide +kernel) (rm_R rfl rfl), (hT _ qq_3_127)⟩ (pr_S hPc hK hDc hN (hR.sub (wo' := []) [] rfl) hS hFc hXo hXC) rfl rfl hl.1 rfl (lv_room (Nat.le_of_ble_eq_true rfl)) dX8_readRule_184 ⟨Nat.le_of_ble_eq_true rfl, Nat.le_of_ble_eq_true rfl⟩) hS (fun q _ h => hFc q h) hFc (fun u_4900 x_4904 t_4903 H1 locs ht9 hvm hw_4901 hB_4902 hz1 hk1 hS => ?_)
      obtain ⟨q_4905, rp_4906, hP1, hD1⟩ := hB_4902
      rw [ht9] at hP1
      obtain ⟨hP, hD⟩ := va_join (wr := [(hq, .inr (6, [.ref qc, .ref qb, .int v_4863, .int v_4864])), (qc, .inl ((cs 0), 400, .inl g_4865)), (ht, .inr (7, [.ref hs, .int tl, .int v_4867, .int v_4868, .int v_4869, .int v_4870, .int v_4871, .int v_4872])), (hs, .inl ((cs 1), 400, .inl gt)), (q_4885, .inr (5, [.null, .null, .null])), (x_4890, .inl ((cs 0), q_4891, .inl g_4865))]) (w1 := [(qb, .inl ((cs 0), 25, .inl g_4866)), (x_4904, .inl ((cs 0), q_4905, .inl g_4866))]) hP hD [2] [0, 1, 3, 4, 5, 6] rfl rfl (by decide) (by decide) hk1 hFc hP1 hD1
      generalize H1 = H at hP hS ⊢
      have hP : va_P D vwCl [(hq, .inr (6, [.ref qc, .ref qb, .int v_4863, .int v_4864])), (qc, .inl ((cs 0), 400, .inl g_4865)), (ht, .inr (7, [.ref hs, .int tl, .int v_4867, .int v_4868, .int v_4869, .int v_4870, .int v_4871, .int v_4872])), (hs, .inl ((cs 1), 400, .inl gt)), (q_4885, .inr (5, [.null, .null, .null])), (x_4890, .inl ((cs 0), q_4891, .inl g_4865)), (qb, .inl ((cs 0), 25, .inl g_4866)), (x_4904, .inl ((cs 0), q_4905, .inl g_4866))] H := hP
      have hD : va_D A [(hq, .inr (6, [.ref qc, .ref qb, .int v_4863, .int v_4864])), (qc, .inl ((cs 0), 400, .inl g_4865)), (ht, .inr (7, [.ref hs, .int tl, .int v_4867, .int v_4868, .int v_4869, .int v_4870, .int v_4871, .int v_4872])), (hs, .inl ((cs 1), 400, .inl gt)), (q_4885, .inr (5, [.null, .null, .null])), (x_4890, .inl ((cs 0), q_4891, .inl g_4865)), (qb, .inl ((cs 0), 25, .inl g_4866)), (x_4904, .inl ((cs 0), q_4905, .inl g_4866))] := hD
      refine W.widen (k := 3) (n := 803) (Nat.le_of_ble_eq_true rfl) (Nat.le_of_ble_eq_true rfl) ?_
      have hn_4907 : q_4905 ≤ 25 := by rw [rp_4906]; exact rg_cl r_4899 (by decide)
      have hP := hP.sub (ws' := [(hq, .inr (6, [.ref qc, .ref qb, .int v_4863, .int v_4864])), (qc, .inl ((cs 0), 400, .inl g_4865)), (qb, .inl ((cs 0), 25, .inl g_4866)), (ht, .inr (7, [.ref hs, .int tl, .int v_4867, .int v_4868, .int v_4869, .int v_4870, .int v_4871, .int v_4872])), (hs, .inl ((cs 1), 400, .inl gt)), (q_4885, .inr (5, [.null, .null, .null])), (x_4890, .inl ((cs 0), q_4891, .inl g_4865)), (x_4904, .inl ((cs 0), q_4905, .inl g_4866))]) [0, 1, 6, 2, 3, 4, 5, 7] rfl
      have hD := hD.sub (ws' := [(hq, .inr (6, [.ref qc, .ref qb, .int v_4863, .int v_4864])), (qc, .inl ((cs 0), 400, .inl g_4865)), (qb, .inl ((cs 0), 25, .inl g_4866)), (ht, .inr (7, [.ref hs, .int tl, .int v_4867, .int v_4868, .int v_4869, .int v_4870, .int v_4871, .int v_4872])), (hs, .inl ((cs 1), 400, .inl gt)), (q_4885, .inr (5, [.null, .null, .null])), (x_4890, .inl ((cs 0), q_4891, .inl g_4865)), (x_4904, .inl ((cs 0), q_4905, .inl g_4866))]) [0, 1, 6, 2, 3, 4, 5, 7] (by decide) rfl
      have hPc := hP.sub (ws' := [(q_4885, .inr (5, [.null, .null, .null]))]) [5] rfl
      have hDc := hD.sub (ws' := [(q_4885, .inr (5, [.null, .null, .null]))]) [5] (by decide) rfl
      have hFc := va_free (wc := [(q_4885, .inr (5, [.null, .null, .null]))]) hD hS hA [5] rfl
      refine va_callv (va_runI (As := [.ref x_4890, .ref x_4904]) (rest := [.ref q_4885]) ⟨hx, hb, hml, hown, hts⟩ (c_Rule_init l D cs (XC sa sv D ks) H.size q_4885 x_4890 x_4904) ⟨callB_of 2 hts (gd_C qq_3_144) rfl rfl rfl (hT _ qq_1_18) (hT _ qq_3_142) (by decide +kernel) (rm_R rfl rfl), rfl, (hT _ qq_3_143)⟩ (pr_S hPc hK hDc hN (hR.sub (wo' := []) [] rfl) hS hFc hXo hXC) rfl rfl hl.1 rfl (lv_room (Nat.le_of_ble_eq_true rfl)) dX8_readRule_187 ⟨Nat.le_of_ble_eq_true rfl, Nat.le_of_ble_eq_true rfl⟩) hS (fun q _ h => hFc q h) hFc (fun u_4908 t_4911 H1 locs ht9 hvm hw_4909 hB_4910 hz1 hk1 hS => ?_)
      obtain ⟨q_4913, g_4914, hP1, hD1⟩ := hB_4910
      rw [ht9] at hP1
      obtain ⟨hP, hD⟩ := va_join (wr := [(hq, .inr (6, [.ref qc, .ref qb, .int v_4863, .int v_4864])), (qc, .inl ((cs 0), 400, .inl g_4865)), (qb, .inl ((cs 0), 25, .inl g_4866)), (ht, .inr (7, [.ref hs, .int tl, .int v_4867, .int v_4868, .int v_4869, .int v_4870, .int v_4871, .int v_4872])), (hs, .inl ((cs 1), 400, .inl gt)), (x_4890, .inl ((cs 0), q_4891, .inl g_4865)), (x_4904, .inl ((cs 0), q_4905, .inl g_4866))]) (w1 := [(q_4885, .inr (5, [.ref x_4890, .ref x_4904, .ref q_4913])), (q_4913, .inl ((cs 4), 64, .inr (.inl g_4914)))]) hP hD [5] [0, 1, 2, 3, 4, 6, 7] rfl rfl (by decide) (by decide) hk1 hFc hP1 hD1
      generalize H1 = H at hP hS ⊢
      have hP : va_P D vwCl [(hq, .inr (6, [.ref qc, .ref qb, .int v_4863, .int v_4864])), (qc, .inl ((cs 0), 400, .inl g_4865)), (qb, .inl ((cs 0), 25, .inl g_4866)), (ht, .inr (7, [.ref hs, .int tl, .int v_4867, .int v_4868, .int v_4869, .int v_4870, .int v_4871, .int v_4872])), (hs, .inl ((cs 1), 400, .inl gt)), (x_4890, .inl ((cs 0), q_4891, .inl g_4865)), (x_4904, .inl ((cs 0), q_4905, .inl g_4866)), (q_4885, .inr (5, [.ref x_4890, .ref x_4904, .ref q_4913])), (q_4913, .inl ((cs 4), 64, .inr (.inl g_4914)))] H := hP
      have hD : va_D A [(hq, .inr (6, [.ref qc, .ref qb, .int v_4863, .int v_4864])), (qc, .inl ((cs 0), 400, .inl g_4865)), (qb, .inl ((cs 0), 25, .inl g_4866)), (ht, .inr (7, [.ref hs, .int tl, .int v_4867, .int v_4868, .int v_4869, .int v_4870, .int v_4871, .int v_4872])), (hs, .inl ((cs 1), 400, .inl gt)), (x_4890, .inl ((cs 0), q_4891, .inl g_4865)), (x_4904, .inl ((cs 0), q_4905, .inl g_4866)), (q_4885, .inr (5, [.ref x_4890, .ref x_4904, .ref q_4913])), (q_4913, .inl ((cs 4), 64, .inr (.inl g_4914)))] := hD
      refine W.widen (k := 4) (n := 867) (Nat.le_of_ble_eq_true rfl) (Nat.le_of_ble_eq_true rfl) ?_
      have hP := hP.sub (ws' := [(hq, .inr (6, [.ref qc, .ref qb, .int v_4863, .int v_4864])), (qc, .inl ((cs 0), 400, .inl g_4865)), (qb, .inl ((cs 0), 25, .inl g_4866)), (ht, .inr (7, [.ref hs, .int tl, .int v_4867, .int v_4868, .int v_4869, .int v_4870, .int v_4871, .int v_4872])), (hs, .inl ((cs 1), 400, .inl gt)), (q_4885, .inr (5, [.ref x_4890, .ref x_4904, .ref q_4913])), (x_4890, .inl ((cs 0), q_4891, .inl g_4865)), (x_4904, .inl ((cs 0), q_4905, .inl g_4866)), (q_4913, .inl ((cs 4), 64, .inr (.inl g_4914)))]) [0, 1, 2, 3, 4, 7, 5, 6, 8] rfl
      have hD := hD.sub (ws' := [(hq, .inr (6, [.ref qc, .ref qb, .int v_4863, .int v_4864])), (qc, .inl ((cs 0), 400, .inl g_4865)), (qb, .inl ((cs 0), 25, .inl g_4866)), (ht, .inr (7, [.ref hs, .int tl, .int v_4867, .int v_4868, .int v_4869, .int v_4870, .int v_4871, .int v_4872])), (hs, .inl ((cs 1), 400, .inl gt)), (q_4885, .inr (5, [.ref x_4890, .ref x_4904, .ref q_4913])), (x_4890, .inl ((cs 0), q_4891, .inl g_4865)), (x_4904, .inl ((cs 0), q_4905, .inl g_4866)), (q_4913, .inl ((cs 4), 64, .inr (.inl g_4914)))]) [0, 1, 2, 3, 4, 7, 5, 6, 8] (by decide) rfl
      refine W.widen (k := 4) (n := 867) (Nat.le_of_ble_eq_true rfl) (Nat.le_of_ble_eq_true rfl) ?_
      have hP9 := hP.sub (ws' := [(hq, .inr (6, [.ref qc, .ref qb, .int v_4863, .int v_4864])), (qc, .inl ((cs 0), 400, .inl g_4865)), (qb, .inl ((cs 0), 25, .inl g_4866)), (ht, .inr (7, [.ref hs, .int tl, .int v_4867, .int v_4868, .int v_4869, .int v_4870, .int v_4871, .int v_4872])), (hs, .inl ((cs 1), 400, .inl gt)), (q_4885, .inr (5, [.ref x_4890, .ref x_4904, .ref q_4913])), (x_4890, .inl ((cs 0), q_4891, .inl g_4865)), (x_4904, .inl ((cs 0), q_4905, .inl g_4866)), (q_4913, .inl ((cs 4), 64, .inr (.inl g_4914)))]) [0, 1, 2, 3, 4, 5, 6, 7, 8] rfl
      have hD9 := hD.sub (ws' := [(hq, .inr (6, [.ref qc, .ref qb, .int v_4863, .int v_4864])), (qc, .inl ((cs 0), 400, .inl g_4865)), (qb, .inl ((cs 0), 25, .inl g_4866)), (ht, .inr (7, [.ref hs, .int tl, .int v_4867, .int v_4868, .int v_4869, .int v_4870, .int v_4871, .int v_4872])), (hs, .inl ((cs 1), 400, .inl gt)), (q_4885, .inr (5, [.ref x_4890, .ref x_4904, .ref q_4913])), (x_4890, .inl ((cs 0), q_4891, .inl g_4865)), (x_4904, .inl ((cs 0), q_4905, .inl g_4866)), (q_4913, .inl ((cs 4), 64, .inr (.inl g_4914)))]) [0, 1, 2, 3, 4, 5, 6, 7, 8] (by decide) rfl
      exact W.aret (v := .ref q_4885) hx hb hr (Or.inl ⟨_, rfl⟩) (Or.inr ⟨_, rfl⟩) (fun t9 ht9 hW9 => ⟨⟨some q_4885, some q_4885, rfl, rfl, ⟨v_4867, v_4868, v_4869, v_4870, v_4871, v_4872, v_4863, v_4864, g_4865, g_4866, x_4890, x_4904, q_4913, q_4891, q_4905, g_4914, r_4877, r_4878, r_4875, ra_4876, hn_4893, hn_4907, by rw [ht9]; exact hP9, hD9⟩⟩, hS.F ht9⟩) hS.2.2 dX8_readRule_190
    · have r_4884 : Rg 0 0 x_4879 := Rg.eq_l c_4882 r_4881.1 (Rg.c (c := 0) (k := 0) rfl) (by decide)
      refine lv_null hx hb dX8_readRule_158 ?_
      refine W.widen (k := 4) (n := 867) (Nat.le_of_ble_eq_true rfl) (Nat.le_of_ble_eq_true rfl) ?_
      have hP9 := hP.sub (ws' := [(hq, .inr (6, [.ref qc, .ref qb, .int v_4863, .int v_4864])), (qc, .inl ((cs 0), 400, .inl g_4865)), (qb, .inl ((cs 0), 25, .inl g_4866)), (ht, .inr (7, [.ref hs, .int tl, .int v_4867, .int v_4868, .int v_4869, .int v_4870, .int v_4871, .int v_4872])), (hs, .inl ((cs 1), 400, .inl gt))]) [0, 1, 2, 3, 4] rfl
      have hD9 := hD.sub (ws' := [(hq, .inr (6, [.ref qc, .ref qb, .int v_4863, .int v_4864])), (qc, .inl ((cs 0), 400, .inl g_4865)), (qb, .inl ((cs 0), 25, .inl g_4866)), (ht, .inr (7, [.ref hs, .int tl, .int v_4867, .int v_4868, .int v_4869, .int v_4870, .int v_4871, .int v_4872])), (hs, .inl ((cs 1), 400, .inl gt))]) [0, 1, 2, 3, 4] (by decide) rfl
      exact W.aret (v := .null) hx hb hr (Or.inl ⟨_, rfl⟩) (Or.inl rfl) (fun t9 ht9 hW9 => ⟨⟨none, none, rfl, rfl, ⟨v_4867, v_4868, v_4869, v_4870, v_4871, v_4872, v_4863, v_4864, g_4865, g_4866, r_4877, r_4878, r_4875, ra_4876, by rw [ht9]; exact hP9, hD9⟩⟩, hS.F ht9⟩) hS.2.2 dX8_readRule_159
  · refine lv_icmp_gt (tgt := 151) hx hb dX8_readRule_21 (by decide) (fun c_4670 => ?_) (fun c_4670 => ?_)
    · have r_4671 : Rg 13 13 v_334 := Rg.lt_r c_4670 (Rg.c (c := 12) (k := 12) rfl) r_4663 (by decide)
      exact hj_4873 (v_335, v_336, v_337, g_338, g_339, v_340, v_341, v_342, v_343, v_344, v_345) _ _ _ ⟨r_4664, r_4665, ra_4666, r_4667, r_4668, hP, hD, hS, lv_sub hl [0, 1, 2, 3] rfl⟩
    · have r_4672 : Rg 0 12 v_334 := Rg.le_l (nlt_le c_4670) r_4663 (Rg.c (c := 12) (k := 12) rfl) (by decide)
      refine lv_aload_n hx hb dX8_readRule_24 rfl (lv_at hl 3 rfl) ?_
      have hPc := va_P.sub (ws' := [(ht, .inr (7, [.ref hs, .int tl, .int v_340, .int v_341, .int v_342, .int v_343, .int v_344, .int v_345])), (hs, .inl ((cs 1), 400, .inl gt))]) hP [3, 4] rfl
      refine cl_P (W.runV (As := []) (rest := []) ⟨hx, hb, hml, hown, hts⟩ (c_Text_sound l D cs ht hs tl v_340 v_341 v_342 v_343 v_344 v_345 gt) ⟨callB_of 0 hts (gd_C qq_2_148) rfl rfl rfl (hT _ qq_1_2) (hT _ qq_3_72) (by decide +kernel) (rm_R rfl rfl), (hT _ qq_2_146), (hT _ qq_2_147)⟩ (pq_V hPc hK hN (ci := 7) (q0 := 0) rfl rfl) rfl rfl hl.1 rfl (lv_room (Nat.le_of_ble_eq_true rfl)) dX8_readRule_25 ⟨Nat.le_of_ble_eq_true rfl, Nat.le_of_ble_eq_true rfl⟩) (fun v9 hz_4916 => ?_)
      obtain ⟨x_4915, rfl, r_4917⟩ := hz_4916
      refine lv_if_eq (tgt := 151) hx hb dX8_readRule_28 (by decide) (fun c_4918 => ?_) (fun c_4918 => ?_)
      · have r_4919 : Rg 0 0 x_4915 := Rg.eq_l c_4918 r_4917.1 (Rg.c (c := 0) (k := 0) rfl) (by decide)
        exact hj_4873 (v_335, v_336, v_337, g_338, g_339, v_340, v_341, v_342, v_343, v_344, v_345) _ _ _ ⟨r_4664, r_4665, ra_4666, r_4667, r_4668, hP, hD, hS, lv_sub hl [0, 1, 2, 3] rfl⟩
      · have r_4920 : Rg 1 1 x_4915 := Rg.ne c_4918 r_4917.1 (Rg.c (c := 0) (k := 0) rfl) (by decide)
        refine lv_aload_n hx hb dX8_readRule_31 rfl (lv_at hl 3 rfl) ?_
        refine va_ldcS hx hb hown hXs.2.1.2.1 dX8_readRule_32 ?_
        have hPc := va_P.sub (ws' := [(ht, .inr (7, [.ref hs, .int tl, .int v_340, .int v_341, .int v_342, .int v_343, .int v_344, .int v_345])), (hs, .inl ((cs 1), 400, .inl gt))]) hP [3, 4] rfl
        refine cl_P (W.runV (As := [.ref (sa 1)]) (rest := []) ⟨hx, hb, hml, hown, hts⟩ (c_Text_whichWord_1 l D cs sa sv ht hs tl v_340 v_341 v_342 v_343 v_344 v_345 gt r_tl r_4667 r_4668) ⟨callB_of 1 hts (gd_C qq_2_153) rfl rfl rfl (hT _ qq_1_2) (hT _ qq_3_74) (by decide +kernel) (rm_R rfl rfl), (hT _ qq_2_151), (hT _ qq_2_152)⟩ (px_V hPc hK hN hX hXs hS (ci := 7) (q0 := 0) rfl rfl) rfl rfl hl.1 rfl (lv_room (Nat.le_of_ble_eq_true rfl)) dX8_readRule_34 ⟨Nat.le_of_ble_eq_true rfl, Nat.le_of_ble_eq_true rfl⟩) (fun v9 hz_4922 => ?_)
        obtain ⟨x_4921, rfl⟩ := hz_4922
        refine lv_iconst (v := (-1)) hx hb dX8_readRule_37 (by decide) ?_
        refine lv_icmp_ne (tgt := 49) hx hb dX8_readRule_38 (by decide) (fun c_4924 => ?_) (fun c_4924 => ?_)
        · refine lv_iload_n hx hb dX8_readRule_49 rfl (lv_at hl 0 rfl) ?_
          refine lv_bipush (v := 12) hx hb dX8_readRule_50 (by decide) ?_
          refine lv_icmp_ne (tgt := 63) hx hb dX8_readRule_52 (by decide) (fun c_4926 => ?_) (fun c_4926 => ?_)
          · have r_4927 : Rg 0 11 v_334 := Rg.ne c_4926 r_4672 (Rg.c (c := 12) (k := 12) rfl) (by decide)
            refine lv_aload_n hx hb dX8_readRule_63 rfl (lv_at hl 3 rfl) ?_
            have hPc := hP.sub (ws' := [(ht, .inr (7, [.ref hs, .int tl, .int v_340, .int v_341, .int v_342, .int v_343, .int v_344, .int v_345])), (hs, .inl ((cs 1), 400, .inl gt))]) [3, 4] rfl
            have hDc := hD.sub (ws' := [(ht, .inr (7, [.ref hs, .int tl, .int v_340, .int v_341, .int v_342, .int v_343, .int v_344, .int v_345])), (hs, .inl ((cs 1), 400, .inl gt))]) [3, 4] (by decide) rfl
            have hFc := va_free (wc := [(ht, .inr (7, [.ref hs, .int tl, .int v_340, .int v_341, .int v_342, .int v_343, .int v_344, .int v_345])), (hs, .inl ((cs 1), 400, .inl gt))]) hD hS hA [3, 4] rfl
            refine va_callv (va_runV (As := []) (rest := []) ⟨hx, hb, hml, hown, hts⟩ (c_Text_pass l D cs (XC sa sv D ks) H.size ht hs tl v_340 v_341 v_342 v_343 v_344 v_345 gt r_tl r_4667 r_4668) ⟨callB_of 0 hts (gd_C qq_2_131) rfl rfl rfl (hT _ qq_1_2) (hT _ qq_3_76) (by decide +kernel) (rm_R rfl rfl), (hT _ qq_2_129), (hT _ qq_2_130)⟩ (pr_V hPc hK hDc hN (hR.sub (wo' := []) [] rfl) hS hFc hXo hXC (ci := 7) (q0 := 0) rfl rfl) rfl rfl hl.1 rfl (lv_room (Nat.le_of_ble_eq_true rfl)) dX8_readRule_64 ⟨Nat.le_of_ble_eq_true rfl, Nat.le_of_ble_eq_true rfl⟩) hS (fun q _ h => hFc q h) hFc (fun u_4929 t_4932 H1 locs ht9 hvm hw_4930 hB_4931 hz1 hk1 hS => ?_)
            obtain ⟨v_4934, v_4935, v_4936, v_4937, r_4938, r_4939, hP1, hD1⟩ := hB_4931
            rw [ht9] at hP1
            obtain ⟨hP, hD⟩ := va_join (wr := [(hq, .inr (6, [.ref qc, .ref qb, .int v_336, .int v_337])), (qc, .inl ((cs 0), 400, .inl g_338)), (qb, .inl ((cs 0), 25, .inl g_339))]) (w1 := [(ht, .inr (7, [.ref hs, .int tl, .int v_4934, .int v_4935, .int v_4936, .int v_4937, .int v_344, .int v_345])), (hs, .inl ((cs 1), 400, .inl gt))]) hP hD [3, 4] [0, 1, 2] rfl rfl (by decide) (by decide) hk1 hFc hP1 hD1
            generalize H1 = H at hP hS ⊢
            have hP : va_P D vwCl [(hq, .inr (6, [.ref qc, .ref qb, .int v_336, .int v_337])), (qc, .inl ((cs 0), 400, .inl g_338)), (qb, .inl ((cs 0), 25, .inl g_339)), (ht, .inr (7, [.ref hs, .int tl, .int v_4934, .int v_4935, .int v_4936, .int v_4937, .int v_344, .int v_345])), (hs, .inl ((cs 1), 400, .inl gt))] H := hP
            have hD : va_D A [(hq, .inr (6, [.ref qc, .ref qb, .int v_336, .int v_337])), (qc, .inl ((cs 0), 400, .inl g_338)), (qb, .inl ((cs 0), 25, .inl g_339)), (ht, .inr (7, [.ref hs, .int tl, .int v_4934, .int v_4935, .int v_4936, .int v_4937, .int v_344, .int v_345])), (hs, .inl ((cs 1), 400, .inl gt))] := hD
            refine lv_aload_n hx hb dX8_readRule_67 rfl (lv_at hl 2 rfl) ?_
            refine va_get (D := D) (ci := 6) (v := .ref qb) (C := "WrongHole$RuleReader") (T := TX8) (N := 4) hx hb hts (iq_RX8 _) hown hK hP 0 rfl rfl 1 (by decide) (hT _ qq_1_74) (fun _ h9 => h9) rfl dX8_readRule_68 ?_
            refine lv_iconst (v := 2) hx hb dX8_readRule_71 (by decide) ?_
            refine lv_iload_n hx hb dX8_readRule_72 rfl (lv_at hl 0 rfl) ?_
            refine lv_imul hx hb dX8_readRule_73 ?_
            refine lv_topi (fun x_4940 e_4941 => ?_)
            have r_4942 : Rg 0 22 x_4940 := Rg.mul (ha := 2) (hb := 11) e_4941 (Rg.wk (lo2 := 0) (hi2 := 2) (Rg.c (c := 2) (k := 2) rfl) (by decide)) r_4927 (by decide)
            refine lv_aload_n hx hb dX8_readRule_74 rfl (lv_at hl 2 rfl) ?_
            refine va_get (D := D) (ci := 6) (v := .int v_336) (C := "WrongHole$RuleReader") (T := TX8) (N := 4) hx hb hts (iq_RX8 _) hown hK hP 0 rfl rfl 2 (by decide) (hT _ qq_1_75) (fun _ h9 => h9) rfl dX8_readRule_75 ?_
            have hi_4943 : vp_in x_4940 25 := Rg.in r_4942 (by decide)
            refine va_iast hx hb hK hP hD hS 2 0 rfl rfl hi_4943 dX8_readRule_78 (fun H locs hP hD hS => ?_)
            obtain ⟨g_4944, ra_4945, hP, hD⟩ : ∃ g_4944 : Nat → Int32, (∀ j, j < 25 → Rg 0 400 (g_4944 j)) ∧ va_P D vwCl [(hq, .inr (6, [.ref qc, .ref qb, .int v_336, .int v_337])), (qc, .inl ((cs 0), 400, .inl g_338)), (qb, .inl ((cs 0), 25, .inl g_4944)), (ht, .inr (7, [.ref hs, .int tl, .int v_4934, .int v_4935, .int v_4936, .int v_4937, .int v_344, .int v_345])), (hs, .inl ((cs 1), 400, .inl gt))] H ∧ va_D A [(hq, .inr (6, [.ref qc, .ref qb, .int v_336, .int v_337])), (qc, .inl ((cs 0), 400, .inl g_338)), (qb, .inl ((cs 0), 25, .inl g_4944)), (ht, .inr (7, [.ref hs, .int tl, .int v_4934, .int v_4935, .int v_4936, .int v_4937, .int v_344, .int v_345])), (hs, .inl ((cs 1), 400, .inl gt))] := ⟨_, ar_upd ra_4666 r_4665, hP, hD⟩
            refine lv_aload_n hx hb dX8_readRule_79 rfl (lv_at hl 2 rfl) ?_
            refine lv_aload_n hx hb dX8_readRule_80 rfl (lv_at hl 3 rfl) ?_
            have hPc := hP.sub (ws' := [(hq, .inr (6, [.ref qc, .ref qb, .int v_336, .int v_337])), (qc, .inl ((cs 0), 400, .inl g_338)), (qb, .inl ((cs 0), 25, .inl g_4944)), (ht, .inr (7, [.ref hs, .int tl, .int v_4934, .int v_4935, .int v_4936, .int v_4937, .int v_344, .int v_345])), (hs, .inl ((cs 1), 400, .inl gt))]) [0, 1, 2, 3, 4] rfl
            have hDc := hD.sub (ws' := [(hq, .inr (6, [.ref qc, .ref qb, .int v_336, .int v_337])), (qc, .inl ((cs 0), 400, .inl g_338)), (qb, .inl ((cs 0), 25, .inl g_4944)), (ht, .inr (7, [.ref hs, .int tl, .int v_4934, .int v_4935, .int v_4936, .int v_4937, .int v_344, .int v_345])), (hs, .inl ((cs 1), 400, .inl gt))]) [0, 1, 2, 3, 4] (by decide) rfl
            have hFc := va_free (wc := [(hq, .inr (6, [.ref qc, .ref qb, .int v_336, .int v_337])), (qc, .inl ((cs 0), 400, .inl g_338)), (qb, .inl ((cs 0), 25, .inl g_4944)), (ht, .inr (7, [.ref hs, .int tl, .int v_4934, .int v_4935, .int v_4936, .int v_4937, .int v_344, .int v_345])), (hs, .inl ((cs 1), 400, .inl gt))]) hD hS hA [0, 1, 2, 3, 4] rfl
            refine va_callv (va_runV (As := [.ref ht]) (rest := []) ⟨hx, hb, hml, hown, hts⟩ (c_RR_readSum l D cs sa sv H.size hq qc qb v_336 v_337 g_338 g_4944 ht hs tl v_4934 v_4935 v_4936 v_4937 v_344 v_345 gt r_4665 r_tl r_4938 r_4939) ⟨callB_of 1 hts (gd_C qq_3_80) rfl rfl rfl (hT _ qq_1_3) (hT _ qq_3_77) (by decide +kernel) (rm_R rfl rfl), (hT _ qq_3_79), (hT _ qs_0_3)⟩ (pr_V hPc hK hDc hN (hR.sub (wo' := []) [] rfl) hS hFc hX hXs (ci := 6) (q0 := 0) rfl rfl) rfl rfl hl.1 rfl (lv_room (Nat.le_of_ble_eq_true rfl)) dX8_readRule_81 ⟨Nat.le_of_ble_eq_true rfl, Nat.le_of_ble_eq_true rfl⟩) hS (fun q _ h => hFc q h) hFc (fun u_4946 t_4949 H1 locs ht9 hvm hw_4947 hB_4948 hz1 hk1 hS => ?_)
            obtain ⟨v_4951, v_4952, v_4953, v_4954, v_4955, v_4956, v_4957, v_4958, g_4959, r_4960, r_4961, r_4962, hP1, hD1⟩ := hB_4948
            rw [ht9] at hP1
            obtain ⟨hP, hD⟩ := va_join (wr := []) (w1 := [(hq, .inr (6, [.ref qc, .ref qb, .int v_4957, .int v_4958])), (qc, .inl ((cs 0), 400, .inl g_4959)), (qb, .inl ((cs 0), 25, .inl g_4944)), (ht, .inr (7, [.ref hs, .int tl, .int v_4951, .int v_4952, .int v_4953, .int v_4954, .int v_4955, .int v_4956])), (hs, .inl ((cs 1), 400, .inl gt))]) hP hD [0, 1, 2, 3, 4] [] rfl rfl (by decide) (by decide) hk1 hFc hP1 hD1
            generalize H1 = H at hP hS ⊢
            have hP : va_P D vwCl [(hq, .inr (6, [.ref qc, .ref qb, .int v_4957, .int v_4958])), (qc, .inl ((cs 0), 400, .inl g_4959)), (qb, .inl ((cs 0), 25, .inl g_4944)), (ht, .inr (7, [.ref hs, .int tl, .int v_4951, .int v_4952, .int v_4953, .int v_4954, .int v_4955, .int v_4956])), (hs, .inl ((cs 1), 400, .inl gt))] H := hP
            have hD : va_D A [(hq, .inr (6, [.ref qc, .ref qb, .int v_4957, .int v_4958])), (qc, .inl ((cs 0), 400, .inl g_4959)), (qb, .inl ((cs 0), 25, .inl g_4944)), (ht, .inr (7, [.ref hs, .int tl, .int v_4951, .int v_4952, .int v_4953, .int v_4954, .int v_4955, .int v_4956])), (hs, .inl ((cs 1), 400, .inl gt))] := hD
            refine lv_aload_n hx hb dX8_readRule_84 rfl (lv_at hl 2 rfl) ?_
            refine va_get (D := D) (ci := 6) (v := .ref qb) (C := "WrongHole$RuleReader") (T := TX8) (N := 4) hx hb hts (iq_RX8 _) hown hK hP 0 rfl rfl 1 (by decide) (hT _ qq_1_74) (fun _ h9 => h9) rfl dX8_readRule_85 ?_
            refine lv_iconst (v := 2) hx hb dX8_readRule_88 (by decide) ?_
            refine lv_iload_n hx hb dX8_readRule_89 rfl (lv_at hl 0 rfl) ?_
            refine lv_imul hx hb dX8_readRule_90 ?_
            refine lv_topi (fun x_4963 e_4964 => ?_)
            have r_4965 : Rg 0 22 x_4963 := Rg.mul (ha := 2) (hb := 11) e_4964 (Rg.wk (lo2 := 0) (hi2 := 2) (Rg.c (c := 2) (k := 2) rfl) (by decide)) r_4927 (by decide)
            refine lv_iconst (v := 1) hx hb dX8_readRule_91 (by decide) ?_
            refine lv_iadd hx hb dX8_readRule_92 ?_
            refine lv_topi (fun x_4966 e_4967 => ?_)
            have r_4968 : Rg 1 23 x_4966 := Rg.add e_4967 r_4965 (Rg.c (c := 1) (k := 1) rfl) (by decide)
            refine lv_aload_n hx hb dX8_readRule_93 rfl (lv_at hl 2 rfl) ?_
            refine va_get (D := D) (ci := 6) (v := .int v_4957) (C := "WrongHole$RuleReader") (T := TX8) (N := 4) hx hb hts (iq_RX8 _) hown hK hP 0 rfl rfl 2 (by decide) (hT _ qq_1_75) (fun _ h9 => h9) rfl dX8_readRule_94 ?_
            have hi_4969 : vp_in x_4966 25 := Rg.in r_4968 (by decide)
            refine va_iast hx hb hK hP hD hS 2 0 rfl rfl hi_4969 dX8_readRule_97 (fun H locs hP hD hS => ?_)
            obtain ⟨g_4970, ra_4971, hP, hD⟩ : ∃ g_4970 : Nat → Int32, (∀ j, j < 25 → Rg 0 400 (g_4970 j)) ∧ va_P D vwCl [(hq, .inr (6, [.ref qc, .ref qb, .int v_4957, .int v_4958])), (qc, .inl ((cs 0), 400, .inl g_4959)), (qb, .inl ((cs 0), 25, .inl g_4970)), (ht, .inr (7, [.ref hs, .int tl, .int v_4951, .int v_4952, .int v_4953, .int v_4954, .int v_4955, .int v_4956])), (hs, .inl ((cs 1), 400, .inl gt))] H ∧ va_D A [(hq, .inr (6, [.ref qc, .ref qb, .int v_4957, .int v_4958])), (qc, .inl ((cs 0), 400, .inl g_4959)), (qb, .inl ((cs 0), 25, .inl g_4970)), (ht, .inr (7, [.ref hs, .int tl, .int v_4951, .int v_4952, .int v_4953, .int v_4954, .int v_4955, .int v_4956])), (hs, .inl ((cs 1), 400, .inl gt))] := ⟨_, ar_upd ra_4945 r_4962, hP, hD⟩
            refine lv_aload_n hx hb dX8_readRule_98 rfl (lv_at hl 3 rfl) ?_
            refine va_ldcS hx hb hown hXs.2.1.2.2.2.1 dX8_readRule_99 ?_
            have hPc := hP.sub (ws' := [(ht, .inr (7, [.ref hs, .int tl, .int v_4951, .int v_4952, .int v_4953, .int v_4954, .int v_4955, .int v_4956])), (hs, .inl ((cs 1), 400, .inl gt))]) [3, 4] rfl
            have hDc := hD.sub (ws' := [(ht, .inr (7, [.ref hs, .int tl, .int v_4951, .int v_4952, .int v_4953, .int v_4954, .int v_4955, .int v_4956])), (hs, .inl ((cs 1), 400, .inl gt))]) [3, 4] (by decide) rfl
            have hFc := va_free (wc := [(ht, .inr (7, [.ref hs, .int tl, .int v_4951, .int v_4952, .int v_4953, .int v_4954, .int v_4955, .int v_4956])), (hs, .inl ((cs 1), 400, .inl gt))]) hD hS hA [3, 4] rfl
            refine va_calli (va_runV (As := [.ref (sa 3)]) (rest := []) ⟨hx, hb, hml, hown, hts⟩ (c_Text_takeWord_3 l D cs sa sv H.size ht hs tl v_4951 v_4952 v_4953 v_4954 v_4955 v_4956 gt r_tl r_4960 r_4961) ⟨callB_of 1 hts (gd_C qq_3_106) rfl rfl rfl (hT _ qq_1_2) (hT _ qq_3_103) (by decide +kernel) (rm_R rfl rfl), (hT _ qq_3_104), (hT _ qq_3_105)⟩ (pr_V hPc hK hDc hN (hR.sub (wo' := []) [] rfl) hS hFc hX hXs (ci := 7) (q0 := 0) rfl rfl) rfl rfl hl.1 rfl (lv_room (Nat.le_of_ble_eq_true rfl)) dX8_readRule_101 ⟨Nat.le_of_ble_eq_true rfl, Nat.le_of_ble_eq_true rfl⟩) hS (fun q _ h => hFc q h) hFc (fun x_4976 u_4972 t_4975 H1 locs ht9 hvm hw_4973 hB_4974 hz1 hk1 hS => ?_)
            obtain ⟨v_4977, v_4978, v_4979, v_4980, r_4981, r_4982, hP1, hD1⟩ := hB_4974
            rw [ht9] at hP1
            obtain ⟨hP, hD⟩ := va_join (wr := [(hq, .inr (6, [.ref qc, .ref qb, .int v_4957, .int v_4958])), (qc, .inl ((cs 0), 400, .inl g_4959)), (qb, .inl ((cs 0), 25, .inl g_4970))]) (w1 := [(ht, .inr (7, [.ref hs, .int tl, .int v_4977, .int v_4978, .int v_4979, .int v_4980, .int v_4955, .int v_4956])), (hs, .inl ((cs 1), 400, .inl gt))]) hP hD [3, 4] [0, 1, 2] rfl rfl (by decide) (by decide) hk1 hFc hP1 hD1
            generalize H1 = H at hP hS ⊢
            have hP : va_P D vwCl [(hq, .inr (6, [.ref qc, .ref qb, .int v_4957, .int v_4958])), (qc, .inl ((cs 0), 400, .inl g_4959)), (qb, .inl ((cs 0), 25, .inl g_4970)), (ht, .inr (7, [.ref hs, .int tl, .int v_4977, .int v_4978, .int v_4979, .int v_4980, .int v_4955, .int v_4956])), (hs, .inl ((cs 1), 400, .inl gt))] H := hP
            have hD : va_D A [(hq, .inr (6, [.ref qc, .ref qb, .int v_4957, .int v_4958])), (qc, .inl ((cs 0), 400, .inl g_4959)), (qb, .inl ((cs 0), 25, .inl g_4970)), (ht, .inr (7, [.ref hs, .int tl, .int v_4977, .int v_4978, .int v_4979, .int v_4980, .int v_4955, .int v_4956])), (hs, .inl ((cs 1), 400, .inl gt))] := hD
            refine w_cut (σ := (Int32) × (Int32) × (Nat → Int32) × (Int32) × (Int32) × (Int32) × (Int32) × (Int32) × (Int32)) (fun x9 H locs ls => match x9 with | (v_5003, v_5004, g_5005, v_5006, v_5007, v_5008, v_5009, v_5010, v_5011) => Rg 0 400 v_5003 ∧ Rg 0 400 v_5007 ∧ Rg 0 400 v_5008 ∧ va_P D vwCl [(hq, .inr (6, [.ref qc, .ref qb, .int v_5003, .int v_5004])), (qc, .inl ((cs 0), 400, .inl g_5005)), (qb, .inl ((cs 0), 25, .inl g_4970)), (ht, .inr (7, [.ref hs, .int tl, .int v_5006, .int v_5007, .int v_5008, .int v_5009, .int v_5010, .int v_5011])), (hs, .inl ((cs 1), 400, .inl gt))] H ∧ va_D A [(hq, .inr (6, [.ref qc, .ref qb, .int v_5003, .int v_5004])), (qc, .inl ((cs 0), 400, .inl g_5005)), (qb, .inl ((cs 0), 25, .inl g_4970)), (ht, .inr (7, [.ref hs, .int tl, .int v_5006, .int v_5007, .int v_5008, .int v_5009, .int v_5010, .int v_5011])), (hs, .inl ((cs 1), 400, .inl gt))] ∧ va_S A s.heap H locs ∧ lv_has ls 4 [(3, .int v_334), (2, .int v_335), (0, .ref hq), (1, .ref ht)]) 113 (fun x9 => match x9 with | (v_5003, v_5004, g_5005, v_5006, v_5007, v_5008, v_5009, v_5010, v_5011) => []) ?_ (fun hj_5012 => ?_)
            · rintro ⟨v_5003, v_5004, g_5005, v_5006, v_5007, v_5008, v_5009, v_5010, v_5011⟩ H locs ls ⟨r_5013, r_5014, r_5015, hP, hD, hS, hl⟩
              have r_5016 : Rg 0 11 v_335 := rg_le le_4669 r_4664 r_4927
              obtain ⟨x_5017, e_5018⟩ : ∃ z : Int32, z = v_335 + Int32.ofInt 1 := ⟨_, rfl⟩
              have r_5019 : Rg 1 12 x_5017 := Rg.add e_5018 r_5016 (Rg.c (c := Int32.ofInt 1) (k := 1) rfl) (by decide)
              refine lv_iinc (v := x_5017) (lv' := [(2, .int x_5017), (3, .int v_334), (0, .ref hq), (1, .ref ht)]) hx hb dX8_readRule_113 hl (k := 1) rfl (e_5018.symm) (by decide) rfl (fun ls hl => ?_)
              refine lv_aload_n hx hb dX8_readRule_116 rfl (lv_at hl 2 rfl) ?_
              refine va_get (D := D) (ci := 6) (v := .ref qb) (C := "WrongHole$RuleReader") (T := TX8) (N := 4) hx hb hts (iq_RX8 _) hown hK hP 0 rfl rfl 1 (by decide) (hT _ qq_1_74) (fun _ h9 => h9) rfl dX8_readRule_117 ?_
              refine lv_iconst (v := 2) hx hb dX8_readRule_120 (by decide) ?_
              refine lv_iload_n hx hb dX8_readRule_121 rfl (lv_at hl 0 rfl) ?_
              refine lv_imul hx hb dX8_readRule_122 ?_
              refine lv_topi (fun x_5020 e_5021 => ?_)
              have r_5022 : Rg 0 24 x_5020 := Rg.mul (ha := 2) (hb := 12) e_5021 (Rg.wk (lo2 := 0) (hi2 := 2) (Rg.c (c := 2) (k := 2) rfl) (by decide)) (Rg.wk (lo2 := 0) (hi2 := 12) r_5019 (by decide)) (by decide)
              refine lv_aload_n hx hb dX8_readRule_123 rfl (lv_at hl 2 rfl) ?_
              refine va_get (D := D) (ci := 6) (v := .int v_5003) (C := "WrongHole$RuleReader") (T := TX8) (N := 4) hx hb hts (iq_RX8 _) hown hK hP 0 rfl rfl 2 (by decide) (hT _ qq_1_75) (fun _ h9 => h9) rfl dX8_readRule_124 ?_
              have hi_5023 : vp_in x_5020 25 := Rg.in r_5022 (by decide)
              refine va_iast hx hb hK hP hD hS 2 0 rfl rfl hi_5023 dX8_readRule_127 (fun H locs hP hD hS => ?_)
              obtain ⟨g_5024, ra_5025, hP, hD⟩ : ∃ g_5024 : Nat → Int32, (∀ j, j < 25 → Rg 0 400 (g_5024 j)) ∧ va_P D vwCl [(hq, .inr (6, [.ref qc, .ref qb, .int v_5003, .int v_5004])), (qc, .inl ((cs 0), 400, .inl g_5005)), (qb, .inl ((cs 0), 25, .inl g_5024)), (ht, .inr (7, [.ref hs, .int tl, .int v_5006, .int v_5007, .int v_5008, .int v_5009, .int v_5010, .int v_5011])), (hs, .inl ((cs 1), 400, .inl gt))] H ∧ va_D A [(hq, .inr (6, [.ref qc, .ref qb, .int v_5003, .int v_5004])), (qc, .inl ((cs 0), 400, .inl g_5005)), (qb, .inl ((cs 0), 25, .inl g_5024)), (ht, .inr (7, [.ref hs, .int tl, .int v_5006, .int v_5007, .int v_5008, .int v_5009, .int v_5010, .int v_5011])), (hs, .inl ((cs 1), 400, .inl gt))] := ⟨_, ar_upd ra_4971 r_5013, hP, hD⟩
              refine lv_aload_n hx hb dX8_readRule_128 rfl (lv_at hl 3 rfl) ?_
              refine va_getN (D := D) (ci := 7) (v := .int v_5006) (C := "WrongHole$Text") (T := TX9) (N := 8) hx hb hts (iq_RX9 _) hown hK hP 3 rfl rfl 2 (by decide) (NN.f hN nq_1_40) (fun _ h9 => h9) rfl dX8_readRule_129 ?_
              refine lv_iconst (v := (-1)) hx hb dX8_readRule_132 (by decide) ?_
              refine lv_icmp_ne (tgt := 139) hx hb dX8_readRule_133 (by decide) (fun c_5026 => ?_) (fun c_5026 => ?_)
              · refine lv_aload_n hx hb dX8_readRule_139 rfl (lv_at hl 3 rfl) ?_
                refine lv_bipush (v := 59) hx hb dX8_readRule_140 (by decide) ?_
                have hPc := hP.sub (ws' := [(ht, .inr (7, [.ref hs, .int tl, .int v_5006, .int v_5007, .int v_5008, .int v_5009, .int v_5010, .int v_5011])), (hs, .inl ((cs 1), 400, .inl gt))]) [3, 4] rfl
                have hDc := hD.sub (ws' := [(ht, .inr (7, [.ref hs, .int tl, .int v_5006, .int v_5007, .int v_5008, .int v_5009, .int v_5010, .int v_5011])), (hs, .inl ((cs 1), 400, .inl gt))]) [3, 4] (by decide) rfl
                have hFc := va_free (wc := [(ht, .inr (7, [.ref hs, .int tl, .int v_5006, .int v_5007, .int v_5008, .int v_5009, .int v_5010, .int v_5011])), (hs, .inl ((cs 1), 400, .inl gt))]) hD hS hA [3, 4] rfl
                refine va_callv (va_runV (As := [.int 59]) (rest := []) ⟨hx, hb, hml, hown, hts⟩ (c_Text_takeSign l D cs (XC sa sv D ks) H.size ht hs tl v_5006 v_5007 v_5008 v_5009 v_5010 v_5011 gt 59 r_tl r_5014 r_5015) ⟨callB_of 1 hts (gd_C qq_3_53) rfl rfl rfl (hT _ qq_1_2) (hT _ qq_3_117) (by decide +kernel) (rm_R rfl rfl), (hT _ qq_3_51), (hT _ qq_3_52)⟩ (pr_V hPc hK hDc hN (hR.sub (wo' := []) [] rfl) hS hFc hXo hXC (ci := 7) (q0 := 0) rfl rfl) rfl rfl hl.1 rfl (lv_room (Nat.le_of_ble_eq_true rfl)) dX8_readRule_142 ⟨Nat.le_of_ble_eq_true rfl, Nat.le_of_ble_eq_true rfl⟩) hS (fun q _ h => hFc q h) hFc (fun u_5028 t_5031 H1 locs ht9 hvm hw_5029 hB_5030 hz1 hk1 hS => ?_)
                obtain ⟨v_5033, v_5034, v_5035, v_5036, v_5037, v_5038, r_5039, r_5040, hP1, hD1⟩ := hB_5030
                rw [ht9] at hP1
                obtain ⟨hP, hD⟩ := va_join (wr := [(hq, .inr (6, [.ref qc, .ref qb, .int v_5003, .int v_5004])), (qc, .inl ((cs 0), 400, .inl g_5005)), (qb, .inl ((cs 0), 25, .inl g_5024))]) (w1 := [(ht, .inr (7, [.ref hs, .int tl, .int v_5033, .int v_5034, .int v_5035, .int v_5036, .int v_5037, .int v_5038])), (hs, .inl ((cs 1), 400, .inl gt))]) hP hD [3, 4] [0, 1, 2] rfl rfl (by decide) (by decide) hk1 hFc hP1 hD1
                generalize H1 = H at hP hS ⊢
                have hP : va_P D vwCl [(hq, .inr (6, [.ref qc, .ref qb, .int v_5003, .int v_5004])), (qc, .inl ((cs 0), 400, .inl g_5005)), (qb, .inl ((cs 0), 25, .inl g_5024)), (ht, .inr (7, [.ref hs, .int tl, .int v_5033, .int v_5034, .int v_5035, .int v_5036, .int v_5037, .int v_5038])), (hs, .inl ((cs 1), 400, .inl gt))] H := hP
                have hD : va_D A [(hq, .inr (6, [.ref qc, .ref qb, .int v_5003, .int v_5004])), (qc, .inl ((cs 0), 400, .inl g_5005)), (qb, .inl ((cs 0), 25, .inl g_5024)), (ht, .inr (7, [.ref hs, .int tl, .int v_5033, .int v_5034, .int v_5035, .int v_5036, .int v_5037, .int v_5038])), (hs, .inl ((cs 1), 400, .inl gt))] := hD
                obtain ⟨x_5041, e_5042⟩ : ∃ z : Int32, z = v_334 + Int32.ofInt 1 := ⟨_, rfl⟩
                have r_5043 : Rg 1 12 x_5041 := Rg.add e_5042 r_4927 (Rg.c (c := Int32.ofInt 1) (k := 1) rfl) (by decide)
                refine lv_iinc (v := x_5041) (lv' := [(3, .int x_5041), (2, .int x_5017), (0, .ref hq), (1, .ref ht)]) hx hb dX8_readRule_145 hl (k := 1) rfl (e_5042.symm) (by decide) rfl (fun ls hl => ?_)
                refine lv_goto (tgt := 18) hx hb dX8_readRule_148 (by decide) ?_
                exact ih_4662 (x_5041, x_5017, v_5003, v_5004, g_5005, g_5024, v_5033, v_5034, v_5035, v_5036, v_5037, v_5038) _ _ _ ⟨(Rg.wk (lo2 := 0) (hi2 := 13) r_5043 (by decide)), (Rg.wk (lo2 := 0) (hi2 := 12) r_5019 (by decide)), r_5013, ra_5025, r_5039, r_5040, (le_ad le_4669 e_5018 r_5016 (Rg.c (c := Int32.ofInt 1) (k := 1) rfl) e_5042 r_4927 (Rg.c (c := Int32.ofInt 1) (k := 1) rfl) (by decide)), hP, hD, hS, lv_sub hl [0, 1, 2, 3] rfl⟩ (ms_up e_5042 r_4927 (Rg.c (c := Int32.ofInt 1) (k := 1) rfl) (by decide))
              · have r_5027 : Rg (-1) (-1) v_5006 := Rg.eq_l c_5026 (Rg.top v_5006) (Rg.c (c := (-1)) (k := (-1)) rfl) (by decide)
                refine lv_goto (tgt := 151) hx hb dX8_readRule_136 (by decide) ?_
                exact hj_4873 (x_5017, v_5003, v_5004, g_5005, g_5024, v_5006, v_5007, v_5008, v_5009, v_5010, v_5011) _ _ _ ⟨(Rg.wk (lo2 := 0) (hi2 := 12) r_5019 (by decide)), r_5013, ra_5025, r_5014, r_5015, hP, hD, hS, lv_sub hl [1, 0, 2, 3] rfl⟩
            · refine lv_if_eq (tgt := 113) hx hb dX8_readRule_104 (by decide) (fun c_4983 => ?_) (fun c_4983 => ?_)
              · have r_4984 : Rg 0 0 x_4976 := Rg.eq_l c_4983 hw_4973 (Rg.c (c := 0) (k := 0) rfl) (by decide)
                exact hj_5012 (v_4957, v_4958, g_4959, v_4977, v_4978, v_4979, v_4980, v_4955, v_4956) _ _ _ ⟨r_4962, r_4981, r_4982, hP, hD, hS, lv_sub hl [0, 1, 2, 3] rfl⟩
              · have r_4985 : Rg 1 1 x_4976 := Rg.ne c_4983 hw_4973 (Rg.c (c := 0) (k := 0) rfl) (by decide)
                refine lv_aload_n hx hb dX8_readRule_107 rfl (lv_at hl 2 rfl) ?_
                refine lv_aload_n hx hb dX8_readRule_108 rfl (lv_at hl 3 rfl) ?_
                refine lv_iconst (v := 0) hx hb dX8_readRule_109 (by decide) ?_
                have hPc := hP.sub (ws' := [(hq, .inr (6, [.ref qc, .ref qb, .int v_4957, .int v_4958])), (qc, .inl ((cs 0), 400, .inl g_4959)), (qb, .inl ((cs 0), 25, .inl g_4970)), (ht, .inr (7, [.ref hs, .int tl, .int v_4977, .int v_4978, .int v_4979, .int v_4980, .int v_4955, .int v_4956])), (hs, .inl ((cs 1), 400, .inl gt))]) [0, 1, 2, 3, 4] rfl
                have hDc := hD.sub (ws' := [(hq, .inr (6, [.ref qc, .ref qb, .int v_4957, .int v_4958])), (qc, .inl ((cs 0), 400, .inl g_4959)), (qb, .inl ((cs 0), 25, .inl g_4970)), (ht, .inr (7, [.ref hs, .int tl, .int v_4977, .int v_4978, .int v_4979, .int v_4980, .int v_4955, .int v_4956])), (hs, .inl ((cs 1), 400, .inl gt))]) [0, 1, 2, 3, 4] (by decide) rfl
                have hFc := va_free (wc := [(hq, .inr (6, [.ref qc, .ref qb, .int v_4957, .int v_4958])), (qc, .inl ((cs 0), 400, .inl g_4959)), (qb, .inl ((cs 0), 25, .inl g_4970)), (ht, .inr (7, [.ref hs, .int tl, .int v_4977, .int v_4978, .int v_4979, .int v_4980, .int v_4955, .int v_4956])), (hs, .inl ((cs 1), 400, .inl gt))]) hD hS hA [0, 1, 2, 3, 4] rfl
                refine va_callv (va_runV (As := [.ref ht, .int 0]) (rest := []) ⟨hx, hb, hml, hown, hts⟩ (c_RR_readTest_0 l D cs sa sv H.size hq qc qb v_4957 v_4958 g_4959 g_4970 ht hs tl v_4977 v_4978 v_4979 v_4980 v_4955 v_4956 gt r_4962 r_tl r_4981 r_4982) ⟨callB_of 2 hts (gd_C qq_3_111) rfl rfl rfl (hT _ qq_1_3) (hT _ qq_3_108) (by decide +kernel) (rm_R rfl rfl), (hT _ qq_3_110), (hT _ qs_0_8)⟩ (pr_V hPc hK hDc hN (hR.sub (wo' := []) [] rfl) hS hFc hX hXs (ci := 6) (q0 := 0) rfl rfl) rfl rfl hl.1 rfl (lv_room (Nat.le_of_ble_eq_true rfl)) dX8_readRule_110 ⟨Nat.le_of_ble_eq_true rfl, Nat.le_of_ble_eq_true rfl⟩) hS (fun q _ h => hFc q h) hFc (fun u_5044 t_5047 H1 locs ht9 hvm hw_5045 hB_5046 hz1 hk1 hS => ?_)
                obtain ⟨v_5049, v_5050, v_5051, v_5052, v_5053, v_5054, v_5055, v_5056, g_5057, r_5058, r_5059, r_5060, hP1, hD1⟩ := hB_5046
                rw [ht9] at hP1
                obtain ⟨hP, hD⟩ := va_join (wr := []) (w1 := [(hq, .inr (6, [.ref qc, .ref qb, .int v_5055, .int v_5056])), (qc, .inl ((cs 0), 400, .inl g_5057)), (qb, .inl ((cs 0), 25, .inl g_4970)), (ht, .inr (7, [.ref hs, .int tl, .int v_5049, .int v_5050, .int v_5051, .int v_5052, .int v_5053, .int v_5054])), (hs, .inl ((cs 1), 400, .inl gt))]) hP hD [0, 1, 2, 3, 4] [] rfl rfl (by decide) (by decide) hk1 hFc hP1 hD1
                generalize H1 = H at hP hS ⊢
                have hP : va_P D vwCl [(hq, .inr (6, [.ref qc, .ref qb, .int v_5055, .int v_5056])), (qc, .inl ((cs 0), 400, .inl g_5057)), (qb, .inl ((cs 0), 25, .inl g_4970)), (ht, .inr (7, [.ref hs, .int tl, .int v_5049, .int v_5050, .int v_5051, .int v_5052, .int v_5053, .int v_5054])), (hs, .inl ((cs 1), 400, .inl gt))] H := hP
                have hD : va_D A [(hq, .inr (6, [.ref qc, .ref qb, .int v_5055, .int v_5056])), (qc, .inl ((cs 0), 400, .inl g_5057)), (qb, .inl ((cs 0), 25, .inl g_4970)), (ht, .inr (7, [.ref hs, .int tl, .int v_5049, .int v_5050, .int v_5051, .int v_5052, .int v_5053, .int v_5054])), (hs, .inl ((cs 1), 400, .inl gt))] := hD
                exact hj_5012 (v_5055, v_5056, g_5057, v_5049, v_5050, v_5051, v_5052, v_5053, v_5054) _ _ _ ⟨r_5060, r_5058, r_5059, hP, hD, hS, lv_sub hl [0, 1, 2, 3] rfl⟩
          · have r_4928 : Rg 12 12 v_334 := Rg.eq_l c_4926 r_4672 (Rg.c (c := 12) (k := 12) rfl) (by decide)
            refine lv_aload_n hx hb dX8_readRule_55 rfl (lv_at hl 3 rfl) ?_
            refine lv_iconst (v := 4) hx hb dX8_readRule_56 (by decide) ?_
            have hPc := hP.sub (ws' := [(ht, .inr (7, [.ref hs, .int tl, .int v_340, .int v_341, .int v_342, .int v_343, .int v_344, .int v_345])), (hs, .inl ((cs 1), 400, .inl gt))]) [3, 4] rfl
            have hDc := hD.sub (ws' := [(ht, .inr (7, [.ref hs, .int tl, .int v_340, .int v_341, .int v_342, .int v_343, .int v_344, .int v_345])), (hs, .inl ((cs 1), 400, .inl gt))]) [3, 4] (by decide) rfl
            have hFc := va_free (wc := [(ht, .inr (7, [.ref hs, .int tl, .int v_340, .int v_341, .int v_342, .int v_343, .int v_344, .int v_345])), (hs, .inl ((cs 1), 400, .inl gt))]) hD hS hA [3, 4] rfl
            refine va_callv (va_runV (As := [.int 4]) (rest := []) ⟨hx, hb, hml, hown, hts⟩ (c_Text_failHere l D cs (XC sa sv D ks) H.size ht hs tl v_340 v_341 v_342 v_343 v_344 v_345 gt 4 r_4667 (Rg.wk (lo2 := 0) (hi2 := 4) (Rg.c (c := 4) (k := 4) rfl) (by decide))) ⟨callB_of 1 hts (gd_C qq_2_205) rfl rfl rfl (hT _ qq_1_2) (hT _ qq_3_75) (by decide +kernel) (rm_R rfl rfl), (hT _ qq_2_203), (hT _ qq_2_204)⟩ (pr_V hPc hK hDc hN (hR.sub (wo' := []) [] rfl) hS hFc hXo hXC (ci := 7) (q0 := 0) rfl rfl) rfl rfl hl.1 rfl (lv_room (Nat.le_of_ble_eq_true rfl)) dX8_readRule_57 ⟨Nat.le_of_ble_eq_true rfl, Nat.le_of_ble_eq_true rfl⟩) hS (fun q _ h => hFc q h) hFc (fun u_5061 t_5064 H1 locs ht9 hvm hw_5062 hB_5063 hz1 hk1 hS => ?_)
            obtain ⟨v_5066, rp_5067, hP1, hD1⟩ := hB_5063
            rw [ht9] at hP1
            obtain ⟨hP, hD⟩ := va_join (wr := [(hq, .inr (6, [.ref qc, .ref qb, .int v_336, .int v_337])), (qc, .inl ((cs 0), 400, .inl g_338)), (qb, .inl ((cs 0), 25, .inl g_339))]) (w1 := [(ht, .inr (7, [.ref hs, .int tl, .int v_340, .int v_341, .int v_342, .int v_343, .int v_344, .int v_5066])), (hs, .inl ((cs 1), 400, .inl gt))]) hP hD [3, 4] [0, 1, 2] rfl rfl (by decide) (by decide) hk1 hFc hP1 hD1
            generalize H1 = H at hP hS ⊢
            have hP : va_P D vwCl [(hq, .inr (6, [.ref qc, .ref qb, .int v_336, .int v_337])), (qc, .inl ((cs 0), 400, .inl g_338)), (qb, .inl ((cs 0), 25, .inl g_339)), (ht, .inr (7, [.ref hs, .int tl, .int v_340, .int v_341, .int v_342, .int v_343, .int v_344, .int v_5066])), (hs, .inl ((cs 1), 400, .inl gt))] H := hP
            have hD : va_D A [(hq, .inr (6, [.ref qc, .ref qb, .int v_336, .int v_337])), (qc, .inl ((cs 0), 400, .inl g_338)), (qb, .inl ((cs 0), 25, .inl g_339)), (ht, .inr (7, [.ref hs, .int tl, .int v_340, .int v_341, .int v_342, .int v_343, .int v_344, .int v_5066])), (hs, .inl ((cs 1), 400, .inl gt))] := hD
            refine lv_goto (tgt := 128) hx hb dX8_readRule_60 (by decide) ?_
            refine lv_aload_n hx hb dX8_readRule_128 rfl (lv_at hl 3 rfl) ?_
            refine va_getN (D := D) (ci := 7) (v := .int v_340) (C := "WrongHole$Text") (T := TX9) (N := 8) hx hb hts (iq_RX9 _) hown hK hP 3 rfl rfl 2 (by decide) (NN.f hN nq_1_40) (fun _ h9 => h9) rfl dX8_readRule_129 ?_
            refine lv_iconst (v := (-1)) hx hb dX8_readRule_132 (by decide) ?_
            refine lv_icmp_ne (tgt := 139) hx hb dX8_readRule_133 (by decide) (fun c_5068 => ?_) (fun c_5068 => ?_)
            · refine lv_aload_n hx hb dX8_readRule_139 rfl (lv_at hl 3 rfl) ?_
              refine lv_bipush (v := 59) hx hb dX8_readRule_140 (by decide) ?_
              have hPc := hP.sub (ws' := [(ht, .inr (7, [.ref hs, .int tl, .int v_340, .int v_341, .int v_342, .int v_343, .int v_344, .int v_5066])), (hs, .inl ((cs 1), 400, .inl gt))]) [3, 4] rfl
              have hDc := hD.sub (ws' := [(ht, .inr (7, [.ref hs, .int tl, .int v_340, .int v_341, .int v_342, .int v_343, .int v_344, .int v_5066])), (hs, .inl ((cs 1), 400, .inl gt))]) [3, 4] (by decide) rfl
              have hFc := va_free (wc := [(ht, .inr (7, [.ref hs, .int tl, .int v_340, .int v_341, .int v_342, .int v_343, .int v_344, .int v_5066])), (hs, .inl ((cs 1), 400, .inl gt))]) hD hS hA [3, 4] rfl
              refine va_callv (va_runV (As := [.int 59]) (rest := []) ⟨hx, hb, hml, hown, hts⟩ (c_Text_takeSign l D cs (XC sa sv D ks) H.size ht hs tl v_340 v_341 v_342 v_343 v_344 v_5066 gt 59 r_tl r_4667 r_4668) ⟨callB_of 1 hts (gd_C qq_3_53) rfl rfl rfl (hT _ qq_1_2) (hT _ qq_3_117) (by decide +kernel) (rm_R rfl rfl), (hT _ qq_3_51), (hT _ qq_3_52)⟩ (pr_V hPc hK hDc hN (hR.sub (wo' := []) [] rfl) hS hFc hXo hXC (ci := 7) (q0 := 0) rfl rfl) rfl rfl hl.1 rfl (lv_room (Nat.le_of_ble_eq_true rfl)) dX8_readRule_142 ⟨Nat.le_of_ble_eq_true rfl, Nat.le_of_ble_eq_true rfl⟩) hS (fun q _ h => hFc q h) hFc (fun u_5070 t_5073 H1 locs ht9 hvm hw_5071 hB_5072 hz1 hk1 hS => ?_)
              obtain ⟨v_5075, v_5076, v_5077, v_5078, v_5079, v_5080, r_5081, r_5082, hP1, hD1⟩ := hB_5072
              rw [ht9] at hP1
              obtain ⟨hP, hD⟩ := va_join (wr := [(hq, .inr (6, [.ref qc, .ref qb, .int v_336, .int v_337])), (qc, .inl ((cs 0), 400, .inl g_338)), (qb, .inl ((cs 0), 25, .inl g_339))]) (w1 := [(ht, .inr (7, [.ref hs, .int tl, .int v_5075, .int v_5076, .int v_5077, .int v_5078, .int v_5079, .int v_5080])), (hs, .inl ((cs 1), 400, .inl gt))]) hP hD [3, 4] [0, 1, 2] rfl rfl (by decide) (by decide) hk1 hFc hP1 hD1
              generalize H1 = H at hP hS ⊢
              have hP : va_P D vwCl [(hq, .inr (6, [.ref qc, .ref qb, .int v_336, .int v_337])), (qc, .inl ((cs 0), 400, .inl g_338)), (qb, .inl ((cs 0), 25, .inl g_339)), (ht, .inr (7, [.ref hs, .int tl, .int v_5075, .int v_5076, .int v_5077, .int v_5078, .int v_5079, .int v_5080])), (hs, .inl ((cs 1), 400, .inl gt))] H := hP
              have hD : va_D A [(hq, .inr (6, [.ref qc, .ref qb, .int v_336, .int v_337])), (qc, .inl ((cs 0), 400, .inl g_338)), (qb, .inl ((cs 0), 25, .inl g_339)), (ht, .inr (7, [.ref hs, .int tl, .int v_5075, .int v_5076, .int v_5077, .int v_5078, .int v_5079, .int v_5080])), (hs, .inl ((cs 1), 400, .inl gt))] := hD
              obtain ⟨x_5083, e_5084⟩ : ∃ z : Int32, z = v_334 + Int32.ofInt 1 := ⟨_, rfl⟩
              have r_5085 : Rg 13 13 x_5083 := Rg.add e_5084 r_4928 (Rg.c (c := Int32.ofInt 1) (k := 1) rfl) (by decide)
              refine lv_iinc (v := x_5083) (lv' := [(3, .int x_5083), (2, .int v_335), (0, .ref hq), (1, .ref ht)]) hx hb dX8_readRule_145 hl (k := 0) rfl (e_5084.symm) (by decide) rfl (fun ls hl => ?_)
              refine lv_goto (tgt := 18) hx hb dX8_readRule_148 (by decide) ?_
              exact ih_4662 (x_5083, v_335, v_336, v_337, g_338, g_339, v_5075, v_5076, v_5077, v_5078, v_5079, v_5080) _ _ _ ⟨(Rg.wk (lo2 := 0) (hi2 := 13) r_5085 (by decide)), r_4664, r_4665, ra_4666, r_5081, r_5082, (le_a0 le_4669 e_5084 r_4928 (Rg.c (c := Int32.ofInt 1) (k := 1) rfl) (by decide)), hP, hD, hS, lv_sub hl [0, 1, 2, 3] rfl⟩ (ms_up e_5084 r_4928 (Rg.c (c := Int32.ofInt 1) (k := 1) rfl) (by decide))
            · have r_5069 : Rg (-1) (-1) v_340 := Rg.eq_l c_5068 (Rg.top v_340) (Rg.c (c := (-1)) (k := (-1)) rfl) (by decide)
              refine lv_goto (tgt := 151) hx hb dX8_readRule_136 (by decide) ?_
              exact hj_4873 (v_335, v_336, v_337, g_338, g_339, v_340, v_341, v_342, v_343, v_344, v_5066) _ _ _ ⟨r_4664, r_4665, ra_4666, r_4667, r_4668, hP, hD, hS, lv_sub hl [0, 1, 2, 3] rfl⟩
        · have r_4925 : Rg (-1) (-1) x_4921 := Rg.eq_l c_4924 (Rg.top x_4921) (Rg.c (c := (-1)) (k := (-1)) rfl) (by decide)
          refine lv_aload_n hx hb dX8_readRule_41 rfl (lv_at hl 3 rfl) ?_
          refine lv_iconst (v := 0) hx hb dX8_readRule_42 (by decide) ?_
          have hPc := hP.sub (ws' := [(ht, .inr (7, [.ref hs, .int tl, .int v_340, .int v_341, .int v_342, .int v_343, .int v_344, .int v_345])), (hs, .inl ((cs 1), 400, .inl gt))]) [3, 4] rfl
          have hDc := hD.sub (ws' := [(ht, .inr (7, [.ref hs, .int tl, .int v_340, .int v_341, .int v_342, .int v_343, .int v_344, .int v_345])), (hs, .inl ((cs 1), 400, .inl gt))]) [3, 4] (by decide) rfl
          have hFc := va_free (wc := [(ht, .inr (7, [.ref hs, .int tl, .int v_340, .int v_341, .int v_342, .int v_343, .int v_344, .int v_345])), (hs, .inl ((cs 1), 400, .inl gt))]) hD hS hA [3, 4] rfl
          refine va_callv (va_runV (As := [.int 0]) (rest := []) ⟨hx, hb, hml, hown, hts⟩ (c_Text_failHere l D cs (XC sa sv D ks) H.size ht hs tl v_340 v_341 v_342 v_343 v_344 v_345 gt 0 r_4667 (Rg.wk (lo2 := 0) (hi2 := 4) (Rg.c (c := 0) (k := 0) rfl) (by decide))) ⟨callB_of 1 hts (gd_C qq_2_205) rfl rfl rfl (hT _ qq_1_2) (hT _ qq_3_75) (by decide +kernel) (rm_R rfl rfl), (hT _ qq_2_203), (hT _ qq_2_204)⟩ (pr_V hPc hK hDc hN (hR.sub (wo' := []) [] rfl) hS hFc hXo hXC (ci := 7) (q0 := 0) rfl rfl) rfl rfl hl.1 rfl (lv_room (Nat.le_of_ble_eq_true rfl)) dX8_readRule_43 ⟨Nat.le_of_ble_eq_true rfl, Nat.le_of_ble_eq_true rfl⟩) hS (fun q _ h => hFc q h) hFc (fun u_5086 t_5089 H1 locs ht9 hvm hw_5087 hB_5088 hz1 hk1 hS => ?_)
          obtain ⟨v_5091, rp_5092, hP1, hD1⟩ := hB_5088
          rw [ht9] at hP1
          obtain ⟨hP, hD⟩ := va_join (wr := [(hq, .inr (6, [.ref qc, .ref qb, .int v_336, .int v_337])), (qc, .inl ((cs 0), 400, .inl g_338)), (qb, .inl ((cs 0), 25, .inl g_339))]) (w1 := [(ht, .inr (7, [.ref hs, .int tl, .int v_340, .int v_341, .int v_342, .int v_343, .int v_344, .int v_5091])), (hs, .inl ((cs 1), 400, .inl gt))]) hP hD [3, 4] [0, 1, 2] rfl rfl (by decide) (by decide) hk1 hFc hP1 hD1
          generalize H1 = H at hP hS ⊢
          have hP : va_P D vwCl [(hq, .inr (6, [.ref qc, .ref qb, .int v_336, .int v_337])), (qc, .inl ((cs 0), 400, .inl g_338)), (qb, .inl ((cs 0), 25, .inl g_339)), (ht, .inr (7, [.ref hs, .int tl, .int v_340, .int v_341, .int v_342, .int v_343, .int v_344, .int v_5091])), (hs, .inl ((cs 1), 400, .inl gt))] H := hP
          have hD : va_D A [(hq, .inr (6, [.ref qc, .ref qb, .int v_336, .int v_337])), (qc, .inl ((cs 0), 400, .inl g_338)), (qb, .inl ((cs 0), 25, .inl g_339)), (ht, .inr (7, [.ref hs, .int tl, .int v_340, .int v_341, .int v_342, .int v_343, .int v_344, .int v_5091])), (hs, .inl ((cs 1), 400, .inl gt))] := hD
          refine lv_goto (tgt := 128) hx hb dX8_readRule_46 (by decide) ?_
          refine lv_aload_n hx hb dX8_readRule_128 rfl (lv_at hl 3 rfl) ?_
          refine va_getN (D := D) (ci := 7) (v := .int v_340) (C := "WrongHole$Text") (T := TX9) (N := 8) hx hb hts (iq_RX9 _) hown hK hP 3 rfl rfl 2 (by decide) (NN.f hN nq_1_40) (fun _ h9 => h9) rfl dX8_readRule_129 ?_
          refine lv_iconst (v := (-1)) hx hb dX8_readRule_132 (by decide) ?_
          refine lv_icmp_ne (tgt := 139) hx hb dX8_readRule_133 (by decide) (fun c_5093 => ?_) (fun c_5093 => ?_)
          · refine lv_aload_n hx hb dX8_readRule_139 rfl (lv_at hl 3 rfl) ?_
            refine lv_bipush (v := 59) hx hb dX8_readRule_140 (by decide) ?_
            have hPc := hP.sub (ws' := [(ht, .inr (7, [.ref hs, .int tl, .int v_340, .int v_341, .int v_342, .int v_343, .int v_344, .int v_5091])), (hs, .inl ((cs 1), 400, .inl gt))]) [3, 4] rfl
            have hDc := hD.sub (ws' := [(ht, .inr (7, [.ref hs, .int tl, .int v_340, .int v_341, .int v_342, .int v_343, .int v_344, .int v_5091])), (hs, .inl ((cs 1), 400, .inl gt))]) [3, 4] (by decide) rfl
            have hFc := va_free (wc := [(ht, .inr (7, [.ref hs, .int tl, .int v_340, .int v_341, .int v_342, .int v_343, .int v_344, .int v_5091])), (hs, .inl ((cs 1), 400, .inl gt))]) hD hS hA [3, 4] rfl
            refine va_callv (va_runV (As := [.int 59]) (rest := []) ⟨hx, hb, hml, hown, hts⟩ (c_Text_takeSign l D cs (XC sa sv D ks) H.size ht hs tl v_340 v_341 v_342 v_343 v_344 v_5091 gt 59 r_tl r_4667 r_4668) ⟨callB_of 1 hts (gd_C qq_3_53) rfl rfl rfl (hT _ qq_1_2) (hT _ qq_3_117) (by decide +kernel) (rm_R rfl rfl), (hT _ qq_3_51), (hT _ qq_3_52)⟩ (pr_V hPc hK hDc hN (hR.sub (wo' := []) [] rfl) hS hFc hXo hXC (ci := 7) (q0 := 0) rfl rfl) rfl rfl hl.1 rfl (lv_room (Nat.le_of_ble_eq_true rfl)) dX8_readRule_142 ⟨Nat.le_of_ble_eq_true rfl, Nat.le_of_ble_eq_true rfl⟩) hS (fun q _ h => hFc q h) hFc (fun u_5095 t_5098 H1 locs ht9 hvm hw_5096 hB_5097 hz1 hk1 hS => ?_)
            obtain ⟨v_5100, v_5101, v_5102, v_5103, v_5104, v_5105, r_5106, r_5107, hP1, hD1⟩ := hB_5097
            rw [ht9] at hP1
            obtain ⟨hP, hD⟩ := va_join (wr := [(hq, .inr (6, [.ref qc, .ref qb, .int v_336, .int v_337])), (qc, .inl ((cs 0), 400, .inl g_338)), (qb, .inl ((cs 0), 25, .inl g_339))]) (w1 := [(ht, .inr (7, [.ref hs, .int tl, .int v_5100, .int v_5101, .int v_5102, .int v_5103, .int v_5104, .int v_5105])), (hs, .inl ((cs 1), 400, .inl gt))]) hP hD [3, 4] [0, 1, 2] rfl rfl (by decide) (by decide) hk1 hFc hP1 hD1
            generalize H1 = H at hP hS ⊢
            have hP : va_P D vwCl [(hq, .inr (6, [.ref qc, .ref qb, .int v_336, .int v_337])), (qc, .inl ((cs 0), 400, .inl g_338)), (qb, .inl ((cs 0), 25, .inl g_339)), (ht, .inr (7, [.ref hs, .int tl, .int v_5100, .int v_5101, .int v_5102, .int v_5103, .int v_5104, .int v_5105])), (hs, .inl ((cs 1), 400, .inl gt))] H := hP
            have hD : va_D A [(hq, .inr (6, [.ref qc, .ref qb, .int v_336, .int v_337])), (qc, .inl ((cs 0), 400, .inl g_338)), (qb, .inl ((cs 0), 25, .inl g_339)), (ht, .inr (7, [.ref hs, .int tl, .int v_5100, .int v_5101, .int v_5102, .int v_5103, .int v_5104, .int v_5105])), (hs, .inl ((cs 1), 400, .inl gt))] := hD
            obtain ⟨x_5108, e_5109⟩ : ∃ z : Int32, z = v_334 + Int32.ofInt 1 := ⟨_, rfl⟩
            have r_5110 : Rg 1 13 x_5108 := Rg.add e_5109 r_4672 (Rg.c (c := Int32.ofInt 1) (k := 1) rfl) (by decide)
            refine lv_iinc (v := x_5108) (lv' := [(3, .int x_5108), (2, .int v_335), (0, .ref hq), (1, .ref ht)]) hx hb dX8_readRule_145 hl (k := 0) rfl (e_5109.symm) (by decide) rfl (fun ls hl => ?_)
            refine lv_goto (tgt := 18) hx hb dX8_readRule_148 (by decide) ?_
            exact ih_4662 (x_5108, v_335, v_336, v_337, g_338, g_339, v_5100, v_5101, v_5102, v_5103, v_5104, v_5105) _ _ _ ⟨(Rg.wk (lo2 := 0) (hi2 := 13) r_5110 (by decide)), r_4664, r_4665, ra_4666, r_5106, r_5107, (le_a0 le_4669 e_5109 r_4672 (Rg.c (c := Int32.ofInt 1) (k := 1) rfl) (by decide)), hP, hD, hS, lv_sub hl [0, 1, 2, 3] rfl⟩ (ms_up e_5109 r_4672 (Rg.c (c := Int32.ofInt 1) (k := 1) rfl) (by decide))
          · have r_5094 : Rg (-1) (-1) v_340 := Rg.eq_l c_5093 (Rg.top v_340) (Rg.c (c := (-1)) (k := (-1)) rfl) (by decide)
            refine lv_goto (tgt := 151) hx hb dX8_readRule_136 (by decide) ?_
            exact hj_4873 (v_335, v_336, v_337, g_338, g_339, v_340, v_341, v_342, v_343, v_344, v_5091) _ _ _ ⟨r_4664, r_4665, ra_4666, r_4667, r_4668, hP, hD, hS, lv_sub hl [0, 1, 2, 3] rfl⟩
