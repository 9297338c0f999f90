theorem dJ0_coder_7d493_0 : decode cJ0_coder_7d493 0 = .ok (.getstatic 38, 3) := by decide +kernel
theorem qq_2_162 : Cond.fieldLink "java/lang/String" 38 "java/lang/String" "COMPACT_STRINGS" "Z" ∈ TB := mk_tb (ti_2 (List.mem_of_getElem? (i := 162) rfl)) rfl
theorem dJ0_coder_7d493_3 : decode cJ0_coder_7d493 3 = .ok (.ifCond .eq 10, 3) := by decide +kernel
theorem dJ0_coder_7d493_6 : decode cJ0_coder_7d493 6 = .ok (.aload_n 0, 1) := by decide +kernel
theorem dJ0_coder_7d493_7 : decode cJ0_coder_7d493 7 = .ok (.getfield 15, 3) := by decide +kernel
theorem qq_8_105 : Cond.fieldLink "java/lang/String" 15 "java/lang/String" "coder" "B" ∈ TB := mk_tb (ti_8 (List.mem_of_getElem? (i := 105) rfl)) rfl
theorem dJ0_coder_7d493_10 : decode cJ0_coder_7d493 10 = .ok (.goto 4, 3) := by decide +kernel
theorem dJ0_coder_7d493_14 : decode cJ0_coder_7d493 14 = .ok (.ireturn, 1) := by decide +kernel
set_option maxHeartbeats 4000000 in
set_option maxRecDepth 100000 in
theorem c_S_coder (l : Launch) (D : va_G) (cs : Nat → ClassId) (sa sv : Nat → Nat) (i : Nat) (hi : i < 7) : Met l yJ0_coder_7d493 (Cond.code yJ0_coder_7d493 cJ0_coder_7d493 1 (some .byte) :: TB) (RM 0 0 0) (va_Pc [.ref (sa i)] (PRX D cs (SX sa sv) [])) (k2_QcV (.int 0)) 0 0 (fun _ => False) := by
  refine MEX (y := yJ0_coder_7d493) (cc := cJ0_coder_7d493) (maxL := 1) (ret := (some .byte)) (d := 0) (D := D) (cs := cs) (X := SX sa sv) (ws := []) (av := [.ref (sa i)]) (Qc := k2_QcV (.int 0)) (by decide) (Nat.le_of_ble_eq_true rfl) ?_
  intro p e s m below meth c ls H hHe hx hb hr hml hown hts hlocks hP hK hN hX hXs hl
  obtain ⟨locs, hlc⟩ : ∃ z : List Loc, z = [] := ⟨_, rfl⟩
  rw [← hlc]
  have hown : s.vm.findClass "java/lang/String" = some m.cls := hown
  have hT : ∀ w ∈ TB, w.before ([.ref (sa i)] : List Value).toArray s = true := fun w h => hts w (List.mem_cons_of_mem _ h)
  have hl : lv_has ls 1 [(0, .ref (sa i))] := hl
  have hP : va_P D vwCl [] H := hP
  have hS0 : va_S (fun _ => False) s.heap H locs := by rw [hHe, hlc]; exact va_S.rf
  refine va_gets hx hb hXs.2.2.1 hS0 hown (hT _ qq_2_162) (fun _ h9 => h9) dJ0_coder_7d493_0 ?_
  refine lv_if_eq (tgt := 13) hx hb dJ0_coder_7d493_3 (by decide) (fun c_1 => False.elim (Rg.no_eq c_1 (Rg.c (c := 1) (k := 1) rfl) (Rg.c (c := 0) (k := 0) rfl) (by decide))) (fun c_1 => ?_)
  refine lv_aload_n hx hb dJ0_coder_7d493_6 rfl (lv_at hl 0 rfl) ?_
  have hS0 : va_S (fun _ => False) s.heap H locs := by rw [hHe, hlc]; exact va_S.rf
  refine vk_getf hx hb (hXs.1.1 i hi).2.1 hS0 hown (hT _ qq_8_105) (fun _ h9 => h9) dJ0_coder_7d493_7 ?_
  refine lv_goto (tgt := 14) hx hb dJ0_coder_7d493_10 (by decide) ?_
  exact W.zret (v := 0) (ty := .byte) hx hb hr rfl (fun t9 ht9 hW9 => ⟨rfl, ht9.trans hHe⟩) (fun _ h9 => by rw [hlc] at h9; exact absurd h9 List.not_mem_nil) dJ0_coder_7d493_14
theorem dJ0_isLatin1_aae02_0 : decode cJ0_isLatin1_aae02 0 = .ok (.getstatic 38, 3) := by decide +kernel
theorem dJ0_isLatin1_aae02_3 : decode cJ0_isLatin1_aae02 3 = .ok (.ifCond .eq 14, 3) := by decide +kernel
theorem dJ0_isLatin1_aae02_6 : decode cJ0_isLatin1_aae02 6 = .ok (.aload_n 0, 1) := by decide +kernel
theorem dJ0_isLatin1_aae02_7 : decode cJ0_isLatin1_aae02 7 = .ok (.getfield 15, 3) := by decide +kernel
theorem dJ0_isLatin1_aae02_10 : decode cJ0_isLatin1_aae02 10 = .ok (.ifCond .ne 7, 3) := by decide +kernel
theorem dJ0_isLatin1_aae02_13 : decode cJ0_isLatin1_aae02 13 = .ok (.iconst 1, 1) := by decide +kernel
theorem dJ0_isLatin1_aae02_14 : decode cJ0_isLatin1_aae02 14 = .ok (.goto 4, 3) := by decide +kernel
theorem dJ0_isLatin1_aae02_18 : decode cJ0_isLatin1_aae02 18 = .ok (.ireturn, 1) := by decide +kernel
set_option maxHeartbeats 4000000 in
set_option maxRecDepth 100000 in
theorem c_S_isLatin1 (l : Launch) (D : va_G) (cs : Nat → ClassId) (sa sv : Nat → Nat) (i : Nat) (hi : i < 7) : Met l yJ0_isLatin1_aae02 (Cond.code yJ0_isLatin1_aae02 cJ0_isLatin1_aae02 1 (some .boolean) :: TB) (RM 0 0 0) (va_Pc [.ref (sa i)] (PRX D cs (SX sa sv) [])) (k2_QcV (.int 1)) 0 0 (fun _ => False) := by
  refine MEX (y := yJ0_isLatin1_aae02) (cc := cJ0_isLatin1_aae02) (maxL := 1) (ret := (some .boolean)) (d := 0) (D := D) (cs := cs) (X := SX sa sv) (ws := []) (av := [.ref (sa i)]) (Qc := k2_QcV (.int 1)) (by decide) (Nat.le_of_ble_eq_true rfl) ?_
  intro p e s m below meth c ls H hHe hx hb hr hml hown hts hlocks hP hK hN hX hXs hl
  obtain ⟨locs, hlc⟩ : ∃ z : List Loc, z = [] := ⟨_, rfl⟩
  rw [← hlc]
  have hown : s.vm.findClass "java/lang/String" = some m.cls := hown
  have hT : ∀ w ∈ TB, w.before ([.ref (sa i)] : List Value).toArray s = true := fun w h => hts w (List.mem_cons_of_mem _ h)
  have hl : lv_has ls 1 [(0, .ref (sa i))] := hl
  have hP : va_P D vwCl [] H := hP
  have hS0 : va_S (fun _ => False) s.heap H locs := by rw [hHe, hlc]; exact va_S.rf
  refine va_gets hx hb hXs.2.2.1 hS0 hown (hT _ qq_2_162) (fun _ h9 => h9) dJ0_isLatin1_aae02_0 ?_
  refine lv_if_eq (tgt := 17) hx hb dJ0_isLatin1_aae02_3 (by decide) (fun c_1 => False.elim (Rg.no_eq c_1 (Rg.c (c := 1) (k := 1) rfl) (Rg.c (c := 0) (k := 0) rfl) (by decide))) (fun c_1 => ?_)
  refine lv_aload_n hx hb dJ0_isLatin1_aae02_6 rfl (lv_at hl 0 rfl) ?_
  have hS0 : va_S (fun _ => False) s.heap H locs := by rw [hHe, hlc]; exact va_S.rf
  refine vk_getf hx hb (hXs.1.1 i hi).2.1 hS0 hown (hT _ qq_8_105) (fun _ h9 => h9) dJ0_isLatin1_aae02_7 ?_
  refine lv_if_ne (tgt := 17) hx hb dJ0_isLatin1_aae02_10 (by decide) (fun c_2 => False.elim (Rg.no_ne c_2 (Rg.c (c := 0) (k := 0) rfl) (Rg.c (c := 0) (k := 0) rfl) (by decide))) (fun c_2 => ?_)
  refine lv_iconst (v := 1) hx hb dJ0_isLatin1_aae02_13 (by decide) ?_
  refine lv_goto (tgt := 18) hx hb dJ0_isLatin1_aae02_14 (by decide) ?_
  exact W.zret (v := 1) (ty := .boolean) hx hb hr rfl (fun t9 ht9 hW9 => ⟨rfl, ht9.trans hHe⟩) (fun _ h9 => by rw [hlc] at h9; exact absurd h9 List.not_mem_nil) dJ0_isLatin1_aae02_18
theorem dJ0_length_8abf5_0 : decode cJ0_length_8abf5 0 = .ok (.aload_n 0, 1) := by decide +kernel
theorem dJ0_length_8abf5_1 : decode cJ0_length_8abf5 1 = .ok (.getfield 9, 3) := by decide +kernel
theorem qq_8_104 : Cond.fieldLink "java/lang/String" 9 "java/lang/String" "value" "[B" ∈ TB := mk_tb (ti_8 (List.mem_of_getElem? (i := 104) rfl)) rfl
theorem dJ0_length_8abf5_4 : decode cJ0_length_8abf5 4 = .ok (.arraylength, 1) := by decide +kernel
theorem dJ0_length_8abf5_5 : decode cJ0_length_8abf5 5 = .ok (.aload_n 0, 1) := by decide +kernel
theorem dJ0_length_8abf5_6 : decode cJ0_length_8abf5 6 = .ok (.invokevirtual 335, 3) := by decide +kernel
theorem qq_2_161 : Cond.code yJ0_coder_7d493 cJ0_coder_7d493 1 (some .byte) ∈ TB := mk_tb (ti_2 (List.mem_of_getElem? (i := 161) rfl)) rfl
theorem qq_1_12 : Cond.initialized "java/lang/String" ∈ TB := mk_tb (ti_1 (List.mem_of_getElem? (i := 12) rfl)) rfl
theorem qq_2_158 : Cond.methodLink "java/lang/String" 335 yJ0_coder_7d493 ∈ TB := mk_tb (ti_2 (List.mem_of_getElem? (i := 158) rfl)) rfl
theorem qq_2_159 : Cond.instanceMethod yJ0_coder_7d493 ∈ TB := mk_tb (ti_2 (List.mem_of_getElem? (i := 159) rfl)) rfl
theorem qq_2_160 : Cond.selects "java/lang/String" yJ0_coder_7d493 yJ0_coder_7d493 ∈ TB := mk_tb (ti_2 (List.mem_of_getElem? (i := 160) rfl)) rfl
theorem dJ0_length_8abf5_9 : decode cJ0_length_8abf5 9 = .ok (.ishr, 1) := by decide +kernel
theorem dJ0_length_8abf5_10 : decode cJ0_length_8abf5 10 = .ok (.ireturn, 1) := by decide +kernel
set_option maxHeartbeats 4000000 in
set_option maxRecDepth 100000 in
theorem c_S_length (l : Launch) (D : va_G) (cs : Nat → ClassId) (sa sv : Nat → Nat) (i : Nat) (hi : i < 7) : Met l yJ0_length_8abf5 (Cond.code yJ0_length_8abf5 cJ0_length_8abf5 1 (some .int) :: TB) (RM 1 0 0) (va_Pc [.ref (sa i)] (PRX D cs (SX sa sv) [])) (k2_QcV (.int (Int32.ofNat (slen.getD i 0)))) 0 0 (fun _ => False) := by
  refine MEX (y := yJ0_length_8abf5) (cc := cJ0_length_8abf5) (maxL := 1) (ret := (some .int)) (d := 1) (D := D) (cs := cs) (X := SX sa sv) (ws := []) (av := [.ref (sa i)]) (Qc := k2_QcV (.int (Int32.ofNat (slen.getD i 0)))) (by decide) (Nat.le_of_ble_eq_true rfl) ?_
  intro p e s m below meth c ls H hHe hx hb hr hml hown hts hlocks hP hK hN hX hXs hl
  obtain ⟨locs, hlc⟩ : ∃ z : List Loc, z = [] := ⟨_, rfl⟩
  rw [← hlc]
  have hown : s.vm.findClass "java/lang/String" = some m.cls := hown
  have hT : ∀ w ∈ TB, w.before ([.ref (sa i)] : List Value).toArray s = true := fun w h => hts w (List.mem_cons_of_mem _ h)
  have hl : lv_has ls 1 [(0, .ref (sa i))] := hl
  have hP : va_P D vwCl [] H := hP
  refine lv_aload_n hx hb dJ0_length_8abf5_0 rfl (lv_at hl 0 rfl) ?_
  have hS0 : va_S (fun _ => False) s.heap H locs := by rw [hHe, hlc]; exact va_S.rf
  refine vk_getf hx hb (hXs.1.1 i hi).2.2.1 hS0 hown (hT _ qq_8_104) (fun _ h9 => h9) dJ0_length_8abf5_1 ?_
  have hS0 : va_S (fun _ => False) s.heap H locs := by rw [hHe, hlc]; exact va_S.rf
  refine va_tlen hx hb (hXs.1.1 i hi).2.2.2 hS0 rfl dJ0_length_8abf5_4 ?_
  refine lv_aload_n hx hb dJ0_length_8abf5_5 rfl (lv_at hl 0 rfl) ?_
  have hPc := va_P.sub (ws' := []) hP [] rfl
  have hS0 : va_S (fun _ => False) s.heap H locs := by rw [hHe, hlc]; exact va_S.rf
  refine cl_V (W.runV (As := []) (rest := [.int (Int32.ofNat (slen.getD i 0))]) ⟨hx, hb, hml, hown, hts⟩ (c_S_coder l D cs sa sv i hi) ⟨callB_of 0 hts (gd_C qq_2_161) rfl rfl rfl (hT _ qq_1_12) (hT _ qq_2_158) (by decide +kernel) (rm_R rfl rfl), (hT _ qq_2_159), (hT _ qq_2_160)⟩ (px_T hPc hK hN hX hXs hS0 (i := i) hi) rfl rfl hl.1 rfl (lv_room (Nat.le_of_ble_eq_true rfl)) dJ0_length_8abf5_6 ⟨Nat.le_of_ble_eq_true rfl, Nat.le_of_ble_eq_true rfl⟩) ?_
  refine lv_ishr hx hb dJ0_length_8abf5_9 ?_
  refine lv_topi (fun x_1 e_2 => ?_)
  exact W.iret (v := x_1) hx hb hr (fun t9 ht9 hW9 => ⟨by rw [show (.int (Int32.ofNat (slen.getD i 0)) : Value) = .int x_1 from (by rw [e_2, sh_0])], ht9.trans hHe⟩) (fun _ h9 => by rw [hlc] at h9; exact absurd h9 List.not_mem_nil) dJ0_length_8abf5_10
theorem dJ3_checkIndex_8e157_0 : decode cJ3_checkIndex_8e157 0 = .ok (.iload_n 0, 1) := by decide +kernel
theorem dJ3_checkIndex_8e157_1 : decode cJ3_checkIndex_8e157 1 = .ok (.ifCond .lt 8, 3) := by decide +kernel
theorem dJ3_checkIndex_8e157_4 : decode cJ3_checkIndex_8e157 4 = .ok (.iload_n 0, 1) := by decide +kernel
theorem dJ3_checkIndex_8e157_5 : decode cJ3_checkIndex_8e157 5 = .ok (.iload_n 1, 1) := by decide +kernel
theorem dJ3_checkIndex_8e157_6 : decode cJ3_checkIndex_8e157 6 = .ok (.if_icmp .lt 10, 3) := by decide +kernel
theorem dJ3_checkIndex_8e157_16 : decode cJ3_checkIndex_8e157 16 = .ok (.iload_n 0, 1) := by decide +kernel
theorem dJ3_checkIndex_8e157_17 : decode cJ3_checkIndex_8e157 17 = .ok (.ireturn, 1) := by decide +kernel
set_option maxHeartbeats 4000000 in
set_option maxRecDepth 100000 in
theorem c_S_pre_n (l : Launch) (D : va_G) (cs : Nat → ClassId) (a : Int32) (b : Int32) (hab : a < b) (r_a : Rg 0 2147483647 a) : Met l yJ3_checkIndex_8e157 (Cond.code yJ3_checkIndex_8e157 cJ3_checkIndex_8e157 3 (some .int) :: TB) (RM 0 0 0) (va_Pc [.int a, .int b, .null] (PRR D cs [])) (QP (fun v => ∃ x : Int32, v = .int x)) 0 0 (fun _ => False) := by
  refine MER (y := yJ3_checkIndex_8e157) (cc := cJ3_checkIndex_8e157) (maxL := 3) (ret := (some .int)) (d := 0) (D := D) (cs := cs) (ws := []) (av := [.int a, .int b, .null]) (Qc := QP (fun v => ∃ x : Int32, v = .int x)) (by decide) (Nat.le_of_ble_eq_true rfl) ?_
  intro p e s m below meth c ls H hHe hx hb hr hml hown hts hlocks hP hK hN hl
  obtain ⟨locs, hlc⟩ : ∃ z : List Loc, z = [] := ⟨_, rfl⟩
  rw [← hlc]
  have hown : s.vm.findClass "jdk/internal/util/Preconditions" = some m.cls := hown
  have hT : ∀ w ∈ TB, w.before ([.int a, .int b, .null] : List Value).toArray s = true := fun w h => hts w (List.mem_cons_of_mem _ h)
  have hl : lv_has ls 3 [(0, .int a), (1, .int b), (2, .null)] := hl
  have hP : va_P D vwCl [] H := hP
  refine lv_iload_n hx hb dJ3_checkIndex_8e157_0 rfl (lv_at hl 0 rfl) ?_
  refine lv_if_lt (tgt := 9) hx hb dJ3_checkIndex_8e157_1 (by decide) (fun c_1 => False.elim (Rg.no_lt c_1 r_a (Rg.c (c := 0) (k := 0) rfl) (by decide))) (fun c_1 => ?_)
  refine lv_iload_n hx hb dJ3_checkIndex_8e157_4 rfl (lv_at hl 0 rfl) ?_
  refine lv_iload_n hx hb dJ3_checkIndex_8e157_5 rfl (lv_at hl 1 rfl) ?_
  refine lv_icmp_lt (tgt := 16) hx hb dJ3_checkIndex_8e157_6 (by decide) (fun c_2 => ?_) (fun c_2 => False.elim (absurd hab c_2))
  refine lv_iload_n hx hb dJ3_checkIndex_8e157_16 rfl (lv_at hl 0 rfl) ?_
  exact W.iret (v := a) hx hb hr (fun t9 ht9 hW9 => ⟨⟨_, rfl, _, rfl⟩, ht9.trans hHe⟩) (fun _ h9 => by rw [hlc] at h9; exact absurd h9 List.not_mem_nil) dJ3_checkIndex_8e157_17
set_option maxHeartbeats 4000000 in
set_option maxRecDepth 100000 in
theorem c_S_pre_r (l : Launch) (D : va_G) (cs : Nat → ClassId) (a : Int32) (b : Int32) (tq : Nat) (hab : a < b) (r_a : Rg 0 2147483647 a) : Met l yJ3_checkIndex_8e157 (Cond.code yJ3_checkIndex_8e157 cJ3_checkIndex_8e157 3 (some .int) :: TB) (RM 0 0 0) (va_Pc [.int a, .int b, .ref tq] (PRR D cs [])) (QP (fun v => ∃ x : Int32, v = .int x)) 0 0 (fun _ => False) := by
  refine MER (y := yJ3_checkIndex_8e157) (cc := cJ3_checkIndex_8e157) (maxL := 3) (ret := (some .int)) (d := 0) (D := D) (cs := cs) (ws := []) (av := [.int a, .int b, .ref tq]) (Qc := QP (fun v => ∃ x : Int32, v = .int x)) (by decide) (Nat.le_of_ble_eq_true rfl) ?_
  intro p e s m below meth c ls H hHe hx hb hr hml hown hts hlocks hP hK hN hl
  obtain ⟨locs, hlc⟩ : ∃ z : List Loc, z = [] := ⟨_, rfl⟩
  rw [← hlc]
  have hown : s.vm.findClass "jdk/internal/util/Preconditions" = some m.cls := hown
  have hT : ∀ w ∈ TB, w.before ([.int a, .int b, .ref tq] : List Value).toArray s = true := fun w h => hts w (List.mem_cons_of_mem _ h)
  have hl : lv_has ls 3 [(0, .int a), (1, .int b), (2, .ref tq)] := hl
  have hP : va_P D vwCl [] H := hP
  refine lv_iload_n hx hb dJ3_checkIndex_8e157_0 rfl (lv_at hl 0 rfl) ?_
  refine lv_if_lt (tgt := 9) hx hb dJ3_checkIndex_8e157_1 (by decide) (fun c_1 => False.elim (Rg.no_lt c_1 r_a (Rg.c (c := 0) (k := 0) rfl) (by decide))) (fun c_1 => ?_)
  refine lv_iload_n hx hb dJ3_checkIndex_8e157_4 rfl (lv_at hl 0 rfl) ?_
  refine lv_iload_n hx hb dJ3_checkIndex_8e157_5 rfl (lv_at hl 1 rfl) ?_
  refine lv_icmp_lt (tgt := 16) hx hb dJ3_checkIndex_8e157_6 (by decide) (fun c_2 => ?_) (fun c_2 => False.elim (absurd hab c_2))
  refine lv_iload_n hx hb dJ3_checkIndex_8e157_16 rfl (lv_at hl 0 rfl) ?_
  exact W.iret (v := a) hx hb hr (fun t9 ht9 hW9 => ⟨⟨_, rfl, _, rfl⟩, ht9.trans hHe⟩) (fun _ h9 => by rw [hlc] at h9; exact absurd h9 List.not_mem_nil) dJ3_checkIndex_8e157_17
theorem dJ0_checkIndex_df160_0 : decode cJ0_checkIndex_df160 0 = .ok (.iload_n 0, 1) := by decide +kernel
theorem dJ0_checkIndex_df160_1 : decode cJ0_checkIndex_df160 1 = .ok (.iload_n 1, 1) := by decide +kernel
theorem dJ0_checkIndex_df160_2 : decode cJ0_checkIndex_df160 2 = .ok (.getstatic 1053, 3) := by decide +kernel
theorem qq_2_178 : Cond.fieldLink "java/lang/String" 1053 "jdk/internal/util/Preconditions" "SIOOBE_FORMATTER" "Ljava/util/function/BiFunction;" ∈ TB := mk_tb (ti_2 (List.mem_of_getElem? (i := 178) rfl)) rfl
theorem dJ0_checkIndex_df160_5 : decode cJ0_checkIndex_df160 5 = .ok (.invokestatic 1059, 3) := by decide +kernel
theorem qq_2_182 : Cond.code yJ3_checkIndex_8e157 cJ3_checkIndex_8e157 3 (some .int) ∈ TB := mk_tb (ti_2 (List.mem_of_getElem? (i := 182) rfl)) rfl
theorem qq_1_14 : Cond.initialized "jdk/internal/util/Preconditions" ∈ TB := mk_tb (ti_1 (List.mem_of_getElem? (i := 14) rfl)) rfl
theorem qq_2_180 : Cond.methodLink "java/lang/String" 1059 yJ3_checkIndex_8e157 ∈ TB := mk_tb (ti_2 (List.mem_of_getElem? (i := 180) rfl)) rfl
theorem qq_2_181 : Cond.static yJ3_checkIndex_8e157 ∈ TB := mk_tb (ti_2 (List.mem_of_getElem? (i := 181) rfl)) rfl
theorem dJ0_checkIndex_df160_8 : decode cJ0_checkIndex_df160 8 = .ok (.pop, 1) := by decide +kernel
theorem dJ0_checkIndex_df160_9 : decode cJ0_checkIndex_df160 9 = .ok (.return_, 1) := by decide +kernel
set_option maxHeartbeats 4000000 in
set_option maxRecDepth 100000 in
theorem c_S_checkIndex (l : Launch) (D : va_G) (cs : Nat → ClassId) (sa sv : Nat → Nat) (a : Int32) (b : Int32) (hab : a < b) (r_a : Rg 0 2147483647 a) : Met l yJ0_checkIndex_df160 (Cond.code yJ0_checkIndex_df160 cJ0_checkIndex_df160 2 none :: TB) (RM 1 0 0) (va_Pc [.int a, .int b] (PRX D cs (SX sa sv) [])) (va_Sv (fun _ => True)) 0 0 (fun _ => False) := by
  refine MEX (y := yJ0_checkIndex_df160) (cc := cJ0_checkIndex_df160) (maxL := 2) (ret := none) (d := 1) (D := D) (cs := cs) (X := SX sa sv) (ws := []) (av := [.int a, .int b]) (Qc := va_Sv (fun _ => True)) (by decide) (Nat.le_of_ble_eq_true rfl) ?_
  intro p e s m below meth c ls H hHe hx hb hr hml hown hts hlocks hP hK hN hX hXs hl
  obtain ⟨locs, hlc⟩ : ∃ z : List Loc, z = [] := ⟨_, rfl⟩
  rw [← hlc]
  have hown : s.vm.findClass "java/lang/String" = some m.cls := hown
  have hT : ∀ w ∈ TB, w.before ([.int a, .int b] : List Value).toArray s = true := fun w h => hts w (List.mem_cons_of_mem _ h)
  have hl : lv_has ls 2 [(0, .int a), (1, .int b)] := hl
  have hP : va_P D vwCl [] H := hP
  refine lv_iload_n hx hb dJ0_checkIndex_df160_0 rfl (lv_at hl 0 rfl) ?_
  refine lv_iload_n hx hb dJ0_checkIndex_df160_1 rfl (lv_at hl 1 rfl) ?_
  have hS0 : va_S (fun _ => False) s.heap H locs := by rw [hHe, hlc]; exact va_S.rf
  rcases hXs.2.2.2 with hq9 | ⟨tq, hq9⟩
  · refine va_gets hx hb hq9 hS0 hown (hT _ qq_2_178) (fun _ h9 => h9) dJ0_checkIndex_df160_2 ?_
    have hPc := va_P.sub (ws' := []) hP [] rfl
    refine cl_P (W.runS (As := [.int a, .int b, .null]) (rest := []) ⟨hx, hb, hml, hown, hts⟩ (c_S_pre_n l D cs a b hab r_a) ⟨callB_of 3 hts (gd_C qq_2_182) rfl rfl rfl (hT _ qq_1_14) (hT _ qq_2_180) (by decide +kernel) (rm_R rfl rfl), (hT _ qq_2_181)⟩ (pq_S hPc hK hN) rfl rfl hl.1 rfl (lv_room (Nat.le_of_ble_eq_true rfl)) dJ0_checkIndex_df160_5 ⟨Nat.le_of_ble_eq_true rfl, Nat.le_of_ble_eq_true rfl⟩) (fun v9 hz_2 => ?_)
    obtain ⟨x_1, rfl⟩ := hz_2
    refine lv_pop hx hb dJ0_checkIndex_df160_8 rfl ?_
    exact W.vret hx hb hr (fun t9 ht9 hW9 => ⟨rfl, trivial, ht9.trans hHe⟩) (fun _ h9 => by rw [hlc] at h9; exact absurd h9 List.not_mem_nil) dJ0_checkIndex_df160_9
  · refine va_gets hx hb hq9 hS0 hown (hT _ qq_2_178) (fun _ h9 => h9) dJ0_checkIndex_df160_2 ?_
    have hPc := va_P.sub (ws' := []) hP [] rfl
    refine cl_P (W.runS (As := [.int a, .int b, .ref tq]) (rest := []) ⟨hx, hb, hml, hown, hts⟩ (c_S_pre_r l D cs a b tq hab r_a) ⟨callB_of 3 hts (gd_C qq_2_182) rfl rfl rfl (hT _ qq_1_14) (hT _ qq_2_180) (by decide +kernel) (rm_R rfl rfl), (hT _ qq_2_181)⟩ (pq_S hPc hK hN) rfl rfl hl.1 rfl (lv_room (Nat.le_of_ble_eq_true rfl)) dJ0_checkIndex_df160_5 ⟨Nat.le_of_ble_eq_true rfl, Nat.le_of_ble_eq_true rfl⟩) (fun v9 hz_5 => ?_)
    obtain ⟨x_4, rfl⟩ := hz_5
    refine lv_pop hx hb dJ0_checkIndex_df160_8 rfl ?_
    exact W.vret hx hb hr (fun t9 ht9 hW9 => ⟨rfl, trivial, ht9.trans hHe⟩) (fun _ h9 => by rw [hlc] at h9; exact absurd h9 List.not_mem_nil) dJ0_checkIndex_df160_9
theorem dJ1_charAt_3b067_0 : decode cJ1_charAt_3b067 0 = .ok (.iload_n 1, 1) := by decide +kernel
theorem dJ1_charAt_3b067_1 : decode cJ1_charAt_3b067 1 = .ok (.aload_n 0, 1) := by decide +kernel
theorem dJ1_charAt_3b067_2 : decode cJ1_charAt_3b067 2 = .ok (.arraylength, 1) := by decide +kernel
theorem dJ1_charAt_3b067_3 : decode cJ1_charAt_3b067 3 = .ok (.invokestatic 9, 3) := by decide +kernel
theorem qq_2_177 : Cond.code yJ0_checkIndex_df160 cJ0_checkIndex_df160 2 none ∈ TB := mk_tb (ti_2 (List.mem_of_getElem? (i := 177) rfl)) rfl
theorem qq_2_175 : Cond.methodLink "java/lang/StringLatin1" 9 yJ0_checkIndex_df160 ∈ TB := mk_tb (ti_2 (List.mem_of_getElem? (i := 175) rfl)) rfl
theorem qq_2_176 : Cond.static yJ0_checkIndex_df160 ∈ TB := mk_tb (ti_2 (List.mem_of_getElem? (i := 176) rfl)) rfl
theorem dJ1_charAt_3b067_6 : decode cJ1_charAt_3b067 6 = .ok (.aload_n 0, 1) := by decide +kernel
theorem dJ1_charAt_3b067_7 : decode cJ1_charAt_3b067 7 = .ok (.iload_n 1, 1) := by decide +kernel
theorem dJ1_charAt_3b067_8 : decode cJ1_charAt_3b067 8 = .ok (.baload, 1) := by decide +kernel
theorem dJ1_charAt_3b067_9 : decode cJ1_charAt_3b067 9 = .ok (.sipush 255, 3) := by decide +kernel
theorem dJ1_charAt_3b067_12 : decode cJ1_charAt_3b067 12 = .ok (.iand, 1) := by decide +kernel
theorem dJ1_charAt_3b067_13 : decode cJ1_charAt_3b067 13 = .ok (.i2c, 1) := by decide +kernel
theorem dJ1_charAt_3b067_14 : decode cJ1_charAt_3b067 14 = .ok (.ireturn, 1) := by decide +kernel
set_option maxHeartbeats 4000000 in
set_option maxRecDepth 100000 in
theorem c_S_latin (l : Launch) (D : va_G) (cs : Nat → ClassId) (sa sv : Nat → Nat) (i : Nat) (a : Int32) (hi : i < 7) (hin : vp_in a (slen.getD i 0)) (r_a : Rg 0 2147483647 a) : Met l yJ1_charAt_3b067 (Cond.code yJ1_charAt_3b067 cJ1_charAt_3b067 2 (some .char) :: TB) (RM 2 0 0) (va_Pc [.ref (sv i), .int a] (PRX D cs (SX sa sv) [])) (QP (fun v => ∃ x : Int32, v = .int x ∧ Rg 0 65535 x)) 0 0 (fun _ => False) := by
  refine MEX (y := yJ1_charAt_3b067) (cc := cJ1_charAt_3b067) (maxL := 2) (ret := (some .char)) (d := 2) (D := D) (cs := cs) (X := SX sa sv) (ws := []) (av := [.ref (sv i), .int a]) (Qc := QP (fun v => ∃ x : Int32, v = .int x ∧ Rg 0 65535 x)) (by decide) (Nat.le_of_ble_eq_true rfl) ?_
  intro p e s m below meth c ls H hHe hx hb hr hml hown hts hlocks hP hK hN hX hXs hl
  obtain ⟨locs, hlc⟩ : ∃ z : List Loc, z = [] := ⟨_, rfl⟩
  rw [← hlc]
  have hown : s.vm.findClass "java/lang/StringLatin1" = some m.cls := hown
  have hT : ∀ w ∈ TB, w.before ([.ref (sv i), .int a] : List Value).toArray s = true := fun w h => hts w (List.mem_cons_of_mem _ h)
  have hl : lv_has ls 2 [(0, .ref (sv i)), (1, .int a)] := hl
  have hP : va_P D vwCl [] H := hP
  refine lv_iload_n hx hb dJ1_charAt_3b067_0 rfl (lv_at hl 1 rfl) ?_
  refine lv_aload_n hx hb dJ1_charAt_3b067_1 rfl (lv_at hl 0 rfl) ?_
  have hS0 : va_S (fun _ => False) s.heap H locs := by rw [hHe, hlc]; exact va_S.rf
  refine va_tlen hx hb (hXs.1.1 i hi).2.2.2 hS0 rfl dJ1_charAt_3b067_2 ?_
  have hPc := va_P.sub (ws' := []) hP [] rfl
  have hS0 : va_S (fun _ => False) s.heap H locs := by rw [hHe, hlc]; exact va_S.rf
  refine va_csv (W.runS (As := [.int a, .int (Int32.ofNat (slen.getD i 0))]) (rest := []) ⟨hx, hb, hml, hown, hts⟩ (c_S_checkIndex l D cs sa sv a (Int32.ofNat (slen.getD i 0)) (in_nI hin (slen_lt _ hi)) r_a) ⟨callB_of 2 hts (gd_C qq_2_177) rfl rfl rfl (hT _ qq_1_12) (hT _ qq_2_175) (by decide +kernel) (rm_R rfl rfl), (hT _ qq_2_176)⟩ (px_S hPc hK hN hX hXs hS0) rfl rfl hl.1 rfl (lv_room (Nat.le_of_ble_eq_true rfl)) dJ1_charAt_3b067_3 ⟨Nat.le_of_ble_eq_true rfl, Nat.le_of_ble_eq_true rfl⟩) (fun _ => ?_)
  refine lv_aload_n hx hb dJ1_charAt_3b067_6 rfl (lv_at hl 0 rfl) ?_
  refine lv_iload_n hx hb dJ1_charAt_3b067_7 rfl (lv_at hl 1 rfl) ?_
  have hS0 : va_S (fun _ => False) s.heap H locs := by rw [hHe, hlc]; exact va_S.rf
  refine va_tb hx hb (hXs.1.1 i hi).2.2.2 hS0 hin rfl dJ1_charAt_3b067_8 ?_
  refine lv_topi (fun x_1 e_2 => ?_)
  refine lv_sipush (v := 255) hx hb dJ1_charAt_3b067_9 (by decide) ?_
  refine lv_iand hx hb dJ1_charAt_3b067_12 ?_
  refine lv_topi (fun x_3 e_4 => ?_)
  have r_5 : Rg 0 255 x_3 := Rg.and e_4 (Rg.c (c := 255) (k := 255) rfl) (by decide)
  obtain ⟨x_6, e_7⟩ : ∃ z : Int32, (Int32.toUInt32 x_3 % 65536).toInt32 = z := ⟨_, rfl⟩
  refine lv_i2c (v := x_6) hx hb dJ1_charAt_3b067_13 e_7 ?_
  have r_8 : Rg 0 65535 x_6 := Rg.i2c e_7
  exact W.zret (v := x_6) (ty := .char) hx hb hr (ch_n r_8) (fun t9 ht9 hW9 => ⟨⟨_, rfl, _, rfl, r_8⟩, ht9.trans hHe⟩) (fun _ h9 => by rw [hlc] at h9; exact absurd h9 List.not_mem_nil) dJ1_charAt_3b067_14
theorem dJ0_charAt_5068e_0 : decode cJ0_charAt_5068e 0 = .ok (.aload_n 0, 1) := by decide +kernel
theorem dJ0_charAt_5068e_1 : decode cJ0_charAt_5068e 1 = .ok (.invokevirtual 492, 3) := by decide +kernel
theorem qq_2_171 : Cond.code yJ0_isLatin1_aae02 cJ0_isLatin1_aae02 1 (some .boolean) ∈ TB := mk_tb (ti_2 (List.mem_of_getElem? (i := 171) rfl)) rfl
theorem qq_2_168 : Cond.methodLink "java/lang/String" 492 yJ0_isLatin1_aae02 ∈ TB := mk_tb (ti_2 (List.mem_of_getElem? (i := 168) rfl)) rfl
theorem qq_2_169 : Cond.instanceMethod yJ0_isLatin1_aae02 ∈ TB := mk_tb (ti_2 (List.mem_of_getElem? (i := 169) rfl)) rfl
theorem qq_2_170 : Cond.selects "java/lang/String" yJ0_isLatin1_aae02 yJ0_isLatin1_aae02 ∈ TB := mk_tb (ti_2 (List.mem_of_getElem? (i := 170) rfl)) rfl
theorem dJ0_charAt_5068e_4 : decode cJ0_charAt_5068e 4 = .ok (.ifCond .eq 12, 3) := by decide +kernel
theorem dJ0_charAt_5068e_7 : decode cJ0_charAt_5068e 7 = .ok (.aload_n 0, 1) := by decide +kernel
theorem dJ0_charAt_5068e_8 : decode cJ0_charAt_5068e 8 = .ok (.getfield 9, 3) := by decide +kernel
theorem dJ0_charAt_5068e_11 : decode cJ0_charAt_5068e 11 = .ok (.iload_n 1, 1) := by decide +kernel
theorem dJ0_charAt_5068e_12 : decode cJ0_charAt_5068e 12 = .ok (.invokestatic 495, 3) := by decide +kernel
theorem qq_2_174 : Cond.code yJ1_charAt_3b067 cJ1_charAt_3b067 2 (some .char) ∈ TB := mk_tb (ti_2 (List.mem_of_getElem? (i := 174) rfl)) rfl
theorem qq_1_13 : Cond.initialized "java/lang/StringLatin1" ∈ TB := mk_tb (ti_1 (List.mem_of_getElem? (i := 13) rfl)) rfl
theorem qq_2_172 : Cond.methodLink "java/lang/String" 495 yJ1_charAt_3b067 ∈ TB := mk_tb (ti_2 (List.mem_of_getElem? (i := 172) rfl)) rfl
theorem qq_2_173 : Cond.static yJ1_charAt_3b067 ∈ TB := mk_tb (ti_2 (List.mem_of_getElem? (i := 173) rfl)) rfl
theorem dJ0_charAt_5068e_15 : decode cJ0_charAt_5068e 15 = .ok (.ireturn, 1) := by decide +kernel
set_option maxHeartbeats 4000000 in
set_option maxRecDepth 100000 in
theorem c_S_charAt (l : Launch) (D : va_G) (cs : Nat → ClassId) (sa sv : Nat → Nat) (i : Nat) (a : Int32) (hi : i < 7) (hin : vp_in a (slen.getD i 0)) (r_a : Rg 0 2147483647 a) : Met l yJ0_charAt_5068e (Cond.code yJ0_charAt_5068e cJ0_charAt_5068e 2 (some .char) :: TB) (RM 3 0 0) (va_Pc [.ref (sa i), .int a] (PRX D cs (SX sa sv) [])) (QP (fun v => ∃ x : Int32, v = .int x ∧ Rg 0 65535 x)) 0 0 (fun _ => False) := by
  refine MEX (y := yJ0_charAt_5068e) (cc := cJ0_charAt_5068e) (maxL := 2) (ret := (some .char)) (d := 3) (D := D) (cs := cs) (X := SX sa sv) (ws := []) (av := [.ref (sa i), .int a]) (Qc := QP (fun v => ∃ x : Int32, v = .int x ∧ Rg 0 65535 x)) (by decide) (Nat.le_of_ble_eq_true rfl) ?_
  intro p e s m below meth c ls H hHe hx hb hr hml hown hts hlocks hP hK hN hX hXs hl
  obtain ⟨locs, hlc⟩ : ∃ z : List Loc, z = [] := ⟨_, rfl⟩
  rw [← hlc]
  have hown : s.vm.findClass "java/lang/String" = some m.cls := hown
  have hT : ∀ w ∈ TB, w.before ([.ref (sa i), .int a] : List Value).toArray s = true := fun w h => hts w (List.mem_cons_of_mem _ h)
  have hl : lv_has ls 2 [(0, .ref (sa i)), (1, .int a)] := hl
  have hP : va_P D vwCl [] H := hP
  refine lv_aload_n hx hb dJ0_charAt_5068e_0 rfl (lv_at hl 0 rfl) ?_
  have hPc := va_P.sub (ws' := []) hP [] rfl
  have hS0 : va_S (fun _ => False) s.heap H locs := by rw [hHe, hlc]; exact va_S.rf
  refine cl_V (W.runV (As := []) (rest := []) ⟨hx, hb, hml, hown, hts⟩ (c_S_isLatin1 l D cs sa sv i hi) ⟨callB_of 0 hts (gd_C qq_2_171) rfl rfl rfl (hT _ qq_1_12) (hT _ qq_2_168) (by decide +kernel) (rm_R rfl rfl), (hT _ qq_2_169), (hT _ qq_2_170)⟩ (px_T hPc hK hN hX hXs hS0 (i := i) hi) rfl rfl hl.1 rfl (lv_room (Nat.le_of_ble_eq_true rfl)) dJ0_charAt_5068e_1 ⟨Nat.le_of_ble_eq_true rfl, Nat.le_of_ble_eq_true rfl⟩) ?_
  refine lv_if_eq (tgt := 16) hx hb dJ0_charAt_5068e_4 (by decide) (fun c_1 => False.elim (Rg.no_eq c_1 (Rg.c (c := 1) (k := 1) rfl) (Rg.c (c := 0) (k := 0) rfl) (by decide))) (fun c_1 => ?_)
  refine lv_aload_n hx hb dJ0_charAt_5068e_7 rfl (lv_at hl 0 rfl) ?_
  have hS0 : va_S (fun _ => False) s.heap H locs := by rw [hHe, hlc]; exact va_S.rf
  refine vk_getf hx hb (hXs.1.1 i hi).2.2.1 hS0 hown (hT _ qq_8_104) (fun _ h9 => h9) dJ0_charAt_5068e_8 ?_
  refine lv_iload_n hx hb dJ0_charAt_5068e_11 rfl (lv_at hl 1 rfl) ?_
  have hPc := va_P.sub (ws' := []) hP [] rfl
  have hS0 : va_S (fun _ => False) s.heap H locs := by rw [hHe, hlc]; exact va_S.rf
  refine cl_P (W.runS (As := [.ref (sv i), .int a]) (rest := []) ⟨hx, hb, hml, hown, hts⟩ (c_S_latin l D cs sa sv i a hi hin r_a) ⟨callB_of 2 hts (gd_C qq_2_174) rfl rfl rfl (hT _ qq_1_13) (hT _ qq_2_172) (by decide +kernel) (rm_R rfl rfl), (hT _ qq_2_173)⟩ (px_S hPc hK hN hX hXs hS0) rfl rfl hl.1 rfl (lv_room (Nat.le_of_ble_eq_true rfl)) dJ0_charAt_5068e_12 ⟨Nat.le_of_ble_eq_true rfl, Nat.le_of_ble_eq_true rfl⟩) (fun v9 hz_3 => ?_)
  obtain ⟨x_2, rfl, r_4⟩ := hz_3
  exact W.zret (v := x_2) (ty := .char) hx hb hr (ch_n r_4) (fun t9 ht9 hW9 => ⟨⟨_, rfl, _, rfl, r_4⟩, ht9.trans hHe⟩) (fun _ h9 => by rw [hlc] at h9; exact absurd h9 List.not_mem_nil) dJ0_charAt_5068e_15
theorem dX9_whichWord_0 : decode cX9_whichWord 0 = .ok (.aload_n 0, 1) := by decide +kernel
theorem dX9_whichWord_1 : decode cX9_whichWord 1 = .ok (.getfield 34, 3) := by decide +kernel
theorem dX9_whichWord_4 : decode cX9_whichWord 4 = .ok (.sipush 257, 3) := by decide +kernel
theorem dX9_whichWord_7 : decode cX9_whichWord 7 = .ok (.if_icmp .eq 5, 3) := by decide +kernel
theorem dX9_whichWord_12 : decode cX9_whichWord 12 = .ok (.iconst 0, 1) := by decide +kernel
theorem dX9_whichWord_13 : decode cX9_whichWord 13 = .ok (.istore_n 2, 1) := by decide +kernel
theorem dX9_whichWord_14 : decode cX9_whichWord 14 = .ok (.aload_n 0, 1) := by decide +kernel
theorem dX9_whichWord_15 : decode cX9_whichWord 15 = .ok (.getfield 28, 3) := by decide +kernel
theorem dX9_whichWord_18 : decode cX9_whichWord 18 = .ok (.istore_n 3, 1) := by decide +kernel
theorem dX9_whichWord_19 : decode cX9_whichWord 19 = .ok (.iconst 1, 1) := by decide +kernel
theorem dX9_whichWord_20 : decode cX9_whichWord 20 = .ok (.istore 4, 2) := by decide +kernel
theorem dX9_whichWord_22 : decode cX9_whichWord 22 = .ok (.iconst 0, 1) := by decide +kernel
theorem dX9_whichWord_23 : decode cX9_whichWord 23 = .ok (.istore 5, 2) := by decide +kernel
theorem dX9_whichWord_25 : decode cX9_whichWord 25 = .ok (.iload 5, 2) := by decide +kernel
theorem dX9_whichWord_27 : decode cX9_whichWord 27 = .ok (.aload_n 1, 1) := by decide +kernel
theorem dX9_whichWord_28 : decode cX9_whichWord 28 = .ok (.invokevirtual 54, 3) := by decide +kernel
theorem qq_2_157 : Cond.code yJ0_length_8abf5 cJ0_length_8abf5 1 (some .int) ∈ TB := mk_tb (ti_2 (List.mem_of_getElem? (i := 157) rfl)) rfl
theorem qq_2_154 : Cond.methodLink "WrongHole$Text" 54 yJ0_length_8abf5 ∈ TB := mk_tb (ti_2 (List.mem_of_getElem? (i := 154) rfl)) rfl
theorem qq_2_155 : Cond.instanceMethod yJ0_length_8abf5 ∈ TB := mk_tb (ti_2 (List.mem_of_getElem? (i := 155) rfl)) rfl
theorem qq_2_156 : Cond.selects "java/lang/String" yJ0_length_8abf5 yJ0_length_8abf5 ∈ TB := mk_tb (ti_2 (List.mem_of_getElem? (i := 156) rfl)) rfl
theorem dX9_whichWord_31 : decode cX9_whichWord 31 = .ok (.if_icmp .gt 90, 3) := by decide +kernel
theorem dX9_whichWord_121 : decode cX9_whichWord 121 = .ok (.iconst (-1), 1) := by decide +kernel
theorem dX9_whichWord_122 : decode cX9_whichWord 122 = .ok (.ireturn, 1) := by decide +kernel
theorem dX9_whichWord_34 : decode cX9_whichWord 34 = .ok (.iload 5, 2) := by decide +kernel
theorem dX9_whichWord_36 : decode cX9_whichWord 36 = .ok (.aload_n 1, 1) := by decide +kernel
theorem dX9_whichWord_37 : decode cX9_whichWord 37 = .ok (.invokevirtual 54, 3) := by decide +kernel
theorem dX9_whichWord_40 : decode cX9_whichWord 40 = .ok (.if_icmp .eq 14, 3) := by decide +kernel
theorem dX9_whichWord_54 : decode cX9_whichWord 54 = .ok (.iload 4, 2) := by decide +kernel
theorem dX9_whichWord_56 : decode cX9_whichWord 56 = .ok (.ifCond .eq 13, 3) := by decide +kernel
theorem dX9_whichWord_69 : decode cX9_whichWord 69 = .ok (.iinc 2 1, 3) := by decide +kernel
theorem dX9_whichWord_72 : decode cX9_whichWord 72 = .ok (.aload_n 0, 1) := by decide +kernel
theorem dX9_whichWord_73 : decode cX9_whichWord 73 = .ok (.getfield 28, 3) := by decide +kernel
theorem dX9_whichWord_76 : decode cX9_whichWord 76 = .ok (.istore_n 3, 1) := by decide +kernel
theorem dX9_whichWord_77 : decode cX9_whichWord 77 = .ok (.iconst 1, 1) := by decide +kernel
theorem dX9_whichWord_78 : decode cX9_whichWord 78 = .ok (.istore 4, 2) := by decide +kernel
theorem dX9_whichWord_80 : decode cX9_whichWord 80 = .ok (.goto 35, 3) := by decide +kernel
theorem dX9_whichWord_115 : decode cX9_whichWord 115 = .ok (.iinc 5 1, 3) := by decide +kernel
theorem dX9_whichWord_118 : decode cX9_whichWord 118 = .ok (.goto (-93), 3) := by decide +kernel
theorem dX9_whichWord_59 : decode cX9_whichWord 59 = .ok (.iload_n 3, 1) := by decide +kernel
theorem dX9_whichWord_60 : decode cX9_whichWord 60 = .ok (.aload_n 0, 1) := by decide +kernel
theorem dX9_whichWord_61 : decode cX9_whichWord 61 = .ok (.getfield 22, 3) := by decide +kernel
theorem dX9_whichWord_64 : decode cX9_whichWord 64 = .ok (.if_icmp .ne 5, 3) := by decide +kernel
theorem dX9_whichWord_67 : decode cX9_whichWord 67 = .ok (.iload_n 2, 1) := by decide +kernel
theorem dX9_whichWord_68 : decode cX9_whichWord 68 = .ok (.ireturn, 1) := by decide +kernel
theorem dX9_whichWord_43 : decode cX9_whichWord 43 = .ok (.aload_n 1, 1) := by decide +kernel
theorem dX9_whichWord_44 : decode cX9_whichWord 44 = .ok (.iload 5, 2) := by decide +kernel
theorem dX9_whichWord_46 : decode cX9_whichWord 46 = .ok (.invokevirtual 59, 3) := by decide +kernel
theorem qq_2_167 : Cond.code yJ0_charAt_5068e cJ0_charAt_5068e 2 (some .char) ∈ TB := mk_tb (ti_2 (List.mem_of_getElem? (i := 167) rfl)) rfl
theorem qq_2_164 : Cond.methodLink "WrongHole$Text" 59 yJ0_charAt_5068e ∈ TB := mk_tb (ti_2 (List.mem_of_getElem? (i := 164) rfl)) rfl
theorem qq_2_165 : Cond.instanceMethod yJ0_charAt_5068e ∈ TB := mk_tb (ti_2 (List.mem_of_getElem? (i := 165) rfl)) rfl
theorem qq_2_166 : Cond.selects "java/lang/String" yJ0_charAt_5068e yJ0_charAt_5068e ∈ TB := mk_tb (ti_2 (List.mem_of_getElem? (i := 166) rfl)) rfl
theorem dX9_whichWord_49 : decode cX9_whichWord 49 = .ok (.bipush 32, 2) := by decide +kernel
theorem dX9_whichWord_51 : decode cX9_whichWord 51 = .ok (.if_icmp .ne 32, 3) := by decide +kernel
theorem dX9_whichWord_83 : decode cX9_whichWord 83 = .ok (.iload_n 3, 1) := by decide +kernel
theorem dX9_whichWord_84 : decode cX9_whichWord 84 = .ok (.aload_n 0, 1) := by decide +kernel
theorem dX9_whichWord_85 : decode cX9_whichWord 85 = .ok (.getfield 22, 3) := by decide +kernel
theorem dX9_whichWord_88 : decode cX9_whichWord 88 = .ok (.if_icmp .ge 24, 3) := by decide +kernel
theorem dX9_whichWord_112 : decode cX9_whichWord 112 = .ok (.iconst 0, 1) := by decide +kernel
theorem dX9_whichWord_113 : decode cX9_whichWord 113 = .ok (.istore 4, 2) := by decide +kernel
theorem dX9_whichWord_91 : decode cX9_whichWord 91 = .ok (.aload_n 0, 1) := by decide +kernel
theorem dX9_whichWord_92 : decode cX9_whichWord 92 = .ok (.getfield 11, 3) := by decide +kernel
theorem dX9_whichWord_95 : decode cX9_whichWord 95 = .ok (.iload_n 3, 1) := by decide +kernel
theorem dX9_whichWord_96 : decode cX9_whichWord 96 = .ok (.caload, 1) := by decide +kernel
theorem dX9_whichWord_97 : decode cX9_whichWord 97 = .ok (.aload_n 1, 1) := by decide +kernel
theorem dX9_whichWord_98 : decode cX9_whichWord 98 = .ok (.iload 5, 2) := by decide +kernel
theorem dX9_whichWord_100 : decode cX9_whichWord 100 = .ok (.invokevirtual 59, 3) := by decide +kernel
theorem dX9_whichWord_103 : decode cX9_whichWord 103 = .ok (.if_icmp .ne 9, 3) := by decide +kernel
theorem dX9_whichWord_106 : decode cX9_whichWord 106 = .ok (.iinc 3 1, 3) := by decide +kernel
theorem dX9_whichWord_109 : decode cX9_whichWord 109 = .ok (.goto 6, 3) := by decide +kernel
theorem dX9_whichWord_10 : decode cX9_whichWord 10 = .ok (.iconst (-1), 1) := by decide +kernel
theorem dX9_whichWord_11 : decode cX9_whichWord 11 = .ok (.ireturn, 1) := by decide +kernel
set_option maxHeartbeats 4000000 in
set_option maxRecDepth 100000 in
theorem c_Text_whichWord_0 (l : Launch) (D : va_G) (cs : Nat → ClassId) (sa sv : Nat → Nat) (ht : Nat) (hs : Nat) (tl : Int32) (tk : Int32) (tp : Int32) (tb : Int32) (tv : Int32) (tn : Int32) (tf : Int32) (gt : Nat → Int32) (r_tl : Rg 0 400 tl) (r_tp : Rg 0 400 tp) (r_tb : Rg 0 400 tb) : Met l yX9_whichWord (Cond.code yX9_whichWord cX9_whichWord 6 (some .int) :: TB) (RM 4 0 0) (va_Pc [.ref ht, .ref (sa 0)] (PRX D cs (SX sa sv) [(ht, .inr (7, [.ref hs, .int tl, .int tk, .int tp, .int tb, .int tv, .int tn, .int tf])), (hs, .inl ((cs 1), 400, .inl gt))])) (QP (fun v => ∃ x : Int32, v = .int x)) 0 0 (fun _ => False) := by
  refine MEX (y := yX9_whichWord) (cc := cX9_whichWord) (maxL := 6) (ret := (some .int)) (d := 4) (D := D) (cs := cs) (X := SX sa sv) (ws := [(ht, .inr (7, [.ref hs, .int tl, .int tk, .int tp, .int tb, .int tv, .int tn, .int tf])), (hs, .inl ((cs 1), 400, .inl gt))]) (av := [.ref ht, .ref (sa 0)]) (Qc := QP (fun v => ∃ x : Int32, v = .int x)) (by decide) (Nat.le_of_ble_eq_true rfl) ?_
  intro p e s m below meth c ls H hHe hx hb hr hml hown hts hlocks hP hK hN hX hXs hl
  obtain ⟨locs, hlc⟩ : ∃ z : List Loc, z = [] := ⟨_, rfl⟩
  rw [← hlc]
  have hown : s.vm.findClass "WrongHole$Text" = some m.cls := hown
  have hT : ∀ w ∈ TB, w.before ([.ref ht, .ref (sa 0)] : List Value).toArray s = true := fun w h => hts w (List.mem_cons_of_mem _ h)
  have hl : lv_has ls 6 [(0, .ref ht), (1, .ref (sa 0))] := hl
  have hP : va_P D vwCl [(ht, .inr (7, [.ref hs, .int tl, .int tk, .int tp, .int tb, .int tv, .int tn, .int tf])), (hs, .inl ((cs 1), 400, .inl gt))] H := hP
  refine lv_aload_n hx hb dX9_whichWord_0 rfl (lv_at hl 0 rfl) ?_
  refine va_get (D := D) (ci := 7) (v := .int tk) (C := "WrongHole$Text") (T := TX9) (N := 8) hx hb hts (iq_RX9 _) hown hK hP 0 rfl rfl 2 (by decide) (hT _ qq_1_41) (fun _ h9 => h9) rfl dX9_whichWord_1 ?_
  refine lv_sipush (v := 257) hx hb dX9_whichWord_4 (by decide) ?_
  refine lv_icmp_eq (tgt := 12) hx hb dX9_whichWord_7 (by decide) (fun c_1 => ?_) (fun c_1 => ?_)
  · have r_2 : Rg 257 257 tk := Rg.eq_l c_1 (Rg.top tk) (Rg.c (c := 257) (k := 257) rfl) (by decide)
    refine lv_iconst (v := 0) hx hb dX9_whichWord_12 (by decide) ?_
    refine lv_istore_n (lv' := [(2, .int 0), (0, .ref ht), (1, .ref (sa 0))]) hx hb dX9_whichWord_13 rfl hl (by decide) rfl (fun ls hl => ?_)
    refine lv_aload_n hx hb dX9_whichWord_14 rfl (lv_at hl 1 rfl) ?_
    refine va_get (D := D) (ci := 7) (v := .int tp) (C := "WrongHole$Text") (T := TX9) (N := 8) hx hb hts (iq_RX9 _) hown hK hP 0 rfl rfl 3 (by decide) (hT _ qq_1_42) (fun _ h9 => h9) rfl dX9_whichWord_15 ?_
    refine lv_istore_n (lv' := [(3, .int tp), (2, .int 0), (0, .ref ht), (1, .ref (sa 0))]) hx hb dX9_whichWord_18 rfl hl (by decide) rfl (fun ls hl => ?_)
    refine lv_iconst (v := 1) hx hb dX9_whichWord_19 (by decide) ?_
    refine lv_istore (lv' := [(4, .int 1), (3, .int tp), (2, .int 0), (0, .ref ht), (1, .ref (sa 0))]) hx hb dX9_whichWord_20 hl (by decide) rfl (fun ls hl => ?_)
    refine lv_iconst (v := 0) hx hb dX9_whichWord_22 (by decide) ?_
    refine lv_istore (lv' := [(5, .int 0), (4, .int 1), (3, .int tp), (2, .int 0), (0, .ref ht), (1, .ref (sa 0))]) hx hb dX9_whichWord_23 hl (by decide) rfl (fun ls hl => ?_)
    refine w_wh (σ := (Int32) × (Int32) × (Int32) × (Int32)) (fun x9 H locs ls => match x9 with | (v_37, v_38, v_39, v_40) => Rg 0 63 v_37 ∧ Rg 0 1 v_38 ∧ Rg 0 400 v_39 ∧ H = s.heap ∧ locs = [] ∧ va_P D vwCl [(ht, .inr (7, [.ref hs, .int tl, .int tk, .int tp, .int tb, .int tv, .int tn, .int tf])), (hs, .inl ((cs 1), 400, .inl gt))] H ∧ lv_has ls 6 [(5, .int v_37), (4, .int v_38), (3, .int v_39), (2, .int v_40), (0, .ref ht), (1, .ref (sa 0))]) (fun x9 => match x9 with | (v_37, v_38, v_39, v_40) => (63 - Int32.toInt v_37).toNat) 25 ?_ (0, 1, tp, 0) H locs ls ⟨(Rg.wk (lo2 := 0) (hi2 := 63) (Rg.c (c := 0) (k := 0) rfl) (by decide)), (Rg.wk (lo2 := 0) (hi2 := 1) (Rg.c (c := 1) (k := 1) rfl) (by decide)), r_tp, hHe, hlc, hP, lv_sub hl [0, 1, 2, 3, 4, 5] rfl⟩
    rintro ⟨v_37, v_38, v_39, v_40⟩ H locs ls ⟨r_979, r_980, r_981, hHe, hlc, hP, hl⟩ ih_978
    refine lv_iload hx hb dX9_whichWord_25 (lv_at hl 0 rfl) ?_
    refine lv_aload_n hx hb dX9_whichWord_27 rfl (lv_at hl 5 rfl) ?_
    have hPc := va_P.sub (ws' := []) hP [] rfl
    have hS0 : va_S (fun _ => False) s.heap H locs := by rw [hHe, hlc]; exact va_S.rf
    refine cl_V (W.runV (As := []) (rest := [.int v_37]) ⟨hx, hb, hml, hown, hts⟩ (c_S_length l D cs sa sv 0 (by decide)) ⟨callB_of 0 hts (gd_C qq_2_157) rfl rfl rfl (hT _ qq_1_12) (hT _ qq_2_154) (by decide +kernel) (rm_R rfl rfl), (hT _ qq_2_155), (hT _ qq_2_156)⟩ (px_T hPc hK hN hX hXs hS0 (i := 0) (by decide)) rfl rfl hl.1 rfl (lv_room (Nat.le_of_ble_eq_true rfl)) dX9_whichWord_28 ⟨Nat.le_of_ble_eq_true rfl, Nat.le_of_ble_eq_true rfl⟩) ?_
    refine tc_i 62 rfl ?_
    refine lv_icmp_gt (tgt := 121) hx hb dX9_whichWord_31 (by decide) (fun c_982 => ?_) (fun c_982 => ?_)
    · have r_983 : Rg 63 63 v_37 := Rg.lt_r c_982 (Rg.c (c := 62) (k := 62) rfl) r_979 (by decide)
      refine lv_iconst (v := (-1)) hx hb dX9_whichWord_121 (by decide) ?_
      exact W.iret (v := (-1)) hx hb hr (fun t9 ht9 hW9 => ⟨⟨_, rfl, _, rfl⟩, ht9.trans hHe⟩) (fun _ h9 => by rw [hlc] at h9; exact absurd h9 List.not_mem_nil) dX9_whichWord_122
    · have r_984 : Rg 0 62 v_37 := Rg.le_l (nlt_le c_982) r_979 (Rg.c (c := 62) (k := 62) rfl) (by decide)
      refine lv_iload hx hb dX9_whichWord_34 (lv_at hl 0 rfl) ?_
      refine lv_aload_n hx hb dX9_whichWord_36 rfl (lv_at hl 5 rfl) ?_
      have hPc := va_P.sub (ws' := []) hP [] rfl
      have hS0 : va_S (fun _ => False) s.heap H locs := by rw [hHe, hlc]; exact va_S.rf
      refine cl_V (W.runV (As := []) (rest := [.int v_37]) ⟨hx, hb, hml, hown, hts⟩ (c_S_length l D cs sa sv 0 (by decide)) ⟨callB_of 0 hts (gd_C qq_2_157) rfl rfl rfl (hT _ qq_1_12) (hT _ qq_2_154) (by decide +kernel) (rm_R rfl rfl), (hT _ qq_2_155), (hT _ qq_2_156)⟩ (px_T hPc hK hN hX hXs hS0 (i := 0) (by decide)) rfl rfl hl.1 rfl (lv_room (Nat.le_of_ble_eq_true rfl)) dX9_whichWord_37 ⟨Nat.le_of_ble_eq_true rfl, Nat.le_of_ble_eq_true rfl⟩) ?_
      refine tc_i 62 rfl ?_
      refine lv_icmp_eq (tgt := 54) hx hb dX9_whichWord_40 (by decide) (fun c_985 => ?_) (fun c_985 => ?_)
      · have r_986 : Rg 62 62 v_37 := Rg.eq_l c_985 r_984 (Rg.c (c := 62) (k := 62) rfl) (by decide)
        refine lv_iload hx hb dX9_whichWord_54 (lv_at hl 1 rfl) ?_
        refine lv_if_eq (tgt := 69) hx hb dX9_whichWord_56 (by decide) (fun c_988 => ?_) (fun c_988 => ?_)
        · have r_989 : Rg 0 0 v_38 := Rg.eq_l c_988 r_980 (Rg.c (c := 0) (k := 0) rfl) (by decide)
          obtain ⟨x_991, e_992⟩ : ∃ z : Int32, z = v_40 + Int32.ofInt 1 := ⟨_, rfl⟩
          refine lv_iinc (v := x_991) (lv' := [(2, .int x_991), (5, .int v_37), (4, .int v_38), (3, .int v_39), (0, .ref ht), (1, .ref (sa 0))]) hx hb dX9_whichWord_69 hl (k := 3) rfl (e_992.symm) (by decide) rfl (fun ls hl => ?_)
          refine lv_aload_n hx hb dX9_whichWord_72 rfl (lv_at hl 4 rfl) ?_
          refine va_get (D := D) (ci := 7) (v := .int tp) (C := "WrongHole$Text") (T := TX9) (N := 8) hx hb hts (iq_RX9 _) hown hK hP 0 rfl rfl 3 (by decide) (hT _ qq_1_42) (fun _ h9 => h9) rfl dX9_whichWord_73 ?_
          refine lv_istore_n (lv' := [(3, .int tp), (2, .int x_991), (5, .int v_37), (4, .int v_38), (0, .ref ht), (1, .ref (sa 0))]) hx hb dX9_whichWord_76 rfl hl (by decide) rfl (fun ls hl => ?_)
          refine lv_iconst (v := 1) hx hb dX9_whichWord_77 (by decide) ?_
          refine lv_istore (lv' := [(4, .int 1), (3, .int tp), (2, .int x_991), (5, .int v_37), (0, .ref ht), (1, .ref (sa 0))]) hx hb dX9_whichWord_78 hl (by decide) rfl (fun ls hl => ?_)
          refine lv_goto (tgt := 115) hx hb dX9_whichWord_80 (by decide) ?_
          obtain ⟨x_993, e_994⟩ : ∃ z : Int32, z = v_37 + Int32.ofInt 1 := ⟨_, rfl⟩
          have r_995 : Rg 63 63 x_993 := Rg.add e_994 r_986 (Rg.c (c := Int32.ofInt 1) (k := 1) rfl) (by decide)
          refine lv_iinc (v := x_993) (lv' := [(5, .int x_993), (4, .int 1), (3, .int tp), (2, .int x_991), (0, .ref ht), (1, .ref (sa 0))]) hx hb dX9_whichWord_115 hl (k := 3) rfl (e_994.symm) (by decide) rfl (fun ls hl => ?_)
          refine lv_goto (tgt := 25) hx hb dX9_whichWord_118 (by decide) ?_
          exact ih_978 (x_993, 1, tp, x_991) _ _ _ ⟨(Rg.wk (lo2 := 0) (hi2 := 63) r_995 (by decide)), (Rg.wk (lo2 := 0) (hi2 := 1) (Rg.c (c := 1) (k := 1) rfl) (by decide)), r_tp, hHe, hlc, hP, lv_sub hl [0, 1, 2, 3, 4, 5] rfl⟩ (ms_up e_994 r_986 (Rg.c (c := Int32.ofInt 1) (k := 1) rfl) (by decide))
        · have r_990 : Rg 1 1 v_38 := Rg.ne c_988 r_980 (Rg.c (c := 0) (k := 0) rfl) (by decide)
          refine lv_iload_n hx hb dX9_whichWord_59 rfl (lv_at hl 2 rfl) ?_
          refine lv_aload_n hx hb dX9_whichWord_60 rfl (lv_at hl 4 rfl) ?_
          refine va_get (D := D) (ci := 7) (v := .int tb) (C := "WrongHole$Text") (T := TX9) (N := 8) hx hb hts (iq_RX9 _) hown hK hP 0 rfl rfl 4 (by decide) (hT _ qq_1_43) (fun _ h9 => h9) rfl dX9_whichWord_61 ?_
          refine lv_icmp_ne (tgt := 69) hx hb dX9_whichWord_64 (by decide) (fun c_996 => ?_) (fun c_996 => ?_)
          · obtain ⟨x_997, e_998⟩ : ∃ z : Int32, z = v_40 + Int32.ofInt 1 := ⟨_, rfl⟩
            refine lv_iinc (v := x_997) (lv' := [(2, .int x_997), (5, .int v_37), (4, .int v_38), (3, .int v_39), (0, .ref ht), (1, .ref (sa 0))]) hx hb dX9_whichWord_69 hl (k := 3) rfl (e_998.symm) (by decide) rfl (fun ls hl => ?_)
            refine lv_aload_n hx hb dX9_whichWord_72 rfl (lv_at hl 4 rfl) ?_
            refine va_get (D := D) (ci := 7) (v := .int tp) (C := "WrongHole$Text") (T := TX9) (N := 8) hx hb hts (iq_RX9 _) hown hK hP 0 rfl rfl 3 (by decide) (hT _ qq_1_42) (fun _ h9 => h9) rfl dX9_whichWord_73 ?_
            refine lv_istore_n (lv' := [(3, .int tp), (2, .int x_997), (5, .int v_37), (4, .int v_38), (0, .ref ht), (1, .ref (sa 0))]) hx hb dX9_whichWord_76 rfl hl (by decide) rfl (fun ls hl => ?_)
            refine lv_iconst (v := 1) hx hb dX9_whichWord_77 (by decide) ?_
            refine lv_istore (lv' := [(4, .int 1), (3, .int tp), (2, .int x_997), (5, .int v_37), (0, .ref ht), (1, .ref (sa 0))]) hx hb dX9_whichWord_78 hl (by decide) rfl (fun ls hl => ?_)
            refine lv_goto (tgt := 115) hx hb dX9_whichWord_80 (by decide) ?_
            obtain ⟨x_999, e_1000⟩ : ∃ z : Int32, z = v_37 + Int32.ofInt 1 := ⟨_, rfl⟩
            have r_1001 : Rg 63 63 x_999 := Rg.add e_1000 r_986 (Rg.c (c := Int32.ofInt 1) (k := 1) rfl) (by decide)
            refine lv_iinc (v := x_999) (lv' := [(5, .int x_999), (4, .int 1), (3, .int tp), (2, .int x_997), (0, .ref ht), (1, .ref (sa 0))]) hx hb dX9_whichWord_115 hl (k := 3) rfl (e_1000.symm) (by decide) rfl (fun ls hl => ?_)
            refine lv_goto (tgt := 25) hx hb dX9_whichWord_118 (by decide) ?_
            exact ih_978 (x_999, 1, tp, x_997) _ _ _ ⟨(Rg.wk (lo2 := 0) (hi2 := 63) r_1001 (by decide)), (Rg.wk (lo2 := 0) (hi2 := 1) (Rg.c (c := 1) (k := 1) rfl) (by decide)), r_tp, hHe, hlc, hP, lv_sub hl [0, 1, 2, 3, 4, 5] rfl⟩ (ms_up e_1000 r_986 (Rg.c (c := Int32.ofInt 1) (k := 1) rfl) (by decide))
          · refine lv_iload_n hx hb dX9_whichWord_67 rfl (lv_at hl 3 rfl) ?_
            exact W.iret (v := v_40) hx hb hr (fun t9 ht9 hW9 => ⟨⟨_, rfl, _, rfl⟩, ht9.trans hHe⟩) (fun _ h9 => by rw [hlc] at h9; exact absurd h9 List.not_mem_nil) dX9_whichWord_68
      · have r_987 : Rg 0 61 v_37 := Rg.ne c_985 r_984 (Rg.c (c := 62) (k := 62) rfl) (by decide)
        refine lv_aload_n hx hb dX9_whichWord_43 rfl (lv_at hl 5 rfl) ?_
        refine lv_iload hx hb dX9_whichWord_44 (lv_at hl 0 rfl) ?_
        have hPc := va_P.sub (ws' := []) hP [] rfl
        have hS0 : va_S (fun _ => False) s.heap H locs := by rw [hHe, hlc]; exact va_S.rf
        refine cl_P (W.runV (As := [.int v_37]) (rest := []) ⟨hx, hb, hml, hown, hts⟩ (c_S_charAt l D cs sa sv 0 v_37 (by decide) (Rg.in r_987 (by decide)) (Rg.wk (lo2 := 0) (hi2 := 2147483647) r_987 (by decide))) ⟨callB_of 1 hts (gd_C qq_2_167) rfl rfl rfl (hT _ qq_1_12) (hT _ qq_2_164) (by decide +kernel) (rm_R rfl rfl), (hT _ qq_2_165), (hT _ qq_2_166)⟩ (px_T hPc hK hN hX hXs hS0 (i := 0) (by decide)) rfl rfl hl.1 rfl (lv_room (Nat.le_of_ble_eq_true rfl)) dX9_whichWord_46 ⟨Nat.le_of_ble_eq_true rfl, Nat.le_of_ble_eq_true rfl⟩) (fun v9 hz_1003 => ?_)
        obtain ⟨x_1002, rfl, r_1004⟩ := hz_1003
        refine lv_bipush (v := 32) hx hb dX9_whichWord_49 (by decide) ?_
        refine lv_icmp_ne (tgt := 83) hx hb dX9_whichWord_51 (by decide) (fun c_1005 => ?_) (fun c_1005 => ?_)
        · refine lv_iload_n hx hb dX9_whichWord_83 rfl (lv_at hl 2 rfl) ?_
          refine lv_aload_n hx hb dX9_whichWord_84 rfl (lv_at hl 4 rfl) ?_
          refine va_get (D := D) (ci := 7) (v := .int tb) (C := "WrongHole$Text") (T := TX9) (N := 8) hx hb hts (iq_RX9 _) hown hK hP 0 rfl rfl 4 (by decide) (hT _ qq_1_43) (fun _ h9 => h9) rfl dX9_whichWord_85 ?_
          refine w_cut (σ := (Int32) × (Int32)) (fun x9 H locs ls => match x9 with | (v_1020, v_1021) => Rg 0 1 v_1020 ∧ Rg 0 400 v_1021 ∧ H = s.heap ∧ locs = [] ∧ va_P D vwCl [(ht, .inr (7, [.ref hs, .int tl, .int tk, .int tp, .int tb, .int tv, .int tn, .int tf])), (hs, .inl ((cs 1), 400, .inl gt))] H ∧ lv_has ls 6 [(4, .int v_1020), (5, .int v_37), (3, .int v_1021), (2, .int v_40), (0, .ref ht), (1, .ref (sa 0))]) 115 (fun x9 => match x9 with | (v_1020, v_1021) => []) ?_ (fun hj_1022 => ?_)
          · rintro ⟨v_1020, v_1021⟩ H locs ls ⟨r_1023, r_1024, hHe, hlc, hP, hl⟩
            obtain ⟨x_1025, e_1026⟩ : ∃ z : Int32, z = v_37 + Int32.ofInt 1 := ⟨_, rfl⟩
            have r_1027 : Rg 1 62 x_1025 := Rg.add e_1026 r_987 (Rg.c (c := Int32.ofInt 1) (k := 1) rfl) (by decide)
            refine lv_iinc (v := x_1025) (lv' := [(5, .int x_1025), (4, .int v_1020), (3, .int v_1021), (2, .int v_40), (0, .ref ht), (1, .ref (sa 0))]) hx hb dX9_whichWord_115 hl (k := 1) rfl (e_1026.symm) (by decide) rfl (fun ls hl => ?_)
            refine lv_goto (tgt := 25) hx hb dX9_whichWord_118 (by decide) ?_
            exact ih_978 (x_1025, v_1020, v_1021, v_40) _ _ _ ⟨(Rg.wk (lo2 := 0) (hi2 := 63) r_1027 (by decide)), r_1023, r_1024, hHe, hlc, hP, lv_sub hl [0, 1, 2, 3, 4, 5] rfl⟩ (ms_up e_1026 r_987 (Rg.c (c := Int32.ofInt 1) (k := 1) rfl) (by decide))
          · refine lv_icmp_ge (tgt := 112) hx hb dX9_whichWord_88 (by decide) (fun c_1007 => ?_) (fun c_1007 => ?_)
            · refine lv_iconst (v := 0) hx hb dX9_whichWord_112 (by decide) ?_
              refine lv_istore (lv' := [(4, .int 0), (5, .int v_37), (3, .int v_39), (2, .int v_40), (0, .ref ht), (1, .ref (sa 0))]) hx hb dX9_whichWord_113 hl (by decide) rfl (fun ls hl => ?_)
              exact hj_1022 (0, v_39) _ _ _ ⟨(Rg.wk (lo2 := 0) (hi2 := 1) (Rg.c (c := 0) (k := 0) rfl) (by decide)), r_981, hHe, hlc, hP, lv_sub hl [0, 1, 2, 3, 4, 5] rfl⟩
            · have r_1008 : Rg 0 399 v_39 := Rg.lt_l (nle_lt c_1007) r_981 r_tb (by decide)
              have r_1009 : Rg 1 400 tb := Rg.lt_r (nle_lt c_1007) r_981 r_tb (by decide)
              refine lv_aload_n hx hb dX9_whichWord_91 rfl (lv_at hl 4 rfl) ?_
              refine va_get (D := D) (ci := 7) (v := .ref hs) (C := "WrongHole$Text") (T := TX9) (N := 8) hx hb hts (iq_RX9 _) hown hK hP 0 rfl rfl 0 (by decide) (hT _ qq_1_36) (fun _ h9 => h9) rfl dX9_whichWord_92 ?_
              refine lv_iload_n hx hb dX9_whichWord_95 rfl (lv_at hl 2 rfl) ?_
              have hi_1028 : vp_in v_39 400 := Rg.in r_1008 (by decide)
              refine va_cald hx hb hK hP 1 1 rfl rfl hi_1028 dX9_whichWord_96 ?_
              refine lv_topi (fun x_1029 e_1030 => ?_)
              refine lv_aload_n hx hb dX9_whichWord_97 rfl (lv_at hl 5 rfl) ?_
              refine lv_iload hx hb dX9_whichWord_98 (lv_at hl 0 rfl) ?_
              have hPc := va_P.sub (ws' := []) hP [] rfl
              have hS0 : va_S (fun _ => False) s.heap H locs := by rw [hHe, hlc]; exact va_S.rf
              refine cl_P (W.runV (As := [.int v_37]) (rest := [.int x_1029]) ⟨hx, hb, hml, hown, hts⟩ (c_S_charAt l D cs sa sv 0 v_37 (by decide) (Rg.in r_987 (by decide)) (Rg.wk (lo2 := 0) (hi2 := 2147483647) r_987 (by decide))) ⟨callB_of 1 hts (gd_C qq_2_167) rfl rfl rfl (hT _ qq_1_12) (hT _ qq_2_164) (by decide +kernel) (rm_R rfl rfl), (hT _ qq_2_165), (hT _ qq_2_166)⟩ (px_T hPc hK hN hX hXs hS0 (i := 0) (by decide)) rfl rfl hl.1 rfl (lv_room (Nat.le_of_ble_eq_true rfl)) dX9_whichWord_100 ⟨Nat.le_of_ble_eq_true rfl, Nat.le_of_ble_eq_true rfl⟩) (fun v9 hz_1032 => ?_)
              obtain ⟨x_1031, rfl, r_1033⟩ := hz_1032
              refine lv_icmp_ne (tgt := 112) hx hb dX9_whichWord_103 (by decide) (fun c_1034 => ?_) (fun c_1034 => ?_)
              · refine lv_iconst (v := 0) hx hb dX9_whichWord_112 (by decide) ?_
                refine lv_istore (lv' := [(4, .int 0), (5, .int v_37), (3, .int v_39), (2, .int v_40), (0, .ref ht), (1, .ref (sa 0))]) hx hb dX9_whichWord_113 hl (by decide) rfl (fun ls hl => ?_)
                exact hj_1022 (0, v_39) _ _ _ ⟨(Rg.wk (lo2 := 0) (hi2 := 1) (Rg.c (c := 0) (k := 0) rfl) (by decide)), (Rg.wk (lo2 := 0) (hi2 := 400) r_1008 (by decide)), hHe, hlc, hP, lv_sub hl [0, 1, 2, 3, 4, 5] rfl⟩
              · have r_1035 : Rg 0 65535 x_1029 := Rg.eq_l c_1034 (Rg.top x_1029) r_1033 (by decide)
                obtain ⟨x_1036, e_1037⟩ : ∃ z : Int32, z = v_39 + Int32.ofInt 1 := ⟨_, rfl⟩
                have r_1038 : Rg 1 400 x_1036 := Rg.add e_1037 r_1008 (Rg.c (c := Int32.ofInt 1) (k := 1) rfl) (by decide)
                refine lv_iinc (v := x_1036) (lv' := [(3, .int x_1036), (5, .int v_37), (4, .int v_38), (2, .int v_40), (0, .ref ht), (1, .ref (sa 0))]) hx hb dX9_whichWord_106 hl (k := 2) rfl (e_1037.symm) (by decide) rfl (fun ls hl => ?_)
                refine lv_goto (tgt := 115) hx hb dX9_whichWord_109 (by decide) ?_
                exact hj_1022 (v_38, x_1036) _ _ _ ⟨r_980, (Rg.wk (lo2 := 0) (hi2 := 400) r_1038 (by decide)), hHe, hlc, hP, lv_sub hl [2, 1, 0, 3, 4, 5] rfl⟩
        · have r_1006 : Rg 32 32 x_1002 := Rg.eq_l c_1005 r_1004 (Rg.c (c := 32) (k := 32) rfl) (by decide)
          refine lv_iload hx hb dX9_whichWord_54 (lv_at hl 1 rfl) ?_
          refine lv_if_eq (tgt := 69) hx hb dX9_whichWord_56 (by decide) (fun c_1039 => ?_) (fun c_1039 => ?_)
          · have r_1040 : Rg 0 0 v_38 := Rg.eq_l c_1039 r_980 (Rg.c (c := 0) (k := 0) rfl) (by decide)
            obtain ⟨x_1042, e_1043⟩ : ∃ z : Int32, z = v_40 + Int32.ofInt 1 := ⟨_, rfl⟩
            refine lv_iinc (v := x_1042) (lv' := [(2, .int x_1042), (5, .int v_37), (4, .int v_38), (3, .int v_39), (0, .ref ht), (1, .ref (sa 0))]) hx hb dX9_whichWord_69 hl (k := 3) rfl (e_1043.symm) (by decide) rfl (fun ls hl => ?_)
            refine lv_aload_n hx hb dX9_whichWord_72 rfl (lv_at hl 4 rfl) ?_
            refine va_get (D := D) (ci := 7) (v := .int tp) (C := "WrongHole$Text") (T := TX9) (N := 8) hx hb hts (iq_RX9 _) hown hK hP 0 rfl rfl 3 (by decide) (hT _ qq_1_42) (fun _ h9 => h9) rfl dX9_whichWord_73 ?_
            refine lv_istore_n (lv' := [(3, .int tp), (2, .int x_1042), (5, .int v_37), (4, .int v_38), (0, .ref ht), (1, .ref (sa 0))]) hx hb dX9_whichWord_76 rfl hl (by decide) rfl (fun ls hl => ?_)
            refine lv_iconst (v := 1) hx hb dX9_whichWord_77 (by decide) ?_
            refine lv_istore (lv' := [(4, .int 1), (3, .int tp), (2, .int x_1042), (5, .int v_37), (0, .ref ht), (1, .ref (sa 0))]) hx hb dX9_whichWord_78 hl (by decide) rfl (fun ls hl => ?_)
            refine lv_goto (tgt := 115) hx hb dX9_whichWord_80 (by decide) ?_
            obtain ⟨x_1044, e_1045⟩ : ∃ z : Int32, z = v_37 + Int32.ofInt 1 := ⟨_, rfl⟩
            have r_1046 : Rg 1 62 x_1044 := Rg.add e_1045 r_987 (Rg.c (c := Int32.ofInt 1) (k := 1) rfl) (by decide)
            refine lv_iinc (v := x_1044) (lv' := [(5, .int x_1044), (4, .int 1), (3, .int tp), (2, .int x_1042), (0, .ref ht), (1, .ref (sa 0))]) hx hb dX9_whichWord_115 hl (k := 3) rfl (e_1045.symm) (by decide) rfl (fun ls hl => ?_)
            refine lv_goto (tgt := 25) hx hb dX9_whichWord_118 (by decide) ?_
            exact ih_978 (x_1044, 1, tp, x_1042) _ _ _ ⟨(Rg.wk (lo2 := 0) (hi2 := 63) r_1046 (by decide)), (Rg.wk (lo2 := 0) (hi2 := 1) (Rg.c (c := 1) (k := 1) rfl) (by decide)), r_tp, hHe, hlc, hP, lv_sub hl [0, 1, 2, 3, 4, 5] rfl⟩ (ms_up e_1045 r_987 (Rg.c (c := Int32.ofInt 1) (k := 1) rfl) (by decide))
          · have r_1041 : Rg 1 1 v_38 := Rg.ne c_1039 r_980 (Rg.c (c := 0) (k := 0) rfl) (by decide)
            refine lv_iload_n hx hb dX9_whichWord_59 rfl (lv_at hl 2 rfl) ?_
            refine lv_aload_n hx hb dX9_whichWord_60 rfl (lv_at hl 4 rfl) ?_
            refine va_get (D := D) (ci := 7) (v := .int tb) (C := "WrongHole$Text") (T := TX9) (N := 8) hx hb hts (iq_RX9 _) hown hK hP 0 rfl rfl 4 (by decide) (hT _ qq_1_43) (fun _ h9 => h9) rfl dX9_whichWord_61 ?_
            refine lv_icmp_ne (tgt := 69) hx hb dX9_whichWord_64 (by decide) (fun c_1047 => ?_) (fun c_1047 => ?_)
            · obtain ⟨x_1048, e_1049⟩ : ∃ z : Int32, z = v_40 + Int32.ofInt 1 := ⟨_, rfl⟩
              refine lv_iinc (v := x_1048) (lv' := [(2, .int x_1048), (5, .int v_37), (4, .int v_38), (3, .int v_39), (0, .ref ht), (1, .ref (sa 0))]) hx hb dX9_whichWord_69 hl (k := 3) rfl (e_1049.symm) (by decide) rfl (fun ls hl => ?_)
              refine lv_aload_n hx hb dX9_whichWord_72 rfl (lv_at hl 4 rfl) ?_
              refine va_get (D := D) (ci := 7) (v := .int tp) (C := "WrongHole$Text") (T := TX9) (N := 8) hx hb hts (iq_RX9 _) hown hK hP 0 rfl rfl 3 (by decide) (hT _ qq_1_42) (fun _ h9 => h9) rfl dX9_whichWord_73 ?_
              refine lv_istore_n (lv' := [(3, .int tp), (2, .int x_1048), (5, .int v_37), (4, .int v_38), (0, .ref ht), (1, .ref (sa 0))]) hx hb dX9_whichWord_76 rfl hl (by decide) rfl (fun ls hl => ?_)
              refine lv_iconst (v := 1) hx hb dX9_whichWord_77 (by decide) ?_
              refine lv_istore (lv' := [(4, .int 1), (3, .int tp), (2, .int x_1048), (5, .int v_37), (0, .ref ht), (1, .ref (sa 0))]) hx hb dX9_whichWord_78 hl (by decide) rfl (fun ls hl => ?_)
              refine lv_goto (tgt := 115) hx hb dX9_whichWord_80 (by decide) ?_
              obtain ⟨x_1050, e_1051⟩ : ∃ z : Int32, z = v_37 + Int32.ofInt 1 := ⟨_, rfl⟩
              have r_1052 : Rg 1 62 x_1050 := Rg.add e_1051 r_987 (Rg.c (c := Int32.ofInt 1) (k := 1) rfl) (by decide)
              refine lv_iinc (v := x_1050) (lv' := [(5, .int x_1050), (4, .int 1), (3, .int tp), (2, .int x_1048), (0, .ref ht), (1, .ref (sa 0))]) hx hb dX9_whichWord_115 hl (k := 3) rfl (e_1051.symm) (by decide) rfl (fun ls hl => ?_)
              refine lv_goto (tgt := 25) hx hb dX9_whichWord_118 (by decide) ?_
              exact ih_978 (x_1050, 1, tp, x_1048) _ _ _ ⟨(Rg.wk (lo2 := 0) (hi2 := 63) r_1052 (by decide)), (Rg.wk (lo2 := 0) (hi2 := 1) (Rg.c (c := 1) (k := 1) rfl) (by decide)), r_tp, hHe, hlc, hP, lv_sub hl [0, 1, 2, 3, 4, 5] rfl⟩ (ms_up e_1051 r_987 (Rg.c (c := Int32.ofInt 1) (k := 1) rfl) (by decide))
            · refine lv_iload_n hx hb dX9_whichWord_67 rfl (lv_at hl 3 rfl) ?_
              exact W.iret (v := v_40) hx hb hr (fun t9 ht9 hW9 => ⟨⟨_, rfl, _, rfl⟩, ht9.trans hHe⟩) (fun _ h9 => by rw [hlc] at h9; exact absurd h9 List.not_mem_nil) dX9_whichWord_68
  · refine lv_iconst (v := (-1)) hx hb dX9_whichWord_10 (by decide) ?_
    exact W.iret (v := (-1)) hx hb hr (fun t9 ht9 hW9 => ⟨⟨_, rfl, _, rfl⟩, ht9.trans hHe⟩) (fun _ h9 => by rw [hlc] at h9; exact absurd h9 List.not_mem_nil) dX9_whichWord_11
set_option maxHeartbeats 4000000 in
set_option maxRecDepth 100000 in
theorem c_Text_whichWord_1 (l : Launch) (D : va_G) (cs : Nat → ClassId) (sa sv : Nat → Nat) (ht : Nat) (hs : Nat) (tl : Int32) (tk : Int32) (tp : Int32) (tb : Int32) (tv : Int32) (tn : Int32) (tf : Int32) (gt : Nat → Int32) (r_tl : Rg 0 400 tl) (r_tp : Rg 0 400 tp) (r_tb : Rg 0 400 tb) : Met l yX9_whichWord (Cond.code yX9_whichWord cX9_whichWord 6 (some .int) :: TB) (RM 4 0 0) (va_Pc [.ref ht, .ref (sa 1)] (PRX D cs (SX sa sv) [(ht, .inr (7, [.ref hs, .int tl, .int tk, .int tp, .int tb, .int tv, .int tn, .int tf])), (hs, .inl ((cs 1), 400, .inl gt))])) (QP (fun v => ∃ x : Int32, v = .int x)) 0 0 (fun _ => False) := by
  refine MEX (y := yX9_whichWord) (cc := cX9_whichWord) (maxL := 6) (ret := (some .int)) (d := 4) (D := D) (cs := cs) (X := SX sa sv) (ws := [(ht, .inr (7, [.ref hs, .int tl, .int tk, .int tp, .int tb, .int tv, .int tn, .int tf])), (hs, .inl ((cs 1), 400, .inl gt))]) (av := [.ref ht, .ref (sa 1)]) (Qc := QP (fun v => ∃ x : Int32, v = .int x)) (by decide) (Nat.le_of_ble_eq_true rfl) ?_
  intro p e s m below meth c ls H hHe hx hb hr hml hown hts hlocks hP hK hN hX hXs hl
  obtain ⟨locs, hlc⟩ : ∃ z : List Loc, z = [] := ⟨_, rfl⟩
  rw [← hlc]
  have hown : s.vm.findClass "WrongHole$Text" = some m.cls := hown
  have hT : ∀ w ∈ TB, w.before ([.ref ht, .ref (sa 1)] : List Value).toArray s = true := fun w h => hts w (List.mem_cons_of_mem _ h)
  have hl : lv_has ls 6 [(0, .ref ht), (1, .ref (sa 1))] := hl
  have hP : va_P D vwCl [(ht, .inr (7, [.ref hs, .int tl, .int tk, .int tp, .int tb, .int tv, .int tn, .int tf])), (hs, .inl ((cs 1), 400, .inl gt))] H := hP
  refine lv_aload_n hx hb dX9_whichWord_0 rfl (lv_at hl 0 rfl) ?_
  refine va_get (D := D) (ci := 7) (v := .int tk) (C := "WrongHole$Text") (T := TX9) (N := 8) hx hb hts (iq_RX9 _) hown hK hP 0 rfl rfl 2 (by decide) (hT _ qq_1_41) (fun _ h9 => h9) rfl dX9_whichWord_1 ?_
  refine lv_sipush (v := 257) hx hb dX9_whichWord_4 (by decide) ?_
  refine lv_icmp_eq (tgt := 12) hx hb dX9_whichWord_7 (by decide) (fun c_1 => ?_) (fun c_1 => ?_)
  · have r_2 : Rg 257 257 tk := Rg.eq_l c_1 (Rg.top tk) (Rg.c (c := 257) (k := 257) rfl) (by decide)
    refine lv_iconst (v := 0) hx hb dX9_whichWord_12 (by decide) ?_
    refine lv_istore_n (lv' := [(2, .int 0), (0, .ref ht), (1, .ref (sa 1))]) hx hb dX9_whichWord_13 rfl hl (by decide) rfl (fun ls hl => ?_)
    refine lv_aload_n hx hb dX9_whichWord_14 rfl (lv_at hl 1 rfl) ?_
    refine va_get (D := D) (ci := 7) (v := .int tp) (C := "WrongHole$Text") (T := TX9) (N := 8) hx hb hts (iq_RX9 _) hown hK hP 0 rfl rfl 3 (by decide) (hT _ qq_1_42) (fun _ h9 => h9) rfl dX9_whichWord_15 ?_
    refine lv_istore_n (lv' := [(3, .int tp), (2, .int 0), (0, .ref ht), (1, .ref (sa 1))]) hx hb dX9_whichWord_18 rfl hl (by decide) rfl (fun ls hl => ?_)
    refine lv_iconst (v := 1) hx hb dX9_whichWord_19 (by decide) ?_
    refine lv_istore (lv' := [(4, .int 1), (3, .int tp), (2, .int 0), (0, .ref ht), (1, .ref (sa 1))]) hx hb dX9_whichWord_20 hl (by decide) rfl (fun ls hl => ?_)
    refine lv_iconst (v := 0) hx hb dX9_whichWord_22 (by decide) ?_
    refine lv_istore (lv' := [(5, .int 0), (4, .int 1), (3, .int tp), (2, .int 0), (0, .ref ht), (1, .ref (sa 1))]) hx hb dX9_whichWord_23 hl (by decide) rfl (fun ls hl => ?_)
    refine w_wh (σ := (Int32) × (Int32) × (Int32) × (Int32)) (fun x9 H locs ls => match x9 with | (v_37, v_38, v_39, v_40) => Rg 0 4 v_37 ∧ Rg 0 1 v_38 ∧ Rg 0 400 v_39 ∧ H = s.heap ∧ locs = [] ∧ va_P D vwCl [(ht, .inr (7, [.ref hs, .int tl, .int tk, .int tp, .int tb, .int tv, .int tn, .int tf])), (hs, .inl ((cs 1), 400, .inl gt))] H ∧ lv_has ls 6 [(5, .int v_37), (4, .int v_38), (3, .int v_39), (2, .int v_40), (0, .ref ht), (1, .ref (sa 1))]) (fun x9 => match x9 with | (v_37, v_38, v_39, v_40) => (4 - Int32.toInt v_37).toNat) 25 ?_ (0, 1, tp, 0) H locs ls ⟨(Rg.wk (lo2 := 0) (hi2 := 4) (Rg.c (c := 0) (k := 0) rfl) (by decide)), (Rg.wk (lo2 := 0) (hi2 := 1) (Rg.c (c := 1) (k := 1) rfl) (by decide)), r_tp, hHe, hlc, hP, lv_sub hl [0, 1, 2, 3, 4, 5] rfl⟩
    rintro ⟨v_37, v_38, v_39, v_40⟩ H locs ls ⟨r_1039, r_1040, r_1041, hHe, hlc, hP, hl⟩ ih_1038
    refine lv_iload hx hb dX9_whichWord_25 (lv_at hl 0 rfl) ?_
    refine lv_aload_n hx hb dX9_whichWord_27 rfl (lv_at hl 5 rfl) ?_
    have hPc := va_P.sub (ws' := []) hP [] rfl
    have hS0 : va_S (fun _ => False) s.heap H locs := by rw [hHe, hlc]; exact va_S.rf
    refine cl_V (W.runV (As := []) (rest := [.int v_37]) ⟨hx, hb, hml, hown, hts⟩ (c_S_length l D cs sa sv 1 (by decide)) ⟨callB_of 0 hts (gd_C qq_2_157) rfl rfl rfl (hT _ qq_1_12) (hT _ qq_2_154) (by decide +kernel) (rm_R rfl rfl), (hT _ qq_2_155), (hT _ qq_2_156)⟩ (px_T hPc hK hN hX hXs hS0 (i := 1) (by decide)) rfl rfl hl.1 rfl (lv_room (Nat.le_of_ble_eq_true rfl)) dX9_whichWord_28 ⟨Nat.le_of_ble_eq_true rfl, Nat.le_of_ble_eq_true rfl⟩) ?_
    refine tc_i 3 rfl ?_
    refine lv_icmp_gt (tgt := 121) hx hb dX9_whichWord_31 (by decide) (fun c_1042 => ?_) (fun c_1042 => ?_)
    · have r_1043 : Rg 4 4 v_37 := Rg.lt_r c_1042 (Rg.c (c := 3) (k := 3) rfl) r_1039 (by decide)
      refine lv_iconst (v := (-1)) hx hb dX9_whichWord_121 (by decide) ?_
      exact W.iret (v := (-1)) hx hb hr (fun t9 ht9 hW9 => ⟨⟨_, rfl, _, rfl⟩, ht9.trans hHe⟩) (fun _ h9 => by rw [hlc] at h9; exact absurd h9 List.not_mem_nil) dX9_whichWord_122
    · have r_1044 : Rg 0 3 v_37 := Rg.le_l (nlt_le c_1042) r_1039 (Rg.c (c := 3) (k := 3) rfl) (by decide)
      refine lv_iload hx hb dX9_whichWord_34 (lv_at hl 0 rfl) ?_
      refine lv_aload_n hx hb dX9_whichWord_36 rfl (lv_at hl 5 rfl) ?_
      have hPc := va_P.sub (ws' := []) hP [] rfl
      have hS0 : va_S (fun _ => False) s.heap H locs := by rw [hHe, hlc]; exact va_S.rf
      refine cl_V (W.runV (As := []) (rest := [.int v_37]) ⟨hx, hb, hml, hown, hts⟩ (c_S_length l D cs sa sv 1 (by decide)) ⟨callB_of 0 hts (gd_C qq_2_157) rfl rfl rfl (hT _ qq_1_12) (hT _ qq_2_154) (by decide +kernel) (rm_R rfl rfl), (hT _ qq_2_155), (hT _ qq_2_156)⟩ (px_T hPc hK hN hX hXs hS0 (i := 1) (by decide)) rfl rfl hl.1 rfl (lv_room (Nat.le_of_ble_eq_true rfl)) dX9_whichWord_37 ⟨Nat.le_of_ble_eq_true rfl, Nat.le_of_ble_eq_true rfl⟩) ?_
      refine tc_i 3 rfl ?_
      refine lv_icmp_eq (tgt := 54) hx hb dX9_whichWord_40 (by decide) (fun c_1045 => ?_) (fun c_1045 => ?_)
      · have r_1046 : Rg 3 3 v_37 := Rg.eq_l c_1045 r_1044 (Rg.c (c := 3) (k := 3) rfl) (by decide)
        refine lv_iload hx hb dX9_whichWord_54 (lv_at hl 1 rfl) ?_
        refine lv_if_eq (tgt := 69) hx hb dX9_whichWord_56 (by decide) (fun c_1048 => ?_) (fun c_1048 => ?_)
        · have r_1049 : Rg 0 0 v_38 := Rg.eq_l c_1048 r_1040 (Rg.c (c := 0) (k := 0) rfl) (by decide)
          obtain ⟨x_1051, e_1052⟩ : ∃ z : Int32, z = v_40 + Int32.ofInt 1 := ⟨_, rfl⟩
          refine lv_iinc (v := x_1051) (lv' := [(2, .int x_1051), (5, .int v_37), (4, .int v_38), (3, .int v_39), (0, .ref ht), (1, .ref (sa 1))]) hx hb dX9_whichWord_69 hl (k := 3) rfl (e_1052.symm) (by decide) rfl (fun ls hl => ?_)
          refine lv_aload_n hx hb dX9_whichWord_72 rfl (lv_at hl 4 rfl) ?_
          refine va_get (D := D) (ci := 7) (v := .int tp) (C := "WrongHole$Text") (T := TX9) (N := 8) hx hb hts (iq_RX9 _) hown hK hP 0 rfl rfl 3 (by decide) (hT _ qq_1_42) (fun _ h9 => h9) rfl dX9_whichWord_73 ?_
          refine lv_istore_n (lv' := [(3, .int tp), (2, .int x_1051), (5, .int v_37), (4, .int v_38), (0, .ref ht), (1, .ref (sa 1))]) hx hb dX9_whichWord_76 rfl hl (by decide) rfl (fun ls hl => ?_)
          refine lv_iconst (v := 1) hx hb dX9_whichWord_77 (by decide) ?_
          refine lv_istore (lv' := [(4, .int 1), (3, .int tp), (2, .int x_1051), (5, .int v_37), (0, .ref ht), (1, .ref (sa 1))]) hx hb dX9_whichWord_78 hl (by decide) rfl (fun ls hl => ?_)
          refine lv_goto (tgt := 115) hx hb dX9_whichWord_80 (by decide) ?_
          obtain ⟨x_1053, e_1054⟩ : ∃ z : Int32, z = v_37 + Int32.ofInt 1 := ⟨_, rfl⟩
          have r_1055 : Rg 4 4 x_1053 := Rg.add e_1054 r_1046 (Rg.c (c := Int32.ofInt 1) (k := 1) rfl) (by decide)
          refine lv_iinc (v := x_1053) (lv' := [(5, .int x_1053), (4, .int 1), (3, .int tp), (2, .int x_1051), (0, .ref ht), (1, .ref (sa 1))]) hx hb dX9_whichWord_115 hl (k := 3) rfl (e_1054.symm) (by decide) rfl (fun ls hl => ?_)
          refine lv_goto (tgt := 25) hx hb dX9_whichWord_118 (by decide) ?_
          exact ih_1038 (x_1053, 1, tp, x_1051) _ _ _ ⟨(Rg.wk (lo2 := 0) (hi2 := 4) r_1055 (by decide)), (Rg.wk (lo2 := 0) (hi2 := 1) (Rg.c (c := 1) (k := 1) rfl) (by decide)), r_tp, hHe, hlc, hP, lv_sub hl [0, 1, 2, 3, 4, 5] rfl⟩ (ms_up e_1054 r_1046 (Rg.c (c := Int32.ofInt 1) (k := 1) rfl) (by decide))
        · have r_1050 : Rg 1 1 v_38 := Rg.ne c_1048 r_1040 (Rg.c (c := 0) (k := 0) rfl) (by decide)
          refine lv_iload_n hx hb dX9_whichWord_59 rfl (lv_at hl 2 rfl) ?_
          refine lv_aload_n hx hb dX9_whichWord_60 rfl (lv_at hl 4 rfl) ?_
          refine va_get (D := D) (ci := 7) (v := .int tb) (C := "WrongHole$Text") (T := TX9) (N := 8) hx hb hts (iq_RX9 _) hown hK hP 0 rfl rfl 4 (by decide) (hT _ qq_1_43) (fun _ h9 => h9) rfl dX9_whichWord_61 ?_
          refine lv_icmp_ne (tgt := 69) hx hb dX9_whichWord_64 (by decide) (fun c_1056 => ?_) (fun c_1056 => ?_)
          · obtain ⟨x_1057, e_1058⟩ : ∃ z : Int32, z = v_40 + Int32.ofInt 1 := ⟨_, rfl⟩
            refine lv_iinc (v := x_1057) (lv' := [(2, .int x_1057), (5, .int v_37), (4, .int v_38), (3, .int v_39), (0, .ref ht), (1, .ref (sa 1))]) hx hb dX9_whichWord_69 hl (k := 3) rfl (e_1058.symm) (by decide) rfl (fun ls hl => ?_)
            refine lv_aload_n hx hb dX9_whichWord_72 rfl (lv_at hl 4 rfl) ?_
            refine va_get (D := D) (ci := 7) (v := .int tp) (C := "WrongHole$Text") (T := TX9) (N := 8) hx hb hts (iq_RX9 _) hown hK hP 0 rfl rfl 3 (by decide) (hT _ qq_1_42) (fun _ h9 => h9) rfl dX9_whichWord_73 ?_
            refine lv_istore_n (lv' := [(3, .int tp), (2, .int x_1057), (5, .int v_37), (4, .int v_38), (0, .ref ht), (1, .ref (sa 1))]) hx hb dX9_whichWord_76 rfl hl (by decide) rfl (fun ls hl => ?_)
            refine lv_iconst (v := 1) hx hb dX9_whichWord_77 (by decide) ?_
            refine lv_istore (lv' := [(4, .int 1), (3, .int tp), (2, .int x_1057), (5, .int v_37), (0, .ref ht), (1, .ref (sa 1))]) hx hb dX9_whichWord_78 hl (by decide) rfl (fun ls hl => ?_)
            refine lv_goto (tgt := 115) hx hb dX9_whichWord_80 (by decide) ?_
            obtain ⟨x_1059, e_1060⟩ : ∃ z : Int32, z = v_37 + Int32.ofInt 1 := ⟨_, rfl⟩
            have r_1061 : Rg 4 4 x_1059 := Rg.add e_1060 r_1046 (Rg.c (c := Int32.ofInt 1) (k := 1) rfl) (by decide)
            refine lv_iinc (v := x_1059) (lv' := [(5, .int x_1059), (4, .int 1), (3, .int tp), (2, .int x_1057), (0, .ref ht), (1, .ref (sa 1))]) hx hb dX9_whichWord_115 hl (k := 3) rfl (e_1060.symm) (by decide) rfl (fun ls hl => ?_)
            refine lv_goto (tgt := 25) hx hb dX9_whichWord_118 (by decide) ?_
            exact ih_1038 (x_1059, 1, tp, x_1057) _ _ _ ⟨(Rg.wk (lo2 := 0) (hi2 := 4) r_1061 (by decide)), (Rg.wk (lo2 := 0) (hi2 := 1) (Rg.c (c := 1) (k := 1) rfl) (by decide)), r_tp, hHe, hlc, hP, lv_sub hl [0, 1, 2, 3, 4, 5] rfl⟩ (ms_up e_1060 r_1046 (Rg.c (c := Int32.ofInt 1) (k := 1) rfl) (by decide))
          · refine lv_iload_n hx hb dX9_whichWord_67 rfl (lv_at hl 3 rfl) ?_
            exact W.iret (v := v_40) hx hb hr (fun t9 ht9 hW9 => ⟨⟨_, rfl, _, rfl⟩, ht9.trans hHe⟩) (fun _ h9 => by rw [hlc] at h9; exact absurd h9 List.not_mem_nil) dX9_whichWord_68
      · have r_1047 : Rg 0 2 v_37 := Rg.ne c_1045 r_1044 (Rg.c (c := 3) (k := 3) rfl) (by decide)
        refine lv_aload_n hx hb dX9_whichWord_43 rfl (lv_at hl 5 rfl) ?_
        refine lv_iload hx hb dX9_whichWord_44 (lv_at hl 0 rfl) ?_
        have hPc := va_P.sub (ws' := []) hP [] rfl
        have hS0 : va_S (fun _ => False) s.heap H locs := by rw [hHe, hlc]; exact va_S.rf
        refine cl_P (W.runV (As := [.int v_37]) (rest := []) ⟨hx, hb, hml, hown, hts⟩ (c_S_charAt l D cs sa sv 1 v_37 (by decide) (Rg.in r_1047 (by decide)) (Rg.wk (lo2 := 0) (hi2 := 2147483647) r_1047 (by decide))) ⟨callB_of 1 hts (gd_C qq_2_167) rfl rfl rfl (hT _ qq_1_12) (hT _ qq_2_164) (by decide +kernel) (rm_R rfl rfl), (hT _ qq_2_165), (hT _ qq_2_166)⟩ (px_T hPc hK hN hX hXs hS0 (i := 1) (by decide)) rfl rfl hl.1 rfl (lv_room (Nat.le_of_ble_eq_true rfl)) dX9_whichWord_46 ⟨Nat.le_of_ble_eq_true rfl, Nat.le_of_ble_eq_true rfl⟩) (fun v9 hz_1063 => ?_)
        obtain ⟨x_1062, rfl, r_1064⟩ := hz_1063
        refine lv_bipush (v := 32) hx hb dX9_whichWord_49 (by decide) ?_
        refine lv_icmp_ne (tgt := 83) hx hb dX9_whichWord_51 (by decide) (fun c_1065 => ?_) (fun c_1065 => ?_)
        · refine lv_iload_n hx hb dX9_whichWord_83 rfl (lv_at hl 2 rfl) ?_
          refine lv_aload_n hx hb dX9_whichWord_84 rfl (lv_at hl 4 rfl) ?_
          refine va_get (D := D) (ci := 7) (v := .int tb) (C := "WrongHole$Text") (T := TX9) (N := 8) hx hb hts (iq_RX9 _) hown hK hP 0 rfl rfl 4 (by decide) (hT _ qq_1_43) (fun _ h9 => h9) rfl dX9_whichWord_85 ?_
          refine w_cut (σ := (Int32) × (Int32)) (fun x9 H locs ls => match x9 with | (v_1080, v_1081) => Rg 0 1 v_1080 ∧ Rg 0 400 v_1081 ∧ H = s.heap ∧ locs = [] ∧ va_P D vwCl [(ht, .inr (7, [.ref hs, .int tl, .int tk, .int tp, .int tb, .int tv, .int tn, .int tf])), (hs, .inl ((cs 1), 400, .inl gt))] H ∧ lv_has ls 6 [(4, .int v_1080), (5, .int v_37), (3, .int v_1081), (2, .int v_40), (0, .ref ht), (1, .ref (sa 1))]) 115 (fun x9 => match x9 with | (v_1080, v_1081) => []) ?_ (fun hj_1082 => ?_)
          · rintro ⟨v_1080, v_1081⟩ H locs ls ⟨r_1083, r_1084, hHe, hlc, hP, hl⟩
            obtain ⟨x_1085, e_1086⟩ : ∃ z : Int32, z = v_37 + Int32.ofInt 1 := ⟨_, rfl⟩
            have r_1087 : Rg 1 3 x_1085 := Rg.add e_1086 r_1047 (Rg.c (c := Int32.ofInt 1) (k := 1) rfl) (by decide)
            refine lv_iinc (v := x_1085) (lv' := [(5, .int x_1085), (4, .int v_1080), (3, .int v_1081), (2, .int v_40), (0, .ref ht), (1, .ref (sa 1))]) hx hb dX9_whichWord_115 hl (k := 1) rfl (e_1086.symm) (by decide) rfl (fun ls hl => ?_)
            refine lv_goto (tgt := 25) hx hb dX9_whichWord_118 (by decide) ?_
            exact ih_1038 (x_1085, v_1080, v_1081, v_40) _ _ _ ⟨(Rg.wk (lo2 := 0) (hi2 := 4) r_1087 (by decide)), r_1083, r_1084, hHe, hlc, hP, lv_sub hl [0, 1, 2, 3, 4, 5] rfl⟩ (ms_up e_1086 r_1047 (Rg.c (c := Int32.ofInt 1) (k := 1) rfl) (by decide))
          · refine lv_icmp_ge (tgt := 112) hx hb dX9_whichWord_88 (by decide) (fun c_1067 => ?_) (fun c_1067 => ?_)
            · refine lv_iconst (v := 0) hx hb dX9_whichWord_112 (by decide) ?_
              refine lv_istore (lv' := [(4, .int 0), (5, .int v_37), (3, .int v_39), (2, .int v_40), (0, .ref ht), (1, .ref (sa 1))]) hx hb dX9_whichWord_113 hl (by decide) rfl (fun ls hl => ?_)
              exact hj_1082 (0, v_39) _ _ _ ⟨(Rg.wk (lo2 := 0) (hi2 := 1) (Rg.c (c := 0) (k := 0) rfl) (by decide)), r_1041, hHe, hlc, hP, lv_sub hl [0, 1, 2, 3, 4, 5] rfl⟩
            · have r_1068 : Rg 0 399 v_39 := Rg.lt_l (nle_lt c_1067) r_1041 r_tb (by decide)
              have r_1069 : Rg 1 400 tb := Rg.lt_r (nle_lt c_1067) r_1041 r_tb (by decide)
              refine lv_aload_n hx hb dX9_whichWord_91 rfl (lv_at hl 4 rfl) ?_
              refine va_get (D := D) (ci := 7) (v := .ref hs) (C := "WrongHole$Text") (T := TX9) (N := 8) hx hb hts (iq_RX9 _) hown hK hP 0 rfl rfl 0 (by decide) (hT _ qq_1_36) (fun _ h9 => h9) rfl dX9_whichWord_92 ?_
              refine lv_iload_n hx hb dX9_whichWord_95 rfl (lv_at hl 2 rfl) ?_
              have hi_1088 : vp_in v_39 400 := Rg.in r_1068 (by decide)
              refine va_cald hx hb hK hP 1 1 rfl rfl hi_1088 dX9_whichWord_96 ?_
              refine lv_topi (fun x_1089 e_1090 => ?_)
              refine lv_aload_n hx hb dX9_whichWord_97 rfl (lv_at hl 5 rfl) ?_
              refine lv_iload hx hb dX9_whichWord_98 (lv_at hl 0 rfl) ?_
              have hPc := va_P.sub (ws' := []) hP [] rfl
              have hS0 : va_S (fun _ => False) s.heap H locs := by rw [hHe, hlc]; exact va_S.rf
              refine cl_P (W.runV (As := [.int v_37]) (rest := [.int x_1089]) ⟨hx, hb, hml, hown, hts⟩ (c_S_charAt l D cs sa sv 1 v_37 (by decide) (Rg.in r_1047 (by decide)) (Rg.wk (lo2 := 0) (hi2 := 2147483647) r_1047 (by decide))) ⟨callB_of 1 hts (gd_C qq_2_167) rfl rfl rfl (hT _ qq_1_12) (hT _ qq_2_164) (by decide +kernel) (rm_R rfl rfl), (hT _ qq_2_165), (hT _ qq_2_166)⟩ (px_T hPc hK hN hX hXs hS0 (i := 1) (by decide)) rfl rfl hl.1 rfl (lv_room (Nat.le_of_ble_eq_true rfl)) dX9_whichWord_100 ⟨Nat.le_of_ble_eq_true rfl, Nat.le_of_ble_eq_true rfl⟩) (fun v9 hz_1092 => ?_)
              obtain ⟨x_1091, rfl, r_1093⟩ := hz_1092
              refine lv_icmp_ne (tgt := 112) hx hb dX9_whichWord_103 (by decide) (fun c_1094 => ?_) (fun c_1094 => ?_)
              · refine lv_iconst (v := 0) hx hb dX9_whichWord_112 (by decide) ?_
                refine lv_istore (lv' := [(4, .int 0), (5, .int v_37), (3, .int v_39), (2, .int v_40), (0, .ref ht), (1, .ref (sa 1))]) hx hb dX9_whichWord_113 hl (by decide) rfl (fun ls hl => ?_)
                exact hj_1082 (0, v_39) _ _ _ ⟨(Rg.wk (lo2 := 0) (hi2 := 1) (Rg.c (c := 0) (k := 0) rfl) (by decide)), (Rg.wk (lo2 := 0) (hi2 := 400) r_1068 (by decide)), hHe, hlc, hP, lv_sub hl [0, 1, 2, 3, 4, 5] rfl⟩
              · have r_1095 : Rg 0 65535 x_1089 := Rg.eq_l c_1094 (Rg.top x_1089) r_1093 (by decide)
                obtain ⟨x_1096, e_1097⟩ : ∃ z : Int32, z = v_39 + Int32.ofInt 1 := ⟨_, rfl⟩
                have r_1098 : Rg 1 400 x_1096 := Rg.add e_1097 r_1068 (Rg.c (c := Int32.ofInt 1) (k := 1) rfl) (by decide)
                refine lv_iinc (v := x_1096) (lv' := [(3, .int x_1096), (5, .int v_37), (4, .int v_38), (2, .int v_40), (0, .ref ht), (1, .ref (sa 1))]) hx hb dX9_whichWord_106 hl (k := 2) rfl (e_1097.symm) (by decide) rfl (fun ls hl => ?_)
                refine lv_goto (tgt := 115) hx hb dX9_whichWord_109 (by decide) ?_
                exact hj_1082 (v_38, x_1096) _ _ _ ⟨r_1040, (Rg.wk (lo2 := 0) (hi2 := 400) r_1098 (by decide)), hHe, hlc, hP, lv_sub hl [2, 1, 0, 3, 4, 5] rfl⟩
        · have r_1066 : Rg 32 32 x_1062 := Rg.eq_l c_1065 r_1064 (Rg.c (c := 32) (k := 32) rfl) (by decide)
          refine lv_iload hx hb dX9_whichWord_54 (lv_at hl 1 rfl) ?_
          refine lv_if_eq (tgt := 69) hx hb dX9_whichWord_56 (by decide) (fun c_1099 => ?_) (fun c_1099 => ?_)
          · have r_1100 : Rg 0 0 v_38 := Rg.eq_l c_1099 r_1040 (Rg.c (c := 0) (k := 0) rfl) (by decide)
            obtain ⟨x_1102, e_1103⟩ : ∃ z : Int32, z = v_40 + Int32.ofInt 1 := ⟨_, rfl⟩
            refine lv_iinc (v := x_1102) (lv' := [(2, .int x_1102), (5, .int v_37), (4, .int v_38), (3, .int v_39), (0, .ref ht), (1, .ref (sa 1))]) hx hb dX9_whichWord_69 hl (k := 3) rfl (e_1103.symm) (by decide) rfl (fun ls hl => ?_)
            refine lv_aload_n hx hb dX9_whichWord_72 rfl (lv_at hl 4 rfl) ?_
            refine va_get (D := D) (ci := 7) (v := .int tp) (C := "WrongHole$Text") (T := TX9) (N := 8) hx hb hts (iq_RX9 _) hown hK hP 0 rfl rfl 3 (by decide) (hT _ qq_1_42) (fun _ h9 => h9) rfl dX9_whichWord_73 ?_
            refine lv_istore_n (lv' := [(3, .int tp), (2, .int x_1102), (5, .int v_37), (4, .int v_38), (0, .ref ht), (1, .ref (sa 1))]) hx hb dX9_whichWord_76 rfl hl (by decide) rfl (fun ls hl => ?_)
            refine lv_iconst (v := 1) hx hb dX9_whichWord_77 (by decide) ?_
            refine lv_istore (lv' := [(4, .int 1), (3, .int tp), (2, .int x_1102), (5, .int v_37), (0, .ref ht), (1, .ref (sa 1))]) hx hb dX9_whichWord_78 hl (by decide) rfl (fun ls hl => ?_)
            refine lv_goto (tgt := 115) hx hb dX9_whichWord_80 (by decide) ?_
            obtain ⟨x_1104, e_1105⟩ : ∃ z : Int32, z = v_37 + Int32.ofInt 1 := ⟨_, rfl⟩
            have r_1106 : Rg 1 3 x_1104 := Rg.add e_1105 r_1047 (Rg.c (c := Int32.ofInt 1) (k := 1) rfl) (by decide)
            refine lv_iinc (v := x_1104) (lv' := [(5, .int x_1104), (4, .int 1), (3, .int tp), (2, .int x_1102), (0, .ref ht), (1, .ref (sa 1))]) hx hb dX9_whichWord_115 hl (k := 3) rfl (e_1105.symm) (by decide) rfl (fun ls hl => ?_)
            refine lv_goto (tgt := 25) hx hb dX9_whichWord_118 (by decide) ?_
            exact ih_1038 (x_1104, 1, tp, x_1102) _ _ _ ⟨(Rg.wk (lo2 := 0) (hi2 := 4) r_1106 (by decide)), (Rg.wk (lo2 := 0) (hi2 := 1) (Rg.c (c := 1) (k := 1) rfl) (by decide)), r_tp, hHe, hlc, hP, lv_sub hl [0, 1, 2, 3, 4, 5] rfl⟩ (ms_up e_1105 r_1047 (Rg.c (c := Int32.ofInt 1) (k := 1) rfl) (by decide))
          · have r_1101 : Rg 1 1 v_38 := Rg.ne c_1099 r_1040 (Rg.c (c := 0) (k := 0) rfl) (by decide)
            refine lv_iload_n hx hb dX9_whichWord_59 rfl (lv_at hl 2 rfl) ?_
            refine lv_aload_n hx hb dX9_whichWord_60 rfl (lv_at hl 4 rfl) ?_
            refine va_get (D := D) (ci := 7) (v := .int tb) (C := "WrongHole$Text") (T := TX9) (N := 8) hx hb hts (iq_RX9 _) hown hK hP 0 rfl rfl 4 (by decide) (hT _ qq_1_43) (fun _ h9 => h9) rfl dX9_whichWord_61 ?_
            refine lv_icmp_ne (tgt := 69) hx hb dX9_whichWord_64 (by decide) (fun c_1107 => ?_) (fun c_1107 => ?_)
            · obtain ⟨x_1108, e_1109⟩ : ∃ z : Int32, z = v_40 + Int32.ofInt 1 := ⟨_, rfl⟩
              refine lv_iinc (v := x_1108) (lv' := [(2, .int x_1108), (5, .int v_37), (4, .int v_38), (3, .int v_39), (0, .ref ht), (1, .ref (sa 1))]) hx hb dX9_whichWord_69 hl (k := 3) rfl (e_1109.symm) (by decide) rfl (fun ls hl => ?_)
              refine lv_aload_n hx hb dX9_whichWord_72 rfl (lv_at hl 4 rfl) ?_
              refine va_get (D := D) (ci := 7) (v := .int tp) (C := "WrongHole$Text") (T := TX9) (N := 8) hx hb hts (iq_RX9 _) hown hK hP 0 rfl rfl 3 (by decide) (hT _ qq_1_42) (fun _ h9 => h9) rfl dX9_whichWord_73 ?_
              refine lv_istore_n (lv' := [(3, .int tp), (2, .int x_1108), (5, .int v_37), (4, .int v_38), (0, .ref ht), (1, .ref (sa 1))]) hx hb dX9_whichWord_76 rfl hl (by decide) rfl (fun ls hl => ?_)
              refine lv_iconst (v := 1) hx hb dX9_whichWord_77 (by decide) ?_
              refine lv_istore (lv' := [(4, .int 1), (3, .int tp), (2, .int x_1108), (5, .int v_37), (0, .ref ht), (1, .ref (sa 1))]) hx hb dX9_whichWord_78 hl (by decide) rfl (fun ls hl => ?_)
              refine lv_goto (tgt := 115) hx hb dX9_whichWord_80 (by decide) ?_
              obtain ⟨x_1110, e_1111⟩ : ∃ z : Int32, z = v_37 + Int32.ofInt 1 := ⟨_, rfl⟩
              have r_1112 : Rg 1 3 x_1110 := Rg.add e_1111 r_1047 (Rg.c (c := Int32.ofInt 1) (k := 1) rfl) (by decide)
              refine lv_iinc (v := x_1110) (lv' := [(5, .int x_1110), (4, .int 1), (3, .int tp), (2, .int x_1108), (0, .ref ht), (1, .ref (sa 1))]) hx hb dX9_whichWord_115 hl (k := 3) rfl (e_1111.symm) (by decide) rfl (fun ls hl => ?_)
              refine lv_goto (tgt := 25) hx hb dX9_whichWord_118 (by decide) ?_
              exact ih_1038 (x_1110, 1, tp, x_1108) _ _ _ ⟨(Rg.wk (lo2 := 0) (hi2 := 4) r_1112 (by decide)), (Rg.wk (lo2 := 0) (hi2 := 1) (Rg.c (c := 1) (k := 1) rfl) (by decide)), r_tp, hHe, hlc, hP, lv_sub hl [0, 1, 2, 3, 4, 5] rfl⟩ (ms_up e_1111 r_1047 (Rg.c (c := Int32.ofInt 1) (k := 1) rfl) (by decide))
            · refine lv_iload_n hx hb dX9_whichWord_67 rfl (lv_at hl 3 rfl) ?_
              exact W.iret (v := v_40) hx hb hr (fun t9 ht9 hW9 => ⟨⟨_, rfl, _, rfl⟩, ht9.trans hHe⟩) (fun _ h9 => by rw [hlc] at h9; exact absurd h9 List.not_mem_nil) dX9_whichWord_68
  · refine lv_iconst (v := (-1)) hx hb dX9_whichWord_10 (by decide) ?_
    exact W.iret (v := (-1)) hx hb hr (fun t9 ht9 hW9 => ⟨⟨_, rfl, _, rfl⟩, ht9.trans hHe⟩) (fun _ h9 => by rw [hlc] at h9; exact absurd h9 List.not_mem_nil) dX9_whichWord_11
set_option maxHeartbeats 4000000 in
set_option maxRecDepth 100000 in
theorem c_Text_whichWord_2 (l : Launch) (D : va_G) (cs : Nat → ClassId) (sa sv : Nat → Nat) (ht : Nat) (hs : Nat) (tl : Int32) (tk : Int32) (tp : Int32) (tb : Int32) (tv : Int32) (tn : Int32) (tf : Int32) (gt : Nat → Int32) (r_tl : Rg 0 400 tl) (r_tp : Rg 0 400 tp) (r_tb : Rg 0 400 tb) : Met l yX9_whichWord (Cond.code yX9_whichWord cX9_whichWord 6 (some .int) :: TB) (RM 4 0 0) (va_Pc [.ref ht, .ref (sa 2)] (PRX D cs (SX sa sv) [(ht, .inr (7, [.ref hs, .int tl, .int tk, .int tp, .int tb, .int tv, .int tn, .int tf])), (hs, .inl ((cs 1), 400, .inl gt))])) (QP (fun v => ∃ x : Int32, v = .int x)) 0 0 (fun _ => False) := by
  refine MEX (y := yX9_whichWord) (cc := cX9_whichWord) (maxL := 6) (ret := (some .int)) (d := 4) (D := D) (cs := cs) (X := SX sa sv) (ws := [(ht, .inr (7, [.ref hs, .int tl, .int tk, .int tp, .int tb, .int tv, .int tn, .int tf])), (hs, .inl ((cs 1), 400, .inl gt))]) (av := [.ref ht, .ref (sa 2)]) (Qc := QP (fun v => ∃ x : Int32, v = .int x)) (by decide) (Nat.le_of_ble_eq_true rfl) ?_
  intro p e s m below meth c ls H hHe hx hb hr hml hown hts hlocks hP hK hN hX hXs hl
  obtain ⟨locs, hlc⟩ : ∃ z : List Loc, z = [] := ⟨_, rfl⟩
  rw [← hlc]
  have hown : s.vm.findClass "WrongHole$Text" = some m.cls := hown
  have hT : ∀ w ∈ TB, w.before ([.ref ht, .ref (sa 2)] : List Value).toArray s = true := fun w h => hts w (List.mem_cons_of_mem _ h)
  have hl : lv_has ls 6 [(0, .ref ht), (1, .ref (sa 2))] := hl
  have hP : va_P D vwCl [(ht, .inr (7, [.ref hs, .int tl, .int tk, .int tp, .int tb, .int tv, .int tn, .int tf])), (hs, .inl ((cs 1), 400, .inl gt))] H := hP
  refine lv_aload_n hx hb dX9_whichWord_0 rfl (lv_at hl 0 rfl) ?_
  refine va_get (D := D) (ci := 7) (v := .int tk) (C := "WrongHole$Text") (T := TX9) (N := 8) hx hb hts (iq_RX9 _) hown hK hP 0 rfl rfl 2 (by decide) (hT _ qq_1_41) (fun _ h9 => h9) rfl dX9_whichWord_1 ?_
  refine lv_sipush (v := 257) hx hb dX9_whichWord_4 (by decide) ?_
  refine lv_icmp_eq (tgt := 12) hx hb dX9_whichWord_7 (by decide) (fun c_1 => ?_) (fun c_1 => ?_)
  · have r_2 : Rg 257 257 tk := Rg.eq_l c_1 (Rg.top tk) (Rg.c (c := 257) (k := 257) rfl) (by decide)
    refine lv_iconst (v := 0) hx hb dX9_whichWord_12 (by decide) ?_
    refine lv_istore_n (lv' := [(2, .int 0), (0, .ref ht), (1, .ref (sa 2))]) hx hb dX9_whichWord_13 rfl hl (by decide) rfl (fun ls hl => ?_)
    refine lv_aload_n hx hb dX9_whichWord_14 rfl (lv_at hl 1 rfl) ?_
    refine va_get (D := D) (ci := 7) (v := .int tp) (C := "WrongHole$Text") (T := TX9) (N := 8) hx hb hts (iq_RX9 _) hown hK hP 0 rfl rfl 3 (by decide) (hT _ qq_1_42) (fun _ h9 => h9) rfl dX9_whichWord_15 ?_
    refine lv_istore_n (lv' := [(3, .int tp), (2, .int 0), (0, .ref ht), (1, .ref (sa 2))]) hx hb dX9_whichWord_18 rfl hl (by decide) rfl (fun ls hl => ?_)
    refine lv_iconst (v := 1) hx hb dX9_whichWord_19 (by decide) ?_
    refine lv_istore (lv' := [(4, .int 1), (3, .int tp), (2, .int 0), (0, .ref ht), (1, .ref (sa 2))]) hx hb dX9_whichWord_20 hl (by decide) rfl (fun ls hl => ?_)
    refine lv_iconst (v := 0) hx hb dX9_whichWord_22 (by decide) ?_
    refine lv_istore (lv' := [(5, .int 0), (4, .int 1), (3, .int tp), (2, .int 0), (0, .ref ht), (1, .ref (sa 2))]) hx hb dX9_whichWord_23 hl (by decide) rfl (fun ls hl => ?_)
    refine w_wh (σ := (Int32) × (Int32) × (Int32) × (Int32)) (fun x9 H locs ls => match x9 with | (v_37, v_38, v_39, v_40) => Rg 0 69 v_37 ∧ Rg 0 1 v_38 ∧ Rg 0 400 v_39 ∧ H = s.heap ∧ locs = [] ∧ va_P D vwCl [(ht, .inr (7, [.ref hs, .int tl, .int tk, .int tp, .int tb, .int tv, .int tn, .int tf])), (hs, .inl ((cs 1), 400, .inl gt))] H ∧ lv_has ls 6 [(5, .int v_37), (4, .int v_38), (3, .int v_39), (2, .int v_40), (0, .ref ht), (1, .ref (sa 2))]) (fun x9 => match x9 with | (v_37, v_38, v_39, v_40) => (69 - Int32.toInt v_37).toNat) 25 ?_ (0, 1, tp, 0) H locs ls ⟨(Rg.wk (lo2 := 0) (hi2 := 69) (Rg.c (c := 0) (k := 0) rfl) (by decide)), (Rg.wk (lo2 := 0) (hi2 := 1) (Rg.c (c := 1) (k := 1) rfl) (by decide)), r_tp, hHe, hlc, hP, lv_sub hl [0, 1, 2, 3, 4, 5] rfl⟩
    rintro ⟨v_37, v_38, v_39, v_40⟩ H locs ls ⟨r_979, r_980, r_981, hHe, hlc, hP, hl⟩ ih_978
    refine lv_iload hx hb dX9_whichWord_25 (lv_at hl 0 rfl) ?_
    refine lv_aload_n hx hb dX9_whichWord_27 rfl (lv_at hl 5 rfl) ?_
    have hPc := va_P.sub (ws' := []) hP [] rfl
    have hS0 : va_S (fun _ => False) s.heap H locs := by rw [hHe, hlc]; exact va_S.rf
    refine cl_V (W.runV (As := []) (rest := [.int v_37]) ⟨hx, hb, hml, hown, hts⟩ (c_S_length l D cs sa sv 2 (by decide)) ⟨callB_of 0 hts (gd_C qq_2_157) rfl rfl rfl (hT _ qq_1_12) (hT _ qq_2_154) (by decide +kernel) (rm_R rfl rfl), (hT _ qq_2_155), (hT _ qq_2_156)⟩ (px_T hPc hK hN hX hXs hS0 (i := 2) (by decide)) rfl rfl hl.1 rfl (lv_room (Nat.le_of_ble_eq_true rfl)) dX9_whichWord_28 ⟨Nat.le_of_ble_eq_true rfl, Nat.le_of_ble_eq_true rfl⟩) ?_
    refine tc_i 68 rfl ?_
    refine lv_icmp_gt (tgt := 121) hx hb dX9_whichWord_31 (by decide) (fun c_982 => ?_) (fun c_982 => ?_)
    · have r_983 : Rg 69 69 v_37 := Rg.lt_r c_982 (Rg.c (c := 68) (k := 68) rfl) r_979 (by decide)
      refine lv_iconst (v := (-1)) hx hb dX9_whichWord_121 (by decide) ?_
      exact W.iret (v := (-1)) hx hb hr (fun t9 ht9 hW9 => ⟨⟨_, rfl, _, rfl⟩, ht9.trans hHe⟩) (fun _ h9 => by rw [hlc] at h9; exact absurd h9 List.not_mem_nil) dX9_whichWord_122
    · have r_984 : Rg 0 68 v_37 := Rg.le_l (nlt_le c_982) r_979 (Rg.c (c := 68) (k := 68) rfl) (by decide)
      refine lv_iload hx hb dX9_whichWord_34 (lv_at hl 0 rfl) ?_
      refine lv_aload_n hx hb dX9_whichWord_36 rfl (lv_at hl 5 rfl) ?_
      have hPc := va_P.sub (ws' := []) hP [] rfl
      have hS0 : va_S (fun _ => False) s.heap H locs := by rw [hHe, hlc]; exact va_S.rf
      refine cl_V (W.runV (As := []) (rest := [.int v_37]) ⟨hx, hb, hml, hown, hts⟩ (c_S_length l D cs sa sv 2 (by decide)) ⟨callB_of 0 hts (gd_C qq_2_157) rfl rfl rfl (hT _ qq_1_12) (hT _ qq_2_154) (by decide +kernel) (rm_R rfl rfl), (hT _ qq_2_155), (hT _ qq_2_156)⟩ (px_T hPc hK hN hX hXs hS0 (i := 2) (by decide)) rfl rfl hl.1 rfl (lv_room (Nat.le_of_ble_eq_true rfl)) dX9_whichWord_37 ⟨Nat.le_of_ble_eq_true rfl, Nat.le_of_ble_eq_true rfl⟩) ?_
      refine tc_i 68 rfl ?_
      refine lv_icmp_eq (tgt := 54) hx hb dX9_whichWord_40 (by decide) (fun c_985 => ?_) (fun c_985 => ?_)
      · have r_986 : Rg 68 68 v_37 := Rg.eq_l c_985 r_984 (Rg.c (c := 68) (k := 68) rfl) (by decide)
        refine lv_iload hx hb dX9_whichWord_54 (lv_at hl 1 rfl) ?_
        refine lv_if_eq (tgt := 69) hx hb dX9_whichWord_56 (by decide) (fun c_988 => ?_) (fun c_988 => ?_)
        · have r_989 : Rg 0 0 v_38 := Rg.eq_l c_988 r_980 (Rg.c (c := 0) (k := 0) rfl) (by decide)
          obtain ⟨x_991, e_992⟩ : ∃ z : Int32, z = v_40 + Int32.ofInt 1 := ⟨_, rfl⟩
          refine lv_iinc (v := x_991) (lv' := [(2, .int x_991), (5, .int v_37), (4, .int v_38), (3, .int v_39), (0, .ref ht), (1, .ref (sa 2))]) hx hb dX9_whichWord_69 hl (k := 3) rfl (e_992.symm) (by decide) rfl (fun ls hl => ?_)
          refine lv_aload_n hx hb dX9_whichWord_72 rfl (lv_at hl 4 rfl) ?_
          refine va_get (D := D) (ci := 7) (v := .int tp) (C := "WrongHole$Text") (T := TX9) (N := 8) hx hb hts (iq_RX9 _) hown hK hP 0 rfl rfl 3 (by decide) (hT _ qq_1_42) (fun _ h9 => h9) rfl dX9_whichWord_73 ?_
          refine lv_istore_n (lv' := [(3, .int tp), (2, .int x_991), (5, .int v_37), (4, .int v_38), (0, .ref ht), (1, .ref (sa 2))]) hx hb dX9_whichWord_76 rfl hl (by decide) rfl (fun ls hl => ?_)
          refine lv_iconst (v := 1) hx hb dX9_whichWord_77 (by decide) ?_
          refine lv_istore (lv' := [(4, .int 1), (3, .int tp), (2, .int x_991), (5, .int v_37), (0, .ref ht), (1, .ref (sa 2))]) hx hb dX9_whichWord_78 hl (by decide) rfl (fun ls hl => ?_)
          refine lv_goto (tgt := 115) hx hb dX9_whichWord_80 (by decide) ?_
          obtain ⟨x_993, e_994⟩ : ∃ z : Int32, z = v_37 + Int32.ofInt 1 := ⟨_, rfl⟩
          have r_995 : Rg 69 69 x_993 := Rg.add e_994 r_986 (Rg.c (c := Int32.ofInt 1) (k := 1) rfl) (by decide)
          refine lv_iinc (v := x_993) (lv' := [(5, .int x_993), (4, .int 1), (3, .int tp), (2, .int x_991), (0, .ref ht), (1, .ref (sa 2))]) hx hb dX9_whichWord_115 hl (k := 3) rfl (e_994.symm) (by decide) rfl (fun ls hl => ?_)
          refine lv_goto (tgt := 25) hx hb dX9_whichWord_118 (by decide) ?_
          exact ih_978 (x_993, 1, tp, x_991) _ _ _ ⟨(Rg.wk (lo2 := 0) (hi2 := 69) r_995 (by decide)), (Rg.wk (lo2 := 0) (hi2 := 1) (Rg.c (c := 1) (k := 1) rfl) (by decide)), r_tp, hHe, hlc, hP, lv_sub hl [0, 1, 2, 3, 4, 5] rfl⟩ (ms_up e_994 r_986 (Rg.c (c := Int32.ofInt 1) (k := 1) rfl) (by decide))
        · have r_990 : Rg 1 1 v_38 := Rg.ne c_988 r_980 (Rg.c (c := 0) (k := 0) rfl) (by decide)
          refine lv_iload_n hx hb dX9_whichWord_59 rfl (lv_at hl 2 rfl) ?_
          refine lv_aload_n hx hb dX9_whichWord_60 rfl (lv_at hl 4 rfl) ?_
          refine va_get (D := D) (ci := 7) (v := .int tb) (C := "WrongHole$Text") (T := TX9) (N := 8) hx hb hts (iq_RX9 _) hown hK hP 0 rfl rfl 4 (by decide) (hT _ qq_1_43) (fun _ h9 => h9) rfl dX9_whichWord_61 ?_
          refine lv_icmp_ne (tgt := 69) hx hb dX9_whichWord_64 (by decide) (fun c_996 => ?_) (fun c_996 => ?_)
          · obtain ⟨x_997, e_998⟩ : ∃ z : Int32, z = v_40 + Int32.ofInt 1 := ⟨_, rfl⟩
            refine lv_iinc (v := x_997) (lv' := [(2, .int x_997), (5, .int v_37), (4, .int v_38), (3, .int v_39), (0, .ref ht), (1, .ref (sa 2))]) hx hb dX9_whichWord_69 hl (k := 3) rfl (e_998.symm) (by decide) rfl (fun ls hl => ?_)
            refine lv_aload_n hx hb dX9_whichWord_72 rfl (lv_at hl 4 rfl) ?_
            refine va_get (D := D) (ci := 7) (v := .int tp) (C := "WrongHole$Text") (T := TX9) (N := 8) hx hb hts (iq_RX9 _) hown hK hP 0 rfl rfl 3 (by decide) (hT _ qq_1_42) (fun _ h9 => h9) rfl dX9_whichWord_73 ?_
            refine lv_istore_n (lv' := [(3, .int tp), (2, .int x_997), (5, .int v_37), (4, .int v_38), (0, .ref ht), (1, .ref (sa 2))]) hx hb dX9_whichWord_76 rfl hl (by decide) rfl (fun ls hl => ?_)
            refine lv_iconst (v := 1) hx hb dX9_whichWord_77 (by decide) ?_
            refine lv_istore (lv' := [(4, .int 1), (3, .int tp), (2, .int x_997), (5, .int v_37), (0, .ref ht), (1, .ref (sa 2))]) hx hb dX9_whichWord_78 hl (by decide) rfl (fun ls hl => ?_)
            refine lv_goto (tgt := 115) hx hb dX9_whichWord_80 (by decide) ?_
            obtain ⟨x_999, e_1000⟩ : ∃ z : Int32, z = v_37 + Int32.ofInt 1 := ⟨_, rfl⟩
            have r_1001 : Rg 69 69 x_999 := Rg.add e_1000 r_986 (Rg.c (c := Int32.ofInt 1) (k := 1) rfl) (by decide)
            refine lv_iinc (v := x_999) (lv' := [(5, .int x_999), (4, .int 1), (3, .int tp), (2, .int x_997), (0, .ref ht), (1, .ref (sa 2))]) hx hb dX9_whichWord_115 hl (k := 3) rfl (e_1000.symm) (by decide) rfl (fun ls hl => ?_)
            refine lv_goto (tgt := 25) hx hb dX9_whichWord_118 (by decide) ?_
            exact ih_978 (x_999, 1, tp, x_997) _ _ _ ⟨(Rg.wk (lo2 := 0) (hi2 := 69) r_1001 (by decide)), (Rg.wk (lo2 := 0) (hi2 := 1) (Rg.c (c := 1) (k := 1) rfl) (by decide)), r_tp, hHe, hlc, hP, lv_sub hl [0, 1, 2, 3, 4, 5] rfl⟩ (ms_up e_1000 r_986 (Rg.c (c := Int32.ofInt 1) (k := 1) rfl) (by decide))
          · refine lv_iload_n hx hb dX9_whichWord_67 rfl (lv_at hl 3 rfl) ?_
            exact W.iret (v := v_40) hx hb hr (fun t9 ht9 hW9 => ⟨⟨_, rfl, _, rfl⟩, ht9.trans hHe⟩) (fun _ h9 => by rw [hlc] at h9; exact absurd h9 List.not_mem_nil) dX9_whichWord_68
      · have r_987 : Rg 0 67 v_37 := Rg.ne c_985 r_984 (Rg.c (c := 68) (k := 68) rfl) (by decide)
        refine lv_aload_n hx hb dX9_whichWord_43 rfl (lv_at hl 5 rfl) ?_
        refine lv_iload hx hb dX9_whichWord_44 (lv_at hl 0 rfl) ?_
        have hPc := va_P.sub (ws' := []) hP [] rfl
        have hS0 : va_S (fun _ => False) s.heap H locs := by rw [hHe, hlc]; exact va_S.rf
        refine cl_P (W.runV (As := [.int v_37]) (rest := []) ⟨hx, hb, hml, hown, hts⟩ (c_S_charAt l D cs sa sv 2 v_37 (by decide) (Rg.in r_987 (by decide)) (Rg.wk (lo2 := 0) (hi2 := 2147483647) r_987 (by decide))) ⟨callB_of 1 hts (gd_C qq_2_167) rfl rfl rfl (hT _ qq_1_12) (hT _ qq_2_164) (by decide +kernel) (rm_R rfl rfl), (hT _ qq_2_165), (hT _ qq_2_166)⟩ (px_T hPc hK hN hX hXs hS0 (i := 2) (by decide)) rfl rfl hl.1 rfl (lv_room (Nat.le_of_ble_eq_true rfl)) dX9_whichWord_46 ⟨Nat.le_of_ble_eq_true rfl, Nat.le_of_ble_eq_true rfl⟩) (fun v9 hz_1003 => ?_)
        obtain ⟨x_1002, rfl, r_1004⟩ := hz_1003
        refine lv_bipush (v := 32) hx hb dX9_whichWord_49 (by decide) ?_
        refine lv_icmp_ne (tgt := 83) hx hb dX9_whichWord_51 (by decide) (fun c_1005 => ?_) (fun c_1005 => ?_)
        · refine lv_iload_n hx hb dX9_whichWord_83 rfl (lv_at hl 2 rfl) ?_
          refine lv_aload_n hx hb dX9_whichWord_84 rfl (lv_at hl 4 rfl) ?_
          refine va_get (D := D) (ci := 7) (v := .int tb) (C := "WrongHole$Text") (T := TX9) (N := 8) hx hb hts (iq_RX9 _) hown hK hP 0 rfl rfl 4 (by decide) (hT _ qq_1_43) (fun _ h9 => h9) rfl dX9_whichWord_85 ?_
          refine w_cut (σ := (Int32) × (Int32)) (fun x9 H locs ls => match x9 with | (v_1020, v_1021) => Rg 0 1 v_1020 ∧ Rg 0 400 v_1021 ∧ H = s.heap ∧ locs = [] ∧ va_P D vwCl [(ht, .inr (7, [.ref hs, .int tl, .int tk, .int tp, .int tb, .int tv, .int tn, .int tf])), (hs, .inl ((cs 1), 400, .inl gt))] H ∧ lv_has ls 6 [(4, .int v_1020), (5, .int v_37), (3, .int v_1021), (2, .int v_40), (0, .ref ht), (1, .ref (sa 2))]) 115 (fun x9 => match x9 with | (v_1020, v_1021) => []) ?_ (fun hj_1022 => ?_)
          · rintro ⟨v_1020, v_1021⟩ H locs ls ⟨r_1023, r_1024, hHe, hlc, hP, hl⟩
            obtain ⟨x_1025, e_1026⟩ : ∃ z : Int32, z = v_37 + Int32.ofInt 1 := ⟨_, rfl⟩
            have r_1027 : Rg 1 68 x_1025 := Rg.add e_1026 r_987 (Rg.c (c := Int32.ofInt 1) (k := 1) rfl) (by decide)
            refine lv_iinc (v := x_1025) (lv' := [(5, .int x_1025), (4, .int v_1020), (3, .int v_1021), (2, .int v_40), (0, .ref ht), (1, .ref (sa 2))]) hx hb dX9_whichWord_115 hl (k := 1) rfl (e_1026.symm) (by decide) rfl (fun ls hl => ?_)
            refine lv_goto (tgt := 25) hx hb dX9_whichWord_118 (by decide) ?_
            exact ih_978 (x_1025, v_1020, v_1021, v_40) _ _ _ ⟨(Rg.wk (lo2 := 0) (hi2 := 69) r_1027 (by decide)), r_1023, r_1024, hHe, hlc, hP, lv_sub hl [0, 1, 2, 3, 4, 5] rfl⟩ (ms_up e_1026 r_987 (Rg.c (c := Int32.ofInt 1) (k := 1) rfl) (by decide))
          · refine lv_icmp_ge (tgt := 112) hx hb dX9_whichWord_88 (by decide) (fun c_1007 => ?_) (fun c_1007 => ?_)
            · refine lv_iconst (v := 0) hx hb dX9_whichWord_112 (by decide) ?_
              refine lv_istore (lv' := [(4, .int 0), (5, .int v_37), (3, .int v_39), (2, .int v_40), (0, .ref ht), (1, .ref (sa 2))]) hx hb dX9_whichWord_113 hl (by decide) rfl (fun ls hl => ?_)
              exact hj_1022 (0, v_39) _ _ _ ⟨(Rg.wk (lo2 := 0) (hi2 := 1) (Rg.c (c := 0) (k := 0) rfl) (by decide)), r_981, hHe, hlc, hP, lv_sub hl [0, 1, 2, 3, 4, 5] rfl⟩
            · have r_1008 : Rg 0 399 v_39 := Rg.lt_l (nle_lt c_1007) r_981 r_tb (by decide)
              have r_1009 : Rg 1 400 tb := Rg.lt_r (nle_lt c_1007) r_981 r_tb (by decide)
              refine lv_aload_n hx hb dX9_whichWord_91 rfl (lv_at hl 4 rfl) ?_
              refine va_get (D := D) (ci := 7) (v := .ref hs) (C := "WrongHole$Text") (T := TX9) (N := 8) hx hb hts (iq_RX9 _) hown hK hP 0 rfl rfl 0 (by decide) (hT _ qq_1_36) (fun _ h9 => h9) rfl dX9_whichWord_92 ?_
              refine lv_iload_n hx hb dX9_whichWord_95 rfl (lv_at hl 2 rfl) ?_
              have hi_1028 : vp_in v_39 400 := Rg.in r_1008 (by decide)
              refine va_cald hx hb hK hP 1 1 rfl rfl hi_1028 dX9_whichWord_96 ?_
              refine lv_topi (fun x_1029 e_1030 => ?_)
              refine lv_aload_n hx hb dX9_whichWord_97 rfl (lv_at hl 5 rfl) ?_
              refine lv_iload hx hb dX9_whichWord_98 (lv_at hl 0 rfl) ?_
              have hPc := va_P.sub (ws' := []) hP [] rfl
              have hS0 : va_S (fun _ => False) s.heap H locs := by rw [hHe, hlc]; exact va_S.rf
              refine cl_P (W.runV (As := [.int v_37]) (rest := [.int x_1029]) ⟨hx, hb, hml, hown, hts⟩ (c_S_charAt l D cs sa sv 2 v_37 (by decide) (Rg.in r_987 (by decide)) (Rg.wk (lo2 := 0) (hi2 := 2147483647) r_987 (by decide))) ⟨callB_of 1 hts (gd_C qq_2_167) rfl rfl rfl (hT _ qq_1_12) (hT _ qq_2_164) (by decide +kernel) (rm_R rfl rfl), (hT _ qq_2_165), (hT _ qq_2_166)⟩ (px_T hPc hK hN hX hXs hS0 (i := 2) (by decide)) rfl rfl hl.1 rfl (lv_room (Nat.le_of_ble_eq_true rfl)) dX9_whichWord_100 ⟨Nat.le_of_ble_eq_true rfl, Nat.le_of_ble_eq_true rfl⟩) (fun v9 hz_1032 => ?_)
              obtain ⟨x_1031, rfl, r_1033⟩ := hz_1032
              refine lv_icmp_ne (tgt := 112) hx hb dX9_whichWord_103 (by decide) (fun c_1034 => ?_) (fun c_1034 => ?_)
              · refine lv_iconst (v := 0) hx hb dX9_whichWord_112 (by decide) ?_
                refine lv_istore (lv' := [(4, .int 0), (5, .int v_37), (3, .int v_39), (2, .int v_40), (0, .ref ht), (1, .ref (sa 2))]) hx hb dX9_whichWord_113 hl (by decide) rfl (fun ls hl => ?_)
                exact hj_1022 (0, v_39) _ _ _ ⟨(Rg.wk (lo2 := 0) (hi2 := 1) (Rg.c (c := 0) (k := 0) rfl) (by decide)), (Rg.wk (lo2 := 0) (hi2 := 400) r_1008 (by decide)), hHe, hlc, hP, lv_sub hl [0, 1, 2, 3, 4, 5] rfl⟩
              · have r_1035 : Rg 0 65535 x_1029 := Rg.eq_l c_1034 (Rg.top x_1029) r_1033 (by decide)
                obtain ⟨x_1036, e_1037⟩ : ∃ z : Int32, z = v_39 + Int32.ofInt 1 := ⟨_, rfl⟩
                have r_1038 : Rg 1 400 x_1036 := Rg.add e_1037 r_1008 (Rg.c (c := Int32.ofInt 1) (k := 1) rfl) (by decide)
                refine lv_iinc (v := x_1036) (lv' := [(3, .int x_1036), (5, .int v_37), (4, .int v_38), (2, .int v_40), (0, .ref ht), (1, .ref (sa 2))]) hx hb dX9_whichWord_106 hl (k := 2) rfl (e_1037.symm) (by decide) rfl (fun ls hl => ?_)
                refine lv_goto (tgt := 115) hx hb dX9_whichWord_109 (by decide) ?_
                exact hj_1022 (v_38, x_1036) _ _ _ ⟨r_980, (Rg.wk (lo2 := 0) (hi2 := 400) r_1038 (by decide)), hHe, hlc, hP, lv_sub hl [2, 1, 0, 3, 4, 5] rfl⟩
        · have r_1006 : Rg 32 32 x_1002 := Rg.eq_l c_1005 r_1004 (Rg.c (c := 32) (k := 32) rfl) (by decide)
          refine lv_iload hx hb dX9_whichWord_54 (lv_at hl 1 rfl) ?_
          refine lv_if_eq (tgt := 69) hx hb dX9_whichWord_56 (by decide) (fun c_1039 => ?_) (fun c_1039 => ?_)
          · have r_1040 : Rg 0 0 v_38 := Rg.eq_l c_1039 r_980 (Rg.c (c := 0) (k := 0) rfl) (by decide)
            obtain ⟨x_1042, e_1043⟩ : ∃ z : Int32, z = v_40 + Int32.ofInt 1 := ⟨_, rfl⟩
            refine lv_iinc (v := x_1042) (lv' := [(2, .int x_1042), (5, .int v_37), (4, .int v_38), (3, .int v_39), (0, .ref ht), (1, .ref (sa 2))]) hx hb dX9_whichWord_69 hl (k := 3) rfl (e_1043.symm) (by decide) rfl (fun ls hl => ?_)
            refine lv_aload_n hx hb dX9_whichWord_72 rfl (lv_at hl 4 rfl) ?_
            refine va_get (D := D) (ci := 7) (v := .int tp) (C := "WrongHole$Text") (T := TX9) (N := 8) hx hb hts (iq_RX9 _) hown hK hP 0 rfl rfl 3 (by decide) (hT _ qq_1_42) (fun _ h9 => h9) rfl dX9_whichWord_73 ?_
            refine lv_istore_n (lv' := [(3, .int tp), (2, .int x_1042), (5, .int v_37), (4, .int v_38), (0, .ref ht), (1, .ref (sa 2))]) hx hb dX9_whichWord_76 rfl hl (by decide) rfl (fun ls hl => ?_)
            refine lv_iconst (v := 1) hx hb dX9_whichWord_77 (by decide) ?_
            refine lv_istore (lv' := [(4, .int 1), (3, .int tp), (2, .int x_1042), (5, .int v_37), (0, .ref ht), (1, .ref (sa 2))]) hx hb dX9_whichWord_78 hl (by decide) rfl (fun ls hl => ?_)
            refine lv_goto (tgt := 115) hx hb dX9_whichWord_80 (by decide) ?_
            obtain ⟨x_1044, e_1045⟩ : ∃ z : Int32, z = v_37 + Int32.ofInt 1 := ⟨_, rfl⟩
            have r_1046 : Rg 1 68 x_1044 := Rg.add e_1045 r_987 (Rg.c (c := Int32.ofInt 1) (k := 1) rfl) (by decide)
            refine lv_iinc (v := x_1044) (lv' := [(5, .int x_1044), (4, .int 1), (3, .int tp), (2, .int x_1042), (0, .ref ht), (1, .ref (sa 2))]) hx hb dX9_whichWord_115 hl (k := 3) rfl (e_1045.symm) (by decide) rfl (fun ls hl => ?_)
            refine lv_goto (tgt := 25) hx hb dX9_whichWord_118 (by decide) ?_
            exact ih_978 (x_1044, 1, tp, x_1042) _ _ _ ⟨(Rg.wk (lo2 := 0) (hi2 := 69) r_1046 (by decide)), (Rg.wk (lo2 := 0) (hi2 := 1) (Rg.c (c := 1) (k := 1) rfl) (by decide)), r_tp, hHe, hlc, hP, lv_sub hl [0, 1, 2, 3, 4, 5] rfl⟩ (ms_up e_1045 r_987 (Rg.c (c := Int32.ofInt 1) (k := 1) rfl) (by decide))
          · have r_1041 : Rg 1 1 v_38 := Rg.ne c_1039 r_980 (Rg.c (c := 0) (k := 0) rfl) (by decide)
            refine lv_iload_n hx hb dX9_whichWord_59 rfl (lv_at hl 2 rfl) ?_
            refine lv_aload_n hx hb dX9_whichWord_60 rfl (lv_at hl 4 rfl) ?_
            refine va_get (D := D) (ci := 7) (v := .int tb) (C := "WrongHole$Text") (T := TX9) (N := 8) hx hb hts (iq_RX9 _) hown hK hP 0 rfl rfl 4 (by decide) (hT _ qq_1_43) (fun _ h9 => h9) rfl dX9_whichWord_61 ?_
            refine lv_icmp_ne (tgt := 69) hx hb dX9_whichWord_64 (by decide) (fun c_1047 => ?_) (fun c_1047 => ?_)
            · obtain ⟨x_1048, e_1049⟩ : ∃ z : Int32, z = v_40 + Int32.ofInt 1 := ⟨_, rfl⟩
              refine lv_iinc (v := x_1048) (lv' := [(2, .int x_1048), (5, .int v_37), (4, .int v_38), (3, .int v_39), (0, .ref ht), (1, .ref (sa 2))]) hx hb dX9_whichWord_69 hl (k := 3) rfl (e_1049.symm) (by decide) rfl (fun ls hl => ?_)
              refine lv_aload_n hx hb dX9_whichWord_72 rfl (lv_at hl 4 rfl) ?_
              refine va_get (D := D) (ci := 7) (v := .int tp) (C := "WrongHole$Text") (T := TX9) (N := 8) hx hb hts (iq_RX9 _) hown hK hP 0 rfl rfl 3 (by decide) (hT _ qq_1_42) (fun _ h9 => h9) rfl dX9_whichWord_73 ?_
              refine lv_istore_n (lv' := [(3, .int tp), (2, .int x_1048), (5, .int v_37), (4, .int v_38), (0, .ref ht), (1, .ref (sa 2))]) hx hb dX9_whichWord_76 rfl hl (by decide) rfl (fun ls hl => ?_)
              refine lv_iconst (v := 1) hx hb dX9_whichWord_77 (by decide) ?_
              refine lv_istore (lv' := [(4, .int 1), (3, .int tp), (2, .int x_1048), (5, .int v_37), (0, .ref ht), (1, .ref (sa 2))]) hx hb dX9_whichWord_78 hl (by decide) rfl (fun ls hl => ?_)
              refine lv_goto (tgt := 115) hx hb dX9_whichWord_80 (by decide) ?_
              obtain ⟨x_1050, e_1051⟩ : ∃ z : Int32, z = v_37 + Int32.ofInt 1 := ⟨_, rfl⟩
              have r_1052 : Rg 1 68 x_1050 := Rg.add e_1051 r_987 (Rg.c (c := Int32.ofInt 1) (k := 1) rfl) (by decide)
              refine lv_iinc (v := x_1050) (lv' := [(5, .int x_1050), (4, .int 1), (3, .int tp), (2, .int x_1048), (0, .ref ht), (1, .ref (sa 2))]) hx hb dX9_whichWord_115 hl (k := 3) rfl (e_1051.symm) (by decide) rfl (fun ls hl => ?_)
              refine lv_goto (tgt := 25) hx hb dX9_whichWord_118 (by decide) ?_
              exact ih_978 (x_1050, 1, tp, x_1048) _ _ _ ⟨(Rg.wk (lo2 := 0) (hi2 := 69) r_1052 (by decide)), (Rg.wk (lo2 := 0) (hi2 := 1) (Rg.c (c := 1) (k := 1) rfl) (by decide)), r_tp, hHe, hlc, hP, lv_sub hl [0, 1, 2, 3, 4, 5] rfl⟩ (ms_up e_1051 r_987 (Rg.c (c := Int32.ofInt 1) (k := 1) rfl) (by decide))
            · refine lv_iload_n hx hb dX9_whichWord_67 rfl (lv_at hl 3 rfl) ?_
              exact W.iret (v := v_40) hx hb hr (fun t9 ht9 hW9 => ⟨⟨_, rfl, _, rfl⟩, ht9.trans hHe⟩) (fun _ h9 => by rw [hlc] at h9; exact absurd h9 List.not_mem_nil) dX9_whichWord_68
  · refine lv_iconst (v := (-1)) hx hb dX9_whichWord_10 (by decide) ?_
    exact W.iret (v := (-1)) hx hb hr (fun t9 ht9 hW9 => ⟨⟨_, rfl, _, rfl⟩, ht9.trans hHe⟩) (fun _ h9 => by rw [hlc] at h9; exact absurd h9 List.not_mem_nil) dX9_whichWord_11
set_option maxHeartbeats 4000000 in
set_option maxRecDepth 100000 in
theorem c_Text_whichWord_3 (l : Launch) (D : va_G) (cs : Nat → ClassId) (sa sv : Nat → Nat) (ht : Nat) (hs : Nat) (tl : Int32) (tk : Int32) (tp : Int32) (tb : Int32) (tv : Int32) (tn : Int32) (tf : Int32) (gt : Nat → Int32) (r_tl : Rg 0 400 tl) (r_tp : Rg 0 400 tp) (r_tb : Rg 0 400 tb) : Met l yX9_whichWord (Cond.code yX9_whichWord cX9_whichWord 6 (some .int) :: TB) (RM 4 0 0) (va_Pc [.ref ht, .ref (sa 3)] (PRX D cs (SX sa sv) [(ht, .inr (7, [.ref hs, .int tl, .int tk, .int tp, .int tb, .int tv, .int tn, .int tf])), (hs, .inl ((cs 1), 400, .inl gt))])) (QP (fun v => ∃ x : Int32, v = .int x)) 0 0 (fun _ => False) := by
  refine MEX (y := yX9_whichWord) (cc := cX9_whichWord) (maxL := 6) (ret := (some .int)) (d := 4) (D := D) (cs := cs) (X := SX sa sv) (ws := [(ht, .inr (7, [.ref hs, .int tl, .int tk, .int tp, .int tb, .int tv, .int tn, .int tf])), (hs, .inl ((cs 1), 400, .inl gt))]) (av := [.ref ht, .ref (sa 3)]) (Qc := QP (fun v => ∃ x : Int32, v = .int x)) (by decide) (Nat.le_of_ble_eq_true rfl) ?_
  intro p e s m below meth c ls H hHe hx hb hr hml hown hts hlocks hP hK hN hX hXs hl
  obtain ⟨locs, hlc⟩ : ∃ z : List Loc, z = [] := ⟨_, rfl⟩
  rw [← hlc]
  have hown : s.vm.findClass "WrongHole$Text" = some m.cls := hown
  have hT : ∀ w ∈ TB, w.before ([.ref ht, .ref (sa 3)] : List Value).toArray s = true := fun w h => hts w (List.mem_cons_of_mem _ h)
  have hl : lv_has ls 6 [(0, .ref ht), (1, .ref (sa 3))] := hl
  have hP : va_P D vwCl [(ht, .inr (7, [.ref hs, .int tl, .int tk, .int tp, .int tb, .int tv, .int tn, .int tf])), (hs, .inl ((cs 1), 400, .inl gt))] H := hP
  refine lv_aload_n hx hb dX9_whichWord_0 rfl (lv_at hl 0 rfl) ?_
  refine va_get (D := D) (ci := 7) (v := .int tk) (C := "WrongHole$Text") (T := TX9) (N := 8) hx hb hts (iq_RX9 _) hown hK hP 0 rfl rfl 2 (by decide) (hT _ qq_1_41) (fun _ h9 => h9) rfl dX9_whichWord_1 ?_
  refine lv_sipush (v := 257) hx hb dX9_whichWord_4 (by decide) ?_
  refine lv_icmp_eq (tgt := 12) hx hb dX9_whichWord_7 (by decide) (fun c_1 => ?_) (fun c_1 => ?_)
  · have r_2 : Rg 257 257 tk := Rg.eq_l c_1 (Rg.top tk) (Rg.c (c := 257) (k := 257) rfl) (by decide)
    refine lv_iconst (v := 0) hx hb dX9_whichWord_12 (by decide) ?_
    refine lv_istore_n (lv' := [(2, .int 0), (0, .ref ht), (1, .ref (sa 3))]) hx hb dX9_whichWord_13 rfl hl (by decide) rfl (fun ls hl => ?_)
    refine lv_aload_n hx hb dX9_whichWord_14 rfl (lv_at hl 1 rfl) ?_
    refine va_get (D := D) (ci := 7) (v := .int tp) (C := "WrongHole$Text") (T := TX9) (N := 8) hx hb hts (iq_RX9 _) hown hK hP 0 rfl rfl 3 (by decide) (hT _ qq_1_42) (fun _ h9 => h9) rfl dX9_whichWord_15 ?_
    refine lv_istore_n (lv' := [(3, .int tp), (2, .int 0), (0, .ref ht), (1, .ref (sa 3))]) hx hb dX9_whichWord_18 rfl hl (by decide) rfl (fun ls hl => ?_)
    refine lv_iconst (v := 1) hx hb dX9_whichWord_19 (by decide) ?_
    refine lv_istore (lv' := [(4, .int 1), (3, .int tp), (2, .int 0), (0, .ref ht), (1, .ref (sa 3))]) hx hb dX9_whichWord_20 hl (by decide) rfl (fun ls hl => ?_)
    refine lv_iconst (v := 0) hx hb dX9_whichWord_22 (by decide) ?_
    refine lv_istore (lv' := [(5, .int 0), (4, .int 1), (3, .int tp), (2, .int 0), (0, .ref ht), (1, .ref (sa 3))]) hx hb dX9_whichWord_23 hl (by decide) rfl (fun ls hl => ?_)
    refine w_wh (σ := (Int32) × (Int32) × (Int32) × (Int32)) (fun x9 H locs ls => match x9 with | (v_37, v_38, v_39, v_40) => Rg 0 3 v_37 ∧ Rg 0 1 v_38 ∧ Rg 0 400 v_39 ∧ H = s.heap ∧ locs = [] ∧ va_P D vwCl [(ht, .inr (7, [.ref hs, .int tl, .int tk, .int tp, .int tb, .int tv, .int tn, .int tf])), (hs, .inl ((cs 1), 400, .inl gt))] H ∧ lv_has ls 6 [(5, .int v_37), (4, .int v_38), (3, .int v_39), (2, .int v_40), (0, .ref ht), (1, .ref (sa 3))]) (fun x9 => match x9 with | (v_37, v_38, v_39, v_40) => (3 - Int32.toInt v_37).toNat) 25 ?_ (0, 1, tp, 0) H locs ls ⟨(Rg.wk (lo2 := 0) (hi2 := 3) (Rg.c (c := 0) (k := 0) rfl) (by decide)), (Rg.wk (lo2 := 0) (hi2 := 1) (Rg.c (c := 1) (k := 1) rfl) (by decide)), r_tp, hHe, hlc, hP, lv_sub hl [0, 1, 2, 3, 4, 5] rfl⟩
    rintro ⟨v_37, v_38, v_39, v_40⟩ H locs ls ⟨r_1057, r_1058, r_1059, hHe, hlc, hP, hl⟩ ih_1056
    refine lv_iload hx hb dX9_whichWord_25 (lv_at hl 0 rfl) ?_
    refine lv_aload_n hx hb dX9_whichWord_27 rfl (lv_at hl 5 rfl) ?_
    have hPc := va_P.sub (ws' := []) hP [] rfl
    have hS0 : va_S (fun _ => False) s.heap H locs := by rw [hHe, hlc]; exact va_S.rf
    refine cl_V (W.runV (As := []) (rest := [.int v_37]) ⟨hx, hb, hml, hown, hts⟩ (c_S_length l D cs sa sv 3 (by decide)) ⟨callB_of 0 hts (gd_C qq_2_157) rfl rfl rfl (hT _ qq_1_12) (hT _ qq_2_154) (by decide +kernel) (rm_R rfl rfl), (hT _ qq_2_155), (hT _ qq_2_156)⟩ (px_T hPc hK hN hX hXs hS0 (i := 3) (by decide)) rfl rfl hl.1 rfl (lv_room (Nat.le_of_ble_eq_true rfl)) dX9_whichWord_28 ⟨Nat.le_of_ble_eq_true rfl, Nat.le_of_ble_eq_true rfl⟩) ?_
    refine tc_i 2 rfl ?_
    refine lv_icmp_gt (tgt := 121) hx hb dX9_whichWord_31 (by decide) (fun c_1060 => ?_) (fun c_1060 => ?_)
    · have r_1061 : Rg 3 3 v_37 := Rg.lt_r c_1060 (Rg.c (c := 2) (k := 2) rfl) r_1057 (by decide)
      refine lv_iconst (v := (-1)) hx hb dX9_whichWord_121 (by decide) ?_
      exact W.iret (v := (-1)) hx hb hr (fun t9 ht9 hW9 => ⟨⟨_, rfl, _, rfl⟩, ht9.trans hHe⟩) (fun _ h9 => by rw [hlc] at h9; exact absurd h9 List.not_mem_nil) dX9_whichWord_122
    · have r_1062 : Rg 0 2 v_37 := Rg.le_l (nlt_le c_1060) r_1057 (Rg.c (c := 2) (k := 2) rfl) (by decide)
      refine lv_iload hx hb dX9_whichWord_34 (lv_at hl 0 rfl) ?_
      refine lv_aload_n hx hb dX9_whichWord_36 rfl (lv_at hl 5 rfl) ?_
      have hPc := va_P.sub (ws' := []) hP [] rfl
      have hS0 : va_S (fun _ => False) s.heap H locs := by rw [hHe, hlc]; exact va_S.rf
      refine cl_V (W.runV (As := []) (rest := [.int v_37]) ⟨hx, hb, hml, hown, hts⟩ (c_S_length l D cs sa sv 3 (by decide)) ⟨callB_of 0 hts (gd_C qq_2_157) rfl rfl rfl (hT _ qq_1_12) (hT _ qq_2_154) (by decide +kernel) (rm_R rfl rfl), (hT _ qq_2_155), (hT _ qq_2_156)⟩ (px_T hPc hK hN hX hXs hS0 (i := 3) (by decide)) rfl rfl hl.1 rfl (lv_room (Nat.le_of_ble_eq_true rfl)) dX9_whichWord_37 ⟨Nat.le_of_ble_eq_true rfl, Nat.le_of_ble_eq_true rfl⟩) ?_
      refine tc_i 2 rfl ?_
      refine lv_icmp_eq (tgt := 54) hx hb dX9_whichWord_40 (by decide) (fun c_1063 => ?_) (fun c_1063 => ?_)
      · have r_1064 : Rg 2 2 v_37 := Rg.eq_l c_1063 r_1062 (Rg.c (c := 2) (k := 2) rfl) (by decide)
        refine lv_iload hx hb dX9_whichWord_54 (lv_at hl 1 rfl) ?_
        refine lv_if_eq (tgt := 69) hx hb dX9_whichWord_56 (by decide) (fun c_1066 => ?_) (fun c_1066 => ?_)
        · have r_1067 : Rg 0 0 v_38 := Rg.eq_l c_1066 r_1058 (Rg.c (c := 0) (k := 0) rfl) (by decide)
          obtain ⟨x_1069, e_1070⟩ : ∃ z : Int32, z = v_40 + Int32.ofInt 1 := ⟨_, rfl⟩
          refine lv_iinc (v := x_1069) (lv' := [(2, .int x_1069), (5, .int v_37), (4, .int v_38), (3, .int v_39), (0, .ref ht), (1, .ref (sa 3))]) hx hb dX9_whichWord_69 hl (k := 3) rfl (e_1070.symm) (by decide) rfl (fun ls hl => ?_)
          refine lv_aload_n hx hb dX9_whichWord_72 rfl (lv_at hl 4 rfl) ?_
          refine va_get (D := D) (ci := 7) (v := .int tp) (C := "WrongHole$Text") (T := TX9) (N := 8) hx hb hts (iq_RX9 _) hown hK hP 0 rfl rfl 3 (by decide) (hT _ qq_1_42) (fun _ h9 => h9) rfl dX9_whichWord_73 ?_
          refine lv_istore_n (lv' := [(3, .int tp), (2, .int x_1069), (5, .int v_37), (4, .int v_38), (0, .ref ht), (1, .ref (sa 3))]) hx hb dX9_whichWord_76 rfl hl (by decide) rfl (fun ls hl => ?_)
          refine lv_iconst (v := 1) hx hb dX9_whichWord_77 (by decide) ?_
          refine lv_istore (lv' := [(4, .int 1), (3, .int tp), (2, .int x_1069), (5, .int v_37), (0, .ref ht), (1, .ref (sa 3))]) hx hb dX9_whichWord_78 hl (by decide) rfl (fun ls hl => ?_)
          refine lv_goto (tgt := 115) hx hb dX9_whichWord_80 (by decide) ?_
          obtain ⟨x_1071, e_1072⟩ : ∃ z : Int32, z = v_37 + Int32.ofInt 1 := ⟨_, rfl⟩
          have r_1073 : Rg 3 3 x_1071 := Rg.add e_1072 r_1064 (Rg.c (c := Int32.ofInt 1) (k := 1) rfl) (by decide)
          refine lv_iinc (v := x_1071) (lv' := [(5, .int x_1071), (4, .int 1), (3, .int tp), (2, .int x_1069), (0, .ref ht), (1, .ref (sa 3))]) hx hb dX9_whichWord_115 hl (k := 3) rfl (e_1072.symm) (by decide) rfl (fun ls hl => ?_)
          refine lv_goto (tgt := 25) hx hb dX9_whichWord_118 (by decide) ?_
          exact ih_1056 (x_1071, 1, tp, x_1069) _ _ _ ⟨(Rg.wk (lo2 := 0) (hi2 := 3) r_1073 (by decide)), (Rg.wk (lo2 := 0) (hi2 := 1) (Rg.c (c := 1) (k := 1) rfl) (by decide)), r_tp, hHe, hlc, hP, lv_sub hl [0, 1, 2, 3, 4, 5] rfl⟩ (ms_up e_1072 r_1064 (Rg.c (c := Int32.ofInt 1) (k := 1) rfl) (by decide))
        · have r_1068 : Rg 1 1 v_38 := Rg.ne c_1066 r_1058 (Rg.c (c := 0) (k := 0) rfl) (by decide)
          refine lv_iload_n hx hb dX9_whichWord_59 rfl (lv_at hl 2 rfl) ?_
          refine lv_aload_n hx hb dX9_whichWord_60 rfl (lv_at hl 4 rfl) ?_
          refine va_get (D := D) (ci := 7) (v := .int tb) (C := "WrongHole$Text") (T := TX9) (N := 8) hx hb hts (iq_RX9 _) hown hK hP 0 rfl rfl 4 (by decide) (hT _ qq_1_43) (fun _ h9 => h9) rfl dX9_whichWord_61 ?_
          refine lv_icmp_ne (tgt := 69) hx hb dX9_whichWord_64 (by decide) (fun c_1074 => ?_) (fun c_1074 => ?_)
          · obtain ⟨x_1075, e_1076⟩ : ∃ z : Int32, z = v_40 + Int32.ofInt 1 := ⟨_, rfl⟩
            refine lv_iinc (v := x_1075) (lv' := [(2, .int x_1075), (5, .int v_37), (4, .int v_38), (3, .int v_39), (0, .ref ht), (1, .ref (sa 3))]) hx hb dX9_whichWord_69 hl (k := 3) rfl (e_1076.symm) (by decide) rfl (fun ls hl => ?_)
            refine lv_aload_n hx hb dX9_whichWord_72 rfl (lv_at hl 4 rfl) ?_
            refine va_get (D := D) (ci := 7) (v := .int tp) (C := "WrongHole$Text") (T := TX9) (N := 8) hx hb hts (iq_RX9 _) hown hK hP 0 rfl rfl 3 (by decide) (hT _ qq_1_42) (fun _ h9 => h9) rfl dX9_whichWord_73 ?_
            refine lv_istore_n (lv' := [(3, .int tp), (2, .int x_1075), (5, .int v_37), (4, .int v_38), (0, .ref ht), (1, .ref (sa 3))]) hx hb dX9_whichWord_76 rfl hl (by decide) rfl (fun ls hl => ?_)
            refine lv_iconst (v := 1) hx hb dX9_whichWord_77 (by decide) ?_
            refine lv_istore (lv' := [(4, .int 1), (3, .int tp), (2, .int x_1075), (5, .int v_37), (0, .ref ht), (1, .ref (sa 3))]) hx hb dX9_whichWord_78 hl (by decide) rfl (fun ls hl => ?_)
            refine lv_goto (tgt := 115) hx hb dX9_whichWord_80 (by decide) ?_
            obtain ⟨x_1077, e_1078⟩ : ∃ z : Int32, z = v_37 + Int32.ofInt 1 := ⟨_, rfl⟩
            have r_1079 : Rg 3 3 x_1077 := Rg.add e_1078 r_1064 (Rg.c (c := Int32.ofInt 1) (k := 1) rfl) (by decide)
            refine lv_iinc (v := x_1077) (lv' := [(5, .int x_1077), (4, .int 1), (3, .int tp), (2, .int x_1075), (0, .ref ht), (1, .ref (sa 3))]) hx hb dX9_whichWord_115 hl (k := 3) rfl (e_1078.symm) (by decide) rfl (fun ls hl => ?_)
            refine lv_goto (tgt := 25) hx hb dX9_whichWord_118 (by decide) ?_
            exact ih_1056 (x_1077, 1, tp, x_1075) _ _ _ ⟨(Rg.wk (lo2 := 0) (hi2 := 3) r_1079 (by decide)), (Rg.wk (lo2 := 0) (hi2 := 1) (Rg.c (c := 1) (k := 1) rfl) (by decide)), r_tp, hHe, hlc, hP, lv_sub hl [0, 1, 2, 3, 4, 5] rfl⟩ (ms_up e_1078 r_1064 (Rg.c (c := Int32.ofInt 1) (k := 1) rfl) (by decide))
          · refine lv_iload_n hx hb dX9_whichWord_67 rfl (lv_at hl 3 rfl) ?_
            exact W.iret (v := v_40) hx hb hr (fun t9 ht9 hW9 => ⟨⟨_, rfl, _, rfl⟩, ht9.trans hHe⟩) (fun _ h9 => by rw [hlc] at h9; exact absurd h9 List.not_mem_nil) dX9_whichWord_68
      · have r_1065 : Rg 0 1 v_37 := Rg.ne c_1063 r_1062 (Rg.c (c := 2) (k := 2) rfl) (by decide)
        refine lv_aload_n hx hb dX9_whichWord_43 rfl (lv_at hl 5 rfl) ?_
        refine lv_iload hx hb dX9_whichWord_44 (lv_at hl 0 rfl) ?_
        have hPc := va_P.sub (ws' := []) hP [] rfl
        have hS0 : va_S (fun _ => False) s.heap H locs := by rw [hHe, hlc]; exact va_S.rf
        refine cl_P (W.runV (As := [.int v_37]) (rest := []) ⟨hx, hb, hml, hown, hts⟩ (c_S_charAt l D cs sa sv 3 v_37 (by decide) (Rg.in r_1065 (by decide)) (Rg.wk (lo2 := 0) (hi2 := 2147483647) r_1065 (by decide))) ⟨callB_of 1 hts (gd_C qq_2_167) rfl rfl rfl (hT _ qq_1_12) (hT _ qq_2_164) (by decide +kernel) (rm_R rfl rfl), (hT _ qq_2_165), (hT _ qq_2_166)⟩ (px_T hPc hK hN hX hXs hS0 (i := 3) (by decide)) rfl rfl hl.1 rfl (lv_room (Nat.le_of_ble_eq_true rfl)) dX9_whichWord_46 ⟨Nat.le_of_ble_eq_true rfl, Nat.le_of_ble_eq_true rfl⟩) (fun v9 hz_1081 => ?_)
        obtain ⟨x_1080, rfl, r_1082⟩ := hz_1081
        refine lv_bipush (v := 32) hx hb dX9_whichWord_49 (by decide) ?_
        refine lv_icmp_ne (tgt := 83) hx hb dX9_whichWord_51 (by decide) (fun c_1083 => ?_) (fun c_1083 => ?_)
        · refine lv_iload_n hx hb dX9_whichWord_83 rfl (lv_at hl 2 rfl) ?_
          refine lv_aload_n hx hb dX9_whichWord_84 rfl (lv_at hl 4 rfl) ?_
          refine va_get (D := D) (ci := 7) (v := .int tb) (C := "WrongHole$Text") (T := TX9) (N := 8) hx hb hts (iq_RX9 _) hown hK hP 0 rfl rfl 4 (by decide) (hT _ qq_1_43) (fun _ h9 => h9) rfl dX9_whichWord_85 ?_
          refine w_cut (σ := (Int32) × (Int32)) (fun x9 H locs ls => match x9 with | (v_1098, v_1099) => Rg 0 1 v_1098 ∧ Rg 0 400 v_1099 ∧ H = s.heap ∧ locs = [] ∧ va_P D vwCl [(ht, .inr (7, [.ref hs, .int tl, .int tk, .int tp, .int tb, .int tv, .int tn, .int tf])), (hs, .inl ((cs 1), 400, .inl gt))] H ∧ lv_has ls 6 [(4, .int v_1098), (5, .int v_37), (3, .int v_1099), (2, .int v_40), (0, .ref ht), (1, .ref (sa 3))]) 115 (fun x9 => match x9 with | (v_1098, v_1099) => []) ?_ (fun hj_1100 => ?_)
          · rintro ⟨v_1098, v_1099⟩ H locs ls ⟨r_1101, r_1102, hHe, hlc, hP, hl⟩
            obtain ⟨x_1103, e_1104⟩ : ∃ z : Int32, z = v_37 + Int32.ofInt 1 := ⟨_, rfl⟩
            have r_1105 : Rg 1 2 x_1103 := Rg.add e_1104 r_1065 (Rg.c (c := Int32.ofInt 1) (k := 1) rfl) (by decide)
            refine lv_iinc (v := x_1103) (lv' := [(5, .int x_1103), (4, .int v_1098), (3, .int v_1099), (2, .int v_40), (0, .ref ht), (1, .ref (sa 3))]) hx hb dX9_whichWord_115 hl (k := 1) rfl (e_1104.symm) (by decide) rfl (fun ls hl => ?_)
            refine lv_goto (tgt := 25) hx hb dX9_whichWord_118 (by decide) ?_
            exact ih_1056 (x_1103, v_1098, v_1099, v_40) _ _ _ ⟨(Rg.wk (lo2 := 0) (hi2 := 3) r_1105 (by decide)), r_1101, r_1102, hHe, hlc, hP, lv_sub hl [0, 1, 2, 3, 4, 5] rfl⟩ (ms_up e_1104 r_1065 (Rg.c (c := Int32.ofInt 1) (k := 1) rfl) (by decide))
          · refine lv_icmp_ge (tgt := 112) hx hb dX9_whichWord_88 (by decide) (fun c_1085 => ?_) (fun c_1085 => ?_)
            · refine lv_iconst (v := 0) hx hb dX9_whichWord_112 (by decide) ?_
              refine lv_istore (lv' := [(4, .int 0), (5, .int v_37), (3, .int v_39), (2, .int v_40), (0, .ref ht), (1, .ref (sa 3))]) hx hb dX9_whichWord_113 hl (by decide) rfl (fun ls hl => ?_)
              exact hj_1100 (0, v_39) _ _ _ ⟨(Rg.wk (lo2 := 0) (hi2 := 1) (Rg.c (c := 0) (k := 0) rfl) (by decide)), r_1059, hHe, hlc, hP, lv_sub hl [0, 1, 2, 3, 4, 5] rfl⟩
            · have r_1086 : Rg 0 399 v_39 := Rg.lt_l (nle_lt c_1085) r_1059 r_tb (by decide)
              have r_1087 : Rg 1 400 tb := Rg.lt_r (nle_lt c_1085) r_1059 r_tb (by decide)
              refine lv_aload_n hx hb dX9_whichWord_91 rfl (lv_at hl 4 rfl) ?_
              refine va_get (D := D) (ci := 7) (v := .ref hs) (C := "WrongHole$Text") (T := TX9) (N := 8) hx hb hts (iq_RX9 _) hown hK hP 0 rfl rfl 0 (by decide) (hT _ qq_1_36) (fun _ h9 => h9) rfl dX9_whichWord_92 ?_
              refine lv_iload_n hx hb dX9_whichWord_95 rfl (lv_at hl 2 rfl) ?_
              have hi_1106 : vp_in v_39 400 := Rg.in r_1086 (by decide)
              refine va_cald hx hb hK hP 1 1 rfl rfl hi_1106 dX9_whichWord_96 ?_
              refine lv_topi (fun x_1107 e_1108 => ?_)
              refine lv_aload_n hx hb dX9_whichWord_97 rfl (lv_at hl 5 rfl) ?_
              refine lv_iload hx hb dX9_whichWord_98 (lv_at hl 0 rfl) ?_
              have hPc := va_P.sub (ws' := []) hP [] rfl
              have hS0 : va_S (fun _ => False) s.heap H locs := by rw [hHe, hlc]; exact va_S.rf
              refine cl_P (W.runV (As := [.int v_37]) (rest := [.int x_1107]) ⟨hx, hb, hml, hown, hts⟩ (c_S_charAt l D cs sa sv 3 v_37 (by decide) (Rg.in r_1065 (by decide)) (Rg.wk (lo2 := 0) (hi2 := 2147483647) r_1065 (by decide))) ⟨callB_of 1 hts (gd_C qq_2_167) rfl rfl rfl (hT _ qq_1_12) (hT _ qq_2_164) (by decide +kernel) (rm_R rfl rfl), (hT _ qq_2_165), (hT _ qq_2_166)⟩ (px_T hPc hK hN hX hXs hS0 (i := 3) (by decide)) rfl rfl hl.1 rfl (lv_room (Nat.le_of_ble_eq_true rfl)) dX9_whichWord_100 ⟨Nat.le_of_ble_eq_true rfl, Nat.le_of_ble_eq_true rfl⟩) (fun v9 hz_1110 => ?_)
              obtain ⟨x_1109, rfl, r_1111⟩ := hz_1110
              refine lv_icmp_ne (tgt := 112) hx hb dX9_whichWord_103 (by decide) (fun c_1112 => ?_) (fun c_1112 => ?_)
              · refine lv_iconst (v := 0) hx hb dX9_whichWord_112 (by decide) ?_
                refine lv_istore (lv' := [(4, .int 0), (5, .int v_37), (3, .int v_39), (2, .int v_40), (0, .ref ht), (1, .ref (sa 3))]) hx hb dX9_whichWord_113 hl (by decide) rfl (fun ls hl => ?_)
                exact hj_1100 (0, v_39) _ _ _ ⟨(Rg.wk (lo2 := 0) (hi2 := 1) (Rg.c (c := 0) (k := 0) rfl) (by decide)), (Rg.wk (lo2 := 0) (hi2 := 400) r_1086 (by decide)), hHe, hlc, hP, lv_sub hl [0, 1, 2, 3, 4, 5] rfl⟩
              · have r_1113 : Rg 0 65535 x_1107 := Rg.eq_l c_1112 (Rg.top x_1107) r_1111 (by decide)
                obtain ⟨x_1114, e_1115⟩ : ∃ z : Int32, z = v_39 + Int32.ofInt 1 := ⟨_, rfl⟩
                have r_1116 : Rg 1 400 x_1114 := Rg.add e_1115 r_1086 (Rg.c (c := Int32.ofInt 1) (k := 1) rfl) (by decide)
                refine lv_iinc (v := x_1114) (lv' := [(3, .int x_1114), (5, .int v_37), (4, .int v_38), (2, .int v_40), (0, .ref ht), (1, .ref (sa 3))]) hx hb dX9_whichWord_106 hl (k := 2) rfl (e_1115.symm) (by decide) rfl (fun ls hl => ?_)
                refine lv_goto (tgt := 115) hx hb dX9_whichWord_109 (by decide) ?_
                exact hj_1100 (v_38, x_1114) _ _ _ ⟨r_1058, (Rg.wk (lo2 := 0) (hi2 := 400) r_1116 (by decide)), hHe, hlc, hP, lv_sub hl [2, 1, 0, 3, 4, 5] rfl⟩
        · have r_1084 : Rg 32 32 x_1080 := Rg.eq_l c_1083 r_1082 (Rg.c (c := 32) (k := 32) rfl) (by decide)
          refine lv_iload hx hb dX9_whichWord_54 (lv_at hl 1 rfl) ?_
          refine lv_if_eq (tgt := 69) hx hb dX9_whichWord_56 (by decide) (fun c_1117 => ?_) (fun c_1117 => ?_)
          · have r_1118 : Rg 0 0 v_38 := Rg.eq_l c_1117 r_1058 (Rg.c (c := 0) (k := 0) rfl) (by decide)
            obtain ⟨x_1120, e_1121⟩ : ∃ z : Int32, z = v_40 + Int32.ofInt 1 := ⟨_, rfl⟩
            refine lv_iinc (v := x_1120) (lv' := [(2, .int x_1120), (5, .int v_37), (4, .int v_38), (3, .int v_39), (0, .ref ht), (1, .ref (sa 3))]) hx hb dX9_whichWord_69 hl (k := 3) rfl (e_1121.symm) (by decide) rfl (fun ls hl => ?_)
            refine lv_aload_n hx hb dX9_whichWord_72 rfl (lv_at hl 4 rfl) ?_
            refine va_get (D := D) (ci := 7) (v := .int tp) (C := "WrongHole$Text") (T := TX9) (N := 8) hx hb hts (iq_RX9 _) hown hK hP 0 rfl rfl 3 (by decide) (hT _ qq_1_42) (fun _ h9 => h9) rfl dX9_whichWord_73 ?_
            refine lv_istore_n (lv' := [(3, .int tp), (2, .int x_1120), (5, .int v_37), (4, .int v_38), (0, .ref ht), (1, .ref (sa 3))]) hx hb dX9_whichWord_76 rfl hl (by decide) rfl (fun ls hl => ?_)
            refine lv_iconst (v := 1) hx hb dX9_whichWord_77 (by decide) ?_
            refine lv_istore (lv' := [(4, .int 1), (3, .int tp), (2, .int x_1120), (5, .int v_37), (0, .ref ht), (1, .ref (sa 3))]) hx hb dX9_whichWord_78 hl (by decide) rfl (fun ls hl => ?_)
            refine lv_goto (tgt := 115) hx hb dX9_whichWord_80 (by decide) ?_
            obtain ⟨x_1122, e_1123⟩ : ∃ z : Int32, z = v_37 + Int32.ofInt 1 := ⟨_, rfl⟩
            have r_1124 : Rg 1 2 x_1122 := Rg.add e_1123 r_1065 (Rg.c (c := Int32.ofInt 1) (k := 1) rfl) (by decide)
            refine lv_iinc (v := x_1122) (lv' := [(5, .int x_1122), (4, .int 1), (3, .int tp), (2, .int x_1120), (0, .ref ht), (1, .ref (sa 3))]) hx hb dX9_whichWord_115 hl (k := 3) rfl (e_1123.symm) (by decide) rfl (fun ls hl => ?_)
            refine lv_goto (tgt := 25) hx hb dX9_whichWord_118 (by decide) ?_
            exact ih_1056 (x_1122, 1, tp, x_1120) _ _ _ ⟨(Rg.wk (lo2 := 0) (hi2 := 3) r_1124 (by decide)), (Rg.wk (lo2 := 0) (hi2 := 1) (Rg.c (c := 1) (k := 1) rfl) (by decide)), r_tp, hHe, hlc, hP, lv_sub hl [0, 1, 2, 3, 4, 5] rfl⟩ (ms_up e_1123 r_1065 (Rg.c (c := Int32.ofInt 1) (k := 1) rfl) (by decide))
          · have r_1119 : Rg 1 1 v_38 := Rg.ne c_1117 r_1058 (Rg.c (c := 0) (k := 0) rfl) (by decide)
            refine lv_iload_n hx hb dX9_whichWord_59 rfl (lv_at hl 2 rfl) ?_
            refine lv_aload_n hx hb dX9_whichWord_60 rfl (lv_at hl 4 rfl) ?_
            refine va_get (D := D) (ci := 7) (v := .int tb) (C := "WrongHole$Text") (T := TX9) (N := 8) hx hb hts (iq_RX9 _) hown hK hP 0 rfl rfl 4 (by decide) (hT _ qq_1_43) (fun _ h9 => h9) rfl dX9_whichWord_61 ?_
            refine lv_icmp_ne (tgt := 69) hx hb dX9_whichWord_64 (by decide) (fun c_1125 => ?_) (fun c_1125 => ?_)
            · obtain ⟨x_1126, e_1127⟩ : ∃ z : Int32, z = v_40 + Int32.ofInt 1 := ⟨_, rfl⟩
              refine lv_iinc (v := x_1126) (lv' := [(2, .int x_1126), (5, .int v_37), (4, .int v_38), (3, .int v_39), (0, .ref ht), (1, .ref (sa 3))]) hx hb dX9_whichWord_69 hl (k := 3) rfl (e_1127.symm) (by decide) rfl (fun ls hl => ?_)
              refine lv_aload_n hx hb dX9_whichWord_72 rfl (lv_at hl 4 rfl) ?_
              refine va_get (D := D) (ci := 7) (v := .int tp) (C := "WrongHole$Text") (T := TX9) (N := 8) hx hb hts (iq_RX9 _) hown hK hP 0 rfl rfl 3 (by decide) (hT _ qq_1_42) (fun _ h9 => h9) rfl dX9_whichWord_73 ?_
              refine lv_istore_n (lv' := [(3, .int tp), (2, .int x_1126), (5, .int v_37), (4, .int v_38), (0, .ref ht), (1, .ref (sa 3))]) hx hb dX9_whichWord_76 rfl hl (by decide) rfl (fun ls hl => ?_)
              refine lv_iconst (v := 1) hx hb dX9_whichWord_77 (by decide) ?_
              refine lv_istore (lv' := [(4, .int 1), (3, .int tp), (2, .int x_1126), (5, .int v_37), (0, .ref ht), (1, .ref (sa 3))]) hx hb dX9_whichWord_78 hl (by decide) rfl (fun ls hl => ?_)
              refine lv_goto (tgt := 115) hx hb dX9_whichWord_80 (by decide) ?_
              obtain ⟨x_1128, e_1129⟩ : ∃ z : Int32, z = v_37 + Int32.ofInt 1 := ⟨_, rfl⟩
              have r_1130 : Rg 1 2 x_1128 := Rg.add e_1129 r_1065 (Rg.c (c := Int32.ofInt 1) (k := 1) rfl) (by decide)
              refine lv_iinc (v := x_1128) (lv' := [(5, .int x_1128), (4, .int 1), (3, .int tp), (2, .int x_1126), (0, .ref ht), (1, .ref (sa 3))]) hx hb dX9_whichWord_115 hl (k := 3) rfl (e_1129.symm) (by decide) rfl (fun ls hl => ?_)
              refine lv_goto (tgt := 25) hx hb dX9_whichWord_118 (by decide) ?_
              exact ih_1056 (x_1128, 1, tp, x_1126) _ _ _ ⟨(Rg.wk (lo2 := 0) (hi2 := 3) r_1130 (by decide)), (Rg.wk (lo2 := 0) (hi2 := 1) (Rg.c (c := 1) (k := 1) rfl) (by decide)), r_tp, hHe, hlc, hP, lv_sub hl [0, 1, 2, 3, 4, 5] rfl⟩ (ms_up e_1129 r_1065 (Rg.c (c := Int32.ofInt 1) (k := 1) rfl) (by decide))
            · refine lv_iload_n hx hb dX9_whichWord_67 rfl (lv_at hl 3 rfl) ?_
              exact W.iret (v := v_40) hx hb hr (fun t9 ht9 hW9 => ⟨⟨_, rfl, _, rfl⟩, ht9.trans hHe⟩) (fun _ h9 => by rw [hlc] at h9; exact absurd h9 List.not_mem_nil) dX9_whichWord_68
  · refine lv_iconst (v := (-1)) hx hb dX9_whichWord_10 (by decide) ?_
    exact W.iret (v := (-1)) hx hb hr (fun t9 ht9 hW9 => ⟨⟨_, rfl, _, rfl⟩, ht9.trans hHe⟩) (fun _ h9 => by rw [hlc] at h9; exact absurd h9 List.not_mem_nil) dX9_whichWord_11
set_option maxHeartbeats 4000000 in
set_option maxRecDepth 100000 in
theorem c_Text_whichWord_4 (l : Launch) (D : va_G) (cs : Nat → ClassId) (sa sv : Nat → Nat) (ht : Nat) (hs : Nat) (tl : Int32) (tk : Int32) (tp : Int32) (tb : Int32) (tv : Int32) (tn : Int32) (tf : Int32) (gt : Nat → Int32) (r_tl : Rg 0 400 tl) (r_tp : Rg 0 400 tp) (r_tb : Rg 0 400 tb) : Met l yX9_whichWord (Cond.code yX9_whichWord cX9_whichWord 6 (some .int) :: TB) (RM 4 0 0) (va_Pc [.ref ht, .ref (sa 4)] (PRX D cs (SX sa sv) [(ht, .inr (7, [.ref hs, .int tl, .int tk, .int tp, .int tb, .int tv, .int tn, .int tf])), (hs, .inl ((cs 1), 400, .inl gt))])) (QP (fun v => ∃ x : Int32, v = .int x)) 0 0 (fun _ => False) := by
  refine MEX (y := yX9_whichWord) (cc := cX9_whichWord) (maxL := 6) (ret := (some .int)) (d := 4) (D := D) (cs := cs) (X := SX sa sv) (ws := [(ht, .inr (7, [.ref hs, .int tl, .int tk, .int tp, .int tb, .int tv, .int tn, .int tf])), (hs, .inl ((cs 1), 400, .inl gt))]) (av := [.ref ht, .ref (sa 4)]) (Qc := QP (fun v => ∃ x : Int32, v = .int x)) (by decide) (Nat.le_of_ble_eq_true rfl) ?_
  intro p e s m below meth c ls H hHe hx hb hr hml hown hts hlocks hP hK hN hX hXs hl
  obtain ⟨locs, hlc⟩ : ∃ z : List Loc, z = [] := ⟨_, rfl⟩
  rw [← hlc]
  have hown : s.vm.findClass "WrongHole$Text" = some m.cls := hown
  have hT : ∀ w ∈ TB, w.before ([.ref ht, .ref (sa 4)] : List Value).toArray s = true := fun w h => hts w (List.mem_cons_of_mem _ h)
  have hl : lv_has ls 6 [(0, .ref ht), (1, .ref (sa 4))] := hl
  have hP : va_P D vwCl [(ht, .inr (7, [.ref hs, .int tl, .int tk, .int tp, .int tb, .int tv, .int tn, .int tf])), (hs, .inl ((cs 1), 400, .inl gt))] H := hP
  refine lv_aload_n hx hb dX9_whichWord_0 rfl (lv_at hl 0 rfl) ?_
  refine va_get (D := D) (ci := 7) (v := .int tk) (C := "WrongHole$Text") (T := TX9) (N := 8) hx hb hts (iq_RX9 _) hown hK hP 0 rfl rfl 2 (by decide) (hT _ qq_1_41) (fun _ h9 => h9) rfl dX9_whichWord_1 ?_
  refine lv_sipush (v := 257) hx hb dX9_whichWord_4 (by decide) ?_
  refine lv_icmp_eq (tgt := 12) hx hb dX9_whichWord_7 (by decide) (fun c_1 => ?_) (fun c_1 => ?_)
  · have r_2 : Rg 257 257 tk := Rg.eq_l c_1 (Rg.top tk) (Rg.c (c := 257) (k := 257) rfl) (by decide)
    refine lv_iconst (v := 0) hx hb dX9_whichWord_12 (by decide) ?_
    refine lv_istore_n (lv' := [(2, .int 0), (0, .ref ht), (1, .ref (sa 4))]) hx hb dX9_whichWord_13 rfl hl (by decide) rfl (fun ls hl => ?_)
    refine lv_aload_n hx hb dX9_whichWord_14 rfl (lv_at hl 1 rfl) ?_
    refine va_get (D := D) (ci := 7) (v := .int tp) (C := "WrongHole$Text") (T := TX9) (N := 8) hx hb hts (iq_RX9 _) hown hK hP 0 rfl rfl 3 (by decide) (hT _ qq_1_42) (fun _ h9 => h9) rfl dX9_whichWord_15 ?_
    refine lv_istore_n (lv' := [(3, .int tp), (2, .int 0), (0, .ref ht), (1, .ref (sa 4))]) hx hb dX9_whichWord_18 rfl hl (by decide) rfl (fun ls hl => ?_)
    refine lv_iconst (v := 1) hx hb dX9_whichWord_19 (by decide) ?_
    refine lv_istore (lv' := [(4, .int 1), (3, .int tp), (2, .int 0), (0, .ref ht), (1, .ref (sa 4))]) hx hb dX9_whichWord_20 hl (by decide) rfl (fun ls hl => ?_)
    refine lv_iconst (v := 0) hx hb dX9_whichWord_22 (by decide) ?_
    refine lv_istore (lv' := [(5, .int 0), (4, .int 1), (3, .int tp), (2, .int 0), (0, .ref ht), (1, .ref (sa 4))]) hx hb dX9_whichWord_23 hl (by decide) rfl (fun ls hl => ?_)
    refine w_wh (σ := (Int32) × (Int32) × (Int32) × (Int32)) (fun x9 H locs ls => match x9 with | (v_37, v_38, v_39, v_40) => Rg 0 4 v_37 ∧ Rg 0 1 v_38 ∧ Rg 0 400 v_39 ∧ H = s.heap ∧ locs = [] ∧ va_P D vwCl [(ht, .inr (7, [.ref hs, .int tl, .int tk, .int tp, .int tb, .int tv, .int tn, .int tf])), (hs, .inl ((cs 1), 400, .inl gt))] H ∧ lv_has ls 6 [(5, .int v_37), (4, .int v_38), (3, .int v_39), (2, .int v_40), (0, .ref ht), (1, .ref (sa 4))]) (fun x9 => match x9 with | (v_37, v_38, v_39, v_40) => (4 - Int32.toInt v_37).toNat) 25 ?_ (0, 1, tp, 0) H locs ls ⟨(Rg.wk (lo2 := 0) (hi2 := 4) (Rg.c (c := 0) (k := 0) rfl) (by decide)), (Rg.wk (lo2 := 0) (hi2 := 1) (Rg.c (c := 1) (k := 1) rfl) (by decide)), r_tp, hHe, hlc, hP, lv_sub hl [0, 1, 2, 3, 4, 5] rfl⟩
    rintro ⟨v_37, v_38, v_39, v_40⟩ H locs ls ⟨r_1039, r_1040, r_1041, hHe, hlc, hP, hl⟩ ih_1038
    refine lv_iload hx hb dX9_whichWord_25 (lv_at hl 0 rfl) ?_
    refine lv_aload_n hx hb dX9_whichWord_27 rfl (lv_at hl 5 rfl) ?_
    have hPc := va_P.sub (ws' := []) hP [] rfl
    have hS0 : va_S (fun _ => False) s.heap H locs := by rw [hHe, hlc]; exact va_S.rf
    refine cl_V (W.runV (As := []) (rest := [.int v_37]) ⟨hx, hb, hml, hown, hts⟩ (c_S_length l D cs sa sv 4 (by decide)) ⟨callB_of 0 hts (gd_C qq_2_157) rfl rfl rfl (hT _ qq_1_12) (hT _ qq_2_154) (by decide +kernel) (rm_R rfl rfl), (hT _ qq_2_155), (hT _ qq_2_156)⟩ (px_T hPc hK hN hX hXs hS0 (i := 4) (by decide)) rfl rfl hl.1 rfl (lv_room (Nat.le_of_ble_eq_true rfl)) dX9_whichWord_28 ⟨Nat.le_of_ble_eq_true rfl, Nat.le_of_ble_eq_true rfl⟩) ?_
    refine tc_i 3 rfl ?_
    refine lv_icmp_gt (tgt := 121) hx hb dX9_whichWord_31 (by decide) (fun c_1042 => ?_) (fun c_1042 => ?_)
    · have r_1043 : Rg 4 4 v_37 := Rg.lt_r c_1042 (Rg.c (c := 3) (k := 3) rfl) r_1039 (by decide)
      refine lv_iconst (v := (-1)) hx hb dX9_whichWord_121 (by decide) ?_
      exact W.iret (v := (-1)) hx hb hr (fun t9 ht9 hW9 => ⟨⟨_, rfl, _, rfl⟩, ht9.trans hHe⟩) (fun _ h9 => by rw [hlc] at h9; exact absurd h9 List.not_mem_nil) dX9_whichWord_122
    · have r_1044 : Rg 0 3 v_37 := Rg.le_l (nlt_le c_1042) r_1039 (Rg.c (c := 3) (k := 3) rfl) (by decide)
      refine lv_iload hx hb dX9_whichWord_34 (lv_at hl 0 rfl) ?_
      refine lv_aload_n hx hb dX9_whichWord_36 rfl (lv_at hl 5 rfl) ?_
      have hPc := va_P.sub (ws' := []) hP [] rfl
      have hS0 : va_S (fun _ => False) s.heap H locs := by rw [hHe, hlc]; exact va_S.rf
      refine cl_V (W.runV (As := []) (rest := [.int v_37]) ⟨hx, hb, hml, hown, hts⟩ (c_S_length l D cs sa sv 4 (by decide)) ⟨callB_of 0 hts (gd_C qq_2_157) rfl rfl rfl (hT _ qq_1_12) (hT _ qq_2_154) (by decide +kernel) (rm_R rfl rfl), (hT _ qq_2_155), (hT _ qq_2_156)⟩ (px_T hPc hK hN hX hXs hS0 (i := 4) (by decide)) rfl rfl hl.1 rfl (lv_room (Nat.le_of_ble_eq_true rfl)) dX9_whichWord_37 ⟨Nat.le_of_ble_eq_true rfl, Nat.le_of_ble_eq_true rfl⟩) ?_
      refine tc_i 3 rfl ?_
      refine lv_icmp_eq (tgt := 54) hx hb dX9_whichWord_40 (by decide) (fun c_1045 => ?_) (fun c_1045 => ?_)
      · have r_1046 : Rg 3 3 v_37 := Rg.eq_l c_1045 r_1044 (Rg.c (c := 3) (k := 3) rfl) (by decide)
        refine lv_iload hx hb dX9_whichWord_54 (lv_at hl 1 rfl) ?_
        refine lv_if_eq (tgt := 69) hx hb dX9_whichWord_56 (by decide) (fun c_1048 => ?_) (fun c_1048 => ?_)
        · have r_1049 : Rg 0 0 v_38 := Rg.eq_l c_1048 r_1040 (Rg.c (c := 0) (k := 0) rfl) (by decide)
          obtain ⟨x_1051, e_1052⟩ : ∃ z : Int32, z = v_40 + Int32.ofInt 1 := ⟨_, rfl⟩
          refine lv_iinc (v := x_1051) (lv' := [(2, .int x_1051), (5, .int v_37), (4, .int v_38), (3, .int v_39), (0, .ref ht), (1, .ref (sa 4))]) hx hb dX9_whichWord_69 hl (k := 3) rfl (e_1052.symm) (by decide) rfl (fun ls hl => ?_)
          refine lv_aload_n hx hb dX9_whichWord_72 rfl (lv_at hl 4 rfl) ?_
          refine va_get (D := D) (ci := 7) (v := .int tp) (C := "WrongHole$Text") (T := TX9) (N := 8) hx hb hts (iq_RX9 _) hown hK hP 0 rfl rfl 3 (by decide) (hT _ qq_1_42) (fun _ h9 => h9) rfl dX9_whichWord_73 ?_
          refine lv_istore_n (lv' := [(3, .int tp), (2, .int x_1051), (5, .int v_37), (4, .int v_38), (0, .ref ht), (1, .ref (sa 4))]) hx hb dX9_whichWord_76 rfl hl (by decide) rfl (fun ls hl => ?_)
          refine lv_iconst (v := 1) hx hb dX9_whichWord_77 (by decide) ?_
          refine lv_istore (lv' := [(4, .int 1), (3, .int tp), (2, .int x_1051), (5, .int v_37), (0, .ref ht), (1, .ref (sa 4))]) hx hb dX9_whichWord_78 hl (by decide) rfl (fun ls hl => ?_)
          refine lv_goto (tgt := 115) hx hb dX9_whichWord_80 (by decide) ?_
          obtain ⟨x_1053, e_1054⟩ : ∃ z : Int32, z = v_37 + Int32.ofInt 1 := ⟨_, rfl⟩
          have r_1055 : Rg 4 4 x_1053 := Rg.add e_1054 r_1046 (Rg.c (c := Int32.ofInt 1) (k := 1) rfl) (by decide)
          refine lv_iinc (v := x_1053) (lv' := [(5, .int x_1053), (4, .int 1), (3, .int tp), (2, .int x_1051), (0, .ref ht), (1, .ref (sa 4))]) hx hb dX9_whichWord_115 hl (k := 3) rfl (e_1054.symm) (by decide) rfl (fun ls hl => ?_)
          refine lv_goto (tgt := 25) hx hb dX9_whichWord_118 (by decide) ?_
          exact ih_1038 (x_1053, 1, tp, x_1051) _ _ _ ⟨(Rg.wk (lo2 := 0) (hi2 := 4) r_1055 (by decide)), (Rg.wk (lo2 := 0) (hi2 := 1) (Rg.c (c := 1) (k := 1) rfl) (by decide)), r_tp, hHe, hlc, hP, lv_sub hl [0, 1, 2, 3, 4, 5] rfl⟩ (ms_up e_1054 r_1046 (Rg.c (c := Int32.ofInt 1) (k := 1) rfl) (by decide))
        · have r_1050 : Rg 1 1 v_38 := Rg.ne c_1048 r_1040 (Rg.c (c := 0) (k := 0) rfl) (by decide)
          refine lv_iload_n hx hb dX9_whichWord_59 rfl (lv_at hl 2 rfl) ?_
          refine lv_aload_n hx hb dX9_whichWord_60 rfl (lv_at hl 4 rfl) ?_
          refine va_get (D := D) (ci := 7) (v := .int tb) (C := "WrongHole$Text") (T := TX9) (N := 8) hx hb hts (iq_RX9 _) hown hK hP 0 rfl rfl 4 (by decide) (hT _ qq_1_43) (fun _ h9 => h9) rfl dX9_whichWord_61 ?_
          refine lv_icmp_ne (tgt := 69) hx hb dX9_whichWord_64 (by decide) (fun c_1056 => ?_) (fun c_1056 => ?_)
          · obtain ⟨x_1057, e_1058⟩ : ∃ z : Int32, z = v_40 + Int32.ofInt 1 := ⟨_, rfl⟩
            refine lv_iinc (v := x_1057) (lv' := [(2, .int x_1057), (5, .int v_37), (4, .int v_38), (3, .int v_39), (0, .ref ht), (1, .ref (sa 4))]) hx hb dX9_whichWord_69 hl (k := 3) rfl (e_1058.symm) (by decide) rfl (fun ls hl => ?_)
            refine lv_aload_n hx hb dX9_whichWord_72 rfl (lv_at hl 4 rfl) ?_
            refine va_get (D := D) (ci := 7) (v := .int tp) (C := "WrongHole$Text") (T := TX9) (N := 8) hx hb hts (iq_RX9 _) hown hK hP 0 rfl rfl 3 (by decide) (hT _ qq_1_42) (fun _ h9 => h9) rfl dX9_whichWord_73 ?_
            refine lv_istore_n (lv' := [(3, .int tp), (2, .int x_1057), (5, .int v_37), (4, .int v_38), (0, .ref ht), (1, .ref (sa 4))]) hx hb dX9_whichWord_76 rfl hl (by decide) rfl (fun ls hl => ?_)
            refine lv_iconst (v := 1) hx hb dX9_whichWord_77 (by decide) ?_
            refine lv_istore (lv' := [(4, .int 1), (3, .int tp), (2, .int x_1057), (5, .int v_37), (0, .ref ht), (1, .ref (sa 4))]) hx hb dX9_whichWord_78 hl (by decide) rfl (fun ls hl => ?_)
            refine lv_goto (tgt := 115) hx hb dX9_whichWord_80 (by decide) ?_
            obtain ⟨x_1059, e_1060⟩ : ∃ z : Int32, z = v_37 + Int32.ofInt 1 := ⟨_, rfl⟩
            have r_1061 : Rg 4 4 x_1059 := Rg.add e_1060 r_1046 (Rg.c (c := Int32.ofInt 1) (k := 1) rfl) (by decide)
            refine lv_iinc (v := x_1059) (lv' := [(5, .int x_1059), (4, .int 1), (3, .int tp), (2, .int x_1057), (0, .ref ht), (1, .ref (sa 4))]) hx hb dX9_whichWord_115 hl (k := 3) rfl (e_1060.symm) (by decide) rfl (fun ls hl => ?_)
            refine lv_goto (tgt := 25) hx hb dX9_whichWord_118 (by decide) ?_
            exact ih_1038 (x_1059, 1, tp, x_1057) _ _ _ ⟨(Rg.wk (lo2 := 0) (hi2 := 4) r_1061 (by decide)), (Rg.wk (lo2 := 0) (hi2 := 1) (Rg.c (c := 1) (k := 1) rfl) (by decide)), r_tp, hHe, hlc, hP, lv_sub hl [0, 1, 2, 3, 4, 5] rfl⟩ (ms_up e_1060 r_1046 (Rg.c (c := Int32.ofInt 1) (k := 1) rfl) (by decide))
          · refine lv_iload_n hx hb dX9_whichWord_67 rfl (lv_at hl 3 rfl) ?_
            exact W.iret (v := v_40) hx hb hr (fun t9 ht9 hW9 => ⟨⟨_, rfl, _, rfl⟩, ht9.trans hHe⟩) (fun _ h9 => by rw [hlc] at h9; exact absurd h9 List.not_mem_nil) dX9_whichWord_68
      · have r_1047 : Rg 0 2 v_37 := Rg.ne c_1045 r_1044 (Rg.c (c := 3) (k := 3) rfl) (by decide)
        refine lv_aload_n hx hb dX9_whichWord_43 rfl (lv_at hl 5 rfl) ?_
        refine lv_iload hx hb dX9_whichWord_44 (lv_at hl 0 rfl) ?_
        have hPc := va_P.sub (ws' := []) hP [] rfl
        have hS0 : va_S (fun _ => False) s.heap H locs := by rw [hHe, hlc]; exact va_S.rf
        refine cl_P (W.runV (As := [.int v_37]) (rest := []) ⟨hx, hb, hml, hown, hts⟩ (c_S_charAt l D cs sa sv 4 v_37 (by decide) (Rg.in r_1047 (by decide)) (Rg.wk (lo2 := 0) (hi2 := 2147483647) r_1047 (by decide))) ⟨callB_of 1 hts (gd_C qq_2_167) rfl rfl rfl (hT _ qq_1_12) (hT _ qq_2_164) (by decide +kernel) (rm_R rfl rfl), (hT _ qq_2_165), (hT _ qq_2_166)⟩ (px_T hPc hK hN hX hXs hS0 (i := 4) (by decide)) rfl rfl hl.1 rfl (lv_room (Nat.le_of_ble_eq_true rfl)) dX9_whichWord_46 ⟨Nat.le_of_ble_eq_true rfl, Nat.le_of_ble_eq_true rfl⟩) (fun v9 hz_1063 => ?_)
        obtain ⟨x_1062, rfl, r_1064⟩ := hz_1063
        refine lv_bipush (v := 32) hx hb dX9_whichWord_49 (by decide) ?_
        refine lv_icmp_ne (tgt := 83) hx hb dX9_whichWord_51 (by decide) (fun c_1065 => ?_) (fun c_1065 => ?_)
        · refine lv_iload_n hx hb dX9_whichWord_83 rfl (lv_at hl 2 rfl) ?_
          refine lv_aload_n hx hb dX9_whichWord_84 rfl (lv_at hl 4 rfl) ?_
          refine va_get (D := D) (ci := 7) (v := .int tb) (C := "WrongHole$Text") (T := TX9) (N := 8) hx hb hts (iq_RX9 _) hown hK hP 0 rfl rfl 4 (by decide) (hT _ qq_1_43) (fun _ h9 => h9) rfl dX9_whichWord_85 ?_
          refine w_cut (σ := (Int32) × (Int32)) (fun x9 H locs ls => match x9 with | (v_1080, v_1081) => Rg 0 1 v_1080 ∧ Rg 0 400 v_1081 ∧ H = s.heap ∧ locs = [] ∧ va_P D vwCl [(ht, .inr (7, [.ref hs, .int tl, .int tk, .int tp, .int tb, .int tv, .int tn, .int tf])), (hs, .inl ((cs 1), 400, .inl gt))] H ∧ lv_has ls 6 [(4, .int v_1080), (5, .int v_37), (3, .int v_1081), (2, .int v_40), (0, .ref ht), (1, .ref (sa 4))]) 115 (fun x9 => match x9 with | (v_1080, v_1081) => []) ?_ (fun hj_1082 => ?_)
          · rintro ⟨v_1080, v_1081⟩ H locs ls ⟨r_1083, r_1084, hHe, hlc, hP, hl⟩
            obtain ⟨x_1085, e_1086⟩ : ∃ z : Int32, z = v_37 + Int32.ofInt 1 := ⟨_, rfl⟩
            have r_1087 : Rg 1 3 x_1085 := Rg.add e_1086 r_1047 (Rg.c (c := Int32.ofInt 1) (k := 1) rfl) (by decide)
            refine lv_iinc (v := x_1085) (lv' := [(5, .int x_1085), (4, .int v_1080), (3, .int v_1081), (2, .int v_40), (0, .ref ht), (1, .ref (sa 4))]) hx hb dX9_whichWord_115 hl (k := 1) rfl (e_1086.symm) (by decide) rfl (fun ls hl => ?_)
            refine lv_goto (tgt := 25) hx hb dX9_whichWord_118 (by decide) ?_
            exact ih_1038 (x_1085, v_1080, v_1081, v_40) _ _ _ ⟨(Rg.wk (lo2 := 0) (hi2 := 4) r_1087 (by decide)), r_1083, r_1084, hHe, hlc, hP, lv_sub hl [0, 1, 2, 3, 4, 5] rfl⟩ (ms_up e_1086 r_1047 (Rg.c (c := Int32.ofInt 1) (k := 1) rfl) (by decide))
          · refine lv_icmp_ge (tgt := 112) hx hb dX9_whichWord_88 (by decide) (fun c_1067 => ?_) (fun c_1067 => ?_)
            · refine lv_iconst (v := 0) hx hb dX9_whichWord_112 (by decide) ?_
              refine lv_istore (lv' := [(4, .int 0), (5, .int v_37), (3, .int v_39), (2, .int v_40), (0, .ref ht), (1, .ref (sa 4))]) hx hb dX9_whichWord_113 hl (by decide) rfl (fun ls hl => ?_)
              exact hj_1082 (0, v_39) _ _ _ ⟨(Rg.wk (lo2 := 0) (hi2 := 1) (Rg.c (c := 0) (k := 0) rfl) (by decide)), r_1041, hHe, hlc, hP, lv_sub hl [0, 1, 2, 3, 4, 5] rfl⟩
            · have r_1068 : Rg 0 399 v_39 := Rg.lt_l (nle_lt c_1067) r_1041 r_tb (by decide)
              have r_1069 : Rg 1 400 tb := Rg.lt_r (nle_lt c_1067) r_1041 r_tb (by decide)
              refine lv_aload_n hx hb dX9_whichWord_91 rfl (lv_at hl 4 rfl) ?_
              refine va_get (D := D) (ci := 7) (v := .ref hs) (C := "WrongHole$Text") (T := TX9) (N := 8) hx hb hts (iq_RX9 _) hown hK hP 0 rfl rfl 0 (by decide) (hT _ qq_1_36) (fun _ h9 => h9) rfl dX9_whichWord_92 ?_
              refine lv_iload_n hx hb dX9_whichWord_95 rfl (lv_at hl 2 rfl) ?_
              have hi_1088 : vp_in v_39 400 := Rg.in r_1068 (by decide)
              refine va_cald hx hb hK hP 1 1 rfl rfl hi_1088 dX9_whichWord_96 ?_
              refine lv_topi (fun x_1089 e_1090 => ?_)
              refine lv_aload_n hx hb dX9_whichWord_97 rfl (lv_at hl 5 rfl) ?_
              refine lv_iload hx hb dX9_whichWord_98 (lv_at hl 0 rfl) ?_
              have hPc := va_P.sub (ws' := []) hP [] rfl
              have hS0 : va_S (fun _ => False) s.heap H locs := by rw [hHe, hlc]; exact va_S.rf
              refine cl_P (W.runV (As := [.int v_37]) (rest := [.int x_1089]) ⟨hx, hb, hml, hown, hts⟩ (c_S_charAt l D cs sa sv 4 v_37 (by decide) (Rg.in r_1047 (by decide)) (Rg.wk (lo2 := 0) (hi2 := 2147483647) r_1047 (by decide))) ⟨callB_of 1 hts (gd_C qq_2_167) rfl rfl rfl (hT _ qq_1_12) (hT _ qq_2_164) (by decide +kernel) (rm_R rfl rfl), (hT _ qq_2_165), (hT _ qq_2_166)⟩ (px_T hPc hK hN hX hXs hS0 (i := 4) (by decide)) rfl rfl hl.1 rfl (lv_room (Nat.le_of_ble_eq_true rfl)) dX9_whichWord_100 ⟨Nat.le_of_ble_eq_true rfl, Nat.le_of_ble_eq_true rfl⟩) (fun v9 hz_1092 => ?_)
              obtain ⟨x_1091, rfl, r_1093⟩ := hz_1092
              refine lv_icmp_ne (tgt := 112) hx hb dX9_whichWord_103 (by decide) (fun c_1094 => ?_) (fun c_1094 => ?_)
              · refine lv_iconst (v := 0) hx hb dX9_whichWord_112 (by decide) ?_
                refine lv_istore (lv' := [(4, .int 0), (5, .int v_37), (3, .int v_39), (2, .int v_40), (0, .ref ht), (1, .ref (sa 4))]) hx hb dX9_whichWord_113 hl (by decide) rfl (fun ls hl => ?_)
                exact hj_1082 (0, v_39) _ _ _ ⟨(Rg.wk (lo2 := 0) (hi2 := 1) (Rg.c (c := 0) (k := 0) rfl) (by decide)), (Rg.wk (lo2 := 0) (hi2 := 400) r_1068 (by decide)), hHe, hlc, hP, lv_sub hl [0, 1, 2, 3, 4, 5] rfl⟩
              · have r_1095 : Rg 0 65535 x_1089 := Rg.eq_l c_1094 (Rg.top x_1089) r_1093 (by decide)
                obtain ⟨x_1096, e_1097⟩ : ∃ z : Int32, z = v_39 + Int32.ofInt 1 := ⟨_, rfl⟩
                have r_1098 : Rg 1 400 x_1096 := Rg.add e_1097 r_1068 (Rg.c (c := Int32.ofInt 1) (k := 1) rfl) (by decide)
                refine lv_iinc (v := x_1096) (lv' := [(3, .int x_1096), (5, .int v_37), (4, .int v_38), (2, .int v_40), (0, .ref ht), (1, .ref (sa 4))]) hx hb dX9_whichWord_106 hl (k := 2) rfl (e_1097.symm) (by decide) rfl (fun ls hl => ?_)
                refine lv_goto (tgt := 115) hx hb dX9_whichWord_109 (by decide) ?_
                exact hj_1082 (v_38, x_1096) _ _ _ ⟨r_1040, (Rg.wk (lo2 := 0) (hi2 := 400) r_1098 (by decide)), hHe, hlc, hP, lv_sub hl [2, 1, 0, 3, 4, 5] rfl⟩
        · have r_1066 : Rg 32 32 x_1062 := Rg.eq_l c_1065 r_1064 (Rg.c (c := 32) (k := 32) rfl) (by decide)
          refine lv_iload hx hb dX9_whichWord_54 (lv_at hl 1 rfl) ?_
          refine lv_if_eq (tgt := 69) hx hb dX9_whichWord_56 (by decide) (fun c_1099 => ?_) (fun c_1099 => ?_)
          · have r_1100 : Rg 0 0 v_38 := Rg.eq_l c_1099 r_1040 (Rg.c (c := 0) (k := 0) rfl) (by decide)
            obtain ⟨x_1102, e_1103⟩ : ∃ z : Int32, z = v_40 + Int32.ofInt 1 := ⟨_, rfl⟩
            refine lv_iinc (v := x_1102) (lv' := [(2, .int x_1102), (5, .int v_37), (4, .int v_38), (3, .int v_39), (0, .ref ht), (1, .ref (sa 4))]) hx hb dX9_whichWord_69 hl (k := 3) rfl (e_1103.symm) (by decide) rfl (fun ls hl => ?_)
            refine lv_aload_n hx hb dX9_whichWord_72 rfl (lv_at hl 4 rfl) ?_
            refine va_get (D := D) (ci := 7) (v := .int tp) (C := "WrongHole$Text") (T := TX9) (N := 8) hx hb hts (iq_RX9 _) hown hK hP 0 rfl rfl 3 (by decide) (hT _ qq_1_42) (fun _ h9 => h9) rfl dX9_whichWord_73 ?_
            refine lv_istore_n (lv' := [(3, .int tp), (2, .int x_1102), (5, .int v_37), (4, .int v_38), (0, .ref ht), (1, .ref (sa 4))]) hx hb dX9_whichWord_76 rfl hl (by decide) rfl (fun ls hl => ?_)
            refine lv_iconst (v := 1) hx hb dX9_whichWord_77 (by decide) ?_
            refine lv_istore (lv' := [(4, .int 1), (3, .int tp), (2, .int x_1102), (5, .int v_37), (0, .ref ht), (1, .ref (sa 4))]) hx hb dX9_whichWord_78 hl (by decide) rfl (fun ls hl => ?_)
            refine lv_goto (tgt := 115) hx hb dX9_whichWord_80 (by decide) ?_
            obtain ⟨x_1104, e_1105⟩ : ∃ z : Int32, z = v_37 + Int32.ofInt 1 := ⟨_, rfl⟩
            have r_1106 : Rg 1 3 x_1104 := Rg.add e_1105 r_1047 (Rg.c (c := Int32.ofInt 1) (k := 1) rfl) (by decide)
            refine lv_iinc (v := x_1104) (lv' := [(5, .int x_1104), (4, .int 1), (3, .int tp), (2, .int x_1102), (0, .ref ht), (1, .ref (sa 4))]) hx hb dX9_whichWord_115 hl (k := 3) rfl (e_1105.symm) (by decide) rfl (fun ls hl => ?_)
            refine lv_goto (tgt := 25) hx hb dX9_whichWord_118 (by decide) ?_
            exact ih_1038 (x_1104, 1, tp, x_1102) _ _ _ ⟨(Rg.wk (lo2 := 0) (hi2 := 4) r_1106 (by decide)), (Rg.wk (lo2 := 0) (hi2 := 1) (Rg.c (c := 1) (k := 1) rfl) (by decide)), r_tp, hHe, hlc, hP, lv_sub hl [0, 1, 2, 3, 4, 5] rfl⟩ (ms_up e_1105 r_1047 (Rg.c (c := Int32.ofInt 1) (k := 1) rfl) (by decide))
          · have r_1101 : Rg 1 1 v_38 := Rg.ne c_1099 r_1040 (Rg.c (c := 0) (k := 0) rfl) (by decide)
            refine lv_iload_n hx hb dX9_whichWord_59 rfl (lv_at hl 2 rfl) ?_
            refine lv_aload_n hx hb dX9_whichWord_60 rfl (lv_at hl 4 rfl) ?_
            refine va_get (D := D) (ci := 7) (v := .int tb) (C := "WrongHole$Text") (T := TX9) (N := 8) hx hb hts (iq_RX9 _) hown hK hP 0 rfl rfl 4 (by decide) (hT _ qq_1_43) (fun _ h9 => h9) rfl dX9_whichWord_61 ?_
            refine lv_icmp_ne (tgt := 69) hx hb dX9_whichWord_64 (by decide) (fun c_1107 => ?_) (fun c_1107 => ?_)
            · obtain ⟨x_1108, e_1109⟩ : ∃ z : Int32, z = v_40 + Int32.ofInt 1 := ⟨_, rfl⟩
              refine lv_iinc (v := x_1108) (lv' := [(2, .int x_1108), (5, .int v_37), (4, .int v_38), (3, .int v_39), (0, .ref ht), (1, .ref (sa 4))]) hx hb dX9_whichWord_69 hl (k := 3) rfl (e_1109.symm) (by decide) rfl (fun ls hl => ?_)
              refine lv_aload_n hx hb dX9_whichWord_72 rfl (lv_at hl 4 rfl) ?_
              refine va_get (D := D) (ci := 7) (v := .int tp) (C := "WrongHole$Text") (T := TX9) (N := 8) hx hb hts (iq_RX9 _) hown hK hP 0 rfl rfl 3 (by decide) (hT _ qq_1_42) (fun _ h9 => h9) rfl dX9_whichWord_73 ?_
              refine lv_istore_n (lv' := [(3, .int tp), (2, .int x_1108), (5, .int v_37), (4, .int v_38), (0, .ref ht), (1, .ref (sa 4))]) hx hb dX9_whichWord_76 rfl hl (by decide) rfl (fun ls hl => ?_)
              refine lv_iconst (v := 1) hx hb dX9_whichWord_77 (by decide) ?_
              refine lv_istore (lv' := [(4, .int 1), (3, .int tp), (2, .int x_1108), (5, .int v_37), (0, .ref ht), (1, .ref (sa 4))]) hx hb dX9_whichWord_78 hl (by decide) rfl (fun ls hl => ?_)
              refine lv_goto (tgt := 115) hx hb dX9_whichWord_80 (by decide) ?_
              obtain ⟨x_1110, e_1111⟩ : ∃ z : Int32, z = v_37 + Int32.ofInt 1 := ⟨_, rfl⟩
              have r_1112 : Rg 1 3 x_1110 := Rg.add e_1111 r_1047 (Rg.c (c := Int32.ofInt 1) (k := 1) rfl) (by decide)
              refine lv_iinc (v := x_1110) (lv' := [(5, .int x_1110), (4, .int 1), (3, .int tp), (2, .int x_1108), (0, .ref ht), (1, .ref (sa 4))]) hx hb dX9_whichWord_115 hl (k := 3) rfl (e_1111.symm) (by decide) rfl (fun ls hl => ?_)
              refine lv_goto (tgt := 25) hx hb dX9_whichWord_118 (by decide) ?_
              exact ih_1038 (x_1110, 1, tp, x_1108) _ _ _ ⟨(Rg.wk (lo2 := 0) (hi2 := 4) r_1112 (by decide)), (Rg.wk (lo2 := 0) (hi2 := 1) (Rg.c (c := 1) (k := 1) rfl) (by decide)), r_tp, hHe, hlc, hP, lv_sub hl [0, 1, 2, 3, 4, 5] rfl⟩ (ms_up e_1111 r_1047 (Rg.c (c := Int32.ofInt 1) (k := 1) rfl) (by decide))
            · refine lv_iload_n hx hb dX9_whichWord_67 rfl (lv_at hl 3 rfl) ?_
              exact W.iret (v := v_40) hx hb hr (fun t9 ht9 hW9 => ⟨⟨_, rfl, _, rfl⟩, ht9.trans hHe⟩) (fun _ h9 => by rw [hlc] at h9; exact absurd h9 List.not_mem_nil) dX9_whichWord_68
  · refine lv_iconst (v := (-1)) hx hb dX9_whichWord_10 (by decide) ?_
    exact W.iret (v := (-1)) hx hb hr (fun t9 ht9 hW9 => ⟨⟨_, rfl, _, rfl⟩, ht9.trans hHe⟩) (fun _ h9 => by rw [hlc] at h9; exact absurd h9 List.not_mem_nil) dX9_whichWord_11
set_option maxHeartbeats 4000000 in
set_option maxRecDepth 100000 in
theorem c_Text_whichWord_5 (l : Launch) (D : va_G) (cs : Nat → ClassId) (sa sv : Nat → Nat) (ht : Nat) (hs : Nat) (tl : Int32) (tk : Int32) (tp : Int32) (tb : Int32) (tv : Int32) (tn : Int32) (tf : Int32) (gt : Nat → Int32) (r_tl : Rg 0 400 tl) (r_tp : Rg 0 400 tp) (r_tb : Rg 0 400 tb) : Met l yX9_whichWord (Cond.code yX9_whichWord cX9_whichWord 6 (some .int) :: TB) (RM 4 0 0) (va_Pc [.ref ht, .ref (sa 5)] (PRX D cs (SX sa sv) [(ht, .inr (7, [.ref hs, .int tl, .int tk, .int tp, .int tb, .int tv, .int tn, .int tf])), (hs, .inl ((cs 1), 400, .inl gt))])) (QP (fun v => ∃ x : Int32, v = .int x)) 0 0 (fun _ => False) := by
  refine MEX (y := yX9_whichWord) (cc := cX9_whichWord) (maxL := 6) (ret := (some .int)) (d := 4) (D := D) (cs := cs) (X := SX sa sv) (ws := [(ht, .inr (7, [.ref hs, .int tl, .int tk, .int tp, .int tb, .int tv, .int tn, .int tf])), (hs, .inl ((cs 1), 400, .inl gt))]) (av := [.ref ht, .ref (sa 5)]) (Qc := QP (fun v => ∃ x : Int32, v = .int x)) (by decide) (Nat.le_of_ble_eq_true rfl) ?_
  intro p e s m below meth c ls H hHe hx hb hr hml hown hts hlocks hP hK hN hX hXs hl
  obtain ⟨locs, hlc⟩ : ∃ z : List Loc, z = [] := ⟨_, rfl⟩
  rw [← hlc]
  have hown : s.vm.findClass "WrongHole$Text" = some m.cls := hown
  have hT : ∀ w ∈ TB, w.before ([.ref ht, .ref (sa 5)] : List Value).toArray s = true := fun w h => hts w (List.mem_cons_of_mem _ h)
  have hl : lv_has ls 6 [(0, .ref ht), (1, .ref (sa 5))] := hl
  have hP : va_P D vwCl [(ht, .inr (7, [.ref hs, .int tl, .int tk, .int tp, .int tb, .int tv, .int tn, .int tf])), (hs, .inl ((cs 1), 400, .inl gt))] H := hP
  refine lv_aload_n hx hb dX9_whichWord_0 rfl (lv_at hl 0 rfl) ?_
  refine va_get (D := D) (ci := 7) (v := .int tk) (C := "WrongHole$Text") (T := TX9) (N := 8) hx hb hts (iq_RX9 _) hown hK hP 0 rfl rfl 2 (by decide) (hT _ qq_1_41) (fun _ h9 => h9) rfl dX9_whichWord_1 ?_
  refine lv_sipush (v := 257) hx hb dX9_whichWord_4 (by decide) ?_
  refine lv_icmp_eq (tgt := 12) hx hb dX9_whichWord_7 (by decide) (fun c_1 => ?_) (fun c_1 => ?_)
  · have r_2 : Rg 257 257 tk := Rg.eq_l c_1 (Rg.top tk) (Rg.c (c := 257) (k := 257) rfl) (by decide)
    refine lv_iconst (v := 0) hx hb dX9_whichWord_12 (by decide) ?_
    refine lv_istore_n (lv' := [(2, .int 0), (0, .ref ht), (1, .ref (sa 5))]) hx hb dX9_whichWord_13 rfl hl (by decide) rfl (fun ls hl => ?_)
    refine lv_aload_n hx hb dX9_whichWord_14 rfl (lv_at hl 1 rfl) ?_
    refine va_get (D := D) (ci := 7) (v := .int tp) (C := "WrongHole$Text") (T := TX9) (N := 8) hx hb hts (iq_RX9 _) hown hK hP 0 rfl rfl 3 (by decide) (hT _ qq_1_42) (fun _ h9 => h9) rfl dX9_whichWord_15 ?_
    refine lv_istore_n (lv' := [(3, .int tp), (2, .int 0), (0, .ref ht), (1, .ref (sa 5))]) hx hb dX9_whichWord_18 rfl hl (by decide) rfl (fun ls hl => ?_)
    refine lv_iconst (v := 1) hx hb dX9_whichWord_19 (by decide) ?_
    refine lv_istore (lv' := [(4, .int 1), (3, .int tp), (2, .int 0), (0, .ref ht), (1, .ref (sa 5))]) hx hb dX9_whichWord_20 hl (by decide) rfl (fun ls hl => ?_)
    refine lv_iconst (v := 0) hx hb dX9_whichWord_22 (by decide) ?_
    refine lv_istore (lv' := [(5, .int 0), (4, .int 1), (3, .int tp), (2, .int 0), (0, .ref ht), (1, .ref (sa 5))]) hx hb dX9_whichWord_23 hl (by decide) rfl (fun ls hl => ?_)
    refine w_wh (σ := (Int32) × (Int32) × (Int32) × (Int32)) (fun x9 H locs ls => match x9 with | (v_37, v_38, v_39, v_40) => Rg 0 4 v_37 ∧ Rg 0 1 v_38 ∧ Rg 0 400 v_39 ∧ H = s.heap ∧ locs = [] ∧ va_P D vwCl [(ht, .inr (7, [.ref hs, .int tl, .int tk, .int tp, .int tb, .int tv, .int tn, .int tf])), (hs, .inl ((cs 1), 400, .inl gt))] H ∧ lv_has ls 6 [(5, .int v_37), (4, .int v_38), (3, .int v_39), (2, .int v_40), (0, .ref ht), (1, .ref (sa 5))]) (fun x9 => match x9 with | (v_37, v_38, v_39, v_40) => (4 - Int32.toInt v_37).toNat) 25 ?_ (0, 1, tp, 0) H locs ls ⟨(Rg.wk (lo2 := 0) (hi2 := 4) (Rg.c (c := 0) (k := 0) rfl) (by decide)), (Rg.wk (lo2 := 0) (hi2 := 1) (Rg.c (c := 1) (k := 1) rfl) (by decide)), r_tp, hHe, hlc, hP, lv_sub hl [0, 1, 2, 3, 4, 5] rfl⟩
    rintro ⟨v_37, v_38, v_39, v_40⟩ H locs ls ⟨r_1039, r_1040, r_1041, hHe, hlc, hP, hl⟩ ih_1038
    refine lv_iload hx hb dX9_whichWord_25 (lv_at hl 0 rfl) ?_
    refine lv_aload_n hx hb dX9_whichWord_27 rfl (lv_at hl 5 rfl) ?_
    have hPc := va_P.sub (ws' := []) hP [] rfl
    have hS0 : va_S (fun _ => False) s.heap H locs := by rw [hHe, hlc]; exact va_S.rf
    refine cl_V (W.runV (As := []) (rest := [.int v_37]) ⟨hx, hb, hml, hown, hts⟩ (c_S_length l D cs sa sv 5 (by decide)) ⟨callB_of 0 hts (gd_C qq_2_157) rfl rfl rfl (hT _ qq_1_12) (hT _ qq_2_154) (by decide +kernel) (rm_R rfl rfl), (hT _ qq_2_155), (hT _ qq_2_156)⟩ (px_T hPc hK hN hX hXs hS0 (i := 5) (by decide)) rfl rfl hl.1 rfl (lv_room (Nat.le_of_ble_eq_true rfl)) dX9_whichWord_28 ⟨Nat.le_of_ble_eq_true rfl, Nat.le_of_ble_eq_true rfl⟩) ?_
    refine tc_i 3 rfl ?_
    refine lv_icmp_gt (tgt := 121) hx hb dX9_whichWord_31 (by decide) (fun c_1042 => ?_) (fun c_1042 => ?_)
    · have r_1043 : Rg 4 4 v_37 := Rg.lt_r c_1042 (Rg.c (c := 3) (k := 3) rfl) r_1039 (by decide)
      refine lv_iconst (v := (-1)) hx hb dX9_whichWord_121 (by decide) ?_
      exact W.iret (v := (-1)) hx hb hr (fun t9 ht9 hW9 => ⟨⟨_, rfl, _, rfl⟩, ht9.trans hHe⟩) (fun _ h9 => by rw [hlc] at h9; exact absurd h9 List.not_mem_nil) dX9_whichWord_122
    · have r_1044 : Rg 0 3 v_37 := Rg.le_l (nlt_le c_1042) r_1039 (Rg.c (c := 3) (k := 3) rfl) (by decide)
      refine lv_iload hx hb dX9_whichWord_34 (lv_at hl 0 rfl) ?_
      refine lv_aload_n hx hb dX9_whichWord_36 rfl (lv_at hl 5 rfl) ?_
      have hPc := va_P.sub (ws' := []) hP [] rfl
      have hS0 : va_S (fun _ => False) s.heap H locs := by rw [hHe, hlc]; exact va_S.rf
      refine cl_V (W.runV (As := []) (rest := [.int v_37]) ⟨hx, hb, hml, hown, hts⟩ (c_S_length l D cs sa sv 5 (by decide)) ⟨callB_of 0 hts (gd_C qq_2_157) rfl rfl rfl (hT _ qq_1_12) (hT _ qq_2_154) (by decide +kernel) (rm_R rfl rfl), (hT _ qq_2_155), (hT _ qq_2_156)⟩ (px_T hPc hK hN hX hXs hS0 (i := 5) (by decide)) rfl rfl hl.1 rfl (lv_room (Nat.le_of_ble_eq_true rfl)) dX9_whichWord_37 ⟨Nat.le_of_ble_eq_true rfl, Nat.le_of_ble_eq_true rfl⟩) ?_
      refine tc_i 3 rfl ?_
      refine lv_icmp_eq (tgt := 54) hx hb dX9_whichWord_40 (by decide) (fun c_1045 => ?_) (fun c_1045 => ?_)
      · have r_1046 : Rg 3 3 v_37 := Rg.eq_l c_1045 r_1044 (Rg.c (c := 3) (k := 3) rfl) (by decide)
        refine lv_iload hx hb dX9_whichWord_54 (lv_at hl 1 rfl) ?_
        refine lv_if_eq (tgt := 69) hx hb dX9_whichWord_56 (by decide) (fun c_1048 => ?_) (fun c_1048 => ?_)
        · have r_1049 : Rg 0 0 v_38 := Rg.eq_l c_1048 r_1040 (Rg.c (c := 0) (k := 0) rfl) (by decide)
          obtain ⟨x_1051, e_1052⟩ : ∃ z : Int32, z = v_40 + Int32.ofInt 1 := ⟨_, rfl⟩
          refine lv_iinc (v := x_1051) (lv' := [(2, .int x_1051), (5, .int v_37), (4, .int v_38), (3, .int v_39), (0, .ref ht), (1, .ref (sa 5))]) hx hb dX9_whichWord_69 hl (k := 3) rfl (e_1052.symm) (by decide) rfl (fun ls hl => ?_)
          refine lv_aload_n hx hb dX9_whichWord_72 rfl (lv_at hl 4 rfl) ?_
          refine va_get (D := D) (ci := 7) (v := .int tp) (C := "WrongHole$Text") (T := TX9) (N := 8) hx hb hts (iq_RX9 _) hown hK hP 0 rfl rfl 3 (by decide) (hT _ qq_1_42) (fun _ h9 => h9) rfl dX9_whichWord_73 ?_
          refine lv_istore_n (lv' := [(3, .int tp), (2, .int x_1051), (5, .int v_37), (4, .int v_38), (0, .ref ht), (1, .ref (sa 5))]) hx hb dX9_whichWord_76 rfl hl (by decide) rfl (fun ls hl => ?_)
          refine lv_iconst (v := 1) hx hb dX9_whichWord_77 (by decide) ?_
          refine lv_istore (lv' := [(4, .int 1), (3, .int tp), (2, .int x_1051), (5, .int v_37), (0, .ref ht), (1, .ref (sa 5))]) hx hb dX9_whichWord_78 hl (by decide) rfl (fun ls hl => ?_)
          refine lv_goto (tgt := 115) hx hb dX9_whichWord_80 (by decide) ?_
          obtain ⟨x_1053, e_1054⟩ : ∃ z : Int32, z = v_37 + Int32.ofInt 1 := ⟨_, rfl⟩
          have r_1055 : Rg 4 4 x_1053 := Rg.add e_1054 r_1046 (Rg.c (c := Int32.ofInt 1) (k := 1) rfl) (by decide)
          refine lv_iinc (v := x_1053) (lv' := [(5, .int x_1053), (4, .int 1), (3, .int tp), (2, .int x_1051), (0, .ref ht), (1, .ref (sa 5))]) hx hb dX9_whichWord_115 hl (k := 3) rfl (e_1054.symm) (by decide) rfl (fun ls hl => ?_)
          refine lv_goto (tgt := 25) hx hb dX9_whichWord_118 (by decide) ?_
          exact ih_1038 (x_1053, 1, tp, x_1051) _ _ _ ⟨(Rg.wk (lo2 := 0) (hi2 := 4) r_1055 (by decide)), (Rg.wk (lo2 := 0) (hi2 := 1) (Rg.c (c := 1) (k := 1) rfl) (by decide)), r_tp, hHe, hlc, hP, lv_sub hl [0, 1, 2, 3, 4, 5] rfl⟩ (ms_up e_1054 r_1046 (Rg.c (c := Int32.ofInt 1) (k := 1) rfl) (by decide))
        · have r_1050 : Rg 1 1 v_38 := Rg.ne c_1048 r_1040 (Rg.c (c := 0) (k := 0) rfl) (by decide)
          refine lv_iload_n hx hb dX9_whichWord_59 rfl (lv_at hl 2 rfl) ?_
          refine lv_aload_n hx hb dX9_whichWord_60 rfl (lv_at hl 4 rfl) ?_
          refine va_get (D := D) (ci := 7) (v := .int tb) (C := "WrongHole$Text") (T := TX9) (N := 8) hx hb hts (iq_RX9 _) hown hK hP 0 rfl rfl 4 (by decide) (hT _ qq_1_43) (fun _ h9 => h9) rfl dX9_whichWord_61 ?_
          refine lv_icmp_ne (tgt := 69) hx hb dX9_whichWord_64 (by decide) (fun c_1056 => ?_) (fun c_1056 => ?_)
          · obtain ⟨x_1057, e_1058⟩ : ∃ z : Int32, z = v_40 + Int32.ofInt 1 := ⟨_, rfl⟩
            refine lv_iinc (v := x_1057) (lv' := [(2, .int x_1057), (5, .int v_37), (4, .int v_38), (3, .int v_39), (0, .ref ht), (1, .ref (sa 5))]) hx hb dX9_whichWord_69 hl (k := 3) rfl (e_1058.symm) (by decide) rfl (fun ls hl => ?_)
            refine lv_aload_n hx hb dX9_whichWord_72 rfl (lv_at hl 4 rfl) ?_
            refine va_get (D := D) (ci := 7) (v := .int tp) (C := "WrongHole$Text") (T := TX9) (N := 8) hx hb hts (iq_RX9 _) hown hK hP 0 rfl rfl 3 (by decide) (hT _ qq_1_42) (fun _ h9 => h9) rfl dX9_whichWord_73 ?_
            refine lv_istore_n (lv' := [(3, .int tp), (2, .int x_1057), (5, .int v_37), (4, .int v_38), (0, .ref ht), (1, .ref (sa 5))]) hx hb dX9_whichWord_76 rfl hl (by decide) rfl (fun ls hl => ?_)
            refine lv_iconst (v := 1) hx hb dX9_whichWord_77 (by decide) ?_
            refine lv_istore (lv' := [(4, .int 1), (3, .int tp), (2, .int x_1057), (5, .int v_37), (0, .ref ht), (1, .ref (sa 5))]) hx hb dX9_whichWord_78 hl (by decide) rfl (fun ls hl => ?_)
            refine lv_goto (tgt := 115) hx hb dX9_whichWord_80 (by decide) ?_
            obtain ⟨x_1059, e_1060⟩ : ∃ z : Int32, z = v_37 + Int32.ofInt 1 := ⟨_, rfl⟩
            have r_1061 : Rg 4 4 x_1059 := Rg.add e_1060 r_1046 (Rg.c (c := Int32.ofInt 1) (k := 1) rfl) (by decide)
            refine lv_iinc (v := x_1059) (lv' := [(5, .int x_1059), (4, .int 1), (3, .int tp), (2, .int x_1057), (0, .ref ht), (1, .ref (sa 5))]) hx hb dX9_whichWord_115 hl (k := 3) rfl (e_1060.symm) (by decide) rfl (fun ls hl => ?_)
            refine lv_goto (tgt := 25) hx hb dX9_whichWord_118 (by decide) ?_
            exact ih_1038 (x_1059, 1, tp, x_1057) _ _ _ ⟨(Rg.wk (lo2 := 0) (hi2 := 4) r_1061 (by decide)), (Rg.wk (lo2 := 0) (hi2 := 1) (Rg.c (c := 1) (k := 1) rfl) (by decide)), r_tp, hHe, hlc, hP, lv_sub hl [0, 1, 2, 3, 4, 5] rfl⟩ (ms_up e_1060 r_1046 (Rg.c (c := Int32.ofInt 1) (k := 1) rfl) (by decide))
          · refine lv_iload_n hx hb dX9_whichWord_67 rfl (lv_at hl 3 rfl) ?_
            exact W.iret (v := v_40) hx hb hr (fun t9 ht9 hW9 => ⟨⟨_, rfl, _, rfl⟩, ht9.trans hHe⟩) (fun _ h9 => by rw [hlc] at h9; exact absurd h9 List.not_mem_nil) dX9_whichWord_68
      · have r_1047 : Rg 0 2 v_37 := Rg.ne c_1045 r_1044 (Rg.c (c := 3) (k := 3) rfl) (by decide)
        refine lv_aload_n hx hb dX9_whichWord_43 rfl (lv_at hl 5 rfl) ?_
        refine lv_iload hx hb dX9_whichWord_44 (lv_at hl 0 rfl) ?_
        have hPc := va_P.sub (ws' := []) hP [] rfl
        have hS0 : va_S (fun _ => False) s.heap H locs := by rw [hHe, hlc]; exact va_S.rf
        refine cl_P (W.runV (As := [.int v_37]) (rest := []) ⟨hx, hb, hml, hown, hts⟩ (c_S_charAt l D cs sa sv 5 v_37 (by decide) (Rg.in r_1047 (by decide)) (Rg.wk (lo2 := 0) (hi2 := 2147483647) r_1047 (by decide))) ⟨callB_of 1 hts (gd_C qq_2_167) rfl rfl rfl (hT _ qq_1_12) (hT _ qq_2_164) (by decide +kernel) (rm_R rfl rfl), (hT _ qq_2_165), (hT _ qq_2_166)⟩ (px_T hPc hK hN hX hXs hS0 (i := 5) (by decide)) rfl rfl hl.1 rfl (lv_room (Nat.le_of_ble_eq_true rfl)) dX9_whichWord_46 ⟨Nat.le_of_ble_eq_true rfl, Nat.le_of_ble_eq_true rfl⟩) (fun v9 hz_1063 => ?_)
        obtain ⟨x_1062, rfl, r_1064⟩ := hz_1063
        refine lv_bipush (v := 32) hx hb dX9_whichWord_49 (by decide) ?_
        refine lv_icmp_ne (tgt := 83) hx hb dX9_whichWord_51 (by decide) (fun c_1065 => ?_) (fun c_1065 => ?_)
        · refine lv_iload_n hx hb dX9_whichWord_83 rfl (lv_at hl 2 rfl) ?_
          refine lv_aload_n hx hb dX9_whichWord_84 rfl (lv_at hl 4 rfl) ?_
          refine va_get (D := D) (ci := 7) (v := .int tb) (C := "WrongHole$Text") (T := TX9) (N := 8) hx hb hts (iq_RX9 _) hown hK hP 0 rfl rfl 4 (by decide) (hT _ qq_1_43) (fun _ h9 => h9) rfl dX9_whichWord_85 ?_
          refine w_cut (σ := (Int32) × (Int32)) (fun x9 H locs ls => match x9 with | (v_1080, v_1081) => Rg 0 1 v_1080 ∧ Rg 0 400 v_1081 ∧ H = s.heap ∧ locs = [] ∧ va_P D vwCl [(ht, .inr (7, [.ref hs, .int tl, .int tk, .int tp, .int tb, .int tv, .int tn, .int tf])), (hs, .inl ((cs 1), 400, .inl gt))] H ∧ lv_has ls 6 [(4, .int v_1080), (5, .int v_37), (3, .int v_1081), (2, .int v_40), (0, .ref ht), (1, .ref (sa 5))]) 115 (fun x9 => match x9 with | (v_1080, v_1081) => []) ?_ (fun hj_1082 => ?_)
          · rintro ⟨v_1080, v_1081⟩ H locs ls ⟨r_1083, r_1084, hHe, hlc, hP, hl⟩
            obtain ⟨x_1085, e_1086⟩ : ∃ z : Int32, z = v_37 + Int32.ofInt 1 := ⟨_, rfl⟩
            have r_1087 : Rg 1 3 x_1085 := Rg.add e_1086 r_1047 (Rg.c (c := Int32.ofInt 1) (k := 1) rfl) (by decide)
            refine lv_iinc (v := x_1085) (lv' := [(5, .int x_1085), (4, .int v_1080), (3, .int v_1081), (2, .int v_40), (0, .ref ht), (1, .ref (sa 5))]) hx hb dX9_whichWord_115 hl (k := 1) rfl (e_1086.symm) (by decide) rfl (fun ls hl => ?_)
            refine lv_goto (tgt := 25) hx hb dX9_whichWord_118 (by decide) ?_
            exact ih_1038 (x_1085, v_1080, v_1081, v_40) _ _ _ ⟨(Rg.wk (lo2 := 0) (hi2 := 4) r_1087 (by decide)), r_1083, r_1084, hHe, hlc, hP, lv_sub hl [0, 1, 2, 3, 4, 5] rfl⟩ (ms_up e_1086 r_1047 (Rg.c (c := Int32.ofInt 1) (k := 1) rfl) (by decide))
          · refine lv_icmp_ge (tgt := 112) hx hb dX9_whichWord_88 (by decide) (fun c_1067 => ?_) (fun c_1067 => ?_)
            · refine lv_iconst (v := 0) hx hb dX9_whichWord_112 (by decide) ?_
              refine lv_istore (lv' := [(4, .int 0), (5, .int v_37), (3, .int v_39), (2, .int v_40), (0, .ref ht), (1, .ref (sa 5))]) hx hb dX9_whichWord_113 hl (by decide) rfl (fun ls hl => ?_)
              exact hj_1082 (0, v_39) _ _ _ ⟨(Rg.wk (lo2 := 0) (hi2 := 1) (Rg.c (c := 0) (k := 0) rfl) (by decide)), r_1041, hHe, hlc, hP, lv_sub hl [0, 1, 2, 3, 4, 5] rfl⟩
            · have r_1068 : Rg 0 399 v_39 := Rg.lt_l (nle_lt c_1067) r_1041 r_tb (by decide)
              have r_1069 : Rg 1 400 tb := Rg.lt_r (nle_lt c_1067) r_1041 r_tb (by decide)
              refine lv_aload_n hx hb dX9_whichWord_91 rfl (lv_at hl 4 rfl) ?_
              refine va_get (D := D) (ci := 7) (v := .ref hs) (C := "WrongHole$Text") (T := TX9) (N := 8) hx hb hts (iq_RX9 _) hown hK hP 0 rfl rfl 0 (by decide) (hT _ qq_1_36) (fun _ h9 => h9) rfl dX9_whichWord_92 ?_
              refine lv_iload_n hx hb dX9_whichWord_95 rfl (lv_at hl 2 rfl) ?_
              have hi_1088 : vp_in v_39 400 := Rg.in r_1068 (by decide)
              refine va_cald hx hb hK hP 1 1 rfl rfl hi_1088 dX9_whichWord_96 ?_
              refine lv_topi (fun x_1089 e_1090 => ?_)
              refine lv_aload_n hx hb dX9_whichWord_97 rfl (lv_at hl 5 rfl) ?_
              refine lv_iload hx hb dX9_whichWord_98 (lv_at hl 0 rfl) ?_
              have hPc := va_P.sub (ws' := []) hP [] rfl
              have hS0 : va_S (fun _ => False) s.heap H locs := by rw [hHe, hlc]; exact va_S.rf
              refine cl_P (W.runV (As := [.int v_37]) (rest := [.int x_1089]) ⟨hx, hb, hml, hown, hts⟩ (c_S_charAt l D cs sa sv 5 v_37 (by decide) (Rg.in r_1047 (by decide)) (Rg.wk (lo2 := 0) (hi2 := 2147483647) r_1047 (by decide))) ⟨callB_of 1 hts (gd_C qq_2_167) rfl rfl rfl (hT _ qq_1_12) (hT _ qq_2_164) (by decide +kernel) (rm_R rfl rfl), (hT _ qq_2_165), (hT _ qq_2_166)⟩ (px_T hPc hK hN hX hXs hS0 (i := 5) (by decide)) rfl rfl hl.1 rfl (lv_room (Nat.le_of_ble_eq_true rfl)) dX9_whichWord_100 ⟨Nat.le_of_ble_eq_true rfl, Nat.le_of_ble_eq_true rfl⟩) (fun v9 hz_1092 => ?_)
              obtain ⟨x_1091, rfl, r_1093⟩ := hz_1092
              refine lv_icmp_ne (tgt := 112) hx hb dX9_whichWord_103 (by decide) (fun c_1094 => ?_) (fun c_1094 => ?_)
              · refine lv_iconst (v := 0) hx hb dX9_whichWord_112 (by decide) ?_
                refine lv_istore (lv' := [(4, .int 0), (5, .int v_37), (3, .int v_39), (2, .int v_40), (0, .ref ht), (1, .ref (sa 5))]) hx hb dX9_whichWord_113 hl (by decide) rfl (fun ls hl => ?_)
                exact hj_1082 (0, v_39) _ _ _ ⟨(Rg.wk (lo2 := 0) (hi2 := 1) (Rg.c (c := 0) (k := 0) rfl) (by decide)), (Rg.wk (lo2 := 0) (hi2 := 400) r_1068 (by decide)), hHe, hlc, hP, lv_sub hl [0, 1, 2, 3, 4, 5] rfl⟩
              · have r_1095 : Rg 0 65535 x_1089 := Rg.eq_l c_1094 (Rg.top x_1089) r_1093 (by decide)
                obtain ⟨x_1096, e_1097⟩ : ∃ z : Int32, z = v_39 + Int32.ofInt 1 := ⟨_, rfl⟩
                have r_1098 : Rg 1 400 x_1096 := Rg.add e_1097 r_1068 (Rg.c (c := Int32.ofInt 1) (k := 1) rfl) (by decide)
                refine lv_iinc (v := x_1096) (lv' := [(3, .int x_1096), (5, .int v_37), (4, .int v_38), (2, .int v_40), (0, .ref ht), (1, .ref (sa 5))]) hx hb dX9_whichWord_106 hl (k := 2) rfl (e_1097.symm) (by decide) rfl (fun ls hl => ?_)
                refine lv_goto (tgt := 115) hx hb dX9_whichWord_109 (by decide) ?_
                exact hj_1082 (v_38, x_1096) _ _ _ ⟨r_1040, (Rg.wk (lo2 := 0) (hi2 := 400) r_1098 (by decide)), hHe, hlc, hP, lv_sub hl [2, 1, 0, 3, 4, 5] rfl⟩
        · have r_1066 : Rg 32 32 x_1062 := Rg.eq_l c_1065 r_1064 (Rg.c (c := 32) (k := 32) rfl) (by decide)
          refine lv_iload hx hb dX9_whichWord_54 (lv_at hl 1 rfl) ?_
          refine lv_if_eq (tgt := 69) hx hb dX9_whichWord_56 (by decide) (fun c_1099 => ?_) (fun c_1099 => ?_)
          · have r_1100 : Rg 0 0 v_38 := Rg.eq_l c_1099 r_1040 (Rg.c (c := 0) (k := 0) rfl) (by decide)
            obtain ⟨x_1102, e_1103⟩ : ∃ z : Int32, z = v_40 + Int32.ofInt 1 := ⟨_, rfl⟩
            refine lv_iinc (v := x_1102) (lv' := [(2, .int x_1102), (5, .int v_37), (4, .int v_38), (3, .int v_39), (0, .ref ht), (1, .ref (sa 5))]) hx hb dX9_whichWord_69 hl (k := 3) rfl (e_1103.symm) (by decide) rfl (fun ls hl => ?_)
            refine lv_aload_n hx hb dX9_whichWord_72 rfl (lv_at hl 4 rfl) ?_
            refine va_get (D := D) (ci := 7) (v := .int tp) (C := "WrongHole$Text") (T := TX9) (N := 8) hx hb hts (iq_RX9 _) hown hK hP 0 rfl rfl 3 (by decide) (hT _ qq_1_42) (fun _ h9 => h9) rfl dX9_whichWord_73 ?_
            refine lv_istore_n (lv' := [(3, .int tp), (2, .int x_1102), (5, .int v_37), (4, .int v_38), (0, .ref ht), (1, .ref (sa 5))]) hx hb dX9_whichWord_76 rfl hl (by decide) rfl (fun ls hl => ?_)
            refine lv_iconst (v := 1) hx hb dX9_whichWord_77 (by decide) ?_
            refine lv_istore (lv' := [(4, .int 1), (3, .int tp), (2, .int x_1102), (5, .int v_37), (0, .ref ht), (1, .ref (sa 5))]) hx hb dX9_whichWord_78 hl (by decide) rfl (fun ls hl => ?_)
            refine lv_goto (tgt := 115) hx hb dX9_whichWord_80 (by decide) ?_
            obtain ⟨x_1104, e_1105⟩ : ∃ z : Int32, z = v_37 + Int32.ofInt 1 := ⟨_, rfl⟩
            have r_1106 : Rg 1 3 x_1104 := Rg.add e_1105 r_1047 (Rg.c (c := Int32.ofInt 1) (k := 1) rfl) (by decide)
            refine lv_iinc (v := x_1104) (lv' := [(5, .int x_1104), (4, .int 1), (3, .int tp), (2, .int x_1102), (0, .ref ht), (1, .ref (sa 5))]) hx hb dX9_whichWord_115 hl (k := 3) rfl (e_1105.symm) (by decide) rfl (fun ls hl => ?_)
            refine lv_goto (tgt := 25) hx hb dX9_whichWord_118 (by decide) ?_
            exact ih_1038 (x_1104, 1, tp, x_1102) _ _ _ ⟨(Rg.wk (lo2 := 0) (hi2 := 4) r_1106 (by decide)), (Rg.wk (lo2 := 0) (hi2 := 1) (Rg.c (c := 1) (k := 1) rfl) (by decide)), r_tp, hHe, hlc, hP, lv_sub hl [0, 1, 2, 3, 4, 5] rfl⟩ (ms_up e_1105 r_1047 (Rg.c (c := Int32.ofInt 1) (k := 1) rfl) (by decide))
          · have r_1101 : Rg 1 1 v_38 := Rg.ne c_1099 r_1040 (Rg.c (c := 0) (k := 0) rfl) (by decide)
            refine lv_iload_n hx hb dX9_whichWord_59 rfl (lv_at hl 2 rfl) ?_
            refine lv_aload_n hx hb dX9_whichWord_60 rfl (lv_at hl 4 rfl) ?_
            refine va_get (D := D) (ci := 7) (v := .int tb) (C := "WrongHole$Text") (T := TX9) (N := 8) hx hb hts (iq_RX9 _) hown hK hP 0 rfl rfl 4 (by decide) (hT _ qq_1_43) (fun _ h9 => h9) rfl dX9_whichWord_61 ?_
            refine lv_icmp_ne (tgt := 69) hx hb dX9_whichWord_64 (by decide) (fun c_1107 => ?_) (fun c_1107 => ?_)
            · obtain ⟨x_1108, e_1109⟩ : ∃ z : Int32, z = v_40 + Int32.ofInt 1 := ⟨_, rfl⟩
              refine lv_iinc (v := x_1108) (lv' := [(2, .int x_1108), (5, .int v_37), (4, .int v_38), (3, .int v_39), (0, .ref ht), (1, .ref (sa 5))]) hx hb dX9_whichWord_69 hl (k := 3) rfl (e_1109.symm) (by decide) rfl (fun ls hl => ?_)
              refine lv_aload_n hx hb dX9_whichWord_72 rfl (lv_at hl 4 rfl) ?_
              refine va_get (D := D) (ci := 7) (v := .int tp) (C := "WrongHole$Text") (T := TX9) (N := 8) hx hb hts (iq_RX9 _) hown hK hP 0 rfl rfl 3 (by decide) (hT _ qq_1_42) (fun _ h9 => h9) rfl dX9_whichWord_73 ?_
              refine lv_istore_n (lv' := [(3, .int tp), (2, .int x_1108), (5, .int v_37), (4, .int v_38), (0, .ref ht), (1, .ref (sa 5))]) hx hb dX9_whichWord_76 rfl hl (by decide) rfl (fun ls hl => ?_)
              refine lv_iconst (v := 1) hx hb dX9_whichWord_77 (by decide) ?_
              refine lv_istore (lv' := [(4, .int 1), (3, .int tp), (2, .int x_1108), (5, .int v_37), (0, .ref ht), (1, .ref (sa 5))]) hx hb dX9_whichWord_78 hl (by decide) rfl (fun ls hl => ?_)
              refine lv_goto (tgt := 115) hx hb dX9_whichWord_80 (by decide) ?_
              obtain ⟨x_1110, e_1111⟩ : ∃ z : Int32, z = v_37 + Int32.ofInt 1 := ⟨_, rfl⟩
              have r_1112 : Rg 1 3 x_1110 := Rg.add e_1111 r_1047 (Rg.c (c := Int32.ofInt 1) (k := 1) rfl) (by decide)
              refine lv_iinc (v := x_1110) (lv' := [(5, .int x_1110), (4, .int 1), (3, .int tp), (2, .int x_1108), (0, .ref ht), (1, .ref (sa 5))]) hx hb dX9_whichWord_115 hl (k := 3) rfl (e_1111.symm) (by decide) rfl (fun ls hl => ?_)
              refine lv_goto (tgt := 25) hx hb dX9_whichWord_118 (by decide) ?_
              exact ih_1038 (x_1110, 1, tp, x_1108) _ _ _ ⟨(Rg.wk (lo2 := 0) (hi2 := 4) r_1112 (by decide)), (Rg.wk (lo2 := 0) (hi2 := 1) (Rg.c (c := 1) (k := 1) rfl) (by decide)), r_tp, hHe, hlc, hP, lv_sub hl [0, 1, 2, 3, 4, 5] rfl⟩ (ms_up e_1111 r_1047 (Rg.c (c := Int32.ofInt 1) (k := 1) rfl) (by decide))
            · refine lv_iload_n hx hb dX9_whichWord_67 rfl (lv_at hl 3 rfl) ?_
              exact W.iret (v := v_40) hx hb hr (fun t9 ht9 hW9 => ⟨⟨_, rfl, _, rfl⟩, ht9.trans hHe⟩) (fun _ h9 => by rw [hlc] at h9; exact absurd h9 List.not_mem_nil) dX9_whichWord_68
  · refine lv_iconst (v := (-1)) hx hb dX9_whichWord_10 (by decide) ?_
    exact W.iret (v := (-1)) hx hb hr (fun t9 ht9 hW9 => ⟨⟨_, rfl, _, rfl⟩, ht9.trans hHe⟩) (fun _ h9 => by rw [hlc] at h9; exact absurd h9 List.not_mem_nil) dX9_whichWord_11
set_option maxHeartbeats 4000000 in
set_option maxRecDepth 100000 in
theorem c_Text_whichWord_6 (l : Launch) (D : va_G) (cs : Nat → ClassId) (sa sv : Nat → Nat) (ht : Nat) (hs : Nat) (tl : Int32) (tk : Int32) (tp : Int32) (tb : Int32) (tv : Int32) (tn : Int32) (tf : Int32) (gt : Nat → Int32) (r_tl : Rg 0 400 tl) (r_tp : Rg 0 400 tp) (r_tb : Rg 0 400 tb) : Met l yX9_whichWord (Cond.code yX9_whichWord cX9_whichWord 6 (some .int) :: TB) (RM 4 0 0) (va_Pc [.ref ht, .ref (sa 6)] (PRX D cs (SX sa sv) [(ht, .inr (7, [.ref hs, .int tl, .int tk, .int tp, .int tb, .int tv, .int tn, .int tf])), (hs, .inl ((cs 1), 400, .inl gt))])) (QP (fun v => ∃ x : Int32, v = .int x)) 0 0 (fun _ => False) := by
  refine MEX (y := yX9_whichWord) (cc := cX9_whichWord) (maxL := 6) (ret := (some .int)) (d := 4) (D := D) (cs := cs) (X := SX sa sv) (ws := [(ht, .inr (7, [.ref hs, .int tl, .int tk, .int tp, .int tb, .int tv, .int tn, .int tf])), (hs, .inl ((cs 1), 400, .inl gt))]) (av := [.ref ht, .ref (sa 6)]) (Qc := QP (fun v => ∃ x : Int32, v = .int x)) (by decide) (Nat.le_of_ble_eq_true rfl) ?_
  intro p e s m below meth c ls H hHe hx hb hr hml hown hts hlocks hP hK hN hX hXs hl
  obtain ⟨locs, hlc⟩ : ∃ z : List Loc, z = [] := ⟨_, rfl⟩
  rw [← hlc]
  have hown : s.vm.findClass "WrongHole$Text" = some m.cls := hown
  have hT : ∀ w ∈ TB, w.before ([.ref ht, .ref (sa 6)] : List Value).toArray s = true := fun w h => hts w (List.mem_cons_of_mem _ h)
  have hl : lv_has ls 6 [(0, .ref ht), (1, .ref (sa 6))] := hl
  have hP : va_P D vwCl [(ht, .inr (7, [.ref hs, .int tl, .int tk, .int tp, .int tb, .int tv, .int tn, .int tf])), (hs, .inl ((cs 1), 400, .inl gt))] H := hP
  refine lv_aload_n hx hb dX9_whichWord_0 rfl (lv_at hl 0 rfl) ?_
  refine va_get (D := D) (ci := 7) (v := .int tk) (C := "WrongHole$Text") (T := TX9) (N := 8) hx hb hts (iq_RX9 _) hown hK hP 0 rfl rfl 2 (by decide) (hT _ qq_1_41) (fun _ h9 => h9) rfl dX9_whichWord_1 ?_
  refine lv_sipush (v := 257) hx hb dX9_whichWord_4 (by decide) ?_
  refine lv_icmp_eq (tgt := 12) hx hb dX9_whichWord_7 (by decide) (fun c_1 => ?_) (fun c_1 => ?_)
  · have r_2 : Rg 257 257 tk := Rg.eq_l c_1 (Rg.top tk) (Rg.c (c := 257) (k := 257) rfl) (by decide)
    refine lv_iconst (v := 0) hx hb dX9_whichWord_12 (by decide) ?_
    refine lv_istore_n (lv' := [(2, .int 0), (0, .ref ht), (1, .ref (sa 6))]) hx hb dX9_whichWord_13 rfl hl (by decide) rfl (fun ls hl => ?_)
    refine lv_aload_n hx hb dX9_whichWord_14 rfl (lv_at hl 1 rfl) ?_
    refine va_get (D := D) (ci := 7) (v := .int tp) (C := "WrongHole$Text") (T := TX9) (N := 8) hx hb hts (iq_RX9 _) hown hK hP 0 rfl rfl 3 (by decide) (hT _ qq_1_42) (fun _ h9 => h9) rfl dX9_whichWord_15 ?_
    refine lv_istore_n (lv' := [(3, .int tp), (2, .int 0), (0, .ref ht), (1, .ref (sa 6))]) hx hb dX9_whichWord_18 rfl hl (by decide) rfl (fun ls hl => ?_)
    refine lv_iconst (v := 1) hx hb dX9_whichWord_19 (by decide) ?_
    refine lv_istore (lv' := [(4, .int 1), (3, .int tp), (2, .int 0), (0, .ref ht), (1, .ref (sa 6))]) hx hb dX9_whichWord_20 hl (by decide) rfl (fun ls hl => ?_)
    refine lv_iconst (v := 0) hx hb dX9_whichWord_22 (by decide) ?_
    refine lv_istore (lv' := [(5, .int 0), (4, .int 1), (3, .int tp), (2, .int 0), (0, .ref ht), (1, .ref (sa 6))]) hx hb dX9_whichWord_23 hl (by decide) rfl (fun ls hl => ?_)
    refine w_wh (σ := (Int32) × (Int32) × (Int32) × (Int32)) (fun x9 H locs ls => match x9 with | (v_37, v_38, v_39, v_40) => Rg 0 3 v_37 ∧ Rg 0 1 v_38 ∧ Rg 0 400 v_39 ∧ H = s.heap ∧ locs = [] ∧ va_P D vwCl [(ht, .inr (7, [.ref hs, .int tl, .int tk, .int tp, .int tb, .int tv, .int tn, .int tf])), (hs, .inl ((cs 1), 400, .inl gt))] H ∧ lv_has ls 6 [(5, .int v_37), (4, .int v_38), (3, .int v_39), (2, .int v_40), (0, .ref ht), (1, .ref (sa 6))]) (fun x9 => match x9 with | (v_37, v_38, v_39, v_40) => (3 - Int32.toInt v_37).toNat) 25 ?_ (0, 1, tp, 0) H locs ls ⟨(Rg.wk (lo2 := 0) (hi2 := 3) (Rg.c (c := 0) (k := 0) rfl) (by decide)), (Rg.wk (lo2 := 0) (hi2 := 1) (Rg.c (c := 1) (k := 1) rfl) (by decide)), r_tp, hHe, hlc, hP, lv_sub hl [0, 1, 2, 3, 4, 5] rfl⟩
    rintro ⟨v_37, v_38, v_39, v_40⟩ H locs ls ⟨r_1057, r_1058, r_1059, hHe, hlc, hP, hl⟩ ih_1056
    refine lv_iload hx hb dX9_whichWord_25 (lv_at hl 0 rfl) ?_
    refine lv_aload_n hx hb dX9_whichWord_27 rfl (lv_at hl 5 rfl) ?_
    have hPc := va_P.sub (ws' := []) hP [] rfl
    have hS0 : va_S (fun _ => False) s.heap H locs := by rw [hHe, hlc]; exact va_S.rf
    refine cl_V (W.runV (As := []) (rest := [.int v_37]) ⟨hx, hb, hml, hown, hts⟩ (c_S_length l D cs sa sv 6 (by decide)) ⟨callB_of 0 hts (gd_C qq_2_157) rfl rfl rfl (hT _ qq_1_12) (hT _ qq_2_154) (by decide +kernel) (rm_R rfl rfl), (hT _ qq_2_155), (hT _ qq_2_156)⟩ (px_T hPc hK hN hX hXs hS0 (i := 6) (by decide)) rfl rfl hl.1 rfl (lv_room (Nat.le_of_ble_eq_true rfl)) dX9_whichWord_28 ⟨Nat.le_of_ble_eq_true rfl, Nat.le_of_ble_eq_true rfl⟩) ?_
    refine tc_i 2 rfl ?_
    refine lv_icmp_gt (tgt := 121) hx hb dX9_whichWord_31 (by decide) (fun c_1060 => ?_) (fun c_1060 => ?_)
    · have r_1061 : Rg 3 3 v_37 := Rg.lt_r c_1060 (Rg.c (c := 2) (k := 2) rfl) r_1057 (by decide)
      refine lv_iconst (v := (-1)) hx hb dX9_whichWord_121 (by decide) ?_
      exact W.iret (v := (-1)) hx hb hr (fun t9 ht9 hW9 => ⟨⟨_, rfl, _, rfl⟩, ht9.trans hHe⟩) (fun _ h9 => by rw [hlc] at h9; exact absurd h9 List.not_mem_nil) dX9_whichWord_122
    · have r_1062 : Rg 0 2 v_37 := Rg.le_l (nlt_le c_1060) r_1057 (Rg.c (c := 2) (k := 2) rfl) (by decide)
      refine lv_iload hx hb dX9_whichWord_34 (lv_at hl 0 rfl) ?_
      refine lv_aload_n hx hb dX9_whichWord_36 rfl (lv_at hl 5 rfl) ?_
      have hPc := va_P.sub (ws' := []) hP [] rfl
      have hS0 : va_S (fun _ => False) s.heap H locs := by rw [hHe, hlc]; exact va_S.rf
      refine cl_V (W.runV (As := []) (rest := [.int v_37]) ⟨hx, hb, hml, hown, hts⟩ (c_S_length l D cs sa sv 6 (by decide)) ⟨callB_of 0 hts (gd_C qq_2_157) rfl rfl rfl (hT _ qq_1_12) (hT _ qq_2_154) (by decide +kernel) (rm_R rfl rfl), (hT _ qq_2_155), (hT _ qq_2_156)⟩ (px_T hPc hK hN hX hXs hS0 (i := 6) (by decide)) rfl rfl hl.1 rfl (lv_room (Nat.le_of_ble_eq_true rfl)) dX9_whichWord_37 ⟨Nat.le_of_ble_eq_true rfl, Nat.le_of_ble_eq_true rfl⟩) ?_
      refine tc_i 2 rfl ?_
      refine lv_icmp_eq (tgt := 54) hx hb dX9_whichWord_40 (by decide) (fun c_1063 => ?_) (fun c_1063 => ?_)
      · have r_1064 : Rg 2 2 v_37 := Rg.eq_l c_1063 r_1062 (Rg.c (c := 2) (k := 2) rfl) (by decide)
        refine lv_iload hx hb dX9_whichWord_54 (lv_at hl 1 rfl) ?_
        refine lv_if_eq (tgt := 69) hx hb dX9_whichWord_56 (by decide) (fun c_1066 => ?_) (fun c_1066 => ?_)
        · have r_1067 : Rg 0 0 v_38 := Rg.eq_l c_1066 r_1058 (Rg.c (c := 0) (k := 0) rfl) (by decide)
          obtain ⟨x_1069, e_1070⟩ : ∃ z : Int32, z = v_40 + Int32.ofInt 1 := ⟨_, rfl⟩
          refine lv_iinc (v := x_1069) (lv' := [(2, .int x_1069), (5, .int v_37), (4, .int v_38), (3, .int v_39), (0, .ref ht), (1, .ref (sa 6))]) hx hb dX9_whichWord_69 hl (k := 3) rfl (e_1070.symm) (by decide) rfl (fun ls hl => ?_)
          refine lv_aload_n hx hb dX9_whichWord_72 rfl (lv_at hl 4 rfl) ?_
          refine va_get (D := D) (ci := 7) (v := .int tp) (C := "WrongHole$Text") (T := TX9) (N := 8) hx hb hts (iq_RX9 _) hown hK hP 0 rfl rfl 3 (by decide) (hT _ qq_1_42) (fun _ h9 => h9) rfl dX9_whichWord_73 ?_
          refine lv_istore_n (lv' := [(3, .int tp), (2, .int x_1069), (5, .int v_37), (4, .int v_38), (0, .ref ht), (1, .ref (sa 6))]) hx hb dX9_whichWord_76 rfl hl (by decide) rfl (fun ls hl => ?_)
          refine lv_iconst (v := 1) hx hb dX9_whichWord_77 (by decide) ?_
          refine lv_istore (lv' := [(4, .int 1), (3, .int tp), (2, .int x_1069), (5, .int v_37), (0, .ref ht), (1, .ref (sa 6))]) hx hb dX9_whichWord_78 hl (by decide) rfl (fun ls hl => ?_)
          refine lv_goto (tgt := 115) hx hb dX9_whichWord_80 (by decide) ?_
          obtain ⟨x_1071, e_1072⟩ : ∃ z : Int32, z = v_37 + Int32.ofInt 1 := ⟨_, rfl⟩
          have r_1073 : Rg 3 3 x_1071 := Rg.add e_1072 r_1064 (Rg.c (c := Int32.ofInt 1) (k := 1) rfl) (by decide)
          refine lv_iinc (v := x_1071) (lv' := [(5, .int x_1071), (4, .int 1), (3, .int tp), (2, .int x_1069), (0, .ref ht), (1, .ref (sa 6))]) hx hb dX9_whichWord_115 hl (k := 3) rfl (e_1072.symm) (by decide) rfl (fun ls hl => ?_)
          refine lv_goto (tgt := 25) hx hb dX9_whichWord_118 (by decide) ?_
          exact ih_1056 (x_1071, 1, tp, x_1069) _ _ _ ⟨(Rg.wk (lo2 := 0) (hi2 := 3) r_1073 (by decide)), (Rg.wk (lo2 := 0) (hi2 := 1) (Rg.c (c := 1) (k := 1) rfl) (by decide)), r_tp, hHe, hlc, hP, lv_sub hl [0, 1, 2, 3, 4, 5] rfl⟩ (ms_up e_1072 r_1064 (Rg.c (c := Int32.ofInt 1) (k := 1) rfl) (by decide))
        · have r_1068 : Rg 1 1 v_38 := Rg.ne c_1066 r_1058 (Rg.c (c := 0) (k := 0) rfl) (by decide)
          refine lv_iload_n hx hb dX9_whichWord_59 rfl (lv_at hl 2 rfl) ?_
          refine lv_aload_n hx hb dX9_whichWord_60 rfl (lv_at hl 4 rfl) ?_
          refine va_get (D := D) (ci := 7) (v := .int tb) (C := "WrongHole$Text") (T := TX9) (N := 8) hx hb hts (iq_RX9 _) hown hK hP 0 rfl rfl 4 (by decide) (hT _ qq_1_43) (fun _ h9 => h9) rfl dX9_whichWord_61 ?_
          refine lv_icmp_ne (tgt := 69) hx hb dX9_whichWord_64 (by decide) (fun c_1074 => ?_) (fun c_1074 => ?_)
          · obtain ⟨x_1075, e_1076⟩ : ∃ z : Int32, z = v_40 + Int32.ofInt 1 := ⟨_, rfl⟩
            refine lv_iinc (v := x_1075) (lv' := [(2, .int x_1075), (5, .int v_37), (4, .int v_38), (3, .int v_39), (0, .ref ht), (1, .ref (sa 6))]) hx hb dX9_whichWord_69 hl (k := 3) rfl (e_1076.symm) (by decide) rfl (fun ls hl => ?_)
            refine lv_aload_n hx hb dX9_whichWord_72 rfl (lv_at hl 4 rfl) ?_
            refine va_get (D := D) (ci := 7) (v := .int tp) (C := "WrongHole$Text") (T := TX9) (N := 8) hx hb hts (iq_RX9 _) hown hK hP 0 rfl rfl 3 (by decide) (hT _ qq_1_42) (fun _ h9 => h9) rfl dX9_whichWord_73 ?_
            refine lv_istore_n (lv' := [(3, .int tp), (2, .int x_1075), (5, .int v_37), (4, .int v_38), (0, .ref ht), (1, .ref (sa 6))]) hx hb dX9_whichWord_76 rfl hl (by decide) rfl (fun ls hl => ?_)
            refine lv_iconst (v := 1) hx hb dX9_whichWord_77 (by decide) ?_
            refine lv_istore (lv' := [(4, .int 1), (3, .int tp), (2, .int x_1075), (5, .int v_37), (0, .ref ht), (1, .ref (sa 6))]) hx hb dX9_whichWord_78 hl (by decide) rfl (fun ls hl => ?_)
            refine lv_goto (tgt := 115) hx hb dX9_whichWord_80 (by decide) ?_
            obtain ⟨x_1077, e_1078⟩ : ∃ z : Int32, z = v_37 + Int32.ofInt 1 := ⟨_, rfl⟩
            have r_1079 : Rg 3 3 x_1077 := Rg.add e_1078 r_1064 (Rg.c (c := Int32.ofInt 1) (k := 1) rfl) (by decide)
            refine lv_iinc (v := x_1077) (lv' := [(5, .int x_1077), (4, .int 1), (3, .int tp), (2, .int x_1075), (0, .ref ht), (1, .ref (sa 6))]) hx hb dX9_whichWord_115 hl (k := 3) rfl (e_1078.symm) (by decide) rfl (fun ls hl => ?_)
            refine lv_goto (tgt := 25) hx hb dX9_whichWord_118 (by decide) ?_
            exact ih_1056 (x_1077, 1, tp, x_1075) _ _ _ ⟨(Rg.wk (lo2 := 0) (hi2 := 3) r_1079 (by decide)), (Rg.wk (lo2 := 0) (hi2 := 1) (Rg.c (c := 1) (k := 1) rfl) (by decide)), r_tp, hHe, hlc, hP, lv_sub hl [0, 1, 2, 3, 4, 5] rfl⟩ (ms_up e_1078 r_1064 (Rg.c (c := Int32.ofInt 1) (k := 1) rfl) (by decide))
          · refine lv_iload_n hx hb dX9_whichWord_67 rfl (lv_at hl 3 rfl) ?_
            exact W.iret (v := v_40) hx hb hr (fun t9 ht9 hW9 => ⟨⟨_, rfl, _, rfl⟩, ht9.trans hHe⟩) (fun _ h9 => by rw [hlc] at h9; exact absurd h9 List.not_mem_nil) dX9_whichWord_68
      · have r_1065 : Rg 0 1 v_37 := Rg.ne c_1063 r_1062 (Rg.c (c := 2) (k := 2) rfl) (by decide)
        refine lv_aload_n hx hb dX9_whichWord_43 rfl (lv_at hl 5 rfl) ?_
        refine lv_iload hx hb dX9_whichWord_44 (lv_at hl 0 rfl) ?_
        have hPc := va_P.sub (ws' := []) hP [] rfl
        have hS0 : va_S (fun _ => False) s.heap H locs := by rw [hHe, hlc]; exact va_S.rf
        refine cl_P (W.runV (As := [.int v_37]) (rest := []) ⟨hx, hb, hml, hown, hts⟩ (c_S_charAt l D cs sa sv 6 v_37 (by decide) (Rg.in r_1065 (by decide)) (Rg.wk (lo2 := 0) (hi2 := 2147483647) r_1065 (by decide))) ⟨callB_of 1 hts (gd_C qq_2_167) rfl rfl rfl (hT _ qq_1_12) (hT _ qq_2_164) (by decide +kernel) (rm_R rfl rfl), (hT _ qq_2_165), (hT _ qq_2_166)⟩ (px_T hPc hK hN hX hXs hS0 (i := 6) (by decide)) rfl rfl hl.1 rfl (lv_room (Nat.le_of_ble_eq_true rfl)) dX9_whichWord_46 ⟨Nat.le_of_ble_eq_true rfl, Nat.le_of_ble_eq_true rfl⟩) (fun v9 hz_1081 => ?_)
        obtain ⟨x_1080, rfl, r_1082⟩ := hz_1081
        refine lv_bipush (v := 32) hx hb dX9_whichWord_49 (by decide) ?_
        refine lv_icmp_ne (tgt := 83) hx hb dX9_whichWord_51 (by decide) (fun c_1083 => ?_) (fun c_1083 => ?_)
        · refine lv_iload_n hx hb dX9_whichWord_83 rfl (lv_at hl 2 rfl) ?_
          refine lv_aload_n hx hb dX9_whichWord_84 rfl (lv_at hl 4 rfl) ?_
          refine va_get (D := D) (ci := 7) (v := .int tb) (C := "WrongHole$Text") (T := TX9) (N := 8) hx hb hts (iq_RX9 _) hown hK hP 0 rfl rfl 4 (by decide) (hT _ qq_1_43) (fun _ h9 => h9) rfl dX9_whichWord_85 ?_
          refine w_cut (σ := (Int32) × (Int32)) (fun x9 H locs ls => match x9 with | (v_1098, v_1099) => Rg 0 1 v_1098 ∧ Rg 0 400 v_1099 ∧ H = s.heap ∧ locs = [] ∧ va_P D vwCl [(ht, .inr (7, [.ref hs, .int tl, .int tk, .int tp, .int tb, .int tv, .int tn, .int tf])), (hs, .inl ((cs 1), 400, .inl gt))] H ∧ lv_has ls 6 [(4, .int v_1098), (5, .int v_37), (3, .int v_1099), (2, .int v_40), (0, .ref ht), (1, .ref (sa 6))]) 115 (fun x9 => match x9 with | (v_1098, v_1099) => []) ?_ (fun hj_1100 => ?_)
          · rintro ⟨v_1098, v_1099⟩ H locs ls ⟨r_1101, r_1102, hHe, hlc, hP, hl⟩
            obtain ⟨x_1103, e_1104⟩ : ∃ z : Int32, z = v_37 + Int32.ofInt 1 := ⟨_, rfl⟩
            have r_1105 : Rg 1 2 x_1103 := Rg.add e_1104 r_1065 (Rg.c (c := Int32.ofInt 1) (k := 1) rfl) (by decide)
            refine lv_iinc (v := x_1103) (lv' := [(5, .int x_1103), (4, .int v_1098), (3, .int v_1099), (2, .int v_40), (0, .ref ht), (1, .ref (sa 6))]) hx hb dX9_whichWord_115 hl (k := 1) rfl (e_1104.symm) (by decide) rfl (fun ls hl => ?_)
            refine lv_goto (tgt := 25) hx hb dX9_whichWord_118 (by decide) ?_
            exact ih_1056 (x_1103, v_1098, v_1099, v_40) _ _ _ ⟨(Rg.wk (lo2 := 0) (hi2 := 3) r_1105 (by decide)), r_1101, r_1102, hHe, hlc, hP, lv_sub hl [0, 1, 2, 3, 4, 5] rfl⟩ (ms_up e_1104 r_1065 (Rg.c (c := Int32.ofInt 1) (k := 1) rfl) (by decide))
          · refine lv_icmp_ge (tgt := 112) hx hb dX9_whichWord_88 (by decide) (fun c_1085 => ?_) (fun c_1085 => ?_)
            · refine lv_iconst (v := 0) hx hb dX9_whichWord_112 (by decide) ?_
              refine lv_istore (lv' := [(4, .int 0), (5, .int v_37), (3, .int v_39), (2, .int v_40), (0, .ref ht), (1, .ref (sa 6))]) hx hb dX9_whichWord_113 hl (by decide) rfl (fun ls hl => ?_)
              exact hj_1100 (0, v_39) _ _ _ ⟨(Rg.wk (lo2 := 0) (hi2 := 1) (Rg.c (c := 0) (k := 0) rfl) (by decide)), r_1059, hHe, hlc, hP, lv_sub hl [0, 1, 2, 3, 4, 5] rfl⟩
            · have r_1086 : Rg 0 399 v_39 := Rg.lt_l (nle_lt c_1085) r_1059 r_tb (by decide)
              have r_1087 : Rg 1 400 tb := Rg.lt_r (nle_lt c_1085) r_1059 r_tb (by decide)
              refine lv_aload_n hx hb dX9_whichWord_91 rfl (lv_at hl 4 rfl) ?_
              refine va_get (D := D) (ci := 7) (v := .ref hs) (C := "WrongHole$Text") (T := TX9) (N := 8) hx hb hts (iq_RX9 _) hown hK hP 0 rfl rfl 0 (by decide) (hT _ qq_1_36) (fun _ h9 => h9) rfl dX9_whichWord_92 ?_
              refine lv_iload_n hx hb dX9_whichWord_95 rfl (lv_at hl 2 rfl) ?_
              have hi_1106 : vp_in v_39 400 := Rg.in r_1086 (by decide)
              refine va_cald hx hb hK hP 1 1 rfl rfl hi_1106 dX9_whichWord_96 ?_
              refine lv_topi (fun x_1107 e_1108 => ?_)
              refine lv_aload_n hx hb dX9_whichWord_97 rfl (lv_at hl 5 rfl) ?_
              refine lv_iload hx hb dX9_whichWord_98 (lv_at hl 0 rfl) ?_
              have hPc := va_P.sub (ws' := []) hP [] rfl
              have hS0 : va_S (fun _ => False) s.heap H locs := by rw [hHe, hlc]; exact va_S.rf
              refine cl_P (W.runV (As := [.int v_37]) (rest := [.int x_1107]) ⟨hx, hb, hml, hown, hts⟩ (c_S_charAt l D cs sa sv 6 v_37 (by decide) (Rg.in r_1065 (by decide)) (Rg.wk (lo2 := 0) (hi2 := 2147483647) r_1065 (by decide))) ⟨callB_of 1 hts (gd_C qq_2_167) rfl rfl rfl (hT _ qq_1_12) (hT _ qq_2_164) (by decide +kernel) (rm_R rfl rfl), (hT _ qq_2_165), (hT _ qq_2_166)⟩ (px_T hPc hK hN hX hXs hS0 (i := 6) (by decide)) rfl rfl hl.1 rfl (lv_room (Nat.le_of_ble_eq_true rfl)) dX9_whichWord_100 ⟨Nat.le_of_ble_eq_true rfl, Nat.le_of_ble_eq_true rfl⟩) (fun v9 hz_1110 => ?_)
              obtain ⟨x_1109, rfl, r_1111⟩ := hz_1110
              refine lv_icmp_ne (tgt := 112) hx hb dX9_whichWord_103 (by decide) (fun c_1112 => ?_) (fun c_1112 => ?_)
              · refine lv_iconst (v := 0) hx hb dX9_whichWord_112 (by decide) ?_
                refine lv_istore (lv' := [(4, .int 0), (5, .int v_37), (3, .int v_39), (2, .int v_40), (0, .ref ht), (1, .ref (sa 6))]) hx hb dX9_whichWord_113 hl (by decide) rfl (fun ls hl => ?_)
                exact hj_1100 (0, v_39) _ _ _ ⟨(Rg.wk (lo2 := 0) (hi2 := 1) (Rg.c (c := 0) (k := 0) rfl) (by decide)), (Rg.wk (lo2 := 0) (hi2 := 400) r_1086 (by decide)), hHe, hlc, hP, lv_sub hl [0, 1, 2, 3, 4, 5] rfl⟩
              · have r_1113 : Rg 0 65535 x_1107 := Rg.eq_l c_1112 (Rg.top x_1107) r_1111 (by decide)
                obtain ⟨x_1114, e_1115⟩ : ∃ z : Int32, z = v_39 + Int32.ofInt 1 := ⟨_, rfl⟩
                have r_1116 : Rg 1 400 x_1114 := Rg.add e_1115 r_1086 (Rg.c (c := Int32.ofInt 1) (k := 1) rfl) (by decide)
                refine lv_iinc (v := x_1114) (lv' := [(3, .int x_1114), (5, .int v_37), (4, .int v_38), (2, .int v_40), (0, .ref ht), (1, .ref (sa 6))]) hx hb dX9_whichWord_106 hl (k := 2) rfl (e_1115.symm) (by decide) rfl (fun ls hl => ?_)
                refine lv_goto (tgt := 115) hx hb dX9_whichWord_109 (by decide) ?_
                exact hj_1100 (v_38, x_1114) _ _ _ ⟨r_1058, (Rg.wk (lo2 := 0) (hi2 := 400) r_1116 (by decide)), hHe, hlc, hP, lv_sub hl [2, 1, 0, 3, 4, 5] rfl⟩
        · have r_1084 : Rg 32 32 x_1080 := Rg.eq_l c_1083 r_1082 (Rg.c (c := 32) (k := 32) rfl) (by decide)
          refine lv_iload hx hb dX9_whichWord_54 (lv_at hl 1 rfl) ?_
          refine lv_if_eq (tgt := 69) hx hb dX9_whichWord_56 (by decide) (fun c_1117 => ?_) (fun c_1117 => ?_)
          · have r_1118 : Rg 0 0 v_38 := Rg.eq_l c_1117 r_1058 (Rg.c (c := 0) (k := 0) rfl) (by decide)
            obtain ⟨x_1120, e_1121⟩ : ∃ z : Int32, z = v_40 + Int32.ofInt 1 := ⟨_, rfl⟩
            refine lv_iinc (v := x_1120) (lv' := [(2, .int x_1120), (5, .int v_37), (4, .int v_38), (3, .int v_39), (0, .ref ht), (1, .ref (sa 6))]) hx hb dX9_whichWord_69 hl (k := 3) rfl (e_1121.symm) (by decide) rfl (fun ls hl => ?_)
            refine lv_aload_n hx hb dX9_whichWord_72 rfl (lv_at hl 4 rfl) ?_
            refine va_get (D := D) (ci := 7) (v := .int tp) (C := "WrongHole$Text") (T := TX9) (N := 8) hx hb hts (iq_RX9 _) hown hK hP 0 rfl rfl 3 (by decide) (hT _ qq_1_42) (fun _ h9 => h9) rfl dX9_whichWord_73 ?_
            refine lv_istore_n (lv' := [(3, .int tp), (2, .int x_1120), (5, .int v_37), (4, .int v_38), (0, .ref ht), (1, .ref (sa 6))]) hx hb dX9_whichWord_76 rfl hl (by decide) rfl (fun ls hl => ?_)
            refine lv_iconst (v := 1) hx hb dX9_whichWord_77 (by decide) ?_
            refine lv_istore (lv' := [(4, .int 1), (3, .int tp), (2, .int x_1120), (5, .int v_37), (0, .ref ht), (1, .ref (sa 6))]) hx hb dX9_whichWord_78 hl (by decide) rfl (fun ls hl => ?_)
            refine lv_goto (tgt := 115) hx hb dX9_whichWord_80 (by decide) ?_
            obtain ⟨x_1122, e_1123⟩ : ∃ z : Int32, z = v_37 + Int32.ofInt 1 := ⟨_, rfl⟩
            have r_1124 : Rg 1 2 x_1122 := Rg.add e_1123 r_1065 (Rg.c (c := Int32.ofInt 1) (k := 1) rfl) (by decide)
            refine lv_iinc (v := x_1122) (lv' := [(5, .int x_1122), (4, .int 1), (3, .int tp), (2, .int x_1120), (0, .ref ht), (1, .ref (sa 6))]) hx hb dX9_whichWord_115 hl (k := 3) rfl (e_1123.symm) (by decide) rfl (fun ls hl => ?_)
            refine lv_goto (tgt := 25) hx hb dX9_whichWord_118 (by decide) ?_
            exact ih_1056 (x_1122, 1, tp, x_1120) _ _ _ ⟨(Rg.wk (lo2 := 0) (hi2 := 3) r_1124 (by decide)), (Rg.wk (lo2 := 0) (hi2 := 1) (Rg.c (c := 1) (k := 1) rfl) (by decide)), r_tp, hHe, hlc, hP, lv_sub hl [0, 1, 2, 3, 4, 5] rfl⟩ (ms_up e_1123 r_1065 (Rg.c (c := Int32.ofInt 1) (k := 1) rfl) (by decide))
          · have r_1119 : Rg 1 1 v_38 := Rg.ne c_1117 r_1058 (Rg.c (c := 0) (k := 0) rfl) (by decide)
            refine lv_iload_n hx hb dX9_whichWord_59 rfl (lv_at hl 2 rfl) ?_
            refine lv_aload_n hx hb dX9_whichWord_60 rfl (lv_at hl 4 rfl) ?_
            refine va_get (D := D) (ci := 7) (v := .int tb) (C := "WrongHole$Text") (T := TX9) (N := 8) hx hb hts (iq_RX9 _) hown hK hP 0 rfl rfl 4 (by decide) (hT _ qq_1_43) (fun _ h9 => h9) rfl dX9_whichWord_61 ?_
            refine lv_icmp_ne (tgt := 69) hx hb dX9_whichWord_64 (by decide) (fun c_1125 => ?_) (fun c_1125 => ?_)
            · obtain ⟨x_1126, e_1127⟩ : ∃ z : Int32, z = v_40 + Int32.ofInt 1 := ⟨_, rfl⟩
              refine lv_iinc (v := x_1126) (lv' := [(2, .int x_1126), (5, .int v_37), (4, .int v_38), (3, .int v_39), (0, .ref ht), (1, .ref (sa 6))]) hx hb dX9_whichWord_69 hl (k := 3) rfl (e_1127.symm) (by decide) rfl (fun ls hl => ?_)
              refine lv_aload_n hx hb dX9_whichWord_72 rfl (lv_at hl 4 rfl) ?_
              refine va_get (D := D) (ci := 7) (v := .int tp) (C := "WrongHole$Text") (T := TX9) (N := 8) hx hb hts (iq_RX9 _) hown hK hP 0 rfl rfl 3 (by decide) (hT _ qq_1_42) (fun _ h9 => h9) rfl dX9_whichWord_73 ?_
              refine lv_istore_n (lv' := [(3, .int tp), (2, .int x_1126), (5, .int v_37), (4, .int v_38), (0, .ref ht), (1, .ref (sa 6))]) hx hb dX9_whichWord_76 rfl hl (by decide) rfl (fun ls hl => ?_)
              refine lv_iconst (v := 1) hx hb dX9_whichWord_77 (by decide) ?_
              refine lv_istore (lv' := [(4, .int 1), (3, .int tp), (2, .int x_1126), (5, .int v_37), (0, .ref ht), (1, .ref (sa 6))]) hx hb dX9_whichWord_78 hl (by decide) rfl (fun ls hl => ?_)
              refine lv_goto (tgt := 115) hx hb dX9_whichWord_80 (by decide) ?_
              obtain ⟨x_1128, e_1129⟩ : ∃ z : Int32, z = v_37 + Int32.ofInt 1 := ⟨_, rfl⟩
              have r_1130 : Rg 1 2 x_1128 := Rg.add e_1129 r_1065 (Rg.c (c := Int32.ofInt 1) (k := 1) rfl) (by decide)
              refine lv_iinc (v := x_1128) (lv' := [(5, .int x_1128), (4, .int 1), (3, .int tp), (2, .int x_1126), (0, .ref ht), (1, .ref (sa 6))]) hx hb dX9_whichWord_115 hl (k := 3) rfl (e_1129.symm) (by decide) rfl (fun ls hl => ?_)
              refine lv_goto (tgt := 25) hx hb dX9_whichWord_118 (by decide) ?_
              exact ih_1056 (x_1128, 1, tp, x_1126) _ _ _ ⟨(Rg.wk (lo2 := 0) (hi2 := 3) r_1130 (by decide)), (Rg.wk (lo2 := 0) (hi2 := 1) (Rg.c (c := 1) (k := 1) rfl) (by decide)), r_tp, hHe, hlc, hP, lv_sub hl [0, 1, 2, 3, 4, 5] rfl⟩ (ms_up e_1129 r_1065 (Rg.c (c := Int32.ofInt 1) (k := 1) rfl) (by decide))
            · refine lv_iload_n hx hb dX9_whichWord_67 rfl (lv_at hl 3 rfl) ?_
              exact W.iret (v := v_40) hx hb hr (fun t9 ht9 hW9 => ⟨⟨_, rfl, _, rfl⟩, ht9.trans hHe⟩) (fun _ h9 => by rw [hlc] at h9; exact absurd h9 List.not_mem_nil) dX9_whichWord_68
  · refine lv_iconst (v := (-1)) hx hb dX9_whichWord_10 (by decide) ?_
    exact W.iret (v := (-1)) hx hb hr (fun t9 ht9 hW9 => ⟨⟨_, rfl, _, rfl⟩, ht9.trans hHe⟩) (fun _ h9 => by rw [hlc] at h9; exact absurd h9 List.not_mem_nil) dX9_whichWord_11
theorem dX9_takeWord_0 : decode cX9_takeWord 0 = .ok (.aload_n 0, 1) := by decide +kernel
theorem dX9_takeWord_1 : decode cX9_takeWord 1 = .ok (.aload_n 1, 1) := by decide +kernel
theorem dX9_takeWord_2 : decode cX9_takeWord 2 = .ok (.invokevirtual 63, 3) := by decide +kernel
theorem qq_2_153 : Cond.code yX9_whichWord cX9_whichWord 6 (some .int) ∈ TB := mk_tb (ti_2 (List.mem_of_getElem? (i := 153) rfl)) rfl
theorem qq_3_107 : Cond.methodLink "WrongHole$Text" 63 yX9_whichWord ∈ TB := mk_tb (ti_3 (List.mem_of_getElem? (i := 107) rfl)) rfl
theorem qq_2_151 : Cond.instanceMethod yX9_whichWord ∈ TB := mk_tb (ti_2 (List.mem_of_getElem? (i := 151) rfl)) rfl
theorem qq_2_152 : Cond.selects "WrongHole$Text" yX9_whichWord yX9_whichWord ∈ TB := mk_tb (ti_2 (List.mem_of_getElem? (i := 152) rfl)) rfl
theorem dX9_takeWord_5 : decode cX9_takeWord 5 = .ok (.iconst (-1), 1) := by decide +kernel
theorem dX9_takeWord_6 : decode cX9_takeWord 6 = .ok (.if_icmp .ne 5, 3) := by decide +kernel
theorem dX9_takeWord_11 : decode cX9_takeWord 11 = .ok (.aload_n 0, 1) := by decide +kernel
theorem dX9_takeWord_12 : decode cX9_takeWord 12 = .ok (.invokevirtual 25, 3) := by decide +kernel
theorem dX9_takeWord_15 : decode cX9_takeWord 15 = .ok (.iconst 1, 1) := by decide +kernel
theorem dX9_takeWord_16 : decode cX9_takeWord 16 = .ok (.ireturn, 1) := by decide +kernel
theorem dX9_takeWord_9 : decode cX9_takeWord 9 = .ok (.iconst 0, 1) := by decide +kernel
theorem dX9_takeWord_10 : decode cX9_takeWord 10 = .ok (.ireturn, 1) := by decide +kernel
set_option maxHeartbeats 4000000 in
set_option maxRecDepth 100000 in
theorem c_Text_takeWord_3 (l : Launch) (D : va_G) (cs : Nat → ClassId) (sa sv : Nat → Nat) (sz : Nat) (ht : Nat) (hs : Nat) (tl : Int32) (tk : Int32) (tp : Int32) (tb : Int32) (tv : Int32) (tn : Int32) (tf : Int32) (gt : Nat → Int32) (r_tl : Rg 0 400 tl) (r_tp : Rg 0 400 tp) (r_tb : Rg 0 400 tb) : Met l yX9_takeWord (Cond.code yX9_takeWord cX9_takeWord 2 (some .boolean) :: TB) (RM 5 0 0) (va_Pc [.ref ht, .ref (sa 3)] (PRE D cs (SX sa sv) [(ht, .inr (7, [.ref hs, .int tl, .int tk, .int tp, .int tb, .int tv, .int tn, .int tf])), (hs, .inl ((cs 1), 400, .inl gt))] [] sz)) (va_Qi (S := Unit) (fun r _ => Rg 0 1 r) (fun _ t => ∃ (tk2 : Int32), ∃ (tp2 : Int32), ∃ (tb2 : Int32), ∃ (tv2 : Int32), Rg 0 400 tp2 ∧ Rg 0 400 tb2 ∧ va_P D vwCl [(ht, .inr (7, [.ref hs, .int tl, .int tk2, .int tp2, .int tb2, .int tv2, .int tn, .int tf])), (hs, .inl ((cs 1), 400, .inl gt))] t.heap ∧ va_D (va_A [(ht, .inr (7, [.ref hs, .int tl, .int tk, .int tp, .int tb, .int tv, .int tn, .int tf])), (hs, .inl ((cs 1), 400, .inl gt))] sz) [(ht, .inr (7, [.ref hs, .int tl, .int tk2, .int tp2, .int tb2, .int tv2, .int tn, .int tf])), (hs, .inl ((cs 1), 400, .inl gt))]) (va_A [(ht, .inr (7, [.ref hs, .int tl, .int tk, .int tp, .int tb, .int tv, .int tn, .int tf])), (hs, .inl ((cs 1), 400, .inl gt))] sz)) 0 0 (va_A [(ht, .inr (7, [.ref hs, .int tl, .int tk, .int tp, .int tb, .int tv, .int tn, .int tf])), (hs, .inl ((cs 1), 400, .inl gt))] sz) := by
  refine MET (y := yX9_takeWord) (cc := cX9_takeWord) (maxL := 2) (ret := (some .boolean)) (d := 5) (mc := 0) (ms := 0) (D := D) (cs := cs) (X := (SX sa sv)) (ws := [(ht, .inr (7, [.ref hs, .int tl, .int tk, .int tp, .int tb, .int tv, .int tn, .int tf])), (hs, .inl ((cs 1), 400, .inl gt))]) (wo := []) (sz := sz) (av := [.ref ht, .ref (sa 3)]) (Qc := fun A => va_Qi (S := Unit) (fun r _ => Rg 0 1 r) (fun _ t => ∃ (tk2 : Int32), ∃ (tp2 : Int32), ∃ (tb2 : Int32), ∃ (tv2 : Int32), Rg 0 400 tp2 ∧ Rg 0 400 tb2 ∧ va_P D vwCl [(ht, .inr (7, [.ref hs, .int tl, .int tk2, .int tp2, .int tb2, .int tv2, .int tn, .int tf])), (hs, .inl ((cs 1), 400, .inl gt))] t.heap ∧ va_D A [(ht, .inr (7, [.ref hs, .int tl, .int tk2, .int tp2, .int tb2, .int tv2, .int tn, .int tf])), (hs, .inl ((cs 1), 400, .inl gt))]) A) (by decide) (Nat.le_of_ble_eq_true rfl) ?_
  intro p e s m below meth c ls A H hHe hx hb hr hml hown hts hlocks hnm hP hK hD hA hS hN hR hX hXs hl
  have hD : va_D A [(ht, .inr (7, [.ref hs, .int tl, .int tk, .int tp, .int tb, .int tv, .int tn, .int tf])), (hs, .inl ((cs 1), 400, .inl gt))] := hD
  obtain ⟨locs, hlc⟩ : ∃ z : List Loc, z = [] := ⟨_, rfl⟩
  rw [← hlc] at hS ⊢
  have hown : s.vm.findClass "WrongHole$Text" = some m.cls := hown
  have hT : ∀ w ∈ TB, w.before ([.ref ht, .ref (sa 3)] : List Value).toArray s = true := fun w h => hts w (List.mem_cons_of_mem _ h)
  have hl : lv_has ls 2 [(0, .ref ht), (1, .ref (sa 3))] := hl
  have hP : va_P D vwCl [(ht, .inr (7, [.ref hs, .int tl, .int tk, .int tp, .int tb, .int tv, .int tn, .int tf])), (hs, .inl ((cs 1), 400, .inl gt))] H := hP
  refine lv_aload_n hx hb dX9_takeWord_0 rfl (lv_at hl 0 rfl) ?_
  refine lv_aload_n hx hb dX9_takeWord_1 rfl (lv_at hl 1 rfl) ?_
  have hPc := va_P.sub (ws' := [(ht, .inr (7, [.ref hs, .int tl, .int tk, .int tp, .int tb, .int tv, .int tn, .int tf])), (hs, .inl ((cs 1), 400, .inl gt))]) hP [0, 1] rfl
  refine cl_P (W.runV (As := [.ref (sa 3)]) (rest := []) ⟨hx, hb, hml, hown, hts⟩ (c_Text_whichWord_3 l D cs sa sv ht hs tl tk tp tb tv tn tf gt r_tl r_tp r_tb) ⟨callB_of 1 hts (gd_C qq_2_153) rfl rfl rfl (hT _ qq_1_2) (hT _ qq_3_107) (by decide +kernel) (rm_R rfl rfl), (hT _ qq_2_151), (hT _ qq_2_152)⟩ (px_V hPc hK hN hX hXs hS (ci := 7) (q0 := 0) rfl rfl) rfl rfl hl.1 rfl (lv_room (Nat.le_of_ble_eq_true rfl)) dX9_takeWord_2 ⟨Nat.le_of_ble_eq_true rfl, Nat.le_of_ble_eq_true rfl⟩) (fun v9 hz_2 => ?_)
  obtain ⟨x_1, rfl⟩ := hz_2
  refine lv_iconst (v := (-1)) hx hb dX9_takeWord_5 (by decide) ?_
  refine lv_icmp_ne (tgt := 11) hx hb dX9_takeWord_6 (by decide) (fun c_4 => ?_) (fun c_4 => ?_)
  · refine lv_aload_n hx hb dX9_takeWord_11 rfl (lv_at hl 0 rfl) ?_
    have hPc := hP.sub (ws' := [(ht, .inr (7, [.ref hs, .int tl, .int tk, .int tp, .int tb, .int tv, .int tn, .int tf])), (hs, .inl ((cs 1), 400, .inl gt))]) [0, 1] rfl
    have hDc := hD.sub (ws' := [(ht, .inr (7, [.ref hs, .int tl, .int tk, .int tp, .int tb, .int tv, .int tn, .int tf])), (hs, .inl ((cs 1), 400, .inl gt))]) [0, 1] (by decide) rfl
    have hFc := va_free (wc := [(ht, .inr (7, [.ref hs, .int tl, .int tk, .int tp, .int tb, .int tv, .int tn, .int tf])), (hs, .inl ((cs 1), 400, .inl gt))]) hD hS hA [0, 1] rfl
    refine va_callv (va_runV (As := []) (rest := []) ⟨hx, hb, hml, hown, hts⟩ (c_Text_pass l D cs (SX sa sv) H.size ht hs tl tk tp tb tv tn tf gt r_tl r_tp r_tb) ⟨callB_of 0 hts (gd_C qq_2_131) rfl rfl rfl (hT _ qq_1_2) (hT _ qq_2_128) (by decide +kernel) (rm_R rfl rfl), (hT _ qq_2_129), (hT _ qq_2_130)⟩ (pr_V hPc hK hDc hN (hR.sub (wo' := []) [] rfl) hS hFc hX hXs (ci := 7) (q0 := 0) rfl rfl) rfl rfl hl.1 rfl (lv_room (Nat.le_of_ble_eq_true rfl)) dX9_takeWord_12 ⟨Nat.le_of_ble_eq_true rfl, Nat.le_of_ble_eq_true rfl⟩) hS (fun q _ h => hFc q h) hFc (fun u_6 t_9 H1 locs ht9 hvm hw_7 hB_8 hz1 hk1 hS => ?_)
    obtain ⟨v_11, v_12, v_13, v_14, r_15, r_16, hP1, hD1⟩ := hB_8
    rw [ht9] at hP1
    obtain ⟨hP, hD⟩ := va_join (wr := []) (w1 := [(ht, .inr (7, [.ref hs, .int tl, .int v_11, .int v_12, .int v_13, .int v_14, .int tn, .int tf])), (hs, .inl ((cs 1), 400, .inl gt))]) hP hD [0, 1] [] rfl rfl (by decide) (by decide) hk1 hFc hP1 hD1
    generalize H1 = H at hP hS ⊢
    have hP : va_P D vwCl [(ht, .inr (7, [.ref hs, .int tl, .int v_11, .int v_12, .int v_13, .int v_14, .int tn, .int tf])), (hs, .inl ((cs 1), 400, .inl gt))] H := hP
    have hD : va_D A [(ht, .inr (7, [.ref hs, .int tl, .int v_11, .int v_12, .int v_13, .int v_14, .int tn, .int tf])), (hs, .inl ((cs 1), 400, .inl gt))] := hD
    refine lv_iconst (v := 1) hx hb dX9_takeWord_15 (by decide) ?_
    refine W.widen (k := 0) (n := 0) (Nat.le_of_ble_eq_true rfl) (Nat.le_of_ble_eq_true rfl) ?_
    have hP9 := hP.sub (ws' := [(ht, .inr (7, [.ref hs, .int tl, .int v_11, .int v_12, .int v_13, .int v_14, .int tn, .int tf])), (hs, .inl ((cs 1), 400, .inl gt))]) [0, 1] rfl
    have hD9 := hD.sub (ws' := [(ht, .inr (7, [.ref hs, .int tl, .int v_11, .int v_12, .int v_13, .int v_14, .int tn, .int tf])), (hs, .inl ((cs 1), 400, .inl gt))]) [0, 1] (by decide) rfl
    exact W.zret (v := 1) (ty := .boolean) hx hb hr rfl (fun t9 ht9 hW9 => ⟨⟨_, (), rfl, (Rg.wk (lo2 := 0) (hi2 := 1) (Rg.c (c := 1) (k := 1) rfl) (by decide)), ⟨v_11, v_12, v_13, v_14, r_15, r_16, by rw [ht9]; exact hP9, hD9⟩⟩, hS.F ht9⟩) hS.2.2 dX9_takeWord_16
  · have r_5 : Rg (-1) (-1) x_1 := Rg.eq_l c_4 (Rg.top x_1) (Rg.c (c := (-1)) (k := (-1)) rfl) (by decide)
    refine lv_iconst (v := 0) hx hb dX9_takeWord_9 (by decide) ?_
    refine W.widen (k := 0) (n := 0) (Nat.le_of_ble_eq_true rfl) (Nat.le_of_ble_eq_true rfl) ?_
    have hP9 := hP.sub (ws' := [(ht, .inr (7, [.ref hs, .int tl, .int tk, .int tp, .int tb, .int tv, .int tn, .int tf])), (hs, .inl ((cs 1), 400, .inl gt))]) [0, 1] rfl
    have hD9 := hD.sub (ws' := [(ht, .inr (7, [.ref hs, .int tl, .int tk, .int tp, .int tb, .int tv, .int tn, .int tf])), (hs, .inl ((cs 1), 400, .inl gt))]) [0, 1] (by decide) rfl
    exact W.zret (v := 0) (ty := .boolean) hx hb hr rfl (fun t9 ht9 hW9 => ⟨⟨_, (), rfl, (Rg.wk (lo2 := 0) (hi2 := 1) (Rg.c (c := 0) (k := 0) rfl) (by decide)), ⟨tk, tp, tb, tv, r_tp, r_tb, by rw [ht9]; exact hP9, hD9⟩⟩, hS.F ht9⟩) hS.2.2 dX9_takeWord_10
set_option maxHeartbeats 4000000 in
set_option maxRecDepth 100000 in
theorem c_Text_takeWord_5 (l : Launch) (D : va_G) (cs : Nat → ClassId) (sa sv : Nat → Nat) (sz : Nat) (ht : Nat) (hs : Nat) (tl : Int32) (tk : Int32) (tp : Int32) (tb : Int32) (tv : Int32) (tn : Int32) (tf : Int32) (gt : Nat → Int32) (r_tl : Rg 0 400 tl) (r_tp : Rg 0 400 tp) (r_tb : Rg 0 400 tb) : Met l yX9_takeWord (Cond.code yX9_takeWord cX9_takeWord 2 (some .boolean) :: TB) (RM 5 0 0) (va_Pc [.ref ht, .ref (sa 5)] (PRE D cs (SX sa sv) [(ht, .inr (7, [.ref hs, .int tl, .int tk, .int tp, .int tb, .int tv, .int tn, .int tf])), (hs, .inl ((cs 1), 400, .inl gt))] [] sz)) (va_Qi (S := Unit) (fun r _ => Rg 0 1 r) (fun _ t => ∃ (tk2 : Int32), ∃ (tp2 : Int32), ∃ (tb2 : Int32), ∃ (tv2 : Int32), Rg 0 400 tp2 ∧ Rg 0 400 tb2 ∧ va_P D vwCl [(ht, .inr (7, [.ref hs, .int tl, .int tk2, .int tp2, .int tb2, .int tv2, .int tn, .int tf])), (hs, .inl ((cs 1), 400, .inl gt))] t.heap ∧ va_D (va_A [(ht, .inr (7, [.ref hs, .int tl, .int tk, .int tp, .int tb, .int tv, .int tn, .int tf])), (hs, .inl ((cs 1), 400, .inl gt))] sz) [(ht, .inr (7, [.ref hs, .int tl, .int tk2, .int tp2, .int tb2, .int tv2, .int tn, .int tf])), (hs, .inl ((cs 1), 400, .inl gt))]) (va_A [(ht, .inr (7, [.ref hs, .int tl, .int tk, .int tp, .int tb, .int tv, .int tn, .int tf])), (hs, .inl ((cs 1), 400, .inl gt))] sz)) 0 0 (va_A [(ht, .inr (7, [.ref hs, .int tl, .int tk, .int tp, .int tb, .int tv, .int tn, .int tf])), (hs, .inl ((cs 1), 400, .inl gt))] sz) := by
  refine MET (y := yX9_takeWord) (cc := cX9_takeWord) (maxL := 2) (ret := (some .boolean)) (d := 5) (mc := 0) (ms := 0) (D := D) (cs := cs) (X := (SX sa sv)) (ws := [(ht, .inr (7, [.ref hs, .int tl, .int tk, .int tp, .int tb, .int tv, .int tn, .int tf])), (hs, .inl ((cs 1), 400, .inl gt))]) (wo := []) (sz := sz) (av := [.ref ht, .ref (sa 5)]) (Qc := fun A => va_Qi (S := Unit) (fun r _ => Rg 0 1 r) (fun _ t => ∃ (tk2 : Int32), ∃ (tp2 : Int32), ∃ (tb2 : Int32), ∃ (tv2 : Int32), Rg 0 400 tp2 ∧ Rg 0 400 tb2 ∧ va_P D vwCl [(ht, .inr (7, [.ref hs, .int tl, .int tk2, .int tp2, .int tb2, .int tv2, .int tn, .int tf])), (hs, .inl ((cs 1), 400, .inl gt))] t.heap ∧ va_D A [(ht, .inr (7, [.ref hs, .int tl, .int tk2, .int tp2, .int tb2, .int tv2, .int tn, .int tf])), (hs, .inl ((cs 1), 400, .inl gt))]) A) (by decide) (Nat.le_of_ble_eq_true rfl) ?_
  intro p e s m below meth c ls A H hHe hx hb hr hml hown hts hlocks hnm hP hK hD hA hS hN hR hX hXs hl
  have hD : va_D A [(ht, .inr (7, [.ref hs, .int tl, .int tk, .int tp, .int tb, .int tv, .int tn, .int tf])), (hs, .inl ((cs 1), 400, .inl gt))] := hD
  obtain ⟨locs, hlc⟩ : ∃ z : List Loc, z = [] := ⟨_, rfl⟩
  rw [← hlc] at hS ⊢
  have hown : s.vm.findClass "WrongHole$Text" = some m.cls := hown
  have hT : ∀ w ∈ TB, w.before ([.ref ht, .ref (sa 5)] : List Value).toArray s = true := fun w h => hts w (List.mem_cons_of_mem _ h)
  have hl : lv_has ls 2 [(0, .ref ht), (1, .ref (sa 5))] := hl
  have hP : va_P D vwCl [(ht, .inr (7, [.ref hs, .int tl, .int tk, .int tp, .int tb, .int tv, .int tn, .int tf])), (hs, .inl ((cs 1), 400, .inl gt))] H := hP
  refine lv_aload_n hx hb dX9_takeWord_0 rfl (lv_at hl 0 rfl) ?_
  refine lv_aload_n hx hb dX9_takeWord_1 rfl (lv_at hl 1 rfl) ?_
  have hPc := va_P.sub (ws' := [(ht, .inr (7, [.ref hs, .int tl, .int tk, .int tp, .int tb, .int tv, .int tn, .int tf])), (hs, .inl ((cs 1), 400, .inl gt))]) hP [0, 1] rfl
  refine cl_P (W.runV (As := [.ref (sa 5)]) (rest := []) ⟨hx, hb, hml, hown, hts⟩ (c_Text_whichWord_5 l D cs sa sv ht hs tl tk tp tb tv tn tf gt r_tl r_tp r_tb) ⟨callB_of 1 hts (gd_C qq_2_153) rfl rfl rfl (hT _ qq_1_2) (hT _ qq_3_107) (by decide +kernel) (rm_R rfl rfl), (hT _ qq_2_151), (hT _ qq_2_152)⟩ (px_V hPc hK hN hX hXs hS (ci := 7) (q0 := 0) rfl rfl) rfl rfl hl.1 rfl (lv_room (Nat.le_of_ble_eq_true rfl)) dX9_takeWord_2 ⟨Nat.le_of_ble_eq_true rfl, Nat.le_of_ble_eq_true rfl⟩) (fun v9 hz_2 => ?_)
  obtain ⟨x_1, rfl⟩ := hz_2
  refine lv_iconst (v := (-1)) hx hb dX9_takeWord_5 (by decide) ?_
  refine lv_icmp_ne (tgt := 11) hx hb dX9_takeWord_6 (by decide) (fun c_4 => ?_) (fun c_4 => ?_)
  · refine lv_aload_n hx hb dX9_takeWord_11 rfl (lv_at hl 0 rfl) ?_
    have hPc := hP.sub (ws' := [(ht, .inr (7, [.ref hs, .int tl, .int tk, .int tp, .int tb, .int tv, .int tn, .int tf])), (hs, .inl ((cs 1), 400, .inl gt))]) [0, 1] rfl
    have hDc := hD.sub (ws' := [(ht, .inr (7, [.ref hs, .int tl, .int tk, .int tp, .int tb, .int tv, .int tn, .int tf])), (hs, .inl ((cs 1), 400, .inl gt))]) [0, 1] (by decide) rfl
    have hFc := va_free (wc := [(ht, .inr (7, [.ref hs, .int tl, .int tk, .int tp, .int tb, .int tv, .int tn, .int tf])), (hs, .inl ((cs 1), 400, .inl gt))]) hD hS hA [0, 1] rfl
    refine va_callv (va_runV (As := []) (rest := []) ⟨hx, hb, hml, hown, hts⟩ (c_Text_pass l D cs (SX sa sv) H.size ht hs tl tk tp tb tv tn tf gt r_tl r_tp r_tb) ⟨callB_of 0 hts (gd_C qq_2_131) rfl rfl rfl (hT _ qq_1_2) (hT _ qq_2_128) (by decide +kernel) (rm_R rfl rfl), (hT _ qq_2_129), (hT _ qq_2_130)⟩ (pr_V hPc hK hDc hN (hR.sub (wo' := []) [] rfl) hS hFc hX hXs (ci := 7) (q0 := 0) rfl rfl) rfl rfl hl.1 rfl (lv_room (Nat.le_of_ble_eq_true rfl)) dX9_takeWord_12 ⟨Nat.le_of_ble_eq_true rfl, Nat.le_of_ble_eq_true rfl⟩) hS (fun q _ h => hFc q h) hFc (fun u_6 t_9 H1 locs ht9 hvm hw_7 hB_8 hz1 hk1 hS => ?_)
    obtain ⟨v_11, v_12, v_13, v_14, r_15, r_16, hP1, hD1⟩ := hB_8
    rw [ht9] at hP1
    obtain ⟨hP, hD⟩ := va_join (wr := []) (w1 := [(ht, .inr (7, [.ref hs, .int tl, .int v_11, .int v_12, .int v_13, .int v_14, .int tn, .int tf])), (hs, .inl ((cs 1), 400, .inl gt))]) hP hD [0, 1] [] rfl rfl (by decide) (by decide) hk1 hFc hP1 hD1
    generalize H1 = H at hP hS ⊢
    have hP : va_P D vwCl [(ht, .inr (7, [.ref hs, .int tl, .int v_11, .int v_12, .int v_13, .int v_14, .int tn, .int tf])), (hs, .inl ((cs 1), 400, .inl gt))] H := hP
    have hD : va_D A [(ht, .inr (7, [.ref hs, .int tl, .int v_11, .int v_12, .int v_13, .int v_14, .int tn, .int tf])), (hs, .inl ((cs 1), 400, .inl gt))] := hD
    refine lv_iconst (v := 1) hx hb dX9_takeWord_15 (by decide) ?_
    refine W.widen (k := 0) (n := 0) (Nat.le_of_ble_eq_true rfl) (Nat.le_of_ble_eq_true rfl) ?_
    have hP9 := hP.sub (ws' := [(ht, .inr (7, [.ref hs, .int tl, .int v_11, .int v_12, .int v_13, .int v_14, .int tn, .int tf])), (hs, .inl ((cs 1), 400, .inl gt))]) [0, 1] rfl
    have hD9 := hD.sub (ws' := [(ht, .inr (7, [.ref hs, .int tl, .int v_11, .int v_12, .int v_13, .int v_14, .int tn, .int tf])), (hs, .inl ((cs 1), 400, .inl gt))]) [0, 1] (by decide) rfl
    exact W.zret (v := 1) (ty := .boolean) hx hb hr rfl (fun t9 ht9 hW9 => ⟨⟨_, (), rfl, (Rg.wk (lo2 := 0) (hi2 := 1) (Rg.c (c := 1) (k := 1) rfl) (by decide)), ⟨v_11, v_12, v_13, v_14, r_15, r_16, by rw [ht9]; exact hP9, hD9⟩⟩, hS.F ht9⟩) hS.2.2 dX9_takeWord_16
  · have r_5 : Rg (-1) (-1) x_1 := Rg.eq_l c_4 (Rg.top x_1) (Rg.c (c := (-1)) (k := (-1)) rfl) (by decide)
    refine lv_iconst (v := 0) hx hb dX9_takeWord_9 (by decide) ?_
    refine W.widen (k := 0) (n := 0) (Nat.le_of_ble_eq_true rfl) (Nat.le_of_ble_eq_true rfl) ?_
    have hP9 := hP.sub (ws' := [(ht, .inr (7, [.ref hs, .int tl, .int tk, .int tp, .int tb, .int tv, .int tn, .int tf])), (hs, .inl ((cs 1), 400, .inl gt))]) [0, 1] rfl
    have hD9 := hD.sub (ws' := [(ht, .inr (7, [.ref hs, .int tl, .int tk, .int tp, .int tb, .int tv, .int tn, .int tf])), (hs, .inl ((cs 1), 400, .inl gt))]) [0, 1] (by decide) rfl
    exact W.zret (v := 0) (ty := .boolean) hx hb hr rfl (fun t9 ht9 hW9 => ⟨⟨_, (), rfl, (Rg.wk (lo2 := 0) (hi2 := 1) (Rg.c (c := 0) (k := 0) rfl) (by decide)), ⟨tk, tp, tb, tv, r_tp, r_tb, by rw [ht9]; exact hP9, hD9⟩⟩, hS.F ht9⟩) hS.2.2 dX9_takeWord_10
set_option maxHeartbeats 4000000 in
set_option maxRecDepth 100000 in
theorem c_Text_takeWord_6 (l : Launch) (D : va_G) (cs : Nat → ClassId) (sa sv : Nat → Nat) (sz : Nat) (ht : Nat) (hs : Nat) (tl : Int32) (tk : Int32) (tp : Int32) (tb : Int32) (tv : Int32) (tn : Int32) (tf : Int32) (gt : Nat → Int32) (r_tl : Rg 0 400 tl) (r_tp : Rg 0 400 tp) (r_tb : Rg 0 400 tb) : Met l yX9_takeWord (Cond.code yX9_takeWord cX9_takeWord 2 (some .boolean) :: TB) (RM 5 0 0) (va_Pc [.ref ht, .ref (sa 6)] (PRE D cs (SX sa sv) [(ht, .inr (7, [.ref hs, .int tl, .int tk, .int tp, .int tb, .int tv, .int tn, .int tf])), (hs, .inl ((cs 1), 400, .inl gt))] [] sz)) (va_Qi (S := Unit) (fun r _ => Rg 0 1 r) (fun _ t => ∃ (tk2 : Int32), ∃ (tp2 : Int32), ∃ (tb2 : Int32), ∃ (tv2 : Int32), Rg 0 400 tp2 ∧ Rg 0 400 tb2 ∧ va_P D vwCl [(ht, .inr (7, [.ref hs, .int tl, .int tk2, .int tp2, .int tb2, .int tv2, .int tn, .int tf])), (hs, .inl ((cs 1), 400, .inl gt))] t.heap ∧ va_D (va_A [(ht, .inr (7, [.ref hs, .int tl, .int tk, .int tp, .int tb, .int tv, .int tn, .int tf])), (hs, .inl ((cs 1), 400, .inl gt))] sz) [(ht, .inr (7, [.ref hs, .int tl, .int tk2, .int tp2, .int tb2, .int tv2, .int tn, .int tf])), (hs, .inl ((cs 1), 400, .inl gt))]) (va_A [(ht, .inr (7, [.ref hs, .int tl, .int tk, .int tp, .int tb, .int tv, .int tn, .int tf])), (hs, .inl ((cs 1), 400, .inl gt))] sz)) 0 0 (va_A [(ht, .inr (7, [.ref hs, .int tl, .int tk, .int tp, .int tb, .int tv, .int tn, .int tf])), (hs, .inl ((cs 1), 400, .inl gt))] sz) := by
  refine MET (y := yX9_takeWord) (cc := cX9_takeWord) (maxL := 2) (ret := (some .boolean)) (d := 5) (mc := 0) (ms := 0) (D := D) (cs := cs) (X := (SX sa sv)) (ws := [(ht, .inr (7, [.ref hs, .int tl, .int tk, .int tp, .int tb, .int tv, .int tn, .int tf])), (hs, .inl ((cs 1), 400, .inl gt))]) (wo := []) (sz := sz) (av := [.ref ht, .ref (sa 6)]) (Qc := fun A => va_Qi (S := Unit) (fun r _ => Rg 0 1 r) (fun _ t => ∃ (tk2 : Int32), ∃ (tp2 : Int32), ∃ (tb2 : Int32), ∃ (tv2 : Int32), Rg 0 400 tp2 ∧ Rg 0 400 tb2 ∧ va_P D vwCl [(ht, .inr (7, [.ref hs, .int tl, .int tk2, .int tp2, .int tb2, .int tv2, .int tn, .int tf])), (hs, .inl ((cs 1), 400, .inl gt))] t.heap ∧ va_D A [(ht, .inr (7, [.ref hs, .int tl, .int tk2, .int tp2, .int tb2, .int tv2, .int tn, .int tf])), (hs, .inl ((cs 1), 400, .inl gt))]) A) (by decide) (Nat.le_of_ble_eq_true rfl) ?_
  intro p e s m below meth c ls A H hHe hx hb hr hml hown hts hlocks hnm hP hK hD hA hS hN hR hX hXs hl
  have hD : va_D A [(ht, .inr (7, [.ref hs, .int tl, .int tk, .int tp, .int tb, .int tv, .int tn, .int tf])), (hs, .inl ((cs 1), 400, .inl gt))] := hD
  obtain ⟨locs, hlc⟩ : ∃ z : List Loc, z = [] := ⟨_, rfl⟩
  rw [← hlc] at hS ⊢
  have hown : s.vm.findClass "WrongHole$Text" = some m.cls := hown
  have hT : ∀ w ∈ TB, w.before ([.ref ht, .ref (sa 6)] : List Value).toArray s = true := fun w h => hts w (List.mem_cons_of_mem _ h)
  have hl : lv_has ls 2 [(0, .ref ht), (1, .ref (sa 6))] := hl
  have hP : va_P D vwCl [(ht, .inr (7, [.ref hs, .int tl, .int tk, .int tp, .int tb, .int tv, .int tn, .int tf])), (hs, .inl ((cs 1), 400, .inl gt))] H := hP
  refine lv_aload_n hx hb dX9_takeWord_0 rfl (lv_at hl 0 rfl) ?_
  refine lv_aload_n hx hb dX9_takeWord_1 rfl (lv_at hl 1 rfl) ?_
  have hPc := va_P.sub (ws' := [(ht, .inr (7, [.ref hs, .int tl, .int tk, .int tp, .int tb, .int tv, .int tn, .int tf])), (hs, .inl ((cs 1), 400, .inl gt))]) hP [0, 1] rfl
  refine cl_P (W.runV (As := [.ref (sa 6)]) (rest := []) ⟨hx, hb, hml, hown, hts⟩ (c_Text_whichWord_6 l D cs sa sv ht hs tl tk tp tb tv tn tf gt r_tl r_tp r_tb) ⟨callB_of 1 hts (gd_C qq_2_153) rfl rfl rfl (hT _ qq_1_2) (hT _ qq_3_107) (by decide +kernel) (rm_R rfl rfl), (hT _ qq_2_151), (hT _ qq_2_152)⟩ (px_V hPc hK hN hX hXs hS (ci := 7) (q0 := 0) rfl rfl) rfl rfl hl.1 rfl (lv_room (Nat.le_of_ble_eq_true rfl)) dX9_takeWord_2 ⟨Nat.le_of_ble_eq_true rfl, Nat.le_of_ble_eq_true rfl⟩) (fun v9 hz_2 => ?_)
  obtain ⟨x_1, rfl⟩ := hz_2
  refine lv_iconst (v := (-1)) hx hb dX9_takeWord_5 (by decide) ?_
  refine lv_icmp_ne (tgt := 11) hx hb dX9_takeWord_6 (by decide) (fun c_4 => ?_) (fun c_4 => ?_)
  · refine lv_aload_n hx hb dX9_takeWord_11 rfl (lv_at hl 0 rfl) ?_
    have hPc := hP.sub (ws' := [(ht, .inr (7, [.ref hs, .int tl, .int tk, .int tp, .int tb, .int tv, .int tn, .int tf])), (hs, .inl ((cs 1), 400, .inl gt))]) [0, 1] rfl
    have hDc := hD.sub (ws' := [(ht, .inr (7, [.ref hs, .int tl, .int tk, .int tp, .int tb, .int tv, .int tn, .int tf])), (hs, .inl ((cs 1), 400, .inl gt))]) [0, 1] (by decide) rfl
    have hFc := va_free (wc := [(ht, .inr (7, [.ref hs, .int tl, .int tk, .int tp, .int tb, .int tv, .int tn, .int tf])), (hs, .inl ((cs 1), 400, .inl gt))]) hD hS hA [0, 1] rfl
    refine va_callv (va_runV (As := []) (rest := []) ⟨hx, hb, hml, hown, hts⟩ (c_Text_pass l D cs (SX sa sv) H.size ht hs tl tk tp tb tv tn tf gt r_tl r_tp r_tb) ⟨callB_of 0 hts (gd_C qq_2_131) rfl rfl rfl (hT _ qq_1_2) (hT _ qq_2_128) (by decide +kernel) (rm_R rfl rfl), (hT _ qq_2_129), (hT _ qq_2_130)⟩ (pr_V hPc hK hDc hN (hR.sub (wo' := []) [] rfl) hS hFc hX hXs (ci := 7) (q0 := 0) rfl rfl) rfl rfl hl.1 rfl (lv_room (Nat.le_of_ble_eq_true rfl)) dX9_takeWord_12 ⟨Nat.le_of_ble_eq_true rfl, Nat.le_of_ble_eq_true rfl⟩) hS (fun q _ h => hFc q h) hFc (fun u_6 t_9 H1 locs ht9 hvm hw_7 hB_8 hz1 hk1 hS => ?_)
    obtain ⟨v_11, v_12, v_13, v_14, r_15, r_16, hP1, hD1⟩ := hB_8
    rw [ht9] at hP1
    obtain ⟨hP, hD⟩ := va_join (wr := []) (w1 := [(ht, .inr (7, [.ref hs, .int tl, .int v_11, .int v_12, .int v_13, .int v_14, .int tn, .int tf])), (hs, .inl ((cs 1), 400, .inl gt))]) hP hD [0, 1] [] rfl rfl (by decide) (by decide) hk1 hFc hP1 hD1
    generalize H1 = H at hP hS ⊢
    have hP : va_P D vwCl [(ht, .inr (7, [.ref hs, .int tl, .int v_11, .int v_12, .int v_13, .int v_14, .int tn, .int tf])), (hs, .inl ((cs 1), 400, .inl gt))] H := hP
    have hD : va_D A [(ht, .inr (7, [.ref hs, .int tl, .int v_11, .int v_12, .int v_13, .int v_14, .int tn, .int tf])), (hs, .inl ((cs 1), 400, .inl gt))] := hD
    refine lv_iconst (v := 1) hx hb dX9_takeWord_15 (by decide) ?_
    refine W.widen (k := 0) (n := 0) (Nat.le_of_ble_eq_true rfl) (Nat.le_of_ble_eq_true rfl) ?_
    have hP9 := hP.sub (ws' := [(ht, .inr (7, [.ref hs, .int tl, .int v_11, .int v_12, .int v_13, .int v_14, .int tn, .int tf])), (hs, .inl ((cs 1), 400, .inl gt))]) [0, 1] rfl
    have hD9 := hD.sub (ws' := [(ht, .inr (7, [.ref hs, .int tl, .int v_11, .int v_12, .int v_13, .int v_14, .int tn, .int tf])), (hs, .inl ((cs 1), 400, .inl gt))]) [0, 1] (by decide) rfl
    exact W.zret (v := 1) (ty := .boolean) hx hb hr rfl (fun t9 ht9 hW9 => ⟨⟨_, (), rfl, (Rg.wk (lo2 := 0) (hi2 := 1) (Rg.c (c := 1) (k := 1) rfl) (by decide)), ⟨v_11, v_12, v_13, v_14, r_15, r_16, by rw [ht9]; exact hP9, hD9⟩⟩, hS.F ht9⟩) hS.2.2 dX9_takeWord_16
  · have r_5 : Rg (-1) (-1) x_1 := Rg.eq_l c_4 (Rg.top x_1) (Rg.c (c := (-1)) (k := (-1)) rfl) (by decide)
    refine lv_iconst (v := 0) hx hb dX9_takeWord_9 (by decide) ?_
    refine W.widen (k := 0) (n := 0) (Nat.le_of_ble_eq_true rfl) (Nat.le_of_ble_eq_true rfl) ?_
    have hP9 := hP.sub (ws' := [(ht, .inr (7, [.ref hs, .int tl, .int tk, .int tp, .int tb, .int tv, .int tn, .int tf])), (hs, .inl ((cs 1), 400, .inl gt))]) [0, 1] rfl
    have hD9 := hD.sub (ws' := [(ht, .inr (7, [.ref hs, .int tl, .int tk, .int tp, .int tb, .int tv, .int tn, .int tf])), (hs, .inl ((cs 1), 400, .inl gt))]) [0, 1] (by decide) rfl
    exact W.zret (v := 0) (ty := .boolean) hx hb hr rfl (fun t9 ht9 hW9 => ⟨⟨_, (), rfl, (Rg.wk (lo2 := 0) (hi2 := 1) (Rg.c (c := 0) (k := 0) rfl) (by decide)), ⟨tk, tp, tb, tv, r_tp, r_tb, by rw [ht9]; exact hP9, hD9⟩⟩, hS.F ht9⟩) hS.2.2 dX9_takeWord_10
