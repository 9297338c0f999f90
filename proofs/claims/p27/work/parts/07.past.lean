theorem dX4_keep_0 : decode cX4_keep 0 = .ok (.aload_n 0, 1) := by decide +kernel
theorem dX4_keep_1 : decode cX4_keep 1 = .ok (.getfield 9, 3) := by decide +kernel
theorem qq_1_142 : Cond.fieldLink "WrongHole$Past" 9 "WrongHole$Past" "keys" "[I" ∈ TB := mk_tb (ti_1 (List.mem_of_getElem? (i := 142) rfl)) rfl
theorem iq_RX4 (cd : Cond) : ∀ w ∈ u_ws RX4 TX4 4, w ∈ cd :: TB := by
  intro w hw
  obtain ⟨k, hk, rfl⟩ := List.mem_map.mp hw
  have hk := List.mem_range.mp hk
  refine List.mem_cons_of_mem _ ?_
  match k, hk with
  | 0, _ => exact mk_tb (ti_1 (List.mem_of_getElem? (i := 147) rfl)) rfl
  | 1, _ => exact mk_tb (ti_1 (List.mem_of_getElem? (i := 149) rfl)) rfl
  | 2, _ => exact mk_tb (ti_1 (List.mem_of_getElem? (i := 151) rfl)) rfl
  | 3, _ => exact mk_tb (ti_1 (List.mem_of_getElem? (i := 153) rfl)) rfl
  | n + 4, h => exact absurd h (by omega)
theorem dX4_keep_4 : decode cX4_keep 4 = .ok (.aload_n 0, 1) := by decide +kernel
theorem dX4_keep_5 : decode cX4_keep 5 = .ok (.getfield 16, 3) := by decide +kernel
theorem qq_1_144 : Cond.fieldLink "WrongHole$Past" 16 "WrongHole$Past" "next" "I" ∈ TB := mk_tb (ti_1 (List.mem_of_getElem? (i := 144) rfl)) rfl
theorem dX4_keep_8 : decode cX4_keep 8 = .ok (.iload_n 1, 1) := by decide +kernel
theorem dX4_keep_9 : decode cX4_keep 9 = .ok (.iastore, 1) := by decide +kernel
theorem dX4_keep_10 : decode cX4_keep 10 = .ok (.aload_n 0, 1) := by decide +kernel
theorem dX4_keep_11 : decode cX4_keep 11 = .ok (.getfield 13, 3) := by decide +kernel
theorem qq_1_143 : Cond.fieldLink "WrongHole$Past" 13 "WrongHole$Past" "clocks" "[I" ∈ TB := mk_tb (ti_1 (List.mem_of_getElem? (i := 143) rfl)) rfl
theorem dX4_keep_14 : decode cX4_keep 14 = .ok (.aload_n 0, 1) := by decide +kernel
theorem dX4_keep_15 : decode cX4_keep 15 = .ok (.getfield 16, 3) := by decide +kernel
theorem dX4_keep_18 : decode cX4_keep 18 = .ok (.iload_n 2, 1) := by decide +kernel
theorem dX4_keep_19 : decode cX4_keep 19 = .ok (.iastore, 1) := by decide +kernel
theorem dX4_keep_20 : decode cX4_keep 20 = .ok (.aload_n 0, 1) := by decide +kernel
theorem dX4_keep_21 : decode cX4_keep 21 = .ok (.aload_n 0, 1) := by decide +kernel
theorem dX4_keep_22 : decode cX4_keep 22 = .ok (.getfield 16, 3) := by decide +kernel
theorem dX4_keep_25 : decode cX4_keep 25 = .ok (.iconst 1, 1) := by decide +kernel
theorem dX4_keep_26 : decode cX4_keep 26 = .ok (.iadd, 1) := by decide +kernel
theorem dX4_keep_27 : decode cX4_keep 27 = .ok (.bipush 20, 2) := by decide +kernel
theorem dX4_keep_29 : decode cX4_keep 29 = .ok (.irem, 1) := by decide +kernel
theorem dX4_keep_30 : decode cX4_keep 30 = .ok (.putfield 16, 3) := by decide +kernel
theorem dX4_keep_33 : decode cX4_keep 33 = .ok (.aload_n 0, 1) := by decide +kernel
theorem dX4_keep_34 : decode cX4_keep 34 = .ok (.aload_n 0, 1) := by decide +kernel
theorem dX4_keep_35 : decode cX4_keep 35 = .ok (.getfield 20, 3) := by decide +kernel
theorem qq_1_145 : Cond.fieldLink "WrongHole$Past" 20 "WrongHole$Past" "size" "I" ∈ TB := mk_tb (ti_1 (List.mem_of_getElem? (i := 145) rfl)) rfl
theorem dX4_keep_38 : decode cX4_keep 38 = .ok (.iconst 1, 1) := by decide +kernel
theorem dX4_keep_39 : decode cX4_keep 39 = .ok (.iadd, 1) := by decide +kernel
theorem dX4_keep_40 : decode cX4_keep 40 = .ok (.bipush 20, 2) := by decide +kernel
theorem dX4_keep_42 : decode cX4_keep 42 = .ok (.invokestatic 23, 3) := by decide +kernel
theorem qq_4_19 : Cond.methodLink "WrongHole$Past" 23 yJ9_min_7cf53 ∈ TB := mk_tb (ti_4 (List.mem_of_getElem? (i := 19) rfl)) rfl
theorem qq_3_137 : Cond.static yJ9_min_7cf53 ∈ TB := mk_tb (ti_3 (List.mem_of_getElem? (i := 137) rfl)) rfl
theorem qq_1_19 : Cond.initialized "java/lang/Math" ∈ TB := mk_tb (ti_1 (List.mem_of_getElem? (i := 19) rfl)) rfl
theorem qq_3_138 : Cond.code yJ9_min_7cf53 cJ9_min_7cf53 2 (some .int) ∈ TB := mk_tb (ti_3 (List.mem_of_getElem? (i := 138) rfl)) rfl
theorem dX4_keep_45 : decode cX4_keep 45 = .ok (.putfield 20, 3) := by decide +kernel
theorem dX4_keep_48 : decode cX4_keep 48 = .ok (.return_, 1) := by decide +kernel
set_option maxHeartbeats 4000000 in
set_option maxRecDepth 100000 in
theorem c_Past_keep (l : Launch) (D : va_G) (cs : Nat → ClassId) (X : XX) (sz : Nat) (hp : Nat) (pk : Nat) (pc_ : Nat) (pn : Int32) (ps : Int32) (gk : Nat → Int32) (gk2 : Nat → Int32) (a : Int32) (b : Int32) (r_pn : Rg 0 19 pn) (r_ps : Rg 0 20 ps) : Met l yX4_keep (Cond.code yX4_keep cX4_keep 3 none :: TB) (RM 1 0 0) (va_Pc [.ref hp, .int a, .int b] (PRE D cs X [(hp, .inr (3, [.ref pk, .ref pc_, .int pn, .int ps])), (pk, .inl ((cs 0), 20, .inl gk)), (pc_, .inl ((cs 0), 20, .inl gk2))] [] sz)) (va_Qv (S := Unit) (fun _ => True) (fun _ t => ∃ (pn2 : Int32), ∃ (ps2 : Int32), ∃ (gk3 : Nat → Int32), ∃ (gk4 : Nat → Int32), Rg 0 19 pn2 ∧ Rg 0 20 ps2 ∧ va_P D vwCl [(hp, .inr (3, [.ref pk, .ref pc_, .int pn2, .int ps2])), (pk, .inl ((cs 0), 20, .inl gk3)), (pc_, .inl ((cs 0), 20, .inl gk4))] t.heap ∧ va_D (va_A [(hp, .inr (3, [.ref pk, .ref pc_, .int pn, .int ps])), (pk, .inl ((cs 0), 20, .inl gk)), (pc_, .inl ((cs 0), 20, .inl gk2))] sz) [(hp, .inr (3, [.ref pk, .ref pc_, .int pn2, .int ps2])), (pk, .inl ((cs 0), 20, .inl gk3)), (pc_, .inl ((cs 0), 20, .inl gk4))]) (va_A [(hp, .inr (3, [.ref pk, .ref pc_, .int pn, .int ps])), (pk, .inl ((cs 0), 20, .inl gk)), (pc_, .inl ((cs 0), 20, .inl gk2))] sz)) 0 0 (va_A [(hp, .inr (3, [.ref pk, .ref pc_, .int pn, .int ps])), (pk, .inl ((cs 0), 20, .inl gk)), (pc_, .inl ((cs 0), 20, .inl gk2))] sz) := by
  refine MET (y := yX4_keep) (cc := cX4_keep) (maxL := 3) (ret := none) (d := 1) (mc := 0) (ms := 0) (D := D) (cs := cs) (X := X) (ws := [(hp, .inr (3, [.ref pk, .ref pc_, .int pn, .int ps])), (pk, .inl ((cs 0), 20, .inl gk)), (pc_, .inl ((cs 0), 20, .inl gk2))]) (wo := []) (sz := sz) (av := [.ref hp, .int a, .int b]) (Qc := fun A => va_Qv (S := Unit) (fun _ => True) (fun _ t => ∃ (pn2 : Int32), ∃ (ps2 : Int32), ∃ (gk3 : Nat → Int32), ∃ (gk4 : Nat → Int32), Rg 0 19 pn2 ∧ Rg 0 20 ps2 ∧ va_P D vwCl [(hp, .inr (3, [.ref pk, .ref pc_, .int pn2, .int ps2])), (pk, .inl ((cs 0), 20, .inl gk3)), (pc_, .inl ((cs 0), 20, .inl gk4))] t.heap ∧ va_D A [(hp, .inr (3, [.ref pk, .ref pc_, .int pn2, .int ps2])), (pk, .inl ((cs 0), 20, .inl gk3)), (pc_, .inl ((cs 0), 20, .inl gk4))]) A) (by decide) (Nat.le_of_ble_eq_true rfl) ?_
  intro p e s m below meth c ls A H hHe hx hb hr hml hown hts hlocks hnm hP hK hD hA hS hN hR hX hXs hl
  have hD : va_D A [(hp, .inr (3, [.ref pk, .ref pc_, .int pn, .int ps])), (pk, .inl ((cs 0), 20, .inl gk)), (pc_, .inl ((cs 0), 20, .inl gk2))] := hD
  obtain ⟨locs, hlc⟩ : ∃ z : List Loc, z = [] := ⟨_, rfl⟩
  rw [← hlc] at hS ⊢
  have hown : s.vm.findClass "WrongHole$Past" = some m.cls := hown
  have hT : ∀ w ∈ TB, w.before ([.ref hp, .int a, .int b] : List Value).toArray s = true := fun w h => hts w (List.mem_cons_of_mem _ h)
  have hl : lv_has ls 3 [(0, .ref hp), (1, .int a), (2, .int b)] := hl
  have hP : va_P D vwCl [(hp, .inr (3, [.ref pk, .ref pc_, .int pn, .int ps])), (pk, .inl ((cs 0), 20, .inl gk)), (pc_, .inl ((cs 0), 20, .inl gk2))] H := hP
  refine lv_aload_n hx hb dX4_keep_0 rfl (lv_at hl 0 rfl) ?_
  refine va_get (D := D) (ci := 3) (v := .ref pk) (C := "WrongHole$Past") (T := TX4) (N := 4) hx hb hts (iq_RX4 _) hown hK hP 0 rfl rfl 0 (by decide) (hT _ qq_1_142) (fun _ h9 => h9) rfl dX4_keep_1 ?_
  refine lv_aload_n hx hb dX4_keep_4 rfl (lv_at hl 0 rfl) ?_
  refine va_get (D := D) (ci := 3) (v := .int pn) (C := "WrongHole$Past") (T := TX4) (N := 4) hx hb hts (iq_RX4 _) hown hK hP 0 rfl rfl 2 (by decide) (hT _ qq_1_144) (fun _ h9 => h9) rfl dX4_keep_5 ?_
  refine lv_iload_n hx hb dX4_keep_8 rfl (lv_at hl 1 rfl) ?_
  have hi_1 : vp_in pn 20 := Rg.in r_pn (by decide)
  refine va_iast hx hb hK hP hD hS 1 0 rfl rfl hi_1 dX4_keep_9 (fun H locs hP hD hS => ?_)
  obtain ⟨g_2, hP, hD⟩ : ∃ g_2 : Nat → Int32, va_P D vwCl [(hp, .inr (3, [.ref pk, .ref pc_, .int pn, .int ps])), (pk, .inl ((cs 0), 20, .inl g_2)), (pc_, .inl ((cs 0), 20, .inl gk2))] H ∧ va_D A [(hp, .inr (3, [.ref pk, .ref pc_, .int pn, .int ps])), (pk, .inl ((cs 0), 20, .inl g_2)), (pc_, .inl ((cs 0), 20, .inl gk2))] := ⟨_, hP, hD⟩
  refine lv_aload_n hx hb dX4_keep_10 rfl (lv_at hl 0 rfl) ?_
  refine va_get (D := D) (ci := 3) (v := .ref pc_) (C := "WrongHole$Past") (T := TX4) (N := 4) hx hb hts (iq_RX4 _) hown hK hP 0 rfl rfl 1 (by decide) (hT _ qq_1_143) (fun _ h9 => h9) rfl dX4_keep_11 ?_
  refine lv_aload_n hx hb dX4_keep_14 rfl (lv_at hl 0 rfl) ?_
  refine va_get (D := D) (ci := 3) (v := .int pn) (C := "WrongHole$Past") (T := TX4) (N := 4) hx hb hts (iq_RX4 _) hown hK hP 0 rfl rfl 2 (by decide) (hT _ qq_1_144) (fun _ h9 => h9) rfl dX4_keep_15 ?_
  refine lv_iload_n hx hb dX4_keep_18 rfl (lv_at hl 2 rfl) ?_
  have hi_3 : vp_in pn 20 := Rg.in r_pn (by decide)
  refine va_iast hx hb hK hP hD hS 2 0 rfl rfl hi_3 dX4_keep_19 (fun H locs hP hD hS => ?_)
  obtain ⟨g_4, hP, hD⟩ : ∃ g_4 : Nat → Int32, va_P D vwCl [(hp, .inr (3, [.ref pk, .ref pc_, .int pn, .int ps])), (pk, .inl ((cs 0), 20, .inl g_2)), (pc_, .inl ((cs 0), 20, .inl g_4))] H ∧ va_D A [(hp, .inr (3, [.ref pk, .ref pc_, .int pn, .int ps])), (pk, .inl ((cs 0), 20, .inl g_2)), (pc_, .inl ((cs 0), 20, .inl g_4))] := ⟨_, hP, hD⟩
  refine lv_aload_n hx hb dX4_keep_20 rfl (lv_at hl 0 rfl) ?_
  refine lv_aload_n hx hb dX4_keep_21 rfl (lv_at hl 0 rfl) ?_
  refine va_get (D := D) (ci := 3) (v := .int pn) (C := "WrongHole$Past") (T := TX4) (N := 4) hx hb hts (iq_RX4 _) hown hK hP 0 rfl rfl 2 (by decide) (hT _ qq_1_144) (fun _ h9 => h9) rfl dX4_keep_22 ?_
  refine lv_iconst (v := 1) hx hb dX4_keep_25 (by decide) ?_
  refine lv_iadd hx hb dX4_keep_26 ?_
  refine lv_topi (fun x_5 e_6 => ?_)
  have r_7 : Rg 1 20 x_5 := Rg.add e_6 r_pn (Rg.c (c := 1) (k := 1) rfl) (by decide)
  refine lv_bipush (v := 20) hx hb dX4_keep_27 (by decide) ?_
  refine lv_irem hx hb dX4_keep_29 (by decide) ?_
  refine lv_topi (fun x_8 e_9 => ?_)
  have r_10 : Rg 0 19 x_8 := Rg.rem e_9 (Rg.wk (lo2 := 0) (hi2 := 20) r_7 (by decide)) (Rg.c (c := 20) (k := 20) rfl) (by decide)
  refine va_put (D := D) (ci := 3) (v := .int x_8) (ty := .int) (C := "WrongHole$Past") (T := TX4) (N := 4) hx hb hts (iq_RX4 _) tyX4 tyX4_ok nmX4 hown hK hP hD hS 0 rfl rfl 2 (by decide) (hT _ qq_1_144) (fun _ h9 => h9) rfl (by decide +kernel) rfl rfl (Nat.le_of_ble_eq_true rfl) dX4_keep_30 (fun H locs hP hD hS => ?_)
  have hP : va_P D vwCl [(hp, .inr (3, [.ref pk, .ref pc_, .int x_8, .int ps])), (pk, .inl ((cs 0), 20, .inl g_2)), (pc_, .inl ((cs 0), 20, .inl g_4))] H := hP
  have hD : va_D A [(hp, .inr (3, [.ref pk, .ref pc_, .int x_8, .int ps])), (pk, .inl ((cs 0), 20, .inl g_2)), (pc_, .inl ((cs 0), 20, .inl g_4))] := hD
  refine lv_aload_n hx hb dX4_keep_33 rfl (lv_at hl 0 rfl) ?_
  refine lv_aload_n hx hb dX4_keep_34 rfl (lv_at hl 0 rfl) ?_
  refine va_get (D := D) (ci := 3) (v := .int ps) (C := "WrongHole$Past") (T := TX4) (N := 4) hx hb hts (iq_RX4 _) hown hK hP 0 rfl rfl 3 (by decide) (hT _ qq_1_145) (fun _ h9 => h9) rfl dX4_keep_35 ?_
  refine lv_iconst (v := 1) hx hb dX4_keep_38 (by decide) ?_
  refine lv_iadd hx hb dX4_keep_39 ?_
  refine lv_topi (fun x_11 e_12 => ?_)
  have r_13 : Rg 1 21 x_11 := Rg.add e_12 r_ps (Rg.c (c := 1) (k := 1) rfl) (by decide)
  refine lv_bipush (v := 20) hx hb dX4_keep_40 (by decide) ?_
  refine va_mmin hx hb (hml.trans hl.1.symm) hown (hT _ qq_4_19) (hT _ qq_3_137) (hT _ qq_1_19) (hT _ qq_3_138) (Nat.le_of_ble_eq_true rfl) (Nat.le_of_ble_eq_true rfl) (Nat.le_of_ble_eq_true rfl) (Nat.le_of_ble_eq_true rfl) dX4_keep_42 ?_
  refine lv_topi (fun x_14 e_15 => ?_)
  have r_16 : Rg 1 20 x_14 := Rg.mmin e_15 r_13 (Rg.c (c := 20) (k := 20) rfl) (by decide)
  refine va_put (D := D) (ci := 3) (v := .int x_14) (ty := .int) (C := "WrongHole$Past") (T := TX4) (N := 4) hx hb hts (iq_RX4 _) tyX4 tyX4_ok nmX4 hown hK hP hD hS 0 rfl rfl 3 (by decide) (hT _ qq_1_145) (fun _ h9 => h9) rfl (by decide +kernel) rfl rfl (Nat.le_of_ble_eq_true rfl) dX4_keep_45 (fun H locs hP hD hS => ?_)
  have hP : va_P D vwCl [(hp, .inr (3, [.ref pk, .ref pc_, .int x_8, .int x_14])), (pk, .inl ((cs 0), 20, .inl g_2)), (pc_, .inl ((cs 0), 20, .inl g_4))] H := hP
  have hD : va_D A [(hp, .inr (3, [.ref pk, .ref pc_, .int x_8, .int x_14])), (pk, .inl ((cs 0), 20, .inl g_2)), (pc_, .inl ((cs 0), 20, .inl g_4))] := hD
  refine W.widen (k := 0) (n := 0) (Nat.le_of_ble_eq_true rfl) (Nat.le_of_ble_eq_true rfl) ?_
  have hP9 := hP.sub (ws' := [(hp, .inr (3, [.ref pk, .ref pc_, .int x_8, .int x_14])), (pk, .inl ((cs 0), 20, .inl g_2)), (pc_, .inl ((cs 0), 20, .inl g_4))]) [0, 1, 2] rfl
  have hD9 := hD.sub (ws' := [(hp, .inr (3, [.ref pk, .ref pc_, .int x_8, .int x_14])), (pk, .inl ((cs 0), 20, .inl g_2)), (pc_, .inl ((cs 0), 20, .inl g_4))]) [0, 1, 2] (by decide) rfl
  exact W.vret hx hb hr (fun t9 ht9 hW9 => ⟨⟨(), rfl, trivial, ⟨x_8, x_14, g_2, g_4, r_10, (Rg.wk (lo2 := 0) (hi2 := 20) r_16 (by decide)), by rw [ht9]; exact hP9, hD9⟩⟩, hS.F ht9⟩) hS.2.2 dX4_keep_48
theorem dX4_lastKey_0 : decode cX4_lastKey 0 = .ok (.aload_n 0, 1) := by decide +kernel
theorem dX4_lastKey_1 : decode cX4_lastKey 1 = .ok (.getfield 9, 3) := by decide +kernel
theorem dX4_lastKey_4 : decode cX4_lastKey 4 = .ok (.aload_n 0, 1) := by decide +kernel
theorem dX4_lastKey_5 : decode cX4_lastKey 5 = .ok (.getfield 16, 3) := by decide +kernel
theorem dX4_lastKey_8 : decode cX4_lastKey 8 = .ok (.bipush 20, 2) := by decide +kernel
theorem dX4_lastKey_10 : decode cX4_lastKey 10 = .ok (.iadd, 1) := by decide +kernel
theorem dX4_lastKey_11 : decode cX4_lastKey 11 = .ok (.iconst 1, 1) := by decide +kernel
theorem dX4_lastKey_12 : decode cX4_lastKey 12 = .ok (.isub, 1) := by decide +kernel
theorem dX4_lastKey_13 : decode cX4_lastKey 13 = .ok (.bipush 20, 2) := by decide +kernel
theorem dX4_lastKey_15 : decode cX4_lastKey 15 = .ok (.irem, 1) := by decide +kernel
theorem dX4_lastKey_16 : decode cX4_lastKey 16 = .ok (.iaload, 1) := by decide +kernel
theorem dX4_lastKey_17 : decode cX4_lastKey 17 = .ok (.ireturn, 1) := by decide +kernel
set_option maxHeartbeats 4000000 in
set_option maxRecDepth 100000 in
theorem c_Past_lastKey (l : Launch) (D : va_G) (cs : Nat → ClassId) (hp : Nat) (pk : Nat) (pc_ : Nat) (pn : Int32) (ps : Int32) (gk : Nat → Int32) (gk2 : Nat → Int32) (r_pn : Rg 0 19 pn) (r_ps : Rg 0 20 ps) : Met l yX4_lastKey (Cond.code yX4_lastKey cX4_lastKey 1 (some .int) :: TB) (RM 0 0 0) (va_Pc [.ref hp] (PRR D cs [(hp, .inr (3, [.ref pk, .ref pc_, .int pn, .int ps])), (pk, .inl ((cs 0), 20, .inl gk)), (pc_, .inl ((cs 0), 20, .inl gk2))])) (QP (fun v => ∃ x : Int32, v = .int x)) 0 0 (fun _ => False) := by
  refine MER (y := yX4_lastKey) (cc := cX4_lastKey) (maxL := 1) (ret := (some .int)) (d := 0) (D := D) (cs := cs) (ws := [(hp, .inr (3, [.ref pk, .ref pc_, .int pn, .int ps])), (pk, .inl ((cs 0), 20, .inl gk)), (pc_, .inl ((cs 0), 20, .inl gk2))]) (av := [.ref hp]) (Qc := QP (fun v => ∃ x : Int32, v = .int x)) (by decide) (Nat.le_of_ble_eq_true rfl) ?_
  intro p e s m below meth c ls H hHe hx hb hr hml hown hts hlocks hP hK hN hl
  obtain ⟨locs, hlc⟩ : ∃ z : List Loc, z = [] := ⟨_, rfl⟩
  rw [← hlc]
  have hown : s.vm.findClass "WrongHole$Past" = some m.cls := hown
  have hT : ∀ w ∈ TB, w.before ([.ref hp] : List Value).toArray s = true := fun w h => hts w (List.mem_cons_of_mem _ h)
  have hl : lv_has ls 1 [(0, .ref hp)] := hl
  have hP : va_P D vwCl [(hp, .inr (3, [.ref pk, .ref pc_, .int pn, .int ps])), (pk, .inl ((cs 0), 20, .inl gk)), (pc_, .inl ((cs 0), 20, .inl gk2))] H := hP
  refine lv_aload_n hx hb dX4_lastKey_0 rfl (lv_at hl 0 rfl) ?_
  refine va_get (D := D) (ci := 3) (v := .ref pk) (C := "WrongHole$Past") (T := TX4) (N := 4) hx hb hts (iq_RX4 _) hown hK hP 0 rfl rfl 0 (by decide) (hT _ qq_1_142) (fun _ h9 => h9) rfl dX4_lastKey_1 ?_
  refine lv_aload_n hx hb dX4_lastKey_4 rfl (lv_at hl 0 rfl) ?_
  refine va_get (D := D) (ci := 3) (v := .int pn) (C := "WrongHole$Past") (T := TX4) (N := 4) hx hb hts (iq_RX4 _) hown hK hP 0 rfl rfl 2 (by decide) (hT _ qq_1_144) (fun _ h9 => h9) rfl dX4_lastKey_5 ?_
  refine lv_bipush (v := 20) hx hb dX4_lastKey_8 (by decide) ?_
  refine lv_iadd hx hb dX4_lastKey_10 ?_
  refine lv_topi (fun x_1 e_2 => ?_)
  have r_3 : Rg 20 39 x_1 := Rg.add e_2 r_pn (Rg.c (c := 20) (k := 20) rfl) (by decide)
  refine lv_iconst (v := 1) hx hb dX4_lastKey_11 (by decide) ?_
  refine lv_isub hx hb dX4_lastKey_12 ?_
  refine lv_topi (fun x_4 e_5 => ?_)
  have r_6 : Rg 19 38 x_4 := Rg.sub e_5 r_3 (Rg.c (c := 1) (k := 1) rfl) (by decide)
  refine lv_bipush (v := 20) hx hb dX4_lastKey_13 (by decide) ?_
  refine lv_irem hx hb dX4_lastKey_15 (by decide) ?_
  refine lv_topi (fun x_7 e_8 => ?_)
  have r_9 : Rg 0 19 x_7 := Rg.rem e_8 (Rg.wk (lo2 := 0) (hi2 := 38) r_6 (by decide)) (Rg.c (c := 20) (k := 20) rfl) (by decide)
  have hi_10 : vp_in x_7 20 := Rg.in r_9 (by decide)
  refine va_iald hx hb hK hP 1 0 rfl rfl hi_10 dX4_lastKey_16 ?_
  refine lv_topi (fun x_11 e_12 => ?_)
  exact W.iret (v := x_11) hx hb hr (fun t9 ht9 hW9 => ⟨⟨_, rfl, _, rfl⟩, ht9.trans hHe⟩) (fun _ h9 => by rw [hlc] at h9; exact absurd h9 List.not_mem_nil) dX4_lastKey_17
theorem dX4_lastClock_0 : decode cX4_lastClock 0 = .ok (.aload_n 0, 1) := by decide +kernel
theorem dX4_lastClock_1 : decode cX4_lastClock 1 = .ok (.getfield 13, 3) := by decide +kernel
theorem dX4_lastClock_4 : decode cX4_lastClock 4 = .ok (.aload_n 0, 1) := by decide +kernel
theorem dX4_lastClock_5 : decode cX4_lastClock 5 = .ok (.getfield 16, 3) := by decide +kernel
theorem dX4_lastClock_8 : decode cX4_lastClock 8 = .ok (.bipush 20, 2) := by decide +kernel
theorem dX4_lastClock_10 : decode cX4_lastClock 10 = .ok (.iadd, 1) := by decide +kernel
theorem dX4_lastClock_11 : decode cX4_lastClock 11 = .ok (.iconst 1, 1) := by decide +kernel
theorem dX4_lastClock_12 : decode cX4_lastClock 12 = .ok (.isub, 1) := by decide +kernel
theorem dX4_lastClock_13 : decode cX4_lastClock 13 = .ok (.bipush 20, 2) := by decide +kernel
theorem dX4_lastClock_15 : decode cX4_lastClock 15 = .ok (.irem, 1) := by decide +kernel
theorem dX4_lastClock_16 : decode cX4_lastClock 16 = .ok (.iaload, 1) := by decide +kernel
theorem dX4_lastClock_17 : decode cX4_lastClock 17 = .ok (.ireturn, 1) := by decide +kernel
set_option maxHeartbeats 4000000 in
set_option maxRecDepth 100000 in
theorem c_Past_lastClock (l : Launch) (D : va_G) (cs : Nat → ClassId) (hp : Nat) (pk : Nat) (pc_ : Nat) (pn : Int32) (ps : Int32) (gk : Nat → Int32) (gk2 : Nat → Int32) (r_pn : Rg 0 19 pn) (r_ps : Rg 0 20 ps) : Met l yX4_lastClock (Cond.code yX4_lastClock cX4_lastClock 1 (some .int) :: TB) (RM 0 0 0) (va_Pc [.ref hp] (PRR D cs [(hp, .inr (3, [.ref pk, .ref pc_, .int pn, .int ps])), (pk, .inl ((cs 0), 20, .inl gk)), (pc_, .inl ((cs 0), 20, .inl gk2))])) (QP (fun v => ∃ x : Int32, v = .int x)) 0 0 (fun _ => False) := by
  refine MER (y := yX4_lastClock) (cc := cX4_lastClock) (maxL := 1) (ret := (some .int)) (d := 0) (D := D) (cs := cs) (ws := [(hp, .inr (3, [.ref pk, .ref pc_, .int pn, .int ps])), (pk, .inl ((cs 0), 20, .inl gk)), (pc_, .inl ((cs 0), 20, .inl gk2))]) (av := [.ref hp]) (Qc := QP (fun v => ∃ x : Int32, v = .int x)) (by decide) (Nat.le_of_ble_eq_true rfl) ?_
  intro p e s m below meth c ls H hHe hx hb hr hml hown hts hlocks hP hK hN hl
  obtain ⟨locs, hlc⟩ : ∃ z : List Loc, z = [] := ⟨_, rfl⟩
  rw [← hlc]
  have hown : s.vm.findClass "WrongHole$Past" = some m.cls := hown
  have hT : ∀ w ∈ TB, w.before ([.ref hp] : List Value).toArray s = true := fun w h => hts w (List.mem_cons_of_mem _ h)
  have hl : lv_has ls 1 [(0, .ref hp)] := hl
  have hP : va_P D vwCl [(hp, .inr (3, [.ref pk, .ref pc_, .int pn, .int ps])), (pk, .inl ((cs 0), 20, .inl gk)), (pc_, .inl ((cs 0), 20, .inl gk2))] H := hP
  refine lv_aload_n hx hb dX4_lastClock_0 rfl (lv_at hl 0 rfl) ?_
  refine va_get (D := D) (ci := 3) (v := .ref pc_) (C := "WrongHole$Past") (T := TX4) (N := 4) hx hb hts (iq_RX4 _) hown hK hP 0 rfl rfl 1 (by decide) (hT _ qq_1_143) (fun _ h9 => h9) rfl dX4_lastClock_1 ?_
  refine lv_aload_n hx hb dX4_lastClock_4 rfl (lv_at hl 0 rfl) ?_
  refine va_get (D := D) (ci := 3) (v := .int pn) (C := "WrongHole$Past") (T := TX4) (N := 4) hx hb hts (iq_RX4 _) hown hK hP 0 rfl rfl 2 (by decide) (hT _ qq_1_144) (fun _ h9 => h9) rfl dX4_lastClock_5 ?_
  refine lv_bipush (v := 20) hx hb dX4_lastClock_8 (by decide) ?_
  refine lv_iadd hx hb dX4_lastClock_10 ?_
  refine lv_topi (fun x_1 e_2 => ?_)
  have r_3 : Rg 20 39 x_1 := Rg.add e_2 r_pn (Rg.c (c := 20) (k := 20) rfl) (by decide)
  refine lv_iconst (v := 1) hx hb dX4_lastClock_11 (by decide) ?_
  refine lv_isub hx hb dX4_lastClock_12 ?_
  refine lv_topi (fun x_4 e_5 => ?_)
  have r_6 : Rg 19 38 x_4 := Rg.sub e_5 r_3 (Rg.c (c := 1) (k := 1) rfl) (by decide)
  refine lv_bipush (v := 20) hx hb dX4_lastClock_13 (by decide) ?_
  refine lv_irem hx hb dX4_lastClock_15 (by decide) ?_
  refine lv_topi (fun x_7 e_8 => ?_)
  have r_9 : Rg 0 19 x_7 := Rg.rem e_8 (Rg.wk (lo2 := 0) (hi2 := 38) r_6 (by decide)) (Rg.c (c := 20) (k := 20) rfl) (by decide)
  have hi_10 : vp_in x_7 20 := Rg.in r_9 (by decide)
  refine va_iald hx hb hK hP 2 0 rfl rfl hi_10 dX4_lastClock_16 ?_
  refine lv_topi (fun x_11 e_12 => ?_)
  exact W.iret (v := x_11) hx hb hr (fun t9 ht9 hW9 => ⟨⟨_, rfl, _, rfl⟩, ht9.trans hHe⟩) (fun _ h9 => by rw [hlc] at h9; exact absurd h9 List.not_mem_nil) dX4_lastClock_17
theorem dX4_drop_0 : decode cX4_drop 0 = .ok (.aload_n 0, 1) := by decide +kernel
theorem dX4_drop_1 : decode cX4_drop 1 = .ok (.aload_n 0, 1) := by decide +kernel
theorem dX4_drop_2 : decode cX4_drop 2 = .ok (.getfield 16, 3) := by decide +kernel
theorem dX4_drop_5 : decode cX4_drop 5 = .ok (.bipush 20, 2) := by decide +kernel
theorem dX4_drop_7 : decode cX4_drop 7 = .ok (.iadd, 1) := by decide +kernel
theorem dX4_drop_8 : decode cX4_drop 8 = .ok (.iconst 1, 1) := by decide +kernel
theorem dX4_drop_9 : decode cX4_drop 9 = .ok (.isub, 1) := by decide +kernel
theorem dX4_drop_10 : decode cX4_drop 10 = .ok (.bipush 20, 2) := by decide +kernel
theorem dX4_drop_12 : decode cX4_drop 12 = .ok (.irem, 1) := by decide +kernel
theorem dX4_drop_13 : decode cX4_drop 13 = .ok (.putfield 16, 3) := by decide +kernel
theorem dX4_drop_16 : decode cX4_drop 16 = .ok (.aload_n 0, 1) := by decide +kernel
theorem dX4_drop_17 : decode cX4_drop 17 = .ok (.aload_n 0, 1) := by decide +kernel
theorem dX4_drop_18 : decode cX4_drop 18 = .ok (.getfield 20, 3) := by decide +kernel
theorem dX4_drop_21 : decode cX4_drop 21 = .ok (.iconst 1, 1) := by decide +kernel
theorem dX4_drop_22 : decode cX4_drop 22 = .ok (.isub, 1) := by decide +kernel
theorem dX4_drop_23 : decode cX4_drop 23 = .ok (.iconst 0, 1) := by decide +kernel
theorem dX4_drop_24 : decode cX4_drop 24 = .ok (.invokestatic 29, 3) := by decide +kernel
theorem qq_4_50 : Cond.methodLink "WrongHole$Past" 29 yJ9_max_7cf53 ∈ TB := mk_tb (ti_4 (List.mem_of_getElem? (i := 50) rfl)) rfl
theorem qq_4_51 : Cond.static yJ9_max_7cf53 ∈ TB := mk_tb (ti_4 (List.mem_of_getElem? (i := 51) rfl)) rfl
theorem qq_4_52 : Cond.code yJ9_max_7cf53 cJ9_max_7cf53 2 (some .int) ∈ TB := mk_tb (ti_4 (List.mem_of_getElem? (i := 52) rfl)) rfl
theorem dX4_drop_27 : decode cX4_drop 27 = .ok (.putfield 20, 3) := by decide +kernel
theorem dX4_drop_30 : decode cX4_drop 30 = .ok (.return_, 1) := by decide +kernel
set_option maxHeartbeats 4000000 in
set_option maxRecDepth 100000 in
theorem c_Past_drop (l : Launch) (D : va_G) (cs : Nat → ClassId) (X : XX) (sz : Nat) (hp : Nat) (pk : Nat) (pc_ : Nat) (pn : Int32) (ps : Int32) (gk : Nat → Int32) (gk2 : Nat → Int32) (r_pn : Rg 0 19 pn) (r_ps : Rg 0 20 ps) : Met l yX4_drop (Cond.code yX4_drop cX4_drop 1 none :: TB) (RM 1 0 0) (va_Pc [.ref hp] (PRE D cs X [(hp, .inr (3, [.ref pk, .ref pc_, .int pn, .int ps])), (pk, .inl ((cs 0), 20, .inl gk)), (pc_, .inl ((cs 0), 20, .inl gk2))] [] sz)) (va_Qv (S := Unit) (fun _ => True) (fun _ t => ∃ (pn2 : Int32), ∃ (ps2 : Int32), ∃ (gk3 : Nat → Int32), ∃ (gk4 : Nat → Int32), Rg 0 19 pn2 ∧ Rg 0 20 ps2 ∧ va_P D vwCl [(hp, .inr (3, [.ref pk, .ref pc_, .int pn2, .int ps2])), (pk, .inl ((cs 0), 20, .inl gk3)), (pc_, .inl ((cs 0), 20, .inl gk4))] t.heap ∧ va_D (va_A [(hp, .inr (3, [.ref pk, .ref pc_, .int pn, .int ps])), (pk, .inl ((cs 0), 20, .inl gk)), (pc_, .inl ((cs 0), 20, .inl gk2))] sz) [(hp, .inr (3, [.ref pk, .ref pc_, .int pn2, .int ps2])), (pk, .inl ((cs 0), 20, .inl gk3)), (pc_, .inl ((cs 0), 20, .inl gk4))]) (va_A [(hp, .inr (3, [.ref pk, .ref pc_, .int pn, .int ps])), (pk, .inl ((cs 0), 20, .inl gk)), (pc_, .inl ((cs 0), 20, .inl gk2))] sz)) 0 0 (va_A [(hp, .inr (3, [.ref pk, .ref pc_, .int pn, .int ps])), (pk, .inl ((cs 0), 20, .inl gk)), (pc_, .inl ((cs 0), 20, .inl gk2))] sz) := by
  refine MET (y := yX4_drop) (cc := cX4_drop) (maxL := 1) (ret := none) (d := 1) (mc := 0) (ms := 0) (D := D) (cs := cs) (X := X) (ws := [(hp, .inr (3, [.ref pk, .ref pc_, .int pn, .int ps])), (pk, .inl ((cs 0), 20, .inl gk)), (pc_, .inl ((cs 0), 20, .inl gk2))]) (wo := []) (sz := sz) (av := [.ref hp]) (Qc := fun A => va_Qv (S := Unit) (fun _ => True) (fun _ t => ∃ (pn2 : Int32), ∃ (ps2 : Int32), ∃ (gk3 : Nat → Int32), ∃ (gk4 : Nat → Int32), Rg 0 19 pn2 ∧ Rg 0 20 ps2 ∧ va_P D vwCl [(hp, .inr (3, [.ref pk, .ref pc_, .int pn2, .int ps2])), (pk, .inl ((cs 0), 20, .inl gk3)), (pc_, .inl ((cs 0), 20, .inl gk4))] t.heap ∧ va_D A [(hp, .inr (3, [.ref pk, .ref pc_, .int pn2, .int ps2])), (pk, .inl ((cs 0), 20, .inl gk3)), (pc_, .inl ((cs 0), 20, .inl gk4))]) A) (by decide) (Nat.le_of_ble_eq_true rfl) ?_
  intro p e s m below meth c ls A H hHe hx hb hr hml hown hts hlocks hnm hP hK hD hA hS hN hR hX hXs hl
  have hD : va_D A [(hp, .inr (3, [.ref pk, .ref pc_, .int pn, .int ps])), (pk, .inl ((cs 0), 20, .inl gk)), (pc_, .inl ((cs 0), 20, .inl gk2))] := hD
  obtain ⟨locs, hlc⟩ : ∃ z : List Loc, z = [] := ⟨_, rfl⟩
  rw [← hlc] at hS ⊢
  have hown : s.vm.findClass "WrongHole$Past" = some m.cls := hown
  have hT : ∀ w ∈ TB, w.before ([.ref hp] : List Value).toArray s = true := fun w h => hts w (List.mem_cons_of_mem _ h)
  have hl : lv_has ls 1 [(0, .ref hp)] := hl
  have hP : va_P D vwCl [(hp, .inr (3, [.ref pk, .ref pc_, .int pn, .int ps])), (pk, .inl ((cs 0), 20, .inl gk)), (pc_, .inl ((cs 0), 20, .inl gk2))] H := hP
  refine lv_aload_n hx hb dX4_drop_0 rfl (lv_at hl 0 rfl) ?_
  refine lv_aload_n hx hb dX4_drop_1 rfl (lv_at hl 0 rfl) ?_
  refine va_get (D := D) (ci := 3) (v := .int pn) (C := "WrongHole$Past") (T := TX4) (N := 4) hx hb hts (iq_RX4 _) hown hK hP 0 rfl rfl 2 (by decide) (hT _ qq_1_144) (fun _ h9 => h9) rfl dX4_drop_2 ?_
  refine lv_bipush (v := 20) hx hb dX4_drop_5 (by decide) ?_
  refine lv_iadd hx hb dX4_drop_7 ?_
  refine lv_topi (fun x_1 e_2 => ?_)
  have r_3 : Rg 20 39 x_1 := Rg.add e_2 r_pn (Rg.c (c := 20) (k := 20) rfl) (by decide)
  refine lv_iconst (v := 1) hx hb dX4_drop_8 (by decide) ?_
  refine lv_isub hx hb dX4_drop_9 ?_
  refine lv_topi (fun x_4 e_5 => ?_)
  have r_6 : Rg 19 38 x_4 := Rg.sub e_5 r_3 (Rg.c (c := 1) (k := 1) rfl) (by decide)
  refine lv_bipush (v := 20) hx hb dX4_drop_10 (by decide) ?_
  refine lv_irem hx hb dX4_drop_12 (by decide) ?_
  refine lv_topi (fun x_7 e_8 => ?_)
  have r_9 : Rg 0 19 x_7 := Rg.rem e_8 (Rg.wk (lo2 := 0) (hi2 := 38) r_6 (by decide)) (Rg.c (c := 20) (k := 20) rfl) (by decide)
  refine va_put (D := D) (ci := 3) (v := .int x_7) (ty := .int) (C := "WrongHole$Past") (T := TX4) (N := 4) hx hb hts (iq_RX4 _) tyX4 tyX4_ok nmX4 hown hK hP hD hS 0 rfl rfl 2 (by decide) (hT _ qq_1_144) (fun _ h9 => h9) rfl (by decide +kernel) rfl rfl (Nat.le_of_ble_eq_true rfl) dX4_drop_13 (fun H locs hP hD hS => ?_)
  have hP : va_P D vwCl [(hp, .inr (3, [.ref pk, .ref pc_, .int x_7, .int ps])), (pk, .inl ((cs 0), 20, .inl gk)), (pc_, .inl ((cs 0), 20, .inl gk2))] H := hP
  have hD : va_D A [(hp, .inr (3, [.ref pk, .ref pc_, .int x_7, .int ps])), (pk, .inl ((cs 0), 20, .inl gk)), (pc_, .inl ((cs 0), 20, .inl gk2))] := hD
  refine lv_aload_n hx hb dX4_drop_16 rfl (lv_at hl 0 rfl) ?_
  refine lv_aload_n hx hb dX4_drop_17 rfl (lv_at hl 0 rfl) ?_
  refine va_get (D := D) (ci := 3) (v := .int ps) (C := "WrongHole$Past") (T := TX4) (N := 4) hx hb hts (iq_RX4 _) hown hK hP 0 rfl rfl 3 (by decide) (hT _ qq_1_145) (fun _ h9 => h9) rfl dX4_drop_18 ?_
  refine lv_iconst (v := 1) hx hb dX4_drop_21 (by decide) ?_
  refine lv_isub hx hb dX4_drop_22 ?_
  refine lv_topi (fun x_10 e_11 => ?_)
  have r_12 : Rg (-1) 19 x_10 := Rg.sub e_11 r_ps (Rg.c (c := 1) (k := 1) rfl) (by decide)
  refine lv_iconst (v := 0) hx hb dX4_drop_23 (by decide) ?_
  refine va_mmax hx hb (hml.trans hl.1.symm) hown (hT _ qq_4_50) (hT _ qq_4_51) (hT _ qq_1_19) (hT _ qq_4_52) (Nat.le_of_ble_eq_true rfl) (Nat.le_of_ble_eq_true rfl) (Nat.le_of_ble_eq_true rfl) (Nat.le_of_ble_eq_true rfl) dX4_drop_24 ?_
  refine lv_topi (fun x_13 e_14 => ?_)
  have r_15 : Rg 0 19 x_13 := Rg.mmax e_14 r_12 (Rg.c (c := 0) (k := 0) rfl) (by decide)
  refine va_put (D := D) (ci := 3) (v := .int x_13) (ty := .int) (C := "WrongHole$Past") (T := TX4) (N := 4) hx hb hts (iq_RX4 _) tyX4 tyX4_ok nmX4 hown hK hP hD hS 0 rfl rfl 3 (by decide) (hT _ qq_1_145) (fun _ h9 => h9) rfl (by decide +kernel) rfl rfl (Nat.le_of_ble_eq_true rfl) dX4_drop_27 (fun H locs hP hD hS => ?_)
  have hP : va_P D vwCl [(hp, .inr (3, [.ref pk, .ref pc_, .int x_7, .int x_13])), (pk, .inl ((cs 0), 20, .inl gk)), (pc_, .inl ((cs 0), 20, .inl gk2))] H := hP
  have hD : va_D A [(hp, .inr (3, [.ref pk, .ref pc_, .int x_7, .int x_13])), (pk, .inl ((cs 0), 20, .inl gk)), (pc_, .inl ((cs 0), 20, .inl gk2))] := hD
  refine W.widen (k := 0) (n := 0) (Nat.le_of_ble_eq_true rfl) (Nat.le_of_ble_eq_true rfl) ?_
  have hP9 := hP.sub (ws' := [(hp, .inr (3, [.ref pk, .ref pc_, .int x_7, .int x_13])), (pk, .inl ((cs 0), 20, .inl gk)), (pc_, .inl ((cs 0), 20, .inl gk2))]) [0, 1, 2] rfl
  have hD9 := hD.sub (ws' := [(hp, .inr (3, [.ref pk, .ref pc_, .int x_7, .int x_13])), (pk, .inl ((cs 0), 20, .inl gk)), (pc_, .inl ((cs 0), 20, .inl gk2))]) [0, 1, 2] (by decide) rfl
  exact W.vret hx hb hr (fun t9 ht9 hW9 => ⟨⟨(), rfl, trivial, ⟨x_7, x_13, gk, gk2, r_9, (Rg.wk (lo2 := 0) (hi2 := 20) r_15 (by decide)), by rw [ht9]; exact hP9, hD9⟩⟩, hS.F ht9⟩) hS.2.2 dX4_drop_30
theorem dX4_forget_0 : decode cX4_forget 0 = .ok (.aload_n 0, 1) := by decide +kernel
theorem dX4_forget_1 : decode cX4_forget 1 = .ok (.iconst 0, 1) := by decide +kernel
theorem dX4_forget_2 : decode cX4_forget 2 = .ok (.putfield 16, 3) := by decide +kernel
theorem dX4_forget_5 : decode cX4_forget 5 = .ok (.aload_n 0, 1) := by decide +kernel
theorem dX4_forget_6 : decode cX4_forget 6 = .ok (.iconst 0, 1) := by decide +kernel
theorem dX4_forget_7 : decode cX4_forget 7 = .ok (.putfield 20, 3) := by decide +kernel
theorem dX4_forget_10 : decode cX4_forget 10 = .ok (.return_, 1) := by decide +kernel
set_option maxHeartbeats 4000000 in
set_option maxRecDepth 100000 in
theorem c_Past_forget (l : Launch) (D : va_G) (cs : Nat → ClassId) (X : XX) (sz : Nat) (hp : Nat) (pk : Nat) (pc_ : Nat) (pn : Int32) (ps : Int32) (gk : Nat → Int32) (gk2 : Nat → Int32)  : Met l yX4_forget (Cond.code yX4_forget cX4_forget 1 none :: TB) (RM 0 0 0) (va_Pc [.ref hp] (PRE D cs X [(hp, .inr (3, [.ref pk, .ref pc_, .int pn, .int ps])), (pk, .inl ((cs 0), 20, .inl gk)), (pc_, .inl ((cs 0), 20, .inl gk2))] [] sz)) (va_Qv (S := Unit) (fun _ => True) (fun _ t => ∃ (pn2 : Int32), ∃ (ps2 : Int32), ∃ (gk3 : Nat → Int32), ∃ (gk4 : Nat → Int32), Rg 0 19 pn2 ∧ Rg 0 20 ps2 ∧ va_P D vwCl [(hp, .inr (3, [.ref pk, .ref pc_, .int pn2, .int ps2])), (pk, .inl ((cs 0), 20, .inl gk3)), (pc_, .inl ((cs 0), 20, .inl gk4))] t.heap ∧ va_D (va_A [(hp, .inr (3, [.ref pk, .ref pc_, .int pn, .int ps])), (pk, .inl ((cs 0), 20, .inl gk)), (pc_, .inl ((cs 0), 20, .inl gk2))] sz) [(hp, .inr (3, [.ref pk, .ref pc_, .int pn2, .int ps2])), (pk, .inl ((cs 0), 20, .inl gk3)), (pc_, .inl ((cs 0), 20, .inl gk4))]) (va_A [(hp, .inr (3, [.ref pk, .ref pc_, .int pn, .int ps])), (pk, .inl ((cs 0), 20, .inl gk)), (pc_, .inl ((cs 0), 20, .inl gk2))] sz)) 0 0 (va_A [(hp, .inr (3, [.ref pk, .ref pc_, .int pn, .int ps])), (pk, .inl ((cs 0), 20, .inl gk)), (pc_, .inl ((cs 0), 20, .inl gk2))] sz) := by
  refine MET (y := yX4_forget) (cc := cX4_forget) (maxL := 1) (ret := none) (d := 0) (mc := 0) (ms := 0) (D := D) (cs := cs) (X := X) (ws := [(hp, .inr (3, [.ref pk, .ref pc_, .int pn, .int ps])), (pk, .inl ((cs 0), 20, .inl gk)), (pc_, .inl ((cs 0), 20, .inl gk2))]) (wo := []) (sz := sz) (av := [.ref hp]) (Qc := fun A => va_Qv (S := Unit) (fun _ => True) (fun _ t => ∃ (pn2 : Int32), ∃ (ps2 : Int32), ∃ (gk3 : Nat → Int32), ∃ (gk4 : Nat → Int32), Rg 0 19 pn2 ∧ Rg 0 20 ps2 ∧ va_P D vwCl [(hp, .inr (3, [.ref pk, .ref pc_, .int pn2, .int ps2])), (pk, .inl ((cs 0), 20, .inl gk3)), (pc_, .inl ((cs 0), 20, .inl gk4))] t.heap ∧ va_D A [(hp, .inr (3, [.ref pk, .ref pc_, .int pn2, .int ps2])), (pk, .inl ((cs 0), 20, .inl gk3)), (pc_, .inl ((cs 0), 20, .inl gk4))]) A) (by decide) (Nat.le_of_ble_eq_true rfl) ?_
  intro p e s m below meth c ls A H hHe hx hb hr hml hown hts hlocks hnm hP hK hD hA hS hN hR hX hXs hl
  have hD : va_D A [(hp, .inr (3, [.ref pk, .ref pc_, .int pn, .int ps])), (pk, .inl ((cs 0), 20, .inl gk)), (pc_, .inl ((cs 0), 20, .inl gk2))] := hD
  obtain ⟨locs, hlc⟩ : ∃ z : List Loc, z = [] := ⟨_, rfl⟩
  rw [← hlc] at hS ⊢
  have hown : s.vm.findClass "WrongHole$Past" = some m.cls := hown
  have hT : ∀ w ∈ TB, w.before ([.ref hp] : List Value).toArray s = true := fun w h => hts w (List.mem_cons_of_mem _ h)
  have hl : lv_has ls 1 [(0, .ref hp)] := hl
  have hP : va_P D vwCl [(hp, .inr (3, [.ref pk, .ref pc_, .int pn, .int ps])), (pk, .inl ((cs 0), 20, .inl gk)), (pc_, .inl ((cs 0), 20, .inl gk2))] H := hP
  refine lv_aload_n hx hb dX4_forget_0 rfl (lv_at hl 0 rfl) ?_
  refine lv_iconst (v := 0) hx hb dX4_forget_1 (by decide) ?_
  refine va_put (D := D) (ci := 3) (v := .int 0) (ty := .int) (C := "WrongHole$Past") (T := TX4) (N := 4) hx hb hts (iq_RX4 _) tyX4 tyX4_ok nmX4 hown hK hP hD hS 0 rfl rfl 2 (by decide) (hT _ qq_1_144) (fun _ h9 => h9) rfl (by decide +kernel) rfl rfl (Nat.le_of_ble_eq_true rfl) dX4_forget_2 (fun H locs hP hD hS => ?_)
  have hP : va_P D vwCl [(hp, .inr (3, [.ref pk, .ref pc_, .int 0, .int ps])), (pk, .inl ((cs 0), 20, .inl gk)), (pc_, .inl ((cs 0), 20, .inl gk2))] H := hP
  have hD : va_D A [(hp, .inr (3, [.ref pk, .ref pc_, .int 0, .int ps])), (pk, .inl ((cs 0), 20, .inl gk)), (pc_, .inl ((cs 0), 20, .inl gk2))] := hD
  refine lv_aload_n hx hb dX4_forget_5 rfl (lv_at hl 0 rfl) ?_
  refine lv_iconst (v := 0) hx hb dX4_forget_6 (by decide) ?_
  refine va_put (D := D) (ci := 3) (v := .int 0) (ty := .int) (C := "WrongHole$Past") (T := TX4) (N := 4) hx hb hts (iq_RX4 _) tyX4 tyX4_ok nmX4 hown hK hP hD hS 0 rfl rfl 3 (by decide) (hT _ qq_1_145) (fun _ h9 => h9) rfl (by decide +kernel) rfl rfl (Nat.le_of_ble_eq_true rfl) dX4_forget_7 (fun H locs hP hD hS => ?_)
  have hP : va_P D vwCl [(hp, .inr (3, [.ref pk, .ref pc_, .int 0, .int 0])), (pk, .inl ((cs 0), 20, .inl gk)), (pc_, .inl ((cs 0), 20, .inl gk2))] H := hP
  have hD : va_D A [(hp, .inr (3, [.ref pk, .ref pc_, .int 0, .int 0])), (pk, .inl ((cs 0), 20, .inl gk)), (pc_, .inl ((cs 0), 20, .inl gk2))] := hD
  refine W.widen (k := 0) (n := 0) (Nat.le_of_ble_eq_true rfl) (Nat.le_of_ble_eq_true rfl) ?_
  have hP9 := hP.sub (ws' := [(hp, .inr (3, [.ref pk, .ref pc_, .int 0, .int 0])), (pk, .inl ((cs 0), 20, .inl gk)), (pc_, .inl ((cs 0), 20, .inl gk2))]) [0, 1, 2] rfl
  have hD9 := hD.sub (ws' := [(hp, .inr (3, [.ref pk, .ref pc_, .int 0, .int 0])), (pk, .inl ((cs 0), 20, .inl gk)), (pc_, .inl ((cs 0), 20, .inl gk2))]) [0, 1, 2] (by decide) rfl
  exact W.vret hx hb hr (fun t9 ht9 hW9 => ⟨⟨(), rfl, trivial, ⟨0, 0, gk, gk2, (Rg.wk (lo2 := 0) (hi2 := 19) (Rg.c (c := 0) (k := 0) rfl) (by decide)), (Rg.wk (lo2 := 0) (hi2 := 20) (Rg.c (c := 0) (k := 0) rfl) (by decide)), by rw [ht9]; exact hP9, hD9⟩⟩, hS.F ht9⟩) hS.2.2 dX4_forget_10
