theorem dX9_hasRoom_0 : decode cX9_hasRoom 0 = .ok (.aload_n 0, 1) := by decide +kernel
theorem dX9_hasRoom_1 : decode cX9_hasRoom 1 = .ok (.getfield 15, 3) := by decide +kernel
theorem qq_1_37 : Cond.fieldLink "WrongHole$Text" 15 "WrongHole$Text" "length" "I" ∈ TB := mk_tb (ti_1 (List.mem_of_getElem? (i := 37) rfl)) rfl
theorem iq_RX9 (cd : Cond) : ∀ w ∈ u_ws RX9 TX9 8, w ∈ cd :: TB := by
  intro w hw
  obtain ⟨k, hk, rfl⟩ := List.mem_map.mp hw
  have hk := List.mem_range.mp hk
  refine List.mem_cons_of_mem _ ?_
  match k, hk with
  | 0, _ => exact mk_tb (ti_1 (List.mem_of_getElem? (i := 49) rfl)) rfl
  | 1, _ => exact mk_tb (ti_1 (List.mem_of_getElem? (i := 51) rfl)) rfl
  | 2, _ => exact mk_tb (ti_1 (List.mem_of_getElem? (i := 53) rfl)) rfl
  | 3, _ => exact mk_tb (ti_1 (List.mem_of_getElem? (i := 55) rfl)) rfl
  | 4, _ => exact mk_tb (ti_1 (List.mem_of_getElem? (i := 57) rfl)) rfl
  | 5, _ => exact mk_tb (ti_1 (List.mem_of_getElem? (i := 59) rfl)) rfl
  | 6, _ => exact mk_tb (ti_1 (List.mem_of_getElem? (i := 61) rfl)) rfl
  | 7, _ => exact mk_tb (ti_1 (List.mem_of_getElem? (i := 63) rfl)) rfl
  | n + 8, h => exact absurd h (by omega)
theorem dX9_hasRoom_4 : decode cX9_hasRoom 4 = .ok (.iload_n 1, 1) := by decide +kernel
theorem dX9_hasRoom_5 : decode cX9_hasRoom 5 = .ok (.iadd, 1) := by decide +kernel
theorem dX9_hasRoom_6 : decode cX9_hasRoom 6 = .ok (.sipush 400, 3) := by decide +kernel
theorem dX9_hasRoom_9 : decode cX9_hasRoom 9 = .ok (.if_icmp .gt 7, 3) := by decide +kernel
theorem dX9_hasRoom_12 : decode cX9_hasRoom 12 = .ok (.iconst 1, 1) := by decide +kernel
theorem dX9_hasRoom_13 : decode cX9_hasRoom 13 = .ok (.goto 4, 3) := by decide +kernel
theorem dX9_hasRoom_17 : decode cX9_hasRoom 17 = .ok (.ireturn, 1) := by decide +kernel
set_option maxHeartbeats 4000000 in
set_option maxRecDepth 100000 in
theorem c_hasRoom (l : Launch) (D : va_G) (ad : Nat → Nat) (sz : Nat) (ht : Nat) (hs : Nat)  : Met l yX9_hasRoom (Cond.code yX9_hasRoom cX9_hasRoom 2 (some .boolean) :: TB) (RM 0 0 0) (va_Pc [.ref ht, .int 20] (PRE D ad [(ht, .inr (7, [.ref hs, .int 0, .int 0, .int 0, .int 0, .int 0, .int 0, .int 0]))] [] sz)) (k2_QcV (.int 1)) 0 0 (fun _ => False) := by
  refine MET (y := yX9_hasRoom) (cc := cX9_hasRoom) (maxL := 2) (ret := (some .boolean)) (d := 0) (mc := 0) (ms := 0) (D := D) (ad := ad) (ws := [(ht, .inr (7, [.ref hs, .int 0, .int 0, .int 0, .int 0, .int 0, .int 0, .int 0]))]) (tys := []) (sz := sz) (av := [.ref ht, .int 20]) (Qc := fun A => k2_QcV (.int 1)) (fr := fun A => (fun _ => False)) (by decide) (Nat.le_of_ble_eq_true rfl) ?_
  intro p e s m below meth c ls A H hHe hx hb hr hml hown hts hlocks hnm hP hK hD hA hS hN hl
  have hown : s.vm.findClass "WrongHole$Text" = some m.cls := hown
  have hT : ∀ w ∈ TB, w.before ([.ref ht, .int 20] : List Value).toArray s = true := fun w h => hts w (List.mem_cons_of_mem _ h)
  have hl : lv_has ls 2 [(0, .ref ht), (1, .int 20)] := hl
  have hP : va_P D vwCl [(ht, .inr (7, [.ref hs, .int 0, .int 0, .int 0, .int 0, .int 0, .int 0, .int 0]))] H := hP
  refine lv_aload_n hx hb dX9_hasRoom_0 rfl (lv_at hl 0 rfl) ?_
  refine va_get (D := D) (ci := 7) (v := .int 0) (C := "WrongHole$Text") (T := TX9) (N := 8) hx hb hts (iq_RX9 _) hown hK hP 0 rfl rfl 1 (by decide) (hT _ qq_1_37) (fun _ h9 => h9) rfl dX9_hasRoom_1 ?_
  refine lv_iload_n hx hb dX9_hasRoom_4 rfl (lv_at hl 1 rfl) ?_
  refine lv_iadd hx hb dX9_hasRoom_5 ?_
  refine tc_i 20 (by decide) ?_
  refine lv_sipush (v := 400) hx hb dX9_hasRoom_6 (by decide) ?_
  refine lv_icmp_gt (tgt := 16) hx hb dX9_hasRoom_9 (by decide) (fun c_1 => absurd c_1 (by decide)) (fun _ => ?_)
  refine lv_iconst (v := 1) hx hb dX9_hasRoom_12 (by decide) ?_
  refine lv_goto (tgt := 17) hx hb dX9_hasRoom_13 (by decide) ?_
  exact W.zret (v := 1) (ty := .boolean) hx hb hr rfl (fun t9 ht9 hW9 => ⟨rfl, ht9.trans hHe⟩) (fun _ h9 => absurd h9 List.not_mem_nil) dX9_hasRoom_17
theorem dX9_append_0 : decode cX9_append 0 = .ok (.bipush 24, 2) := by decide +kernel
theorem dX9_append_2 : decode cX9_append 2 = .ok (.istore_n 2, 1) := by decide +kernel
theorem dX9_append_3 : decode cX9_append 3 = .ok (.iload_n 2, 1) := by decide +kernel
theorem dX9_append_4 : decode cX9_append 4 = .ok (.ifCond .lt 46, 3) := by decide +kernel
theorem dX9_append_7 : decode cX9_append 7 = .ok (.aload_n 0, 1) := by decide +kernel
theorem dX9_append_8 : decode cX9_append 8 = .ok (.getfield 15, 3) := by decide +kernel
theorem dX9_append_11 : decode cX9_append 11 = .ok (.sipush 400, 3) := by decide +kernel
theorem dX9_append_14 : decode cX9_append 14 = .ok (.if_icmp .ge 30, 3) := by decide +kernel
theorem dX9_append_17 : decode cX9_append 17 = .ok (.aload_n 0, 1) := by decide +kernel
theorem dX9_append_18 : decode cX9_append 18 = .ok (.getfield 11, 3) := by decide +kernel
theorem qq_1_36 : Cond.fieldLink "WrongHole$Text" 11 "WrongHole$Text" "signs" "[C" ∈ TB := mk_tb (ti_1 (List.mem_of_getElem? (i := 36) rfl)) rfl
theorem dX9_append_21 : decode cX9_append 21 = .ok (.aload_n 0, 1) := by decide +kernel
theorem dX9_append_22 : decode cX9_append 22 = .ok (.getfield 15, 3) := by decide +kernel
theorem dX9_append_25 : decode cX9_append 25 = .ok (.iload_n 1, 1) := by decide +kernel
theorem dX9_append_26 : decode cX9_append 26 = .ok (.iload_n 2, 1) := by decide +kernel
theorem dX9_append_27 : decode cX9_append 27 = .ok (.ishr, 1) := by decide +kernel
theorem dX9_append_28 : decode cX9_append 28 = .ok (.sipush 255, 3) := by decide +kernel
theorem dX9_append_31 : decode cX9_append 31 = .ok (.iand, 1) := by decide +kernel
theorem dX9_append_32 : decode cX9_append 32 = .ok (.i2c, 1) := by decide +kernel
theorem dX9_append_33 : decode cX9_append 33 = .ok (.castore, 1) := by decide +kernel
theorem dX9_append_34 : decode cX9_append 34 = .ok (.aload_n 0, 1) := by decide +kernel
theorem dX9_append_35 : decode cX9_append 35 = .ok (.dup, 1) := by decide +kernel
theorem dX9_append_36 : decode cX9_append 36 = .ok (.getfield 15, 3) := by decide +kernel
theorem dX9_append_39 : decode cX9_append 39 = .ok (.iconst 1, 1) := by decide +kernel
theorem dX9_append_40 : decode cX9_append 40 = .ok (.iadd, 1) := by decide +kernel
theorem dX9_append_41 : decode cX9_append 41 = .ok (.putfield 15, 3) := by decide +kernel
theorem dX9_append_44 : decode cX9_append 44 = .ok (.iinc 2 (-8), 3) := by decide +kernel
theorem dX9_append_47 : decode cX9_append 47 = .ok (.goto (-44), 3) := by decide +kernel
theorem dX9_append_50 : decode cX9_append 50 = .ok (.return_, 1) := by decide +kernel
set_option maxHeartbeats 4000000 in
set_option maxRecDepth 100000 in
theorem c_append_0 (l : Launch) (D : va_G) (ad : Nat → Nat) (sz : Nat) (ht : Nat) (hs : Nat) (cS : ClassId) (f : Nat → Int32) (v : Int32)  : Met l yX9_append (Cond.code yX9_append cX9_append 3 none :: TB) (RM 0 0 0) (va_Pc [.ref ht, .int v] (PRE D ad [(ht, .inr (7, [.ref hs, .int 0, .int 0, .int 0, .int 0, .int 0, .int 0, .int 0])), (hs, .inl (cS, 400, .inl f))] [(cS, .char)] sz)) (va_Qv (S := Unit) (fun _ => True) (fun _ t => ∃ (g : Nat → Int32), va_P D vwCl [(ht, .inr (7, [.ref hs, .int 4, .int 0, .int 0, .int 0, .int 0, .int 0, .int 0])), (hs, .inl (cS, 400, .inl g))] t.heap ∧ va_K D vwCl [(cS, .char)] t ∧ va_D (va_A [(ht, .inr (7, [.ref hs, .int 0, .int 0, .int 0, .int 0, .int 0, .int 0, .int 0])), (hs, .inl (cS, 400, .inl f))] sz) [(ht, .inr (7, [.ref hs, .int 4, .int 0, .int 0, .int 0, .int 0, .int 0, .int 0])), (hs, .inl (cS, 400, .inl g))]) (va_A [(ht, .inr (7, [.ref hs, .int 0, .int 0, .int 0, .int 0, .int 0, .int 0, .int 0])), (hs, .inl (cS, 400, .inl f))] sz)) 0 0 (va_A [(ht, .inr (7, [.ref hs, .int 0, .int 0, .int 0, .int 0, .int 0, .int 0, .int 0])), (hs, .inl (cS, 400, .inl f))] sz) := by
  refine MET (y := yX9_append) (cc := cX9_append) (maxL := 3) (ret := none) (d := 0) (mc := 0) (ms := 0) (D := D) (ad := ad) (ws := [(ht, .inr (7, [.ref hs, .int 0, .int 0, .int 0, .int 0, .int 0, .int 0, .int 0])), (hs, .inl (cS, 400, .inl f))]) (tys := [(cS, .char)]) (sz := sz) (av := [.ref ht, .int v]) (Qc := fun A => va_Qv (S := Unit) (fun _ => True) (fun _ t => ∃ (g : Nat → Int32), va_P D vwCl [(ht, .inr (7, [.ref hs, .int 4, .int 0, .int 0, .int 0, .int 0, .int 0, .int 0])), (hs, .inl (cS, 400, .inl g))] t.heap ∧ va_K D vwCl [(cS, .char)] t ∧ va_D A [(ht, .inr (7, [.ref hs, .int 4, .int 0, .int 0, .int 0, .int 0, .int 0, .int 0])), (hs, .inl (cS, 400, .inl g))]) A) (fr := fun A => A) (by decide) (Nat.le_of_ble_eq_true rfl) ?_
  intro p e s m below meth c ls A H hHe hx hb hr hml hown hts hlocks hnm hP hK hD hA hS hN hl
  have hown : s.vm.findClass "WrongHole$Text" = some m.cls := hown
  have hT : ∀ w ∈ TB, w.before ([.ref ht, .int v] : List Value).toArray s = true := fun w h => hts w (List.mem_cons_of_mem _ h)
  have hl : lv_has ls 3 [(0, .ref ht), (1, .int v)] := hl
  have hP : va_P D vwCl [(ht, .inr (7, [.ref hs, .int 0, .int 0, .int 0, .int 0, .int 0, .int 0, .int 0])), (hs, .inl (cS, 400, .inl f))] H := hP
  refine lv_bipush (v := 24) hx hb dX9_append_0 (by decide) ?_
  refine lv_istore_n (lv' := [(2, .int 24), (0, .ref ht), (1, .int v)]) hx hb dX9_append_2 rfl hl (by decide) rfl (fun ls hl => ?_)
  refine lv_iload_n hx hb dX9_append_3 rfl (lv_at hl 0 rfl) ?_
  refine lv_if_lt (tgt := 50) hx hb dX9_append_4 (by decide) (fun c_1 => absurd c_1 (by decide)) (fun _ => ?_)
  refine lv_aload_n hx hb dX9_append_7 rfl (lv_at hl 1 rfl) ?_
  refine va_get (D := D) (ci := 7) (v := .int 0) (C := "WrongHole$Text") (T := TX9) (N := 8) hx hb hts (iq_RX9 _) hown hK hP 0 rfl rfl 1 (by decide) (hT _ qq_1_37) (fun _ h9 => h9) rfl dX9_append_8 ?_
  refine lv_sipush (v := 400) hx hb dX9_append_11 (by decide) ?_
  refine lv_icmp_ge (tgt := 44) hx hb dX9_append_14 (by decide) (fun c_2 => absurd c_2 (by decide)) (fun _ => ?_)
  refine lv_aload_n hx hb dX9_append_17 rfl (lv_at hl 1 rfl) ?_
  refine va_get (D := D) (ci := 7) (v := .ref hs) (C := "WrongHole$Text") (T := TX9) (N := 8) hx hb hts (iq_RX9 _) hown hK hP 0 rfl rfl 0 (by decide) (hT _ qq_1_36) (fun _ h9 => h9) rfl dX9_append_18 ?_
  refine lv_aload_n hx hb dX9_append_21 rfl (lv_at hl 1 rfl) ?_
  refine va_get (D := D) (ci := 7) (v := .int 0) (C := "WrongHole$Text") (T := TX9) (N := 8) hx hb hts (iq_RX9 _) hown hK hP 0 rfl rfl 1 (by decide) (hT _ qq_1_37) (fun _ h9 => h9) rfl dX9_append_22 ?_
  refine lv_iload_n hx hb dX9_append_25 rfl (lv_at hl 2 rfl) ?_
  refine lv_iload_n hx hb dX9_append_26 rfl (lv_at hl 0 rfl) ?_
  refine lv_ishr hx hb dX9_append_27 ?_
  refine lv_topi (fun x_3 e_4 => ?_)
  refine lv_sipush (v := 255) hx hb dX9_append_28 (by decide) ?_
  refine lv_iand hx hb dX9_append_31 ?_
  refine lv_topi (fun x_5 e_6 => ?_)
  obtain ⟨x_7, e_8⟩ : ∃ z : Int32, (Int32.toUInt32 x_5 % 65536).toInt32 = z := ⟨_, rfl⟩
  refine lv_i2c (v := x_7) hx hb dX9_append_32 e_8 ?_
  refine va_cast hx hb hK hP hD hS 1 0 rfl rfl (vi_c rfl) dX9_append_33 (fun H locs hP hD hS => ?_)
  have hP : va_P D vwCl [(ht, .inr (7, [.ref hs, .int 0, .int 0, .int 0, .int 0, .int 0, .int 0, .int 0])), (hs, .inl (cS, 400, .inl (upd f 0 (vp_nar .char x_7))))] H := hP
  have hD : va_D A [(ht, .inr (7, [.ref hs, .int 0, .int 0, .int 0, .int 0, .int 0, .int 0, .int 0])), (hs, .inl (cS, 400, .inl (upd f 0 (vp_nar .char x_7))))] := hD
  generalize upd f 0 (vp_nar .char x_7) = g_9 at hP hD
  refine lv_aload_n hx hb dX9_append_34 rfl (lv_at hl 1 rfl) ?_
  refine lv_dup hx hb dX9_append_35 rfl ?_
  refine va_get (D := D) (ci := 7) (v := .int 0) (C := "WrongHole$Text") (T := TX9) (N := 8) hx hb hts (iq_RX9 _) hown hK hP 0 rfl rfl 1 (by decide) (hT _ qq_1_37) (fun _ h9 => h9) rfl dX9_append_36 ?_
  refine lv_iconst (v := 1) hx hb dX9_append_39 (by decide) ?_
  refine lv_iadd hx hb dX9_append_40 ?_
  refine tc_i 1 (by decide) ?_
  refine va_put (D := D) (ci := 7) (v := .int 1) (ty := .int) (C := "WrongHole$Text") (T := TX9) (N := 8) hx hb hts (iq_RX9 _) tyX9 tyX9_ok nmX9 hown hK hP hD hS 0 rfl rfl 1 (by decide) (hT _ qq_1_37) (fun _ h9 => h9) rfl (by decide +kernel) rfl rfl (Nat.le_of_ble_eq_true rfl) dX9_append_41 (fun H locs hP hD hS => ?_)
  have hP : va_P D vwCl [(ht, .inr (7, [.ref hs, .int 1, .int 0, .int 0, .int 0, .int 0, .int 0, .int 0])), (hs, .inl (cS, 400, .inl g_9))] H := hP
  have hD : va_D A [(ht, .inr (7, [.ref hs, .int 1, .int 0, .int 0, .int 0, .int 0, .int 0, .int 0])), (hs, .inl (cS, 400, .inl g_9))] := hD
  refine lv_iinc (v := 16) (lv' := [(2, .int 16), (0, .ref ht), (1, .int v)]) hx hb dX9_append_44 hl (k := 0) rfl (by decide) (by decide) rfl (fun ls hl => ?_)
  refine lv_goto (tgt := 3) hx hb dX9_append_47 (by decide) ?_
  refine lv_iload_n hx hb dX9_append_3 rfl (lv_at hl 0 rfl) ?_
  refine lv_if_lt (tgt := 50) hx hb dX9_append_4 (by decide) (fun c_11 => absurd c_11 (by decide)) (fun _ => ?_)
  refine lv_aload_n hx hb dX9_append_7 rfl (lv_at hl 1 rfl) ?_
  refine va_get (D := D) (ci := 7) (v := .int 1) (C := "WrongHole$Text") (T := TX9) (N := 8) hx hb hts (iq_RX9 _) hown hK hP 0 rfl rfl 1 (by decide) (hT _ qq_1_37) (fun _ h9 => h9) rfl dX9_append_8 ?_
  refine lv_sipush (v := 400) hx hb dX9_append_11 (by decide) ?_
  refine lv_icmp_ge (tgt := 44) hx hb dX9_append_14 (by decide) (fun c_12 => absurd c_12 (by decide)) (fun _ => ?_)
  refine lv_aload_n hx hb dX9_append_17 rfl (lv_at hl 1 rfl) ?_
  refine va_get (D := D) (ci := 7) (v := .ref hs) (C := "WrongHole$Text") (T := TX9) (N := 8) hx hb hts (iq_RX9 _) hown hK hP 0 rfl rfl 0 (by decide) (hT _ qq_1_36) (fun _ h9 => h9) rfl dX9_append_18 ?_
  refine lv_aload_n hx hb dX9_append_21 rfl (lv_at hl 1 rfl) ?_
  refine va_get (D := D) (ci := 7) (v := .int 1) (C := "WrongHole$Text") (T := TX9) (N := 8) hx hb hts (iq_RX9 _) hown hK hP 0 rfl rfl 1 (by decide) (hT _ qq_1_37) (fun _ h9 => h9) rfl dX9_append_22 ?_
  refine lv_iload_n hx hb dX9_append_25 rfl (lv_at hl 2 rfl) ?_
  refine lv_iload_n hx hb dX9_append_26 rfl (lv_at hl 0 rfl) ?_
  refine lv_ishr hx hb dX9_append_27 ?_
  refine lv_topi (fun x_13 e_14 => ?_)
  refine lv_sipush (v := 255) hx hb dX9_append_28 (by decide) ?_
  refine lv_iand hx hb dX9_append_31 ?_
  refine lv_topi (fun x_15 e_16 => ?_)
  obtain ⟨x_17, e_18⟩ : ∃ z : Int32, (Int32.toUInt32 x_15 % 65536).toInt32 = z := ⟨_, rfl⟩
  refine lv_i2c (v := x_17) hx hb dX9_append_32 e_18 ?_
  refine va_cast hx hb hK hP hD hS 1 0 rfl rfl (vi_c rfl) dX9_append_33 (fun H locs hP hD hS => ?_)
  have hP : va_P D vwCl [(ht, .inr (7, [.ref hs, .int 1, .int 0, .int 0, .int 0, .int 0, .int 0, .int 0])), (hs, .inl (cS, 400, .inl (upd g_9 1 (vp_nar .char x_17))))] H := hP
  have hD : va_D A [(ht, .inr (7, [.ref hs, .int 1, .int 0, .int 0, .int 0, .int 0, .int 0, .int 0])), (hs, .inl (cS, 400, .inl (upd g_9 1 (vp_nar .char x_17))))] := hD
  generalize upd g_9 1 (vp_nar .char x_17) = g_19 at hP hD
  refine lv_aload_n hx hb dX9_append_34 rfl (lv_at hl 1 rfl) ?_
  refine lv_dup hx hb dX9_append_35 rfl ?_
  refine va_get (D := D) (ci := 7) (v := .int 1) (C := "WrongHole$Text") (T := TX9) (N := 8) hx hb hts (iq_RX9 _) hown hK hP 0 rfl rfl 1 (by decide) (hT _ qq_1_37) (fun _ h9 => h9) rfl dX9_append_36 ?_
  refine lv_iconst (v := 1) hx hb dX9_append_39 (by decide) ?_
  refine lv_iadd hx hb dX9_append_40 ?_
  refine tc_i 2 (by decide) ?_
  refine va_put (D := D) (ci := 7) (v := .int 2) (ty := .int) (C := "WrongHole$Text") (T := TX9) (N := 8) hx hb hts (iq_RX9 _) tyX9 tyX9_ok nmX9 hown hK hP hD hS 0 rfl rfl 1 (by decide) (hT _ qq_1_37) (fun _ h9 => h9) rfl (by decide +kernel) rfl rfl (Nat.le_of_ble_eq_true rfl) dX9_append_41 (fun H locs hP hD hS => ?_)
  have hP : va_P D vwCl [(ht, .inr (7, [.ref hs, .int 2, .int 0, .int 0, .int 0, .int 0, .int 0, .int 0])), (hs, .inl (cS, 400, .inl g_19))] H := hP
  have hD : va_D A [(ht, .inr (7, [.ref hs, .int 2, .int 0, .int 0, .int 0, .int 0, .int 0, .int 0])), (hs, .inl (cS, 400, .inl g_19))] := hD
  refine lv_iinc (v := 8) (lv' := [(2, .int 8), (0, .ref ht), (1, .int v)]) hx hb dX9_append_44 hl (k := 0) rfl (by decide) (by decide) rfl (fun ls hl => ?_)
  refine lv_goto (tgt := 3) hx hb dX9_append_47 (by decide) ?_
  refine lv_iload_n hx hb dX9_append_3 rfl (lv_at hl 0 rfl) ?_
  refine lv_if_lt (tgt := 50) hx hb dX9_append_4 (by decide) (fun c_21 => absurd c_21 (by decide)) (fun _ => ?_)
  refine lv_aload_n hx hb dX9_append_7 rfl (lv_at hl 1 rfl) ?_
  refine va_get (D := D) (ci := 7) (v := .int 2) (C := "WrongHole$Text") (T := TX9) (N := 8) hx hb hts (iq_RX9 _) hown hK hP 0 rfl rfl 1 (by decide) (hT _ qq_1_37) (fun _ h9 => h9) rfl dX9_append_8 ?_
  refine lv_sipush (v := 400) hx hb dX9_append_11 (by decide) ?_
  refine lv_icmp_ge (tgt := 44) hx hb dX9_append_14 (by decide) (fun c_22 => absurd c_22 (by decide)) (fun _ => ?_)
  refine lv_aload_n hx hb dX9_append_17 rfl (lv_at hl 1 rfl) ?_
  refine va_get (D := D) (ci := 7) (v := .ref hs) (C := "WrongHole$Text") (T := TX9) (N := 8) hx hb hts (iq_RX9 _) hown hK hP 0 rfl rfl 0 (by decide) (hT _ qq_1_36) (fun _ h9 => h9) rfl dX9_append_18 ?_
  refine lv_aload_n hx hb dX9_append_21 rfl (lv_at hl 1 rfl) ?_
  refine va_get (D := D) (ci := 7) (v := .int 2) (C := "WrongHole$Text") (T := TX9) (N := 8) hx hb hts (iq_RX9 _) hown hK hP 0 rfl rfl 1 (by decide) (hT _ qq_1_37) (fun _ h9 => h9) rfl dX9_append_22 ?_
  refine lv_iload_n hx hb dX9_append_25 rfl (lv_at hl 2 rfl) ?_
  refine lv_iload_n hx hb dX9_append_26 rfl (lv_at hl 0 rfl) ?_
  refine lv_ishr hx hb dX9_append_27 ?_
  refine lv_topi (fun x_23 e_24 => ?_)
  refine lv_sipush (v := 255) hx hb dX9_append_28 (by decide) ?_
  refine lv_iand hx hb dX9_append_31 ?_
  refine lv_topi (fun x_25 e_26 => ?_)
  obtain ⟨x_27, e_28⟩ : ∃ z : Int32, (Int32.toUInt32 x_25 % 65536).toInt32 = z := ⟨_, rfl⟩
  refine lv_i2c (v := x_27) hx hb dX9_append_32 e_28 ?_
  refine va_cast hx hb hK hP hD hS 1 0 rfl rfl (vi_c rfl) dX9_append_33 (fun H locs hP hD hS => ?_)
  have hP : va_P D vwCl [(ht, .inr (7, [.ref hs, .int 2, .int 0, .int 0, .int 0, .int 0, .int 0, .int 0])), (hs, .inl (cS, 400, .inl (upd g_19 2 (vp_nar .char x_27))))] H := hP
  have hD : va_D A [(ht, .inr (7, [.ref hs, .int 2, .int 0, .int 0, .int 0, .int 0, .int 0, .int 0])), (hs, .inl (cS, 400, .inl (upd g_19 2 (vp_nar .char x_27))))] := hD
  generalize upd g_19 2 (vp_nar .char x_27) = g_29 at hP hD
  refine lv_aload_n hx hb dX9_append_34 rfl (lv_at hl 1 rfl) ?_
  refine lv_dup hx hb dX9_append_35 rfl ?_
  refine va_get (D := D) (ci := 7) (v := .int 2) (C := "WrongHole$Text") (T := TX9) (N := 8) hx hb hts (iq_RX9 _) hown hK hP 0 rfl rfl 1 (by decide) (hT _ qq_1_37) (fun _ h9 => h9) rfl dX9_append_36 ?_
  refine lv_iconst (v := 1) hx hb dX9_append_39 (by decide) ?_
  refine lv_iadd hx hb dX9_append_40 ?_
  refine tc_i 3 (by decide) ?_
  refine va_put (D := D) (ci := 7) (v := .int 3) (ty := .int) (C := "WrongHole$Text") (T := TX9) (N := 8) hx hb hts (iq_RX9 _) tyX9 tyX9_ok nmX9 hown hK hP hD hS 0 rfl rfl 1 (by decide) (hT _ qq_1_37) (fun _ h9 => h9) rfl (by decide +kernel) rfl rfl (Nat.le_of_ble_eq_true rfl) dX9_append_41 (fun H locs hP hD hS => ?_)
  have hP : va_P D vwCl [(ht, .inr (7, [.ref hs, .int 3, .int 0, .int 0, .int 0, .int 0, .int 0, .int 0])), (hs, .inl (cS, 400, .inl g_29))] H := hP
  have hD : va_D A [(ht, .inr (7, [.ref hs, .int 3, .int 0, .int 0, .int 0, .int 0, .int 0, .int 0])), (hs, .inl (cS, 400, .inl g_29))] := hD
  refine lv_iinc (v := 0) (lv' := [(2, .int 0), (0, .ref ht), (1, .int v)]) hx hb dX9_append_44 hl (k := 0) rfl (by decide) (by decide) rfl (fun ls hl => ?_)
  refine lv_goto (tgt := 3) hx hb dX9_append_47 (by decide) ?_
  refine lv_iload_n hx hb dX9_append_3 rfl (lv_at hl 0 rfl) ?_
  refine lv_if_lt (tgt := 50) hx hb dX9_append_4 (by decide) (fun c_31 => absurd c_31 (by decide)) (fun _ => ?_)
  refine lv_aload_n hx hb dX9_append_7 rfl (lv_at hl 1 rfl) ?_
  refine va_get (D := D) (ci := 7) (v := .int 3) (C := "WrongHole$Text") (T := TX9) (N := 8) hx hb hts (iq_RX9 _) hown hK hP 0 rfl rfl 1 (by decide) (hT _ qq_1_37) (fun _ h9 => h9) rfl dX9_append_8 ?_
  refine lv_sipush (v := 400) hx hb dX9_append_11 (by decide) ?_
  refine lv_icmp_ge (tgt := 44) hx hb dX9_append_14 (by decide) (fun c_32 => absurd c_32 (by decide)) (fun _ => ?_)
  refine lv_aload_n hx hb dX9_append_17 rfl (lv_at hl 1 rfl) ?_
  refine va_get (D := D) (ci := 7) (v := .ref hs) (C := "WrongHole$Text") (T := TX9) (N := 8) hx hb hts (iq_RX9 _) hown hK hP 0 rfl rfl 0 (by decide) (hT _ qq_1_36) (fun _ h9 => h9) rfl dX9_append_18 ?_
  refine lv_aload_n hx hb dX9_append_21 rfl (lv_at hl 1 rfl) ?_
  refine va_get (D := D) (ci := 7) (v := .int 3) (C := "WrongHole$Text") (T := TX9) (N := 8) hx hb hts (iq_RX9 _) hown hK hP 0 rfl rfl 1 (by decide) (hT _ qq_1_37) (fun _ h9 => h9) rfl dX9_append_22 ?_
  refine lv_iload_n hx hb dX9_append_25 rfl (lv_at hl 2 rfl) ?_
  refine lv_iload_n hx hb dX9_append_26 rfl (lv_at hl 0 rfl) ?_
  refine lv_ishr hx hb dX9_append_27 ?_
  refine lv_topi (fun x_33 e_34 => ?_)
  refine lv_sipush (v := 255) hx hb dX9_append_28 (by decide) ?_
  refine lv_iand hx hb dX9_append_31 ?_
  refine lv_topi (fun x_35 e_36 => ?_)
  obtain ⟨x_37, e_38⟩ : ∃ z : Int32, (Int32.toUInt32 x_35 % 65536).toInt32 = z := ⟨_, rfl⟩
  refine lv_i2c (v := x_37) hx hb dX9_append_32 e_38 ?_
  refine va_cast hx hb hK hP hD hS 1 0 rfl rfl (vi_c rfl) dX9_append_33 (fun H locs hP hD hS => ?_)
  have hP : va_P D vwCl [(ht, .inr (7, [.ref hs, .int 3, .int 0, .int 0, .int 0, .int 0, .int 0, .int 0])), (hs, .inl (cS, 400, .inl (upd g_29 3 (vp_nar .char x_37))))] H := hP
  have hD : va_D A [(ht, .inr (7, [.ref hs, .int 3, .int 0, .int 0, .int 0, .int 0, .int 0, .int 0])), (hs, .inl (cS, 400, .inl (upd g_29 3 (vp_nar .char x_37))))] := hD
  generalize upd g_29 3 (vp_nar .char x_37) = g_39 at hP hD
  refine lv_aload_n hx hb dX9_append_34 rfl (lv_at hl 1 rfl) ?_
  refine lv_dup hx hb dX9_append_35 rfl ?_
  refine va_get (D := D) (ci := 7) (v := .int 3) (C := "WrongHole$Text") (T := TX9) (N := 8) hx hb hts (iq_RX9 _) hown hK hP 0 rfl rfl 1 (by decide) (hT _ qq_1_37) (fun _ h9 => h9) rfl dX9_append_36 ?_
  refine lv_iconst (v := 1) hx hb dX9_append_39 (by decide) ?_
  refine lv_iadd hx hb dX9_append_40 ?_
  refine tc_i 4 (by decide) ?_
  refine va_put (D := D) (ci := 7) (v := .int 4) (ty := .int) (C := "WrongHole$Text") (T := TX9) (N := 8) hx hb hts (iq_RX9 _) tyX9 tyX9_ok nmX9 hown hK hP hD hS 0 rfl rfl 1 (by decide) (hT _ qq_1_37) (fun _ h9 => h9) rfl (by decide +kernel) rfl rfl (Nat.le_of_ble_eq_true rfl) dX9_append_41 (fun H locs hP hD hS => ?_)
  have hP : va_P D vwCl [(ht, .inr (7, [.ref hs, .int 4, .int 0, .int 0, .int 0, .int 0, .int 0, .int 0])), (hs, .inl (cS, 400, .inl g_39))] H := hP
  have hD : va_D A [(ht, .inr (7, [.ref hs, .int 4, .int 0, .int 0, .int 0, .int 0, .int 0, .int 0])), (hs, .inl (cS, 400, .inl g_39))] := hD
  refine lv_iinc (v := (-8)) (lv' := [(2, .int (-8)), (0, .ref ht), (1, .int v)]) hx hb dX9_append_44 hl (k := 0) rfl (by decide) (by decide) rfl (fun ls hl => ?_)
  refine lv_goto (tgt := 3) hx hb dX9_append_47 (by decide) ?_
  refine lv_iload_n hx hb dX9_append_3 rfl (lv_at hl 0 rfl) ?_
  refine lv_if_lt (tgt := 50) hx hb dX9_append_4 (by decide) (fun _ => ?_) (fun c_41 => absurd (by decide) c_41)
  refine W.widen (k := 0) (n := 0) (Nat.le_of_ble_eq_true rfl) (Nat.le_of_ble_eq_true rfl) ?_
  have hP9 := hP.sub (ws' := [(ht, .inr (7, [.ref hs, .int 4, .int 0, .int 0, .int 0, .int 0, .int 0, .int 0])), (hs, .inl (cS, 400, .inl g_39))]) [0, 1] rfl
  have hD9 := hD.sub (ws' := [(ht, .inr (7, [.ref hs, .int 4, .int 0, .int 0, .int 0, .int 0, .int 0, .int 0])), (hs, .inl (cS, 400, .inl g_39))]) [0, 1] (by decide) rfl
  have hK9 := hK.sub (tys' := [(cS, .char)]) [0] rfl
  exact W.vret hx hb hr (fun t9 ht9 hW9 => ⟨⟨(), rfl, trivial, ⟨g_39, by rw [ht9]; exact hP9, va_K.moved hW9.alike hK9, hD9⟩⟩, hS.F ht9⟩) hS.2.2 dX9_append_50
set_option maxHeartbeats 4000000 in
set_option maxRecDepth 100000 in
theorem c_append_4 (l : Launch) (D : va_G) (ad : Nat → Nat) (sz : Nat) (ht : Nat) (hs : Nat) (cS : ClassId) (f : Nat → Int32) (v : Int32)  : Met l yX9_append (Cond.code yX9_append cX9_append 3 none :: TB) (RM 0 0 0) (va_Pc [.ref ht, .int v] (PRE D ad [(ht, .inr (7, [.ref hs, .int 4, .int 0, .int 0, .int 0, .int 0, .int 0, .int 0])), (hs, .inl (cS, 400, .inl f))] [(cS, .char)] sz)) (va_Qv (S := Unit) (fun _ => True) (fun _ t => ∃ (g : Nat → Int32), va_P D vwCl [(ht, .inr (7, [.ref hs, .int 8, .int 0, .int 0, .int 0, .int 0, .int 0, .int 0])), (hs, .inl (cS, 400, .inl g))] t.heap ∧ va_K D vwCl [(cS, .char)] t ∧ va_D (va_A [(ht, .inr (7, [.ref hs, .int 4, .int 0, .int 0, .int 0, .int 0, .int 0, .int 0])), (hs, .inl (cS, 400, .inl f))] sz) [(ht, .inr (7, [.ref hs, .int 8, .int 0, .int 0, .int 0, .int 0, .int 0, .int 0])), (hs, .inl (cS, 400, .inl g))]) (va_A [(ht, .inr (7, [.ref hs, .int 4, .int 0, .int 0, .int 0, .int 0, .int 0, .int 0])), (hs, .inl (cS, 400, .inl f))] sz)) 0 0 (va_A [(ht, .inr (7, [.ref hs, .int 4, .int 0, .int 0, .int 0, .int 0, .int 0, .int 0])), (hs, .inl (cS, 400, .inl f))] sz) := by
  refine MET (y := yX9_append) (cc := cX9_append) (maxL := 3) (ret := none) (d := 0) (mc := 0) (ms := 0) (D := D) (ad := ad) (ws := [(ht, .inr (7, [.ref hs, .int 4, .int 0, .int 0, .int 0, .int 0, .int 0, .int 0])), (hs, .inl (cS, 400, .inl f))]) (tys := [(cS, .char)]) (sz := sz) (av := [.ref ht, .int v]) (Qc := fun A => va_Qv (S := Unit) (fun _ => True) (fun _ t => ∃ (g : Nat → Int32), va_P D vwCl [(ht, .inr (7, [.ref hs, .int 8, .int 0, .int 0, .int 0, .int 0, .int 0, .int 0])), (hs, .inl (cS, 400, .inl g))] t.heap ∧ va_K D vwCl [(cS, .char)] t ∧ va_D A [(ht, .inr (7, [.ref hs, .int 8, .int 0, .int 0, .int 0, .int 0, .int 0, .int 0])), (hs, .inl (cS, 400, .inl g))]) A) (fr := fun A => A) (by decide) (Nat.le_of_ble_eq_true rfl) ?_
  intro p e s m below meth c ls A H hHe hx hb hr hml hown hts hlocks hnm hP hK hD hA hS hN hl
  have hown : s.vm.findClass "WrongHole$Text" = some m.cls := hown
  have hT : ∀ w ∈ TB, w.before ([.ref ht, .int v] : List Value).toArray s = true := fun w h => hts w (List.mem_cons_of_mem _ h)
  have hl : lv_has ls 3 [(0, .ref ht), (1, .int v)] := hl
  have hP : va_P D vwCl [(ht, .inr (7, [.ref hs, .int 4, .int 0, .int 0, .int 0, .int 0, .int 0, .int 0])), (hs, .inl (cS, 400, .inl f))] H := hP
  refine lv_bipush (v := 24) hx hb dX9_append_0 (by decide) ?_
  refine lv_istore_n (lv' := [(2, .int 24), (0, .ref ht), (1, .int v)]) hx hb dX9_append_2 rfl hl (by decide) rfl (fun ls hl => ?_)
  refine lv_iload_n hx hb dX9_append_3 rfl (lv_at hl 0 rfl) ?_
  refine lv_if_lt (tgt := 50) hx hb dX9_append_4 (by decide) (fun c_1 => absurd c_1 (by decide)) (fun _ => ?_)
  refine lv_aload_n hx hb dX9_append_7 rfl (lv_at hl 1 rfl) ?_
  refine va_get (D := D) (ci := 7) (v := .int 4) (C := "WrongHole$Text") (T := TX9) (N := 8) hx hb hts (iq_RX9 _) hown hK hP 0 rfl rfl 1 (by decide) (hT _ qq_1_37) (fun _ h9 => h9) rfl dX9_append_8 ?_
  refine lv_sipush (v := 400) hx hb dX9_append_11 (by decide) ?_
  refine lv_icmp_ge (tgt := 44) hx hb dX9_append_14 (by decide) (fun c_2 => absurd c_2 (by decide)) (fun _ => ?_)
  refine lv_aload_n hx hb dX9_append_17 rfl (lv_at hl 1 rfl) ?_
  refine va_get (D := D) (ci := 7) (v := .ref hs) (C := "WrongHole$Text") (T := TX9) (N := 8) hx hb hts (iq_RX9 _) hown hK hP 0 rfl rfl 0 (by decide) (hT _ qq_1_36) (fun _ h9 => h9) rfl dX9_append_18 ?_
  refine lv_aload_n hx hb dX9_append_21 rfl (lv_at hl 1 rfl) ?_
  refine va_get (D := D) (ci := 7) (v := .int 4) (C := "WrongHole$Text") (T := TX9) (N := 8) hx hb hts (iq_RX9 _) hown hK hP 0 rfl rfl 1 (by decide) (hT _ qq_1_37) (fun _ h9 => h9) rfl dX9_append_22 ?_
  refine lv_iload_n hx hb dX9_append_25 rfl (lv_at hl 2 rfl) ?_
  refine lv_iload_n hx hb dX9_append_26 rfl (lv_at hl 0 rfl) ?_
  refine lv_ishr hx hb dX9_append_27 ?_
  refine lv_topi (fun x_3 e_4 => ?_)
  refine lv_sipush (v := 255) hx hb dX9_append_28 (by decide) ?_
  refine lv_iand hx hb dX9_append_31 ?_
  refine lv_topi (fun x_5 e_6 => ?_)
  obtain ⟨x_7, e_8⟩ : ∃ z : Int32, (Int32.toUInt32 x_5 % 65536).toInt32 = z := ⟨_, rfl⟩
  refine lv_i2c (v := x_7) hx hb dX9_append_32 e_8 ?_
  refine va_cast hx hb hK hP hD hS 1 0 rfl rfl (vi_c rfl) dX9_append_33 (fun H locs hP hD hS => ?_)
  have hP : va_P D vwCl [(ht, .inr (7, [.ref hs, .int 4, .int 0, .int 0, .int 0, .int 0, .int 0, .int 0])), (hs, .inl (cS, 400, .inl (upd f 4 (vp_nar .char x_7))))] H := hP
  have hD : va_D A [(ht, .inr (7, [.ref hs, .int 4, .int 0, .int 0, .int 0, .int 0, .int 0, .int 0])), (hs, .inl (cS, 400, .inl (upd f 4 (vp_nar .char x_7))))] := hD
  generalize upd f 4 (vp_nar .char x_7) = g_9 at hP hD
  refine lv_aload_n hx hb dX9_append_34 rfl (lv_at hl 1 rfl) ?_
  refine lv_dup hx hb dX9_append_35 rfl ?_
  refine va_get (D := D) (ci := 7) (v := .int 4) (C := "WrongHole$Text") (T := TX9) (N := 8) hx hb hts (iq_RX9 _) hown hK hP 0 rfl rfl 1 (by decide) (hT _ qq_1_37) (fun _ h9 => h9) rfl dX9_append_36 ?_
  refine lv_iconst (v := 1) hx hb dX9_append_39 (by decide) ?_
  refine lv_iadd hx hb dX9_append_40 ?_
  refine tc_i 5 (by decide) ?_
  refine va_put (D := D) (ci := 7) (v := .int 5) (ty := .int) (C := "WrongHole$Text") (T := TX9) (N := 8) hx hb hts (iq_RX9 _) tyX9 tyX9_ok nmX9 hown hK hP hD hS 0 rfl rfl 1 (by decide) (hT _ qq_1_37) (fun _ h9 => h9) rfl (by decide +kernel) rfl rfl (Nat.le_of_ble_eq_true rfl) dX9_append_41 (fun H locs hP hD hS => ?_)
  have hP : va_P D vwCl [(ht, .inr (7, [.ref hs, .int 5, .int 0, .int 0, .int 0, .int 0, .int 0, .int 0])), (hs, .inl (cS, 400, .inl g_9))] H := hP
  have hD : va_D A [(ht, .inr (7, [.ref hs, .int 5, .int 0, .int 0, .int 0, .int 0, .int 0, .int 0])), (hs, .inl (cS, 400, .inl g_9))] := hD
  refine lv_iinc (v := 16) (lv' := [(2, .int 16), (0, .ref ht), (1, .int v)]) hx hb dX9_append_44 hl (k := 0) rfl (by decide) (by decide) rfl (fun ls hl => ?_)
  refine lv_goto (tgt := 3) hx hb dX9_append_47 (by decide) ?_
  refine lv_iload_n hx hb dX9_append_3 rfl (lv_at hl 0 rfl) ?_
  refine lv_if_lt (tgt := 50) hx hb dX9_append_4 (by decide) (fun c_11 => absurd c_11 (by decide)) (fun _ => ?_)
  refine lv_aload_n hx hb dX9_append_7 rfl (lv_at hl 1 rfl) ?_
  refine va_get (D := D) (ci := 7) (v := .int 5) (C := "WrongHole$Text") (T := TX9) (N := 8) hx hb hts (iq_RX9 _) hown hK hP 0 rfl rfl 1 (by decide) (hT _ qq_1_37) (fun _ h9 => h9) rfl dX9_append_8 ?_
  refine lv_sipush (v := 400) hx hb dX9_append_11 (by decide) ?_
  refine lv_icmp_ge (tgt := 44) hx hb dX9_append_14 (by decide) (fun c_12 => absurd c_12 (by decide)) (fun _ => ?_)
  refine lv_aload_n hx hb dX9_append_17 rfl (lv_at hl 1 rfl) ?_
  refine va_get (D := D) (ci := 7) (v := .ref hs) (C := "WrongHole$Text") (T := TX9) (N := 8) hx hb hts (iq_RX9 _) hown hK hP 0 rfl rfl 0 (by decide) (hT _ qq_1_36) (fun _ h9 => h9) rfl dX9_append_18 ?_
  refine lv_aload_n hx hb dX9_append_21 rfl (lv_at hl 1 rfl) ?_
  refine va_get (D := D) (ci := 7) (v := .int 5) (C := "WrongHole$Text") (T := TX9) (N := 8) hx hb hts (iq_RX9 _) hown hK hP 0 rfl rfl 1 (by decide) (hT _ qq_1_37) (fun _ h9 => h9) rfl dX9_append_22 ?_
  refine lv_iload_n hx hb dX9_append_25 rfl (lv_at hl 2 rfl) ?_
  refine lv_iload_n hx hb dX9_append_26 rfl (lv_at hl 0 rfl) ?_
  refine lv_ishr hx hb dX9_append_27 ?_
  refine lv_topi (fun x_13 e_14 => ?_)
  refine lv_sipush (v := 255) hx hb dX9_append_28 (by decide) ?_
  refine lv_iand hx hb dX9_append_31 ?_
  refine lv_topi (fun x_15 e_16 => ?_)
  obtain ⟨x_17, e_18⟩ : ∃ z : Int32, (Int32.toUInt32 x_15 % 65536).toInt32 = z := ⟨_, rfl⟩
  refine lv_i2c (v := x_17) hx hb dX9_append_32 e_18 ?_
  refine va_cast hx hb hK hP hD hS 1 0 rfl rfl (vi_c rfl) dX9_append_33 (fun H locs hP hD hS => ?_)
  have hP : va_P D vwCl [(ht, .inr (7, [.ref hs, .int 5, .int 0, .int 0, .int 0, .int 0, .int 0, .int 0])), (hs, .inl (cS, 400, .inl (upd g_9 5 (vp_nar .char x_17))))] H := hP
  have hD : va_D A [(ht, .inr (7, [.ref hs, .int 5, .int 0, .int 0, .int 0, .int 0, .int 0, .int 0])), (hs, .inl (cS, 400, .inl (upd g_9 5 (vp_nar .char x_17))))] := hD
  generalize upd g_9 5 (vp_nar .char x_17) = g_19 at hP hD
  refine lv_aload_n hx hb dX9_append_34 rfl (lv_at hl 1 rfl) ?_
  refine lv_dup hx hb dX9_append_35 rfl ?_
  refine va_get (D := D) (ci := 7) (v := .int 5) (C := "WrongHole$Text") (T := TX9) (N := 8) hx hb hts (iq_RX9 _) hown hK hP 0 rfl rfl 1 (by decide) (hT _ qq_1_37) (fun _ h9 => h9) rfl dX9_append_36 ?_
  refine lv_iconst (v := 1) hx hb dX9_append_39 (by decide) ?_
  refine lv_iadd hx hb dX9_append_40 ?_
  refine tc_i 6 (by decide) ?_
  refine va_put (D := D) (ci := 7) (v := .int 6) (ty := .int) (C := "WrongHole$Text") (T := TX9) (N := 8) hx hb hts (iq_RX9 _) tyX9 tyX9_ok nmX9 hown hK hP hD hS 0 rfl rfl 1 (by decide) (hT _ qq_1_37) (fun _ h9 => h9) rfl (by decide +kernel) rfl rfl (Nat.le_of_ble_eq_true rfl) dX9_append_41 (fun H locs hP hD hS => ?_)
  have hP : va_P D vwCl [(ht, .inr (7, [.ref hs, .int 6, .int 0, .int 0, .int 0, .int 0, .int 0, .int 0])), (hs, .inl (cS, 400, .inl g_19))] H := hP
  have hD : va_D A [(ht, .inr (7, [.ref hs, .int 6, .int 0, .int 0, .int 0, .int 0, .int 0, .int 0])), (hs, .inl (cS, 400, .inl g_19))] := hD
  refine lv_iinc (v := 8) (lv' := [(2, .int 8), (0, .ref ht), (1, .int v)]) hx hb dX9_append_44 hl (k := 0) rfl (by decide) (by decide) rfl (fun ls hl => ?_)
  refine lv_goto (tgt := 3) hx hb dX9_append_47 (by decide) ?_
  refine lv_iload_n hx hb dX9_append_3 rfl (lv_at hl 0 rfl) ?_
  refine lv_if_lt (tgt := 50) hx hb dX9_append_4 (by decide) (fun c_21 => absurd c_21 (by decide)) (fun _ => ?_)
  refine lv_aload_n hx hb dX9_append_7 rfl (lv_at hl 1 rfl) ?_
  refine va_get (D := D) (ci := 7) (v := .int 6) (C := "WrongHole$Text") (T := TX9) (N := 8) hx hb hts (iq_RX9 _) hown hK hP 0 rfl rfl 1 (by decide) (hT _ qq_1_37) (fun _ h9 => h9) rfl dX9_append_8 ?_
  refine lv_sipush (v := 400) hx hb dX9_append_11 (by decide) ?_
  refine lv_icmp_ge (tgt := 44) hx hb dX9_append_14 (by decide) (fun c_22 => absurd c_22 (by decide)) (fun _ => ?_)
  refine lv_aload_n hx hb dX9_append_17 rfl (lv_at hl 1 rfl) ?_
  refine va_get (D := D) (ci := 7) (v := .ref hs) (C := "WrongHole$Text") (T := TX9) (N := 8) hx hb hts (iq_RX9 _) hown hK hP 0 rfl rfl 0 (by decide) (hT _ qq_1_36) (fun _ h9 => h9) rfl dX9_append_18 ?_
  refine lv_aload_n hx hb dX9_append_21 rfl (lv_at hl 1 rfl) ?_
  refine va_get (D := D) (ci := 7) (v := .int 6) (C := "WrongHole$Text") (T := TX9) (N := 8) hx hb hts (iq_RX9 _) hown hK hP 0 rfl rfl 1 (by decide) (hT _ qq_1_37) (fun _ h9 => h9) rfl dX9_append_22 ?_
  refine lv_iload_n hx hb dX9_append_25 rfl (lv_at hl 2 rfl) ?_
  refine lv_iload_n hx hb dX9_append_26 rfl (lv_at hl 0 rfl) ?_
  refine lv_ishr hx hb dX9_append_27 ?_
  refine lv_topi (fun x_23 e_24 => ?_)
  refine lv_sipush (v := 255) hx hb dX9_append_28 (by decide) ?_
  refine lv_iand hx hb dX9_append_31 ?_
  refine lv_topi (fun x_25 e_26 => ?_)
  obtain ⟨x_27, e_28⟩ : ∃ z : Int32, (Int32.toUInt32 x_25 % 65536).toInt32 = z := ⟨_, rfl⟩
  refine lv_i2c (v := x_27) hx hb dX9_append_32 e_28 ?_
  refine va_cast hx hb hK hP hD hS 1 0 rfl rfl (vi_c rfl) dX9_append_33 (fun H locs hP hD hS => ?_)
  have hP : va_P D vwCl [(ht, .inr (7, [.ref hs, .int 6, .int 0, .int 0, .int 0, .int 0, .int 0, .int 0])), (hs, .inl (cS, 400, .inl (upd g_19 6 (vp_nar .char x_27))))] H := hP
  have hD : va_D A [(ht, .inr (7, [.ref hs, .int 6, .int 0, .int 0, .int 0, .int 0, .int 0, .int 0])), (hs, .inl (cS, 400, .inl (upd g_19 6 (vp_nar .char x_27))))] := hD
  generalize upd g_19 6 (vp_nar .char x_27) = g_29 at hP hD
  refine lv_aload_n hx hb dX9_append_34 rfl (lv_at hl 1 rfl) ?_
  refine lv_dup hx hb dX9_append_35 rfl ?_
  refine va_get (D := D) (ci := 7) (v := .int 6) (C := "WrongHole$Text") (T := TX9) (N := 8) hx hb hts (iq_RX9 _) hown hK hP 0 rfl rfl 1 (by decide) (hT _ qq_1_37) (fun _ h9 => h9) rfl dX9_append_36 ?_
  refine lv_iconst (v := 1) hx hb dX9_append_39 (by decide) ?_
  refine lv_iadd hx hb dX9_append_40 ?_
  refine tc_i 7 (by decide) ?_
  refine va_put (D := D) (ci := 7) (v := .int 7) (ty := .int) (C := "WrongHole$Text") (T := TX9) (N := 8) hx hb hts (iq_RX9 _) tyX9 tyX9_ok nmX9 hown hK hP hD hS 0 rfl rfl 1 (by decide) (hT _ qq_1_37) (fun _ h9 => h9) rfl (by decide +kernel) rfl rfl (Nat.le_of_ble_eq_true rfl) dX9_append_41 (fun H locs hP hD hS => ?_)
  have hP : va_P D vwCl [(ht, .inr (7, [.ref hs, .int 7, .int 0, .int 0, .int 0, .int 0, .int 0, .int 0])), (hs, .inl (cS, 400, .inl g_29))] H := hP
  have hD : va_D A [(ht, .inr (7, [.ref hs, .int 7, .int 0, .int 0, .int 0, .int 0, .int 0, .int 0])), (hs, .inl (cS, 400, .inl g_29))] := hD
  refine lv_iinc (v := 0) (lv' := [(2, .int 0), (0, .ref ht), (1, .int v)]) hx hb dX9_append_44 hl (k := 0) rfl (by decide) (by decide) rfl (fun ls hl => ?_)
  refine lv_goto (tgt := 3) hx hb dX9_append_47 (by decide) ?_
  refine lv_iload_n hx hb dX9_append_3 rfl (lv_at hl 0 rfl) ?_
  refine lv_if_lt (tgt := 50) hx hb dX9_append_4 (by decide) (fun c_31 => absurd c_31 (by decide)) (fun _ => ?_)
  refine lv_aload_n hx hb dX9_append_7 rfl (lv_at hl 1 rfl) ?_
  refine va_get (D := D) (ci := 7) (v := .int 7) (C := "WrongHole$Text") (T := TX9) (N := 8) hx hb hts (iq_RX9 _) hown hK hP 0 rfl rfl 1 (by decide) (hT _ qq_1_37) (fun _ h9 => h9) rfl dX9_append_8 ?_
  refine lv_sipush (v := 400) hx hb dX9_append_11 (by decide) ?_
  refine lv_icmp_ge (tgt := 44) hx hb dX9_append_14 (by decide) (fun c_32 => absurd c_32 (by decide)) (fun _ => ?_)
  refine lv_aload_n hx hb dX9_append_17 rfl (lv_at hl 1 rfl) ?_
  refine va_get (D := D) (ci := 7) (v := .ref hs) (C := "WrongHole$Text") (T := TX9) (N := 8) hx hb hts (iq_RX9 _) hown hK hP 0 rfl rfl 0 (by decide) (hT _ qq_1_36) (fun _ h9 => h9) rfl dX9_append_18 ?_
  refine lv_aload_n hx hb dX9_append_21 rfl (lv_at hl 1 rfl) ?_
  refine va_get (D := D) (ci := 7) (v := .int 7) (C := "WrongHole$Text") (T := TX9) (N := 8) hx hb hts (iq_RX9 _) hown hK hP 0 rfl rfl 1 (by decide) (hT _ qq_1_37) (fun _ h9 => h9) rfl dX9_append_22 ?_
  refine lv_iload_n hx hb dX9_append_25 rfl (lv_at hl 2 rfl) ?_
  refine lv_iload_n hx hb dX9_append_26 rfl (lv_at hl 0 rfl) ?_
  refine lv_ishr hx hb dX9_append_27 ?_
  refine lv_topi (fun x_33 e_34 => ?_)
  refine lv_sipush (v := 255) hx hb dX9_append_28 (by decide) ?_
  refine lv_iand hx hb dX9_append_31 ?_
  refine lv_topi (fun x_35 e_36 => ?_)
  obtain ⟨x_37, e_38⟩ : ∃ z : Int32, (Int32.toUInt32 x_35 % 65536).toInt32 = z := ⟨_, rfl⟩
  refine lv_i2c (v := x_37) hx hb dX9_append_32 e_38 ?_
  refine va_cast hx hb hK hP hD hS 1 0 rfl rfl (vi_c rfl) dX9_append_33 (fun H locs hP hD hS => ?_)
  have hP : va_P D vwCl [(ht, .inr (7, [.ref hs, .int 7, .int 0, .int 0, .int 0, .int 0, .int 0, .int 0])), (hs, .inl (cS, 400, .inl (upd g_29 7 (vp_nar .char x_37))))] H := hP
  have hD : va_D A [(ht, .inr (7, [.ref hs, .int 7, .int 0, .int 0, .int 0, .int 0, .int 0, .int 0])), (hs, .inl (cS, 400, .inl (upd g_29 7 (vp_nar .char x_37))))] := hD
  generalize upd g_29 7 (vp_nar .char x_37) = g_39 at hP hD
  refine lv_aload_n hx hb dX9_append_34 rfl (lv_at hl 1 rfl) ?_
  refine lv_dup hx hb dX9_append_35 rfl ?_
  refine va_get (D := D) (ci := 7) (v := .int 7) (C := "WrongHole$Text") (T := TX9) (N := 8) hx hb hts (iq_RX9 _) hown hK hP 0 rfl rfl 1 (by decide) (hT _ qq_1_37) (fun _ h9 => h9) rfl dX9_append_36 ?_
  refine lv_iconst (v := 1) hx hb dX9_append_39 (by decide) ?_
  refine lv_iadd hx hb dX9_append_40 ?_
  refine tc_i 8 (by decide) ?_
  refine va_put (D := D) (ci := 7) (v := .int 8) (ty := .int) (C := "WrongHole$Text") (T := TX9) (N := 8) hx hb hts (iq_RX9 _) tyX9 tyX9_ok nmX9 hown hK hP hD hS 0 rfl rfl 1 (by decide) (hT _ qq_1_37) (fun _ h9 => h9) rfl (by decide +kernel) rfl rfl (Nat.le_of_ble_eq_true rfl) dX9_append_41 (fun H locs hP hD hS => ?_)
  have hP : va_P D vwCl [(ht, .inr (7, [.ref hs, .int 8, .int 0, .int 0, .int 0, .int 0, .int 0, .int 0])), (hs, .inl (cS, 400, .inl g_39))] H := hP
  have hD : va_D A [(ht, .inr (7, [.ref hs, .int 8, .int 0, .int 0, .int 0, .int 0, .int 0, .int 0])), (hs, .inl (cS, 400, .inl g_39))] := hD
  refine lv_iinc (v := (-8)) (lv' := [(2, .int (-8)), (0, .ref ht), (1, .int v)]) hx hb dX9_append_44 hl (k := 0) rfl (by decide) (by decide) rfl (fun ls hl => ?_)
  refine lv_goto (tgt := 3) hx hb dX9_append_47 (by decide) ?_
  refine lv_iload_n hx hb dX9_append_3 rfl (lv_at hl 0 rfl) ?_
  refine lv_if_lt (tgt := 50) hx hb dX9_append_4 (by decide) (fun _ => ?_) (fun c_41 => absurd (by decide) c_41)
  refine W.widen (k := 0) (n := 0) (Nat.le_of_ble_eq_true rfl) (Nat.le_of_ble_eq_true rfl) ?_
  have hP9 := hP.sub (ws' := [(ht, .inr (7, [.ref hs, .int 8, .int 0, .int 0, .int 0, .int 0, .int 0, .int 0])), (hs, .inl (cS, 400, .inl g_39))]) [0, 1] rfl
  have hD9 := hD.sub (ws' := [(ht, .inr (7, [.ref hs, .int 8, .int 0, .int 0, .int 0, .int 0, .int 0, .int 0])), (hs, .inl (cS, 400, .inl g_39))]) [0, 1] (by decide) rfl
  have hK9 := hK.sub (tys' := [(cS, .char)]) [0] rfl
  exact W.vret hx hb hr (fun t9 ht9 hW9 => ⟨⟨(), rfl, trivial, ⟨g_39, by rw [ht9]; exact hP9, va_K.moved hW9.alike hK9, hD9⟩⟩, hS.F ht9⟩) hS.2.2 dX9_append_50
set_option maxHeartbeats 4000000 in
set_option maxRecDepth 100000 in
theorem c_append_8 (l : Launch) (D : va_G) (ad : Nat → Nat) (sz : Nat) (ht : Nat) (hs : Nat) (cS : ClassId) (f : Nat → Int32) (v : Int32)  : Met l yX9_append (Cond.code yX9_append cX9_append 3 none :: TB) (RM 0 0 0) (va_Pc [.ref ht, .int v] (PRE D ad [(ht, .inr (7, [.ref hs, .int 8, .int 0, .int 0, .int 0, .int 0, .int 0, .int 0])), (hs, .inl (cS, 400, .inl f))] [(cS, .char)] sz)) (va_Qv (S := Unit) (fun _ => True) (fun _ t => ∃ (g : Nat → Int32), va_P D vwCl [(ht, .inr (7, [.ref hs, .int 12, .int 0, .int 0, .int 0, .int 0, .int 0, .int 0])), (hs, .inl (cS, 400, .inl g))] t.heap ∧ va_K D vwCl [(cS, .char)] t ∧ va_D (va_A [(ht, .inr (7, [.ref hs, .int 8, .int 0, .int 0, .int 0, .int 0, .int 0, .int 0])), (hs, .inl (cS, 400, .inl f))] sz) [(ht, .inr (7, [.ref hs, .int 12, .int 0, .int 0, .int 0, .int 0, .int 0, .int 0])), (hs, .inl (cS, 400, .inl g))]) (va_A [(ht, .inr (7, [.ref hs, .int 8, .int 0, .int 0, .int 0, .int 0, .int 0, .int 0])), (hs, .inl (cS, 400, .inl f))] sz)) 0 0 (va_A [(ht, .inr (7, [.ref hs, .int 8, .int 0, .int 0, .int 0, .int 0, .int 0, .int 0])), (hs, .inl (cS, 400, .inl f))] sz) := by
  refine MET (y := yX9_append) (cc := cX9_append) (maxL := 3) (ret := none) (d := 0) (mc := 0) (ms := 0) (D := D) (ad := ad) (ws := [(ht, .inr (7, [.ref hs, .int 8, .int 0, .int 0, .int 0, .int 0, .int 0, .int 0])), (hs, .inl (cS, 400, .inl f))]) (tys := [(cS, .char)]) (sz := sz) (av := [.ref ht, .int v]) (Qc := fun A => va_Qv (S := Unit) (fun _ => True) (fun _ t => ∃ (g : Nat → Int32), va_P D vwCl [(ht, .inr (7, [.ref hs, .int 12, .int 0, .int 0, .int 0, .int 0, .int 0, .int 0])), (hs, .inl (cS, 400, .inl g))] t.heap ∧ va_K D vwCl [(cS, .char)] t ∧ va_D A [(ht, .inr (7, [.ref hs, .int 12, .int 0, .int 0, .int 0, .int 0, .int 0, .int 0])), (hs, .inl (cS, 400, .inl g))]) A) (fr := fun A => A) (by decide) (Nat.le_of_ble_eq_true rfl) ?_
  intro p e s m below meth c ls A H hHe hx hb hr hml hown hts hlocks hnm hP hK hD hA hS hN hl
  have hown : s.vm.findClass "WrongHole$Text" = some m.cls := hown
  have hT : ∀ w ∈ TB, w.before ([.ref ht, .int v] : List Value).toArray s = true := fun w h => hts w (List.mem_cons_of_mem _ h)
  have hl : lv_has ls 3 [(0, .ref ht), (1, .int v)] := hl
  have hP : va_P D vwCl [(ht, .inr (7, [.ref hs, .int 8, .int 0, .int 0, .int 0, .int 0, .int 0, .int 0])), (hs, .inl (cS, 400, .inl f))] H := hP
  refine lv_bipush (v := 24) hx hb dX9_append_0 (by decide) ?_
  refine lv_istore_n (lv' := [(2, .int 24), (0, .ref ht), (1, .int v)]) hx hb dX9_append_2 rfl hl (by decide) rfl (fun ls hl => ?_)
  refine lv_iload_n hx hb dX9_append_3 rfl (lv_at hl 0 rfl) ?_
  refine lv_if_lt (tgt := 50) hx hb dX9_append_4 (by decide) (fun c_1 => absurd c_1 (by decide)) (fun _ => ?_)
  refine lv_aload_n hx hb dX9_append_7 rfl (lv_at hl 1 rfl) ?_
  refine va_get (D := D) (ci := 7) (v := .int 8) (C := "WrongHole$Text") (T := TX9) (N := 8) hx hb hts (iq_RX9 _) hown hK hP 0 rfl rfl 1 (by decide) (hT _ qq_1_37) (fun _ h9 => h9) rfl dX9_append_8 ?_
  refine lv_sipush (v := 400) hx hb dX9_append_11 (by decide) ?_
  refine lv_icmp_ge (tgt := 44) hx hb dX9_append_14 (by decide) (fun c_2 => absurd c_2 (by decide)) (fun _ => ?_)
  refine lv_aload_n hx hb dX9_append_17 rfl (lv_at hl 1 rfl) ?_
  refine va_get (D := D) (ci := 7) (v := .ref hs) (C := "WrongHole$Text") (T := TX9) (N := 8) hx hb hts (iq_RX9 _) hown hK hP 0 rfl rfl 0 (by decide) (hT _ qq_1_36) (fun _ h9 => h9) rfl dX9_append_18 ?_
  refine lv_aload_n hx hb dX9_append_21 rfl (lv_at hl 1 rfl) ?_
  refine va_get (D := D) (ci := 7) (v := .int 8) (C := "WrongHole$Text") (T := TX9) (N := 8) hx hb hts (iq_RX9 _) hown hK hP 0 rfl rfl 1 (by decide) (hT _ qq_1_37) (fun _ h9 => h9) rfl dX9_append_22 ?_
  refine lv_iload_n hx hb dX9_append_25 rfl (lv_at hl 2 rfl) ?_
  refine lv_iload_n hx hb dX9_append_26 rfl (lv_at hl 0 rfl) ?_
  refine lv_ishr hx hb dX9_append_27 ?_
  refine lv_topi (fun x_3 e_4 => ?_)
  refine lv_sipush (v := 255) hx hb dX9_append_28 (by decide) ?_
  refine lv_iand hx hb dX9_append_31 ?_
  refine lv_topi (fun x_5 e_6 => ?_)
  obtain ⟨x_7, e_8⟩ : ∃ z : Int32, (Int32.toUInt32 x_5 % 65536).toInt32 = z := ⟨_, rfl⟩
  refine lv_i2c (v := x_7) hx hb dX9_append_32 e_8 ?_
  refine va_cast hx hb hK hP hD hS 1 0 rfl rfl (vi_c rfl) dX9_append_33 (fun H locs hP hD hS => ?_)
  have hP : va_P D vwCl [(ht, .inr (7, [.ref hs, .int 8, .int 0, .int 0, .int 0, .int 0, .int 0, .int 0])), (hs, .inl (cS, 400, .inl (upd f 8 (vp_nar .char x_7))))] H := hP
  have hD : va_D A [(ht, .inr (7, [.ref hs, .int 8, .int 0, .int 0, .int 0, .int 0, .int 0, .int 0])), (hs, .inl (cS, 400, .inl (upd f 8 (vp_nar .char x_7))))] := hD
  generalize upd f 8 (vp_nar .char x_7) = g_9 at hP hD
  refine lv_aload_n hx hb dX9_append_34 rfl (lv_at hl 1 rfl) ?_
  refine lv_dup hx hb dX9_append_35 rfl ?_
  refine va_get (D := D) (ci := 7) (v := .int 8) (C := "WrongHole$Text") (T := TX9) (N := 8) hx hb hts (iq_RX9 _) hown hK hP 0 rfl rfl 1 (by decide) (hT _ qq_1_37) (fun _ h9 => h9) rfl dX9_append_36 ?_
  refine lv_iconst (v := 1) hx hb dX9_append_39 (by decide) ?_
  refine lv_iadd hx hb dX9_append_40 ?_
  refine tc_i 9 (by decide) ?_
  refine va_put (D := D) (ci := 7) (v := .int 9) (ty := .int) (C := "WrongHole$Text") (T := TX9) (N := 8) hx hb hts (iq_RX9 _) tyX9 tyX9_ok nmX9 hown hK hP hD hS 0 rfl rfl 1 (by decide) (hT _ qq_1_37) (fun _ h9 => h9) rfl (by decide +kernel) rfl rfl (Nat.le_of_ble_eq_true rfl) dX9_append_41 (fun H locs hP hD hS => ?_)
  have hP : va_P D vwCl [(ht, .inr (7, [.ref hs, .int 9, .int 0, .int 0, .int 0, .int 0, .int 0, .int 0])), (hs, .inl (cS, 400, .inl g_9))] H := hP
  have hD : va_D A [(ht, .inr (7, [.ref hs, .int 9, .int 0, .int 0, .int 0, .int 0, .int 0, .int 0])), (hs, .inl (cS, 400, .inl g_9))] := hD
  refine lv_iinc (v := 16) (lv' := [(2, .int 16), (0, .ref ht), (1, .int v)]) hx hb dX9_append_44 hl (k := 0) rfl (by decide) (by decide) rfl (fun ls hl => ?_)
  refine lv_goto (tgt := 3) hx hb dX9_append_47 (by decide) ?_
  refine lv_iload_n hx hb dX9_append_3 rfl (lv_at hl 0 rfl) ?_
  refine lv_if_lt (tgt := 50) hx hb dX9_append_4 (by decide) (fun c_11 => absurd c_11 (by decide)) (fun _ => ?_)
  refine lv_aload_n hx hb dX9_append_7 rfl (lv_at hl 1 rfl) ?_
  refine va_get (D := D) (ci := 7) (v := .int 9) (C := "WrongHole$Text") (T := TX9) (N := 8) hx hb hts (iq_RX9 _) hown hK hP 0 rfl rfl 1 (by decide) (hT _ qq_1_37) (fun _ h9 => h9) rfl dX9_append_8 ?_
  refine lv_sipush (v := 400) hx hb dX9_append_11 (by decide) ?_
  refine lv_icmp_ge (tgt := 44) hx hb dX9_append_14 (by decide) (fun c_12 => absurd c_12 (by decide)) (fun _ => ?_)
  refine lv_aload_n hx hb dX9_append_17 rfl (lv_at hl 1 rfl) ?_
  refine va_get (D := D) (ci := 7) (v := .ref hs) (C := "WrongHole$Text") (T := TX9) (N := 8) hx hb hts (iq_RX9 _) hown hK hP 0 rfl rfl 0 (by decide) (hT _ qq_1_36) (fun _ h9 => h9) rfl dX9_append_18 ?_
  refine lv_aload_n hx hb dX9_append_21 rfl (lv_at hl 1 rfl) ?_
  refine va_get (D := D) (ci := 7) (v := .int 9) (C := "WrongHole$Text") (T := TX9) (N := 8) hx hb hts (iq_RX9 _) hown hK hP 0 rfl rfl 1 (by decide) (hT _ qq_1_37) (fun _ h9 => h9) rfl dX9_append_22 ?_
  refine lv_iload_n hx hb dX9_append_25 rfl (lv_at hl 2 rfl) ?_
  refine lv_iload_n hx hb dX9_append_26 rfl (lv_at hl 0 rfl) ?_
  refine lv_ishr hx hb dX9_append_27 ?_
  refine lv_topi (fun x_13 e_14 => ?_)
  refine lv_sipush (v := 255) hx hb dX9_append_28 (by decide) ?_
  refine lv_iand hx hb dX9_append_31 ?_
  refine lv_topi (fun x_15 e_16 => ?_)
  obtain ⟨x_17, e_18⟩ : ∃ z : Int32, (Int32.toUInt32 x_15 % 65536).toInt32 = z := ⟨_, rfl⟩
  refine lv_i2c (v := x_17) hx hb dX9_append_32 e_18 ?_
  refine va_cast hx hb hK hP hD hS 1 0 rfl rfl (vi_c rfl) dX9_append_33 (fun H locs hP hD hS => ?_)
  have hP : va_P D vwCl [(ht, .inr (7, [.ref hs, .int 9, .int 0, .int 0, .int 0, .int 0, .int 0, .int 0])), (hs, .inl (cS, 400, .inl (upd g_9 9 (vp_nar .char x_17))))] H := hP
  have hD : va_D A [(ht, .inr (7, [.ref hs, .int 9, .int 0, .int 0, .int 0, .int 0, .int 0, .int 0])), (hs, .inl (cS, 400, .inl (upd g_9 9 (vp_nar .char x_17))))] := hD
  generalize upd g_9 9 (vp_nar .char x_17) = g_19 at hP hD
  refine lv_aload_n hx hb dX9_append_34 rfl (lv_at hl 1 rfl) ?_
  refine lv_dup hx hb dX9_append_35 rfl ?_
  refine va_get (D := D) (ci := 7) (v := .int 9) (C := "WrongHole$Text") (T := TX9) (N := 8) hx hb hts (iq_RX9 _) hown hK hP 0 rfl rfl 1 (by decide) (hT _ qq_1_37) (fun _ h9 => h9) rfl dX9_append_36 ?_
  refine lv_iconst (v := 1) hx hb dX9_append_39 (by decide) ?_
  refine lv_iadd hx hb dX9_append_40 ?_
  refine tc_i 10 (by decide) ?_
  refine va_put (D := D) (ci := 7) (v := .int 10) (ty := .int) (C := "WrongHole$Text") (T := TX9) (N := 8) hx hb hts (iq_RX9 _) tyX9 tyX9_ok nmX9 hown hK hP hD hS 0 rfl rfl 1 (by decide) (hT _ qq_1_37) (fun _ h9 => h9) rfl (by decide +kernel) rfl rfl (Nat.le_of_ble_eq_true rfl) dX9_append_41 (fun H locs hP hD hS => ?_)
  have hP : va_P D vwCl [(ht, .inr (7, [.ref hs, .int 10, .int 0, .int 0, .int 0, .int 0, .int 0, .int 0])), (hs, .inl (cS, 400, .inl g_19))] H := hP
  have hD : va_D A [(ht, .inr (7, [.ref hs, .int 10, .int 0, .int 0, .int 0, .int 0, .int 0, .int 0])), (hs, .inl (cS, 400, .inl g_19))] := hD
  refine lv_iinc (v := 8) (lv' := [(2, .int 8), (0, .ref ht), (1, .int v)]) hx hb dX9_append_44 hl (k := 0) rfl (by decide) (by decide) rfl (fun ls hl => ?_)
  refine lv_goto (tgt := 3) hx hb dX9_append_47 (by decide) ?_
  refine lv_iload_n hx hb dX9_append_3 rfl (lv_at hl 0 rfl) ?_
  refine lv_if_lt (tgt := 50) hx hb dX9_append_4 (by decide) (fun c_21 => absurd c_21 (by decide)) (fun _ => ?_)
  refine lv_aload_n hx hb dX9_append_7 rfl (lv_at hl 1 rfl) ?_
  refine va_get (D := D) (ci := 7) (v := .int 10) (C := "WrongHole$Text") (T := TX9) (N := 8) hx hb hts (iq_RX9 _) hown hK hP 0 rfl rfl 1 (by decide) (hT _ qq_1_37) (fun _ h9 => h9) rfl dX9_append_8 ?_
  refine lv_sipush (v := 400) hx hb dX9_append_11 (by decide) ?_
  refine lv_icmp_ge (tgt := 44) hx hb dX9_append_14 (by decide) (fun c_22 => absurd c_22 (by decide)) (fun _ => ?_)
  refine lv_aload_n hx hb dX9_append_17 rfl (lv_at hl 1 rfl) ?_
  refine va_get (D := D) (ci := 7) (v := .ref hs) (C := "WrongHole$Text") (T := TX9) (N := 8) hx hb hts (iq_RX9 _) hown hK hP 0 rfl rfl 0 (by decide) (hT _ qq_1_36) (fun _ h9 => h9) rfl dX9_append_18 ?_
  refine lv_aload_n hx hb dX9_append_21 rfl (lv_at hl 1 rfl) ?_
  refine va_get (D := D) (ci := 7) (v := .int 10) (C := "WrongHole$Text") (T := TX9) (N := 8) hx hb hts (iq_RX9 _) hown hK hP 0 rfl rfl 1 (by decide) (hT _ qq_1_37) (fun _ h9 => h9) rfl dX9_append_22 ?_
  refine lv_iload_n hx hb dX9_append_25 rfl (lv_at hl 2 rfl) ?_
  refine lv_iload_n hx hb dX9_append_26 rfl (lv_at hl 0 rfl) ?_
  refine lv_ishr hx hb dX9_append_27 ?_
  refine lv_topi (fun x_23 e_24 => ?_)
  refine lv_sipush (v := 255) hx hb dX9_append_28 (by decide) ?_
  refine lv_iand hx hb dX9_append_31 ?_
  refine lv_topi (fun x_25 e_26 => ?_)
  obtain ⟨x_27, e_28⟩ : ∃ z : Int32, (Int32.toUInt32 x_25 % 65536).toInt32 = z := ⟨_, rfl⟩
  refine lv_i2c (v := x_27) hx hb dX9_append_32 e_28 ?_
  refine va_cast hx hb hK hP hD hS 1 0 rfl rfl (vi_c rfl) dX9_append_33 (fun H locs hP hD hS => ?_)
  have hP : va_P D vwCl [(ht, .inr (7, [.ref hs, .int 10, .int 0, .int 0, .int 0, .int 0, .int 0, .int 0])), (hs, .inl (cS, 400, .inl (upd g_19 10 (vp_nar .char x_27))))] H := hP
  have hD : va_D A [(ht, .inr (7, [.ref hs, .int 10, .int 0, .int 0, .int 0, .int 0, .int 0, .int 0])), (hs, .inl (cS, 400, .inl (upd g_19 10 (vp_nar .char x_27))))] := hD
  generalize upd g_19 10 (vp_nar .char x_27) = g_29 at hP hD
  refine lv_aload_n hx hb dX9_append_34 rfl (lv_at hl 1 rfl) ?_
  refine lv_dup hx hb dX9_append_35 rfl ?_
  refine va_get (D := D) (ci := 7) (v := .int 10) (C := "WrongHole$Text") (T := TX9) (N := 8) hx hb hts (iq_RX9 _) hown hK hP 0 rfl rfl 1 (by decide) (hT _ qq_1_37) (fun _ h9 => h9) rfl dX9_append_36 ?_
  refine lv_iconst (v := 1) hx hb dX9_append_39 (by decide) ?_
  refine lv_iadd hx hb dX9_append_40 ?_
  refine tc_i 11 (by decide) ?_
  refine va_put (D := D) (ci := 7) (v := .int 11) (ty := .int) (C := "WrongHole$Text") (T := TX9) (N := 8) hx hb hts (iq_RX9 _) tyX9 tyX9_ok nmX9 hown hK hP hD hS 0 rfl rfl 1 (by decide) (hT _ qq_1_37) (fun _ h9 => h9) rfl (by decide +kernel) rfl rfl (Nat.le_of_ble_eq_true rfl) dX9_append_41 (fun H locs hP hD hS => ?_)
  have hP : va_P D vwCl [(ht, .inr (7, [.ref hs, .int 11, .int 0, .int 0, .int 0, .int 0, .int 0, .int 0])), (hs, .inl (cS, 400, .inl g_29))] H := hP
  have hD : va_D A [(ht, .inr (7, [.ref hs, .int 11, .int 0, .int 0, .int 0, .int 0, .int 0, .int 0])), (hs, .inl (cS, 400, .inl g_29))] := hD
  refine lv_iinc (v := 0) (lv' := [(2, .int 0), (0, .ref ht), (1, .int v)]) hx hb dX9_append_44 hl (k := 0) rfl (by decide) (by decide) rfl (fun ls hl => ?_)
  refine lv_goto (tgt := 3) hx hb dX9_append_47 (by decide) ?_
  refine lv_iload_n hx hb dX9_append_3 rfl (lv_at hl 0 rfl) ?_
  refine lv_if_lt (tgt := 50) hx hb dX9_append_4 (by decide) (fun c_31 => absurd c_31 (by decide)) (fun _ => ?_)
  refine lv_aload_n hx hb dX9_append_7 rfl (lv_at hl 1 rfl) ?_
  refine va_get (D := D) (ci := 7) (v := .int 11) (C := "WrongHole$Text") (T := TX9) (N := 8) hx hb hts (iq_RX9 _) hown hK hP 0 rfl rfl 1 (by decide) (hT _ qq_1_37) (fun _ h9 => h9) rfl dX9_append_8 ?_
  refine lv_sipush (v := 400) hx hb dX9_append_11 (by decide) ?_
  refine lv_icmp_ge (tgt := 44) hx hb dX9_append_14 (by decide) (fun c_32 => absurd c_32 (by decide)) (fun _ => ?_)
  refine lv_aload_n hx hb dX9_append_17 rfl (lv_at hl 1 rfl) ?_
  refine va_get (D := D) (ci := 7) (v := .ref hs) (C := "WrongHole$Text") (T := TX9) (N := 8) hx hb hts (iq_RX9 _) hown hK hP 0 rfl rfl 0 (by decide) (hT _ qq_1_36) (fun _ h9 => h9) rfl dX9_append_18 ?_
  refine lv_aload_n hx hb dX9_append_21 rfl (lv_at hl 1 rfl) ?_
  refine va_get (D := D) (ci := 7) (v := .int 11) (C := "WrongHole$Text") (T := TX9) (N := 8) hx hb hts (iq_RX9 _) hown hK hP 0 rfl rfl 1 (by decide) (hT _ qq_1_37) (fun _ h9 => h9) rfl dX9_append_22 ?_
  refine lv_iload_n hx hb dX9_append_25 rfl (lv_at hl 2 rfl) ?_
  refine lv_iload_n hx hb dX9_append_26 rfl (lv_at hl 0 rfl) ?_
  refine lv_ishr hx hb dX9_append_27 ?_
  refine lv_topi (fun x_33 e_34 => ?_)
  refine lv_sipush (v := 255) hx hb dX9_append_28 (by decide) ?_
  refine lv_iand hx hb dX9_append_31 ?_
  refine lv_topi (fun x_35 e_36 => ?_)
  obtain ⟨x_37, e_38⟩ : ∃ z : Int32, (Int32.toUInt32 x_35 % 65536).toInt32 = z := ⟨_, rfl⟩
  refine lv_i2c (v := x_37) hx hb dX9_append_32 e_38 ?_
  refine va_cast hx hb hK hP hD hS 1 0 rfl rfl (vi_c rfl) dX9_append_33 (fun H locs hP hD hS => ?_)
  have hP : va_P D vwCl [(ht, .inr (7, [.ref hs, .int 11, .int 0, .int 0, .int 0, .int 0, .int 0, .int 0])), (hs, .inl (cS, 400, .inl (upd g_29 11 (vp_nar .char x_37))))] H := hP
  have hD : va_D A [(ht, .inr (7, [.ref hs, .int 11, .int 0, .int 0, .int 0, .int 0, .int 0, .int 0])), (hs, .inl (cS, 400, .inl (upd g_29 11 (vp_nar .char x_37))))] := hD
  generalize upd g_29 11 (vp_nar .char x_37) = g_39 at hP hD
  refine lv_aload_n hx hb dX9_append_34 rfl (lv_at hl 1 rfl) ?_
  refine lv_dup hx hb dX9_append_35 rfl ?_
  refine va_get (D := D) (ci := 7) (v := .int 11) (C := "WrongHole$Text") (T := TX9) (N := 8) hx hb hts (iq_RX9 _) hown hK hP 0 rfl rfl 1 (by decide) (hT _ qq_1_37) (fun _ h9 => h9) rfl dX9_append_36 ?_
  refine lv_iconst (v := 1) hx hb dX9_append_39 (by decide) ?_
  refine lv_iadd hx hb dX9_append_40 ?_
  refine tc_i 12 (by decide) ?_
  refine va_put (D := D) (ci := 7) (v := .int 12) (ty := .int) (C := "WrongHole$Text") (T := TX9) (N := 8) hx hb hts (iq_RX9 _) tyX9 tyX9_ok nmX9 hown hK hP hD hS 0 rfl rfl 1 (by decide) (hT _ qq_1_37) (fun _ h9 => h9) rfl (by decide +kernel) rfl rfl (Nat.le_of_ble_eq_true rfl) dX9_append_41 (fun H locs hP hD hS => ?_)
  have hP : va_P D vwCl [(ht, .inr (7, [.ref hs, .int 12, .int 0, .int 0, .int 0, .int 0, .int 0, .int 0])), (hs, .inl (cS, 400, .inl g_39))] H := hP
  have hD : va_D A [(ht, .inr (7, [.ref hs, .int 12, .int 0, .int 0, .int 0, .int 0, .int 0, .int 0])), (hs, .inl (cS, 400, .inl g_39))] := hD
  refine lv_iinc (v := (-8)) (lv' := [(2, .int (-8)), (0, .ref ht), (1, .int v)]) hx hb dX9_append_44 hl (k := 0) rfl (by decide) (by decide) rfl (fun ls hl => ?_)
  refine lv_goto (tgt := 3) hx hb dX9_append_47 (by decide) ?_
  refine lv_iload_n hx hb dX9_append_3 rfl (lv_at hl 0 rfl) ?_
  refine lv_if_lt (tgt := 50) hx hb dX9_append_4 (by decide) (fun _ => ?_) (fun c_41 => absurd (by decide) c_41)
  refine W.widen (k := 0) (n := 0) (Nat.le_of_ble_eq_true rfl) (Nat.le_of_ble_eq_true rfl) ?_
  have hP9 := hP.sub (ws' := [(ht, .inr (7, [.ref hs, .int 12, .int 0, .int 0, .int 0, .int 0, .int 0, .int 0])), (hs, .inl (cS, 400, .inl g_39))]) [0, 1] rfl
  have hD9 := hD.sub (ws' := [(ht, .inr (7, [.ref hs, .int 12, .int 0, .int 0, .int 0, .int 0, .int 0, .int 0])), (hs, .inl (cS, 400, .inl g_39))]) [0, 1] (by decide) rfl
  have hK9 := hK.sub (tys' := [(cS, .char)]) [0] rfl
  exact W.vret hx hb hr (fun t9 ht9 hW9 => ⟨⟨(), rfl, trivial, ⟨g_39, by rw [ht9]; exact hP9, va_K.moved hW9.alike hK9, hD9⟩⟩, hS.F ht9⟩) hS.2.2 dX9_append_50
set_option maxHeartbeats 4000000 in
set_option maxRecDepth 100000 in
theorem c_append_12 (l : Launch) (D : va_G) (ad : Nat → Nat) (sz : Nat) (ht : Nat) (hs : Nat) (cS : ClassId) (f : Nat → Int32) (v : Int32)  : Met l yX9_append (Cond.code yX9_append cX9_append 3 none :: TB) (RM 0 0 0) (va_Pc [.ref ht, .int v] (PRE D ad [(ht, .inr (7, [.ref hs, .int 12, .int 0, .int 0, .int 0, .int 0, .int 0, .int 0])), (hs, .inl (cS, 400, .inl f))] [(cS, .char)] sz)) (va_Qv (S := Unit) (fun _ => True) (fun _ t => ∃ (g : Nat → Int32), va_P D vwCl [(ht, .inr (7, [.ref hs, .int 16, .int 0, .int 0, .int 0, .int 0, .int 0, .int 0])), (hs, .inl (cS, 400, .inl g))] t.heap ∧ va_K D vwCl [(cS, .char)] t ∧ va_D (va_A [(ht, .inr (7, [.ref hs, .int 12, .int 0, .int 0, .int 0, .int 0, .int 0, .int 0])), (hs, .inl (cS, 400, .inl f))] sz) [(ht, .inr (7, [.ref hs, .int 16, .int 0, .int 0, .int 0, .int 0, .int 0, .int 0])), (hs, .inl (cS, 400, .inl g))]) (va_A [(ht, .inr (7, [.ref hs, .int 12, .int 0, .int 0, .int 0, .int 0, .int 0, .int 0])), (hs, .inl (cS, 400, .inl f))] sz)) 0 0 (va_A [(ht, .inr (7, [.ref hs, .int 12, .int 0, .int 0, .int 0, .int 0, .int 0, .int 0])), (hs, .inl (cS, 400, .inl f))] sz) := by
  refine MET (y := yX9_append) (cc := cX9_append) (maxL := 3) (ret := none) (d := 0) (mc := 0) (ms := 0) (D := D) (ad := ad) (ws := [(ht, .inr (7, [.ref hs, .int 12, .int 0, .int 0, .int 0, .int 0, .int 0, .int 0])), (hs, .inl (cS, 400, .inl f))]) (tys := [(cS, .char)]) (sz := sz) (av := [.ref ht, .int v]) (Qc := fun A => va_Qv (S := Unit) (fun _ => True) (fun _ t => ∃ (g : Nat → Int32), va_P D vwCl [(ht, .inr (7, [.ref hs, .int 16, .int 0, .int 0, .int 0, .int 0, .int 0, .int 0])), (hs, .inl (cS, 400, .inl g))] t.heap ∧ va_K D vwCl [(cS, .char)] t ∧ va_D A [(ht, .inr (7, [.ref hs, .int 16, .int 0, .int 0, .int 0, .int 0, .int 0, .int 0])), (hs, .inl (cS, 400, .inl g))]) A) (fr := fun A => A) (by decide) (Nat.le_of_ble_eq_true rfl) ?_
  intro p e s m below meth c ls A H hHe hx hb hr hml hown hts hlocks hnm hP hK hD hA hS hN hl
  have hown : s.vm.findClass "WrongHole$Text" = some m.cls := hown
  have hT : ∀ w ∈ TB, w.before ([.ref ht, .int v] : List Value).toArray s = true := fun w h => hts w (List.mem_cons_of_mem _ h)
  have hl : lv_has ls 3 [(0, .ref ht), (1, .int v)] := hl
  have hP : va_P D vwCl [(ht, .inr (7, [.ref hs, .int 12, .int 0, .int 0, .int 0, .int 0, .int 0, .int 0])), (hs, .inl (cS, 400, .inl f))] H := hP
  refine lv_bipush (v := 24) hx hb dX9_append_0 (by decide) ?_
  refine lv_istore_n (lv' := [(2, .int 24), (0, .ref ht), (1, .int v)]) hx hb dX9_append_2 rfl hl (by decide) rfl (fun ls hl => ?_)
  refine lv_iload_n hx hb dX9_append_3 rfl (lv_at hl 0 rfl) ?_
  refine lv_if_lt (tgt := 50) hx hb dX9_append_4 (by decide) (fun c_1 => absurd c_1 (by decide)) (fun _ => ?_)
  refine lv_aload_n hx hb dX9_append_7 rfl (lv_at hl 1 rfl) ?_
  refine va_get (D := D) (ci := 7) (v := .int 12) (C := "WrongHole$Text") (T := TX9) (N := 8) hx hb hts (iq_RX9 _) hown hK hP 0 rfl rfl 1 (by decide) (hT _ qq_1_37) (fun _ h9 => h9) rfl dX9_append_8 ?_
  refine lv_sipush (v := 400) hx hb dX9_append_11 (by decide) ?_
  refine lv_icmp_ge (tgt := 44) hx hb dX9_append_14 (by decide) (fun c_2 => absurd c_2 (by decide)) (fun _ => ?_)
  refine lv_aload_n hx hb dX9_append_17 rfl (lv_at hl 1 rfl) ?_
  refine va_get (D := D) (ci := 7) (v := .ref hs) (C := "WrongHole$Text") (T := TX9) (N := 8) hx hb hts (iq_RX9 _) hown hK hP 0 rfl rfl 0 (by decide) (hT _ qq_1_36) (fun _ h9 => h9) rfl dX9_append_18 ?_
  refine lv_aload_n hx hb dX9_append_21 rfl (lv_at hl 1 rfl) ?_
  refine va_get (D := D) (ci := 7) (v := .int 12) (C := "WrongHole$Text") (T := TX9) (N := 8) hx hb hts (iq_RX9 _) hown hK hP 0 rfl rfl 1 (by decide) (hT _ qq_1_37) (fun _ h9 => h9) rfl dX9_append_22 ?_
  refine lv_iload_n hx hb dX9_append_25 rfl (lv_at hl 2 rfl) ?_
  refine lv_iload_n hx hb dX9_append_26 rfl (lv_at hl 0 rfl) ?_
  refine lv_ishr hx hb dX9_append_27 ?_
  refine lv_topi (fun x_3 e_4 => ?_)
  refine lv_sipush (v := 255) hx hb dX9_append_28 (by decide) ?_
  refine lv_iand hx hb dX9_append_31 ?_
  refine lv_topi (fun x_5 e_6 => ?_)
  obtain ⟨x_7, e_8⟩ : ∃ z : Int32, (Int32.toUInt32 x_5 % 65536).toInt32 = z := ⟨_, rfl⟩
  refine lv_i2c (v := x_7) hx hb dX9_append_32 e_8 ?_
  refine va_cast hx hb hK hP hD hS 1 0 rfl rfl (vi_c rfl) dX9_append_33 (fun H locs hP hD hS => ?_)
  have hP : va_P D vwCl [(ht, .inr (7, [.ref hs, .int 12, .int 0, .int 0, .int 0, .int 0, .int 0, .int 0])), (hs, .inl (cS, 400, .inl (upd f 12 (vp_nar .char x_7))))] H := hP
  have hD : va_D A [(ht, .inr (7, [.ref hs, .int 12, .int 0, .int 0, .int 0, .int 0, .int 0, .int 0])), (hs, .inl (cS, 400, .inl (upd f 12 (vp_nar .char x_7))))] := hD
  generalize upd f 12 (vp_nar .char x_7) = g_9 at hP hD
  refine lv_aload_n hx hb dX9_append_34 rfl (lv_at hl 1 rfl) ?_
  refine lv_dup hx hb dX9_append_35 rfl ?_
  refine va_get (D := D) (ci := 7) (v := .int 12) (C := "WrongHole$Text") (T := TX9) (N := 8) hx hb hts (iq_RX9 _) hown hK hP 0 rfl rfl 1 (by decide) (hT _ qq_1_37) (fun _ h9 => h9) rfl dX9_append_36 ?_
  refine lv_iconst (v := 1) hx hb dX9_append_39 (by decide) ?_
  refine lv_iadd hx hb dX9_append_40 ?_
  refine tc_i 13 (by decide) ?_
  refine va_put (D := D) (ci := 7) (v := .int 13) (ty := .int) (C := "WrongHole$Text") (T := TX9) (N := 8) hx hb hts (iq_RX9 _) tyX9 tyX9_ok nmX9 hown hK hP hD hS 0 rfl rfl 1 (by decide) (hT _ qq_1_37) (fun _ h9 => h9) rfl (by decide +kernel) rfl rfl (Nat.le_of_ble_eq_true rfl) dX9_append_41 (fun H locs hP hD hS => ?_)
  have hP : va_P D vwCl [(ht, .inr (7, [.ref hs, .int 13, .int 0, .int 0, .int 0, .int 0, .int 0, .int 0])), (hs, .inl (cS, 400, .inl g_9))] H := hP
  have hD : va_D A [(ht, .inr (7, [.ref hs, .int 13, .int 0, .int 0, .int 0, .int 0, .int 0, .int 0])), (hs, .inl (cS, 400, .inl g_9))] := hD
  refine lv_iinc (v := 16) (lv' := [(2, .int 16), (0, .ref ht), (1, .int v)]) hx hb dX9_append_44 hl (k := 0) rfl (by decide) (by decide) rfl (fun ls hl => ?_)
  refine lv_goto (tgt := 3) hx hb dX9_append_47 (by decide) ?_
  refine lv_iload_n hx hb dX9_append_3 rfl (lv_at hl 0 rfl) ?_
  refine lv_if_lt (tgt := 50) hx hb dX9_append_4 (by decide) (fun c_11 => absurd c_11 (by decide)) (fun _ => ?_)
  refine lv_aload_n hx hb dX9_append_7 rfl (lv_at hl 1 rfl) ?_
  refine va_get (D := D) (ci := 7) (v := .int 13) (C := "WrongHole$Text") (T := TX9) (N := 8) hx hb hts (iq_RX9 _) hown hK hP 0 rfl rfl 1 (by decide) (hT _ qq_1_37) (fun _ h9 => h9) rfl dX9_append_8 ?_
  refine lv_sipush (v := 400) hx hb dX9_append_11 (by decide) ?_
  refine lv_icmp_ge (tgt := 44) hx hb dX9_append_14 (by decide) (fun c_12 => absurd c_12 (by decide)) (fun _ => ?_)
  refine lv_aload_n hx hb dX9_append_17 rfl (lv_at hl 1 rfl) ?_
  refine va_get (D := D) (ci := 7) (v := .ref hs) (C := "WrongHole$Text") (T := TX9) (N := 8) hx hb hts (iq_RX9 _) hown hK hP 0 rfl rfl 0 (by decide) (hT _ qq_1_36) (fun _ h9 => h9) rfl dX9_append_18 ?_
  refine lv_aload_n hx hb dX9_append_21 rfl (lv_at hl 1 rfl) ?_
  refine va_get (D := D) (ci := 7) (v := .int 13) (C := "WrongHole$Text") (T := TX9) (N := 8) hx hb hts (iq_RX9 _) hown hK hP 0 rfl rfl 1 (by decide) (hT _ qq_1_37) (fun _ h9 => h9) rfl dX9_append_22 ?_
  refine lv_iload_n hx hb dX9_append_25 rfl (lv_at hl 2 rfl) ?_
  refine lv_iload_n hx hb dX9_append_26 rfl (lv_at hl 0 rfl) ?_
  refine lv_ishr hx hb dX9_append_27 ?_
  refine lv_topi (fun x_13 e_14 => ?_)
  refine lv_sipush (v := 255) hx hb dX9_append_28 (by decide) ?_
  refine lv_iand hx hb dX9_append_31 ?_
  refine lv_topi (fun x_15 e_16 => ?_)
  obtain ⟨x_17, e_18⟩ : ∃ z : Int32, (Int32.toUInt32 x_15 % 65536).toInt32 = z := ⟨_, rfl⟩
  refine lv_i2c (v := x_17) hx hb dX9_append_32 e_18 ?_
  refine va_cast hx hb hK hP hD hS 1 0 rfl rfl (vi_c rfl) dX9_append_33 (fun H locs hP hD hS => ?_)
  have hP : va_P D vwCl [(ht, .inr (7, [.ref hs, .int 13, .int 0, .int 0, .int 0, .int 0, .int 0, .int 0])), (hs, .inl (cS, 400, .inl (upd g_9 13 (vp_nar .char x_17))))] H := hP
  have hD : va_D A [(ht, .inr (7, [.ref hs, .int 13, .int 0, .int 0, .int 0, .int 0, .int 0, .int 0])), (hs, .inl (cS, 400, .inl (upd g_9 13 (vp_nar .char x_17))))] := hD
  generalize upd g_9 13 (vp_nar .char x_17) = g_19 at hP hD
  refine lv_aload_n hx hb dX9_append_34 rfl (lv_at hl 1 rfl) ?_
  refine lv_dup hx hb dX9_append_35 rfl ?_
  refine va_get (D := D) (ci := 7) (v := .int 13) (C := "WrongHole$Text") (T := TX9) (N := 8) hx hb hts (iq_RX9 _) hown hK hP 0 rfl rfl 1 (by decide) (hT _ qq_1_37) (fun _ h9 => h9) rfl dX9_append_36 ?_
  refine lv_iconst (v := 1) hx hb dX9_append_39 (by decide) ?_
  refine lv_iadd hx hb dX9_append_40 ?_
  refine tc_i 14 (by decide) ?_
  refine va_put (D := D) (ci := 7) (v := .int 14) (ty := .int) (C := "WrongHole$Text") (T := TX9) (N := 8) hx hb hts (iq_RX9 _) tyX9 tyX9_ok nmX9 hown hK hP hD hS 0 rfl rfl 1 (by decide) (hT _ qq_1_37) (fun _ h9 => h9) rfl (by decide +kernel) rfl rfl (Nat.le_of_ble_eq_true rfl) dX9_append_41 (fun H locs hP hD hS => ?_)
  have hP : va_P D vwCl [(ht, .inr (7, [.ref hs, .int 14, .int 0, .int 0, .int 0, .int 0, .int 0, .int 0])), (hs, .inl (cS, 400, .inl g_19))] H := hP
  have hD : va_D A [(ht, .inr (7, [.ref hs, .int 14, .int 0, .int 0, .int 0, .int 0, .int 0, .int 0])), (hs, .inl (cS, 400, .inl g_19))] := hD
  refine lv_iinc (v := 8) (lv' := [(2, .int 8), (0, .ref ht), (1, .int v)]) hx hb dX9_append_44 hl (k := 0) rfl (by decide) (by decide) rfl (fun ls hl => ?_)
  refine lv_goto (tgt := 3) hx hb dX9_append_47 (by decide) ?_
  refine lv_iload_n hx hb dX9_append_3 rfl (lv_at hl 0 rfl) ?_
  refine lv_if_lt (tgt := 50) hx hb dX9_append_4 (by decide) (fun c_21 => absurd c_21 (by decide)) (fun _ => ?_)
  refine lv_aload_n hx hb dX9_append_7 rfl (lv_at hl 1 rfl) ?_
  refine va_get (D := D) (ci := 7) (v := .int 14) (C := "WrongHole$Text") (T := TX9) (N := 8) hx hb hts (iq_RX9 _) hown hK hP 0 rfl rfl 1 (by decide) (hT _ qq_1_37) (fun _ h9 => h9) rfl dX9_append_8 ?_
  refine lv_sipush (v := 400) hx hb dX9_append_11 (by decide) ?_
  refine lv_icmp_ge (tgt := 44) hx hb dX9_append_14 (by decide) (fun c_22 => absurd c_22 (by decide)) (fun _ => ?_)
  refine lv_aload_n hx hb dX9_append_17 rfl (lv_at hl 1 rfl) ?_
  refine va_get (D := D) (ci := 7) (v := .ref hs) (C := "WrongHole$Text") (T := TX9) (N := 8) hx hb hts (iq_RX9 _) hown hK hP 0 rfl rfl 0 (by decide) (hT _ qq_1_36) (fun _ h9 => h9) rfl dX9_append_18 ?_
  refine lv_aload_n hx hb dX9_append_21 rfl (lv_at hl 1 rfl) ?_
  refine va_get (D := D) (ci := 7) (v := .int 14) (C := "WrongHole$Text") (T := TX9) (N := 8) hx hb hts (iq_RX9 _) hown hK hP 0 rfl rfl 1 (by decide) (hT _ qq_1_37) (fun _ h9 => h9) rfl dX9_append_22 ?_
  refine lv_iload_n hx hb dX9_append_25 rfl (lv_at hl 2 rfl) ?_
  refine lv_iload_n hx hb dX9_append_26 rfl (lv_at hl 0 rfl) ?_
  refine lv_ishr hx hb dX9_append_27 ?_
  refine lv_topi (fun x_23 e_24 => ?_)
  refine lv_sipush (v := 255) hx hb dX9_append_28 (by decide) ?_
  refine lv_iand hx hb dX9_append_31 ?_
  refine lv_topi (fun x_25 e_26 => ?_)
  obtain ⟨x_27, e_28⟩ : ∃ z : Int32, (Int32.toUInt32 x_25 % 65536).toInt32 = z := ⟨_, rfl⟩
  refine lv_i2c (v := x_27) hx hb dX9_append_32 e_28 ?_
  refine va_cast hx hb hK hP hD hS 1 0 rfl rfl (vi_c rfl) dX9_append_33 (fun H locs hP hD hS => ?_)
  have hP : va_P D vwCl [(ht, .inr (7, [.ref hs, .int 14, .int 0, .int 0, .int 0, .int 0, .int 0, .int 0])), (hs, .inl (cS, 400, .inl (upd g_19 14 (vp_nar .char x_27))))] H := hP
  have hD : va_D A [(ht, .inr (7, [.ref hs, .int 14, .int 0, .int 0, .int 0, .int 0, .int 0, .int 0])), (hs, .inl (cS, 400, .inl (upd g_19 14 (vp_nar .char x_27))))] := hD
  generalize upd g_19 14 (vp_nar .char x_27) = g_29 at hP hD
  refine lv_aload_n hx hb dX9_append_34 rfl (lv_at hl 1 rfl) ?_
  refine lv_dup hx hb dX9_append_35 rfl ?_
  refine va_get (D := D) (ci := 7) (v := .int 14) (C := "WrongHole$Text") (T := TX9) (N := 8) hx hb hts (iq_RX9 _) hown hK hP 0 rfl rfl 1 (by decide) (hT _ qq_1_37) (fun _ h9 => h9) rfl dX9_append_36 ?_
  refine lv_iconst (v := 1) hx hb dX9_append_39 (by decide) ?_
  refine lv_iadd hx hb dX9_append_40 ?_
  refine tc_i 15 (by decide) ?_
  refine va_put (D := D) (ci := 7) (v := .int 15) (ty := .int) (C := "WrongHole$Text") (T := TX9) (N := 8) hx hb hts (iq_RX9 _) tyX9 tyX9_ok nmX9 hown hK hP hD hS 0 rfl rfl 1 (by decide) (hT _ qq_1_37) (fun _ h9 => h9) rfl (by decide +kernel) rfl rfl (Nat.le_of_ble_eq_true rfl) dX9_append_41 (fun H locs hP hD hS => ?_)
  have hP : va_P D vwCl [(ht, .inr (7, [.ref hs, .int 15, .int 0, .int 0, .int 0, .int 0, .int 0, .int 0])), (hs, .inl (cS, 400, .inl g_29))] H := hP
  have hD : va_D A [(ht, .inr (7, [.ref hs, .int 15, .int 0, .int 0, .int 0, .int 0, .int 0, .int 0])), (hs, .inl (cS, 400, .inl g_29))] := hD
  refine lv_iinc (v := 0) (lv' := [(2, .int 0), (0, .ref ht), (1, .int v)]) hx hb dX9_append_44 hl (k := 0) rfl (by decide) (by decide) rfl (fun ls hl => ?_)
  refine lv_goto (tgt := 3) hx hb dX9_append_47 (by decide) ?_
  refine lv_iload_n hx hb dX9_append_3 rfl (lv_at hl 0 rfl) ?_
  refine lv_if_lt (tgt := 50) hx hb dX9_append_4 (by decide) (fun c_31 => absurd c_31 (by decide)) (fun _ => ?_)
  refine lv_aload_n hx hb dX9_append_7 rfl (lv_at hl 1 rfl) ?_
  refine va_get (D := D) (ci := 7) (v := .int 15) (C := "WrongHole$Text") (T := TX9) (N := 8) hx hb hts (iq_RX9 _) hown hK hP 0 rfl rfl 1 (by decide) (hT _ qq_1_37) (fun _ h9 => h9) rfl dX9_append_8 ?_
  refine lv_sipush (v := 400) hx hb dX9_append_11 (by decide) ?_
  refine lv_icmp_ge (tgt := 44) hx hb dX9_append_14 (by decide) (fun c_32 => absurd c_32 (by decide)) (fun _ => ?_)
  refine lv_aload_n hx hb dX9_append_17 rfl (lv_at hl 1 rfl) ?_
  refine va_get (D := D) (ci := 7) (v := .ref hs) (C := "WrongHole$Text") (T := TX9) (N := 8) hx hb hts (iq_RX9 _) hown hK hP 0 rfl rfl 0 (by decide) (hT _ qq_1_36) (fun _ h9 => h9) rfl dX9_append_18 ?_
  refine lv_aload_n hx hb dX9_append_21 rfl (lv_at hl 1 rfl) ?_
  refine va_get (D := D) (ci := 7) (v := .int 15) (C := "WrongHole$Text") (T := TX9) (N := 8) hx hb hts (iq_RX9 _) hown hK hP 0 rfl rfl 1 (by decide) (hT _ qq_1_37) (fun _ h9 => h9) rfl dX9_append_22 ?_
  refine lv_iload_n hx hb dX9_append_25 rfl (lv_at hl 2 rfl) ?_
  refine lv_iload_n hx hb dX9_append_26 rfl (lv_at hl 0 rfl) ?_
  refine lv_ishr hx hb dX9_append_27 ?_
  refine lv_topi (fun x_33 e_34 => ?_)
  refine lv_sipush (v := 255) hx hb dX9_append_28 (by decide) ?_
  refine lv_iand hx hb dX9_append_31 ?_
  refine lv_topi (fun x_35 e_36 => ?_)
  obtain ⟨x_37, e_38⟩ : ∃ z : Int32, (Int32.toUInt32 x_35 % 65536).toInt32 = z := ⟨_, rfl⟩
  refine lv_i2c (v := x_37) hx hb dX9_append_32 e_38 ?_
  refine va_cast hx hb hK hP hD hS 1 0 rfl rfl (vi_c rfl) dX9_append_33 (fun H locs hP hD hS => ?_)
  have hP : va_P D vwCl [(ht, .inr (7, [.ref hs, .int 15, .int 0, .int 0, .int 0, .int 0, .int 0, .int 0])), (hs, .inl (cS, 400, .inl (upd g_29 15 (vp_nar .char x_37))))] H := hP
  have hD : va_D A [(ht, .inr (7, [.ref hs, .int 15, .int 0, .int 0, .int 0, .int 0, .int 0, .int 0])), (hs, .inl (cS, 400, .inl (upd g_29 15 (vp_nar .char x_37))))] := hD
  generalize upd g_29 15 (vp_nar .char x_37) = g_39 at hP hD
  refine lv_aload_n hx hb dX9_append_34 rfl (lv_at hl 1 rfl) ?_
  refine lv_dup hx hb dX9_append_35 rfl ?_
  refine va_get (D := D) (ci := 7) (v := .int 15) (C := "WrongHole$Text") (T := TX9) (N := 8) hx hb hts (iq_RX9 _) hown hK hP 0 rfl rfl 1 (by decide) (hT _ qq_1_37) (fun _ h9 => h9) rfl dX9_append_36 ?_
  refine lv_iconst (v := 1) hx hb dX9_append_39 (by decide) ?_
  refine lv_iadd hx hb dX9_append_40 ?_
  refine tc_i 16 (by decide) ?_
  refine va_put (D := D) (ci := 7) (v := .int 16) (ty := .int) (C := "WrongHole$Text") (T := TX9) (N := 8) hx hb hts (iq_RX9 _) tyX9 tyX9_ok nmX9 hown hK hP hD hS 0 rfl rfl 1 (by decide) (hT _ qq_1_37) (fun _ h9 => h9) rfl (by decide +kernel) rfl rfl (Nat.le_of_ble_eq_true rfl) dX9_append_41 (fun H locs hP hD hS => ?_)
  have hP : va_P D vwCl [(ht, .inr (7, [.ref hs, .int 16, .int 0, .int 0, .int 0, .int 0, .int 0, .int 0])), (hs, .inl (cS, 400, .inl g_39))] H := hP
  have hD : va_D A [(ht, .inr (7, [.ref hs, .int 16, .int 0, .int 0, .int 0, .int 0, .int 0, .int 0])), (hs, .inl (cS, 400, .inl g_39))] := hD
  refine lv_iinc (v := (-8)) (lv' := [(2, .int (-8)), (0, .ref ht), (1, .int v)]) hx hb dX9_append_44 hl (k := 0) rfl (by decide) (by decide) rfl (fun ls hl => ?_)
  refine lv_goto (tgt := 3) hx hb dX9_append_47 (by decide) ?_
  refine lv_iload_n hx hb dX9_append_3 rfl (lv_at hl 0 rfl) ?_
  refine lv_if_lt (tgt := 50) hx hb dX9_append_4 (by decide) (fun _ => ?_) (fun c_41 => absurd (by decide) c_41)
  refine W.widen (k := 0) (n := 0) (Nat.le_of_ble_eq_true rfl) (Nat.le_of_ble_eq_true rfl) ?_
  have hP9 := hP.sub (ws' := [(ht, .inr (7, [.ref hs, .int 16, .int 0, .int 0, .int 0, .int 0, .int 0, .int 0])), (hs, .inl (cS, 400, .inl g_39))]) [0, 1] rfl
  have hD9 := hD.sub (ws' := [(ht, .inr (7, [.ref hs, .int 16, .int 0, .int 0, .int 0, .int 0, .int 0, .int 0])), (hs, .inl (cS, 400, .inl g_39))]) [0, 1] (by decide) rfl
  have hK9 := hK.sub (tys' := [(cS, .char)]) [0] rfl
  exact W.vret hx hb hr (fun t9 ht9 hW9 => ⟨⟨(), rfl, trivial, ⟨g_39, by rw [ht9]; exact hP9, va_K.moved hW9.alike hK9, hD9⟩⟩, hS.F ht9⟩) hS.2.2 dX9_append_50
set_option maxHeartbeats 4000000 in
set_option maxRecDepth 100000 in
theorem c_append_16 (l : Launch) (D : va_G) (ad : Nat → Nat) (sz : Nat) (ht : Nat) (hs : Nat) (cS : ClassId) (f : Nat → Int32) (v : Int32)  : Met l yX9_append (Cond.code yX9_append cX9_append 3 none :: TB) (RM 0 0 0) (va_Pc [.ref ht, .int v] (PRE D ad [(ht, .inr (7, [.ref hs, .int 16, .int 0, .int 0, .int 0, .int 0, .int 0, .int 0])), (hs, .inl (cS, 400, .inl f))] [(cS, .char)] sz)) (va_Qv (S := Unit) (fun _ => True) (fun _ t => ∃ (g : Nat → Int32), va_P D vwCl [(ht, .inr (7, [.ref hs, .int 20, .int 0, .int 0, .int 0, .int 0, .int 0, .int 0])), (hs, .inl (cS, 400, .inl g))] t.heap ∧ va_K D vwCl [(cS, .char)] t ∧ va_D (va_A [(ht, .inr (7, [.ref hs, .int 16, .int 0, .int 0, .int 0, .int 0, .int 0, .int 0])), (hs, .inl (cS, 400, .inl f))] sz) [(ht, .inr (7, [.ref hs, .int 20, .int 0, .int 0, .int 0, .int 0, .int 0, .int 0])), (hs, .inl (cS, 400, .inl g))]) (va_A [(ht, .inr (7, [.ref hs, .int 16, .int 0, .int 0, .int 0, .int 0, .int 0, .int 0])), (hs, .inl (cS, 400, .inl f))] sz)) 0 0 (va_A [(ht, .inr (7, [.ref hs, .int 16, .int 0, .int 0, .int 0, .int 0, .int 0, .int 0])), (hs, .inl (cS, 400, .inl f))] sz) := by
  refine MET (y := yX9_append) (cc := cX9_append) (maxL := 3) (ret := none) (d := 0) (mc := 0) (ms := 0) (D := D) (ad := ad) (ws := [(ht, .inr (7, [.ref hs, .int 16, .int 0, .int 0, .int 0, .int 0, .int 0, .int 0])), (hs, .inl (cS, 400, .inl f))]) (tys := [(cS, .char)]) (sz := sz) (av := [.ref ht, .int v]) (Qc := fun A => va_Qv (S := Unit) (fun _ => True) (fun _ t => ∃ (g : Nat → Int32), va_P D vwCl [(ht, .inr (7, [.ref hs, .int 20, .int 0, .int 0, .int 0, .int 0, .int 0, .int 0])), (hs, .inl (cS, 400, .inl g))] t.heap ∧ va_K D vwCl [(cS, .char)] t ∧ va_D A [(ht, .inr (7, [.ref hs, .int 20, .int 0, .int 0, .int 0, .int 0, .int 0, .int 0])), (hs, .inl (cS, 400, .inl g))]) A) (fr := fun A => A) (by decide) (Nat.le_of_ble_eq_true rfl) ?_
  intro p e s m below meth c ls A H hHe hx hb hr hml hown hts hlocks hnm hP hK hD hA hS hN hl
  have hown : s.vm.findClass "WrongHole$Text" = some m.cls := hown
  have hT : ∀ w ∈ TB, w.before ([.ref ht, .int v] : List Value).toArray s = true := fun w h => hts w (List.mem_cons_of_mem _ h)
  have hl : lv_has ls 3 [(0, .ref ht), (1, .int v)] := hl
  have hP : va_P D vwCl [(ht, .inr (7, [.ref hs, .int 16, .int 0, .int 0, .int 0, .int 0, .int 0, .int 0])), (hs, .inl (cS, 400, .inl f))] H := hP
  refine lv_bipush (v := 24) hx hb dX9_append_0 (by decide) ?_
  refine lv_istore_n (lv' := [(2, .int 24), (0, .ref ht), (1, .int v)]) hx hb dX9_append_2 rfl hl (by decide) rfl (fun ls hl => ?_)
  refine lv_iload_n hx hb dX9_append_3 rfl (lv_at hl 0 rfl) ?_
  refine lv_if_lt (tgt := 50) hx hb dX9_append_4 (by decide) (fun c_1 => absurd c_1 (by decide)) (fun _ => ?_)
  refine lv_aload_n hx hb dX9_append_7 rfl (lv_at hl 1 rfl) ?_
  refine va_get (D := D) (ci := 7) (v := .int 16) (C := "WrongHole$Text") (T := TX9) (N := 8) hx hb hts (iq_RX9 _) hown hK hP 0 rfl rfl 1 (by decide) (hT _ qq_1_37) (fun _ h9 => h9) rfl dX9_append_8 ?_
  refine lv_sipush (v := 400) hx hb dX9_append_11 (by decide) ?_
  refine lv_icmp_ge (tgt := 44) hx hb dX9_append_14 (by decide) (fun c_2 => absurd c_2 (by decide)) (fun _ => ?_)
  refine lv_aload_n hx hb dX9_append_17 rfl (lv_at hl 1 rfl) ?_
  refine va_get (D := D) (ci := 7) (v := .ref hs) (C := "WrongHole$Text") (T := TX9) (N := 8) hx hb hts (iq_RX9 _) hown hK hP 0 rfl rfl 0 (by decide) (hT _ qq_1_36) (fun _ h9 => h9) rfl dX9_append_18 ?_
  refine lv_aload_n hx hb dX9_append_21 rfl (lv_at hl 1 rfl) ?_
  refine va_get (D := D) (ci := 7) (v := .int 16) (C := "WrongHole$Text") (T := TX9) (N := 8) hx hb hts (iq_RX9 _) hown hK hP 0 rfl rfl 1 (by decide) (hT _ qq_1_37) (fun _ h9 => h9) rfl dX9_append_22 ?_
  refine lv_iload_n hx hb dX9_append_25 rfl (lv_at hl 2 rfl) ?_
  refine lv_iload_n hx hb dX9_append_26 rfl (lv_at hl 0 rfl) ?_
  refine lv_ishr hx hb dX9_append_27 ?_
  refine lv_topi (fun x_3 e_4 => ?_)
  refine lv_sipush (v := 255) hx hb dX9_append_28 (by decide) ?_
  refine lv_iand hx hb dX9_append_31 ?_
  refine lv_topi (fun x_5 e_6 => ?_)
  obtain ⟨x_7, e_8⟩ : ∃ z : Int32, (Int32.toUInt32 x_5 % 65536).toInt32 = z := ⟨_, rfl⟩
  refine lv_i2c (v := x_7) hx hb dX9_append_32 e_8 ?_
  refine va_cast hx hb hK hP hD hS 1 0 rfl rfl (vi_c rfl) dX9_append_33 (fun H locs hP hD hS => ?_)
  have hP : va_P D vwCl [(ht, .inr (7, [.ref hs, .int 16, .int 0, .int 0, .int 0, .int 0, .int 0, .int 0])), (hs, .inl (cS, 400, .inl (upd f 16 (vp_nar .char x_7))))] H := hP
  have hD : va_D A [(ht, .inr (7, [.ref hs, .int 16, .int 0, .int 0, .int 0, .int 0, .int 0, .int 0])), (hs, .inl (cS, 400, .inl (upd f 16 (vp_nar .char x_7))))] := hD
  generalize upd f 16 (vp_nar .char x_7) = g_9 at hP hD
  refine lv_aload_n hx hb dX9_append_34 rfl (lv_at hl 1 rfl) ?_
  refine lv_dup hx hb dX9_append_35 rfl ?_
  refine va_get (D := D) (ci := 7) (v := .int 16) (C := "WrongHole$Text") (T := TX9) (N := 8) hx hb hts (iq_RX9 _) hown hK hP 0 rfl rfl 1 (by decide) (hT _ qq_1_37) (fun _ h9 => h9) rfl dX9_append_36 ?_
  refine lv_iconst (v := 1) hx hb dX9_append_39 (by decide) ?_
  refine lv_iadd hx hb dX9_append_40 ?_
  refine tc_i 17 (by decide) ?_
  refine va_put (D := D) (ci := 7) (v := .int 17) (ty := .int) (C := "WrongHole$Text") (T := TX9) (N := 8) hx hb hts (iq_RX9 _) tyX9 tyX9_ok nmX9 hown hK hP hD hS 0 rfl rfl 1 (by decide) (hT _ qq_1_37) (fun _ h9 => h9) rfl (by decide +kernel) rfl rfl (Nat.le_of_ble_eq_true rfl) dX9_append_41 (fun H locs hP hD hS => ?_)
  have hP : va_P D vwCl [(ht, .inr (7, [.ref hs, .int 17, .int 0, .int 0, .int 0, .int 0, .int 0, .int 0])), (hs, .inl (cS, 400, .inl g_9))] H := hP
  have hD : va_D A [(ht, .inr (7, [.ref hs, .int 17, .int 0, .int 0, .int 0, .int 0, .int 0, .int 0])), (hs, .inl (cS, 400, .inl g_9))] := hD
  refine lv_iinc (v := 16) (lv' := [(2, .int 16), (0, .ref ht), (1, .int v)]) hx hb dX9_append_44 hl (k := 0) rfl (by decide) (by decide) rfl (fun ls hl => ?_)
  refine lv_goto (tgt := 3) hx hb dX9_append_47 (by decide) ?_
  refine lv_iload_n hx hb dX9_append_3 rfl (lv_at hl 0 rfl) ?_
  refine lv_if_lt (tgt := 50) hx hb dX9_append_4 (by decide) (fun c_11 => absurd c_11 (by decide)) (fun _ => ?_)
  refine lv_aload_n hx hb dX9_append_7 rfl (lv_at hl 1 rfl) ?_
  refine va_get (D := D) (ci := 7) (v := .int 17) (C := "WrongHole$Text") (T := TX9) (N := 8) hx hb hts (iq_RX9 _) hown hK hP 0 rfl rfl 1 (by decide) (hT _ qq_1_37) (fun _ h9 => h9) rfl dX9_append_8 ?_
  refine lv_sipush (v := 400) hx hb dX9_append_11 (by decide) ?_
  refine lv_icmp_ge (tgt := 44) hx hb dX9_append_14 (by decide) (fun c_12 => absurd c_12 (by decide)) (fun _ => ?_)
  refine lv_aload_n hx hb dX9_append_17 rfl (lv_at hl 1 rfl) ?_
  refine va_get (D := D) (ci := 7) (v := .ref hs) (C := "WrongHole$Text") (T := TX9) (N := 8) hx hb hts (iq_RX9 _) hown hK hP 0 rfl rfl 0 (by decide) (hT _ qq_1_36) (fun _ h9 => h9) rfl dX9_append_18 ?_
  refine lv_aload_n hx hb dX9_append_21 rfl (lv_at hl 1 rfl) ?_
  refine va_get (D := D) (ci := 7) (v := .int 17) (C := "WrongHole$Text") (T := TX9) (N := 8) hx hb hts (iq_RX9 _) hown hK hP 0 rfl rfl 1 (by decide) (hT _ qq_1_37) (fun _ h9 => h9) rfl dX9_append_22 ?_
  refine lv_iload_n hx hb dX9_append_25 rfl (lv_at hl 2 rfl) ?_
  refine lv_iload_n hx hb dX9_append_26 rfl (lv_at hl 0 rfl) ?_
  refine lv_ishr hx hb dX9_append_27 ?_
  refine lv_topi (fun x_13 e_14 => ?_)
  refine lv_sipush (v := 255) hx hb dX9_append_28 (by decide) ?_
  refine lv_iand hx hb dX9_append_31 ?_
  refine lv_topi (fun x_15 e_16 => ?_)
  obtain ⟨x_17, e_18⟩ : ∃ z : Int32, (Int32.toUInt32 x_15 % 65536).toInt32 = z := ⟨_, rfl⟩
  refine lv_i2c (v := x_17) hx hb dX9_append_32 e_18 ?_
  refine va_cast hx hb hK hP hD hS 1 0 rfl rfl (vi_c rfl) dX9_append_33 (fun H locs hP hD hS => ?_)
  have hP : va_P D vwCl [(ht, .inr (7, [.ref hs, .int 17, .int 0, .int 0, .int 0, .int 0, .int 0, .int 0])), (hs, .inl (cS, 400, .inl (upd g_9 17 (vp_nar .char x_17))))] H := hP
  have hD : va_D A [(ht, .inr (7, [.ref hs, .int 17, .int 0, .int 0, .int 0, .int 0, .int 0, .int 0])), (hs, .inl (cS, 400, .inl (upd g_9 17 (vp_nar .char x_17))))] := hD
  generalize upd g_9 17 (vp_nar .char x_17) = g_19 at hP hD
  refine lv_aload_n hx hb dX9_append_34 rfl (lv_at hl 1 rfl) ?_
  refine lv_dup hx hb dX9_append_35 rfl ?_
  refine va_get (D := D) (ci := 7) (v := .int 17) (C := "WrongHole$Text") (T := TX9) (N := 8) hx hb hts (iq_RX9 _) hown hK hP 0 rfl rfl 1 (by decide) (hT _ qq_1_37) (fun _ h9 => h9) rfl dX9_append_36 ?_
  refine lv_iconst (v := 1) hx hb dX9_append_39 (by decide) ?_
  refine lv_iadd hx hb dX9_append_40 ?_
  refine tc_i 18 (by decide) ?_
  refine va_put (D := D) (ci := 7) (v := .int 18) (ty := .int) (C := "WrongHole$Text") (T := TX9) (N := 8) hx hb hts (iq_RX9 _) tyX9 tyX9_ok nmX9 hown hK hP hD hS 0 rfl rfl 1 (by decide) (hT _ qq_1_37) (fun _ h9 => h9) rfl (by decide +kernel) rfl rfl (Nat.le_of_ble_eq_true rfl) dX9_append_41 (fun H locs hP hD hS => ?_)
  have hP : va_P D vwCl [(ht, .inr (7, [.ref hs, .int 18, .int 0, .int 0, .int 0, .int 0, .int 0, .int 0])), (hs, .inl (cS, 400, .inl g_19))] H := hP
  have hD : va_D A [(ht, .inr (7, [.ref hs, .int 18, .int 0, .int 0, .int 0, .int 0, .int 0, .int 0])), (hs, .inl (cS, 400, .inl g_19))] := hD
  refine lv_iinc (v := 8) (lv' := [(2, .int 8), (0, .ref ht), (1, .int v)]) hx hb dX9_append_44 hl (k := 0) rfl (by decide) (by decide) rfl (fun ls hl => ?_)
  refine lv_goto (tgt := 3) hx hb dX9_append_47 (by decide) ?_
  refine lv_iload_n hx hb dX9_append_3 rfl (lv_at hl 0 rfl) ?_
  refine lv_if_lt (tgt := 50) hx hb dX9_append_4 (by decide) (fun c_21 => absurd c_21 (by decide)) (fun _ => ?_)
  refine lv_aload_n hx hb dX9_append_7 rfl (lv_at hl 1 rfl) ?_
  refine va_get (D := D) (ci := 7) (v := .int 18) (C := "WrongHole$Text") (T := TX9) (N := 8) hx hb hts (iq_RX9 _) hown hK hP 0 rfl rfl 1 (by decide) (hT _ qq_1_37) (fun _ h9 => h9) rfl dX9_append_8 ?_
  refine lv_sipush (v := 400) hx hb dX9_append_11 (by decide) ?_
  refine lv_icmp_ge (tgt := 44) hx hb dX9_append_14 (by decide) (fun c_22 => absurd c_22 (by decide)) (fun _ => ?_)
  refine lv_aload_n hx hb dX9_append_17 rfl (lv_at hl 1 rfl) ?_
  refine va_get (D := D) (ci := 7) (v := .ref hs) (C := "WrongHole$Text") (T := TX9) (N := 8) hx hb hts (iq_RX9 _) hown hK hP 0 rfl rfl 0 (by decide) (hT _ qq_1_36) (fun _ h9 => h9) rfl dX9_append_18 ?_
  refine lv_aload_n hx hb dX9_append_21 rfl (lv_at hl 1 rfl) ?_
  refine va_get (D := D) (ci := 7) (v := .int 18) (C := "WrongHole$Text") (T := TX9) (N := 8) hx hb hts (iq_RX9 _) hown hK hP 0 rfl rfl 1 (by decide) (hT _ qq_1_37) (fun _ h9 => h9) rfl dX9_append_22 ?_
  refine lv_iload_n hx hb dX9_append_25 rfl (lv_at hl 2 rfl) ?_
  refine lv_iload_n hx hb dX9_append_26 rfl (lv_at hl 0 rfl) ?_
  refine lv_ishr hx hb dX9_append_27 ?_
  refine lv_topi (fun x_23 e_24 => ?_)
  refine lv_sipush (v := 255) hx hb dX9_append_28 (by decide) ?_
  refine lv_iand hx hb dX9_append_31 ?_
  refine lv_topi (fun x_25 e_26 => ?_)
  obtain ⟨x_27, e_28⟩ : ∃ z : Int32, (Int32.toUInt32 x_25 % 65536).toInt32 = z := ⟨_, rfl⟩
  refine lv_i2c (v := x_27) hx hb dX9_append_32 e_28 ?_
  refine va_cast hx hb hK hP hD hS 1 0 rfl rfl (vi_c rfl) dX9_append_33 (fun H locs hP hD hS => ?_)
  have hP : va_P D vwCl [(ht, .inr (7, [.ref hs, .int 18, .int 0, .int 0, .int 0, .int 0, .int 0, .int 0])), (hs, .inl (cS, 400, .inl (upd g_19 18 (vp_nar .char x_27))))] H := hP
  have hD : va_D A [(ht, .inr (7, [.ref hs, .int 18, .int 0, .int 0, .int 0, .int 0, .int 0, .int 0])), (hs, .inl (cS, 400, .inl (upd g_19 18 (vp_nar .char x_27))))] := hD
  generalize upd g_19 18 (vp_nar .char x_27) = g_29 at hP hD
  refine lv_aload_n hx hb dX9_append_34 rfl (lv_at hl 1 rfl) ?_
  refine lv_dup hx hb dX9_append_35 rfl ?_
  refine va_get (D := D) (ci := 7) (v := .int 18) (C := "WrongHole$Text") (T := TX9) (N := 8) hx hb hts (iq_RX9 _) hown hK hP 0 rfl rfl 1 (by decide) (hT _ qq_1_37) (fun _ h9 => h9) rfl dX9_append_36 ?_
  refine lv_iconst (v := 1) hx hb dX9_append_39 (by decide) ?_
  refine lv_iadd hx hb dX9_append_40 ?_
  refine tc_i 19 (by decide) ?_
  refine va_put (D := D) (ci := 7) (v := .int 19) (ty := .int) (C := "WrongHole$Text") (T := TX9) (N := 8) hx hb hts (iq_RX9 _) tyX9 tyX9_ok nmX9 hown hK hP hD hS 0 rfl rfl 1 (by decide) (hT _ qq_1_37) (fun _ h9 => h9) rfl (by decide +kernel) rfl rfl (Nat.le_of_ble_eq_true rfl) dX9_append_41 (fun H locs hP hD hS => ?_)
  have hP : va_P D vwCl [(ht, .inr (7, [.ref hs, .int 19, .int 0, .int 0, .int 0, .int 0, .int 0, .int 0])), (hs, .inl (cS, 400, .inl g_29))] H := hP
  have hD : va_D A [(ht, .inr (7, [.ref hs, .int 19, .int 0, .int 0, .int 0, .int 0, .int 0, .int 0])), (hs, .inl (cS, 400, .inl g_29))] := hD
  refine lv_iinc (v := 0) (lv' := [(2, .int 0), (0, .ref ht), (1, .int v)]) hx hb dX9_append_44 hl (k := 0) rfl (by decide) (by decide) rfl (fun ls hl => ?_)
  refine lv_goto (tgt := 3) hx hb dX9_append_47 (by decide) ?_
  refine lv_iload_n hx hb dX9_append_3 rfl (lv_at hl 0 rfl) ?_
  refine lv_if_lt (tgt := 50) hx hb dX9_append_4 (by decide) (fun c_31 => absurd c_31 (by decide)) (fun _ => ?_)
  refine lv_aload_n hx hb dX9_append_7 rfl (lv_at hl 1 rfl) ?_
  refine va_get (D := D) (ci := 7) (v := .int 19) (C := "WrongHole$Text") (T := TX9) (N := 8) hx hb hts (iq_RX9 _) hown hK hP 0 rfl rfl 1 (by decide) (hT _ qq_1_37) (fun _ h9 => h9) rfl dX9_append_8 ?_
  refine lv_sipush (v := 400) hx hb dX9_append_11 (by decide) ?_
  refine lv_icmp_ge (tgt := 44) hx hb dX9_append_14 (by decide) (fun c_32 => absurd c_32 (by decide)) (fun _ => ?_)
  refine lv_aload_n hx hb dX9_append_17 rfl (lv_at hl 1 rfl) ?_
  refine va_get (D := D) (ci := 7) (v := .ref hs) (C := "WrongHole$Text") (T := TX9) (N := 8) hx hb hts (iq_RX9 _) hown hK hP 0 rfl rfl 0 (by decide) (hT _ qq_1_36) (fun _ h9 => h9) rfl dX9_append_18 ?_
  refine lv_aload_n hx hb dX9_append_21 rfl (lv_at hl 1 rfl) ?_
  refine va_get (D := D) (ci := 7) (v := .int 19) (C := "WrongHole$Text") (T := TX9) (N := 8) hx hb hts (iq_RX9 _) hown hK hP 0 rfl rfl 1 (by decide) (hT _ qq_1_37) (fun _ h9 => h9) rfl dX9_append_22 ?_
  refine lv_iload_n hx hb dX9_append_25 rfl (lv_at hl 2 rfl) ?_
  refine lv_iload_n hx hb dX9_append_26 rfl (lv_at hl 0 rfl) ?_
  refine lv_ishr hx hb dX9_append_27 ?_
  refine lv_topi (fun x_33 e_34 => ?_)
  refine lv_sipush (v := 255) hx hb dX9_append_28 (by decide) ?_
  refine lv_iand hx hb dX9_append_31 ?_
  refine lv_topi (fun x_35 e_36 => ?_)
  obtain ⟨x_37, e_38⟩ : ∃ z : Int32, (Int32.toUInt32 x_35 % 65536).toInt32 = z := ⟨_, rfl⟩
  refine lv_i2c (v := x_37) hx hb dX9_append_32 e_38 ?_
  refine va_cast hx hb hK hP hD hS 1 0 rfl rfl (vi_c rfl) dX9_append_33 (fun H locs hP hD hS => ?_)
  have hP : va_P D vwCl [(ht, .inr (7, [.ref hs, .int 19, .int 0, .int 0, .int 0, .int 0, .int 0, .int 0])), (hs, .inl (cS, 400, .inl (upd g_29 19 (vp_nar .char x_37))))] H := hP
  have hD : va_D A [(ht, .inr (7, [.ref hs, .int 19, .int 0, .int 0, .int 0, .int 0, .int 0, .int 0])), (hs, .inl (cS, 400, .inl (upd g_29 19 (vp_nar .char x_37))))] := hD
  generalize upd g_29 19 (vp_nar .char x_37) = g_39 at hP hD
  refine lv_aload_n hx hb dX9_append_34 rfl (lv_at hl 1 rfl) ?_
  refine lv_dup hx hb dX9_append_35 rfl ?_
  refine va_get (D := D) (ci := 7) (v := .int 19) (C := "WrongHole$Text") (T := TX9) (N := 8) hx hb hts (iq_RX9 _) hown hK hP 0 rfl rfl 1 (by decide) (hT _ qq_1_37) (fun _ h9 => h9) rfl dX9_append_36 ?_
  refine lv_iconst (v := 1) hx hb dX9_append_39 (by decide) ?_
  refine lv_iadd hx hb dX9_append_40 ?_
  refine tc_i 20 (by decide) ?_
  refine va_put (D := D) (ci := 7) (v := .int 20) (ty := .int) (C := "WrongHole$Text") (T := TX9) (N := 8) hx hb hts (iq_RX9 _) tyX9 tyX9_ok nmX9 hown hK hP hD hS 0 rfl rfl 1 (by decide) (hT _ qq_1_37) (fun _ h9 => h9) rfl (by decide +kernel) rfl rfl (Nat.le_of_ble_eq_true rfl) dX9_append_41 (fun H locs hP hD hS => ?_)
  have hP : va_P D vwCl [(ht, .inr (7, [.ref hs, .int 20, .int 0, .int 0, .int 0, .int 0, .int 0, .int 0])), (hs, .inl (cS, 400, .inl g_39))] H := hP
  have hD : va_D A [(ht, .inr (7, [.ref hs, .int 20, .int 0, .int 0, .int 0, .int 0, .int 0, .int 0])), (hs, .inl (cS, 400, .inl g_39))] := hD
  refine lv_iinc (v := (-8)) (lv' := [(2, .int (-8)), (0, .ref ht), (1, .int v)]) hx hb dX9_append_44 hl (k := 0) rfl (by decide) (by decide) rfl (fun ls hl => ?_)
  refine lv_goto (tgt := 3) hx hb dX9_append_47 (by decide) ?_
  refine lv_iload_n hx hb dX9_append_3 rfl (lv_at hl 0 rfl) ?_
  refine lv_if_lt (tgt := 50) hx hb dX9_append_4 (by decide) (fun _ => ?_) (fun c_41 => absurd (by decide) c_41)
  refine W.widen (k := 0) (n := 0) (Nat.le_of_ble_eq_true rfl) (Nat.le_of_ble_eq_true rfl) ?_
  have hP9 := hP.sub (ws' := [(ht, .inr (7, [.ref hs, .int 20, .int 0, .int 0, .int 0, .int 0, .int 0, .int 0])), (hs, .inl (cS, 400, .inl g_39))]) [0, 1] rfl
  have hD9 := hD.sub (ws' := [(ht, .inr (7, [.ref hs, .int 20, .int 0, .int 0, .int 0, .int 0, .int 0, .int 0])), (hs, .inl (cS, 400, .inl g_39))]) [0, 1] (by decide) rfl
  have hK9 := hK.sub (tys' := [(cS, .char)]) [0] rfl
  exact W.vret hx hb hr (fun t9 ht9 hW9 => ⟨⟨(), rfl, trivial, ⟨g_39, by rw [ht9]; exact hP9, va_K.moved hW9.alike hK9, hD9⟩⟩, hS.F ht9⟩) hS.2.2 dX9_append_50
theorem dX11_feed_0 : decode cX11_feed 0 = .ok (.aload_n 0, 1) := by decide +kernel
theorem dX11_feed_1 : decode cX11_feed 1 = .ok (.getfield 10, 3) := by decide +kernel
theorem qq_1_202 : Cond.fieldLink "WrongHole" 10 "WrongHole" "tape" "LWrongHole$Text;" ∈ TB := mk_tb (ti_1 (List.mem_of_getElem? (i := 202) rfl)) rfl
theorem iq_RX11 (cd : Cond) : ∀ w ∈ u_ws RX11 TX11 12, w ∈ cd :: TB := by
  intro w hw
  obtain ⟨k, hk, rfl⟩ := List.mem_map.mp hw
  have hk := List.mem_range.mp hk
  refine List.mem_cons_of_mem _ ?_
  match k, hk with
  | 0, _ => exact mk_tb (ti_1 (List.mem_of_getElem? (i := 214) rfl)) rfl
  | 1, _ => exact mk_tb (ti_1 (List.mem_of_getElem? (i := 216) rfl)) rfl
  | 2, _ => exact mk_tb (ti_1 (List.mem_of_getElem? (i := 218) rfl)) rfl
  | 3, _ => exact mk_tb (ti_1 (List.mem_of_getElem? (i := 220) rfl)) rfl
  | 4, _ => exact mk_tb (ti_1 (List.mem_of_getElem? (i := 222) rfl)) rfl
  | 5, _ => exact mk_tb (ti_1 (List.mem_of_getElem? (i := 224) rfl)) rfl
  | 6, _ => exact mk_tb (ti_1 (List.mem_of_getElem? (i := 226) rfl)) rfl
  | 7, _ => exact mk_tb (ti_1 (List.mem_of_getElem? (i := 228) rfl)) rfl
  | 8, _ => exact mk_tb (ti_1 (List.mem_of_getElem? (i := 230) rfl)) rfl
  | 9, _ => exact mk_tb (ti_1 (List.mem_of_getElem? (i := 232) rfl)) rfl
  | 10, _ => exact mk_tb (ti_1 (List.mem_of_getElem? (i := 234) rfl)) rfl
  | 11, _ => exact mk_tb (ti_1 (List.mem_of_getElem? (i := 236) rfl)) rfl
  | n + 12, h => exact absurd h (by omega)
theorem dX11_feed_4 : decode cX11_feed 4 = .ok (.bipush 20, 2) := by decide +kernel
theorem dX11_feed_6 : decode cX11_feed 6 = .ok (.invokevirtual 65, 3) := by decide +kernel
theorem qq_2_6 : Cond.code yX9_hasRoom cX9_hasRoom 2 (some .boolean) ∈ TB := mk_tb (ti_2 (List.mem_of_getElem? (i := 6) rfl)) rfl
theorem qq_1_2 : Cond.initialized "WrongHole$Text" ∈ TB := mk_tb (ti_1 (List.mem_of_getElem? (i := 2) rfl)) rfl
theorem qq_2_3 : Cond.methodLink "WrongHole" 65 yX9_hasRoom ∈ TB := mk_tb (ti_2 (List.mem_of_getElem? (i := 3) rfl)) rfl
theorem qq_2_4 : Cond.instanceMethod yX9_hasRoom ∈ TB := mk_tb (ti_2 (List.mem_of_getElem? (i := 4) rfl)) rfl
theorem qq_2_5 : Cond.selects "WrongHole$Text" yX9_hasRoom yX9_hasRoom ∈ TB := mk_tb (ti_2 (List.mem_of_getElem? (i := 5) rfl)) rfl
theorem dX11_feed_9 : decode cX11_feed 9 = .ok (.ifCond .ne 5, 3) := by decide +kernel
theorem dX11_feed_14 : decode cX11_feed 14 = .ok (.aload_n 0, 1) := by decide +kernel
theorem dX11_feed_15 : decode cX11_feed 15 = .ok (.getfield 10, 3) := by decide +kernel
theorem dX11_feed_18 : decode cX11_feed 18 = .ok (.iload_n 1, 1) := by decide +kernel
theorem dX11_feed_19 : decode cX11_feed 19 = .ok (.invokevirtual 69, 3) := by decide +kernel
theorem qq_2_10 : Cond.code yX9_append cX9_append 3 none ∈ TB := mk_tb (ti_2 (List.mem_of_getElem? (i := 10) rfl)) rfl
theorem qq_2_7 : Cond.methodLink "WrongHole" 69 yX9_append ∈ TB := mk_tb (ti_2 (List.mem_of_getElem? (i := 7) rfl)) rfl
theorem qq_2_8 : Cond.instanceMethod yX9_append ∈ TB := mk_tb (ti_2 (List.mem_of_getElem? (i := 8) rfl)) rfl
theorem qq_2_9 : Cond.selects "WrongHole$Text" yX9_append yX9_append ∈ TB := mk_tb (ti_2 (List.mem_of_getElem? (i := 9) rfl)) rfl
theorem dX11_feed_22 : decode cX11_feed 22 = .ok (.aload_n 0, 1) := by decide +kernel
theorem dX11_feed_23 : decode cX11_feed 23 = .ok (.getfield 10, 3) := by decide +kernel
theorem dX11_feed_26 : decode cX11_feed 26 = .ok (.iload_n 2, 1) := by decide +kernel
theorem dX11_feed_27 : decode cX11_feed 27 = .ok (.invokevirtual 69, 3) := by decide +kernel
theorem dX11_feed_30 : decode cX11_feed 30 = .ok (.aload_n 0, 1) := by decide +kernel
theorem dX11_feed_31 : decode cX11_feed 31 = .ok (.getfield 10, 3) := by decide +kernel
theorem dX11_feed_34 : decode cX11_feed 34 = .ok (.iload_n 3, 1) := by decide +kernel
theorem dX11_feed_35 : decode cX11_feed 35 = .ok (.invokevirtual 69, 3) := by decide +kernel
theorem dX11_feed_38 : decode cX11_feed 38 = .ok (.aload_n 0, 1) := by decide +kernel
theorem dX11_feed_39 : decode cX11_feed 39 = .ok (.getfield 10, 3) := by decide +kernel
theorem dX11_feed_42 : decode cX11_feed 42 = .ok (.iload 4, 2) := by decide +kernel
theorem dX11_feed_44 : decode cX11_feed 44 = .ok (.invokevirtual 69, 3) := by decide +kernel
theorem dX11_feed_47 : decode cX11_feed 47 = .ok (.aload_n 0, 1) := by decide +kernel
theorem dX11_feed_48 : decode cX11_feed 48 = .ok (.getfield 10, 3) := by decide +kernel
theorem dX11_feed_51 : decode cX11_feed 51 = .ok (.iload 5, 2) := by decide +kernel
theorem dX11_feed_53 : decode cX11_feed 53 = .ok (.invokevirtual 69, 3) := by decide +kernel
theorem dX11_feed_56 : decode cX11_feed 56 = .ok (.aload_n 0, 1) := by decide +kernel
theorem dX11_feed_57 : decode cX11_feed 57 = .ok (.getfield 10, 3) := by decide +kernel
theorem dX11_feed_60 : decode cX11_feed 60 = .ok (.getfield 73, 3) := by decide +kernel
theorem nq_1_38 : Cond.fieldLinkNest "WrongHole" 73 "WrongHole$Text" "length" "I" "WrongHole" ∈ NW := mk_nw (ti_1 (List.mem_of_getElem? (i := 38) rfl)) rfl
theorem dX11_feed_63 : decode cX11_feed 63 = .ok (.ireturn, 1) := by decide +kernel
set_option maxHeartbeats 4000000 in
set_option maxRecDepth 100000 in
theorem c_x_feed (l : Launch) (D : va_G) (ad : Nat → Nat) (sz : Nat) (x0 : Nat) (ht : Nat) (hrr : Nat) (hru : Nat) (hn : Nat) (him : Nat) (hp : Nat) (hac : Nat) (hfo : Nat) (hwd : Nat) (hs : Nat) (cS : ClassId) (f : Nat → Int32) (a1 : Int32) (a2 : Int32) (a3 : Int32) (a4 : Int32) (a5 : Int32)  : Met l yX11_feed (Cond.code yX11_feed cX11_feed 6 (some .int) :: TB) (RM 1 0 0) (va_Pc [.ref x0, .int a1, .int a2, .int a3, .int a4, .int a5] (PRE D ad [(x0, .inr (9, [.ref ht, .ref hrr, .ref hru, .int 0, .ref hn, .ref him, .ref hp, .ref hac, .ref hfo, .ref hwd, .null, .null])), (ht, .inr (7, [.ref hs, .int 0, .int 0, .int 0, .int 0, .int 0, .int 0, .int 0])), (hs, .inl (cS, 400, .inl f))] [(cS, .char)] sz)) (va_Qi (S := Unit) (fun r _ => r = 20) (fun _ t => True) (va_A [(x0, .inr (9, [.ref ht, .ref hrr, .ref hru, .int 0, .ref hn, .ref him, .ref hp, .ref hac, .ref hfo, .ref hwd, .null, .null])), (ht, .inr (7, [.ref hs, .int 0, .int 0, .int 0, .int 0, .int 0, .int 0, .int 0])), (hs, .inl (cS, 400, .inl f))] sz)) 0 0 (va_A [(x0, .inr (9, [.ref ht, .ref hrr, .ref hru, .int 0, .ref hn, .ref him, .ref hp, .ref hac, .ref hfo, .ref hwd, .null, .null])), (ht, .inr (7, [.ref hs, .int 0, .int 0, .int 0, .int 0, .int 0, .int 0, .int 0])), (hs, .inl (cS, 400, .inl f))] sz) := by
  refine MET (y := yX11_feed) (cc := cX11_feed) (maxL := 6) (ret := (some .int)) (d := 1) (mc := 0) (ms := 0) (D := D) (ad := ad) (ws := [(x0, .inr (9, [.ref ht, .ref hrr, .ref hru, .int 0, .ref hn, .ref him, .ref hp, .ref hac, .ref hfo, .ref hwd, .null, .null])), (ht, .inr (7, [.ref hs, .int 0, .int 0, .int 0, .int 0, .int 0, .int 0, .int 0])), (hs, .inl (cS, 400, .inl f))]) (tys := [(cS, .char)]) (sz := sz) (av := [.ref x0, .int a1, .int a2, .int a3, .int a4, .int a5]) (Qc := fun A => va_Qi (S := Unit) (fun r _ => r = 20) (fun _ t => True) A) (fr := fun A => A) (by decide) (Nat.le_of_ble_eq_true rfl) ?_
  intro p e s m below meth c ls A H hHe hx hb hr hml hown hts hlocks hnm hP hK hD hA hS hN hl
  have hown : s.vm.findClass "WrongHole" = some m.cls := hown
  have hT : ∀ w ∈ TB, w.before ([.ref x0, .int a1, .int a2, .int a3, .int a4, .int a5] : List Value).toArray s = true := fun w h => hts w (List.mem_cons_of_mem _ h)
  have hl : lv_has ls 6 [(0, .ref x0), (1, .int a1), (2, .int a2), (3, .int a3), (4, .int a4), (5, .int a5)] := hl
  have hP : va_P D vwCl [(x0, .inr (9, [.ref ht, .ref hrr, .ref hru, .int 0, .ref hn, .ref him, .ref hp, .ref hac, .ref hfo, .ref hwd, .null, .null])), (ht, .inr (7, [.ref hs, .int 0, .int 0, .int 0, .int 0, .int 0, .int 0, .int 0])), (hs, .inl (cS, 400, .inl f))] H := hP
  refine lv_aload_n hx hb dX11_feed_0 rfl (lv_at hl 0 rfl) ?_
  refine va_get (D := D) (ci := 9) (v := .ref ht) (C := "WrongHole") (T := TX11) (N := 12) hx hb hts (iq_RX11 _) hown hK hP 0 rfl rfl 0 (by decide) (hT _ qq_1_202) (fun _ h9 => h9) rfl dX11_feed_1 ?_
  refine lv_bipush (v := 20) hx hb dX11_feed_4 (by decide) ?_
  have hPc := hP.sub (ws' := [(ht, .inr (7, [.ref hs, .int 0, .int 0, .int 0, .int 0, .int 0, .int 0, .int 0]))]) [1] rfl
  have hDc := hD.sub (ws' := [(ht, .inr (7, [.ref hs, .int 0, .int 0, .int 0, .int 0, .int 0, .int 0, .int 0]))]) [1] (by decide) rfl
  have hKc := hK.sub (tys' := []) [] rfl
  refine cl_V (W.runV (As := [.int 20]) (rest := []) ⟨hx, hb, hml, hown, hts⟩ (c_hasRoom l D ad H.size ht hs) ⟨callB_of 1 hts (gd_C qq_2_6) rfl rfl rfl (hT _ qq_1_2) (hT _ qq_2_3) (by decide +kernel) (rm_R rfl rfl), (hT _ qq_2_4), (hT _ qq_2_5)⟩ (pr_V hPc hKc hDc hN (ci := 7) (q0 := 0) rfl rfl) rfl rfl hl.1 rfl (lv_room (Nat.le_of_ble_eq_true rfl)) dX11_feed_6 ⟨Nat.le_of_ble_eq_true rfl, Nat.le_of_ble_eq_true rfl⟩) ?_
  refine lv_if_ne (tgt := 14) hx hb dX11_feed_9 (by decide) (fun _ => ?_) (fun c_1 => absurd c_1 (by decide))
  refine lv_aload_n hx hb dX11_feed_14 rfl (lv_at hl 0 rfl) ?_
  refine va_get (D := D) (ci := 9) (v := .ref ht) (C := "WrongHole") (T := TX11) (N := 12) hx hb hts (iq_RX11 _) hown hK hP 0 rfl rfl 0 (by decide) (hT _ qq_1_202) (fun _ h9 => h9) rfl dX11_feed_15 ?_
  refine lv_iload_n hx hb dX11_feed_18 rfl (lv_at hl 1 rfl) ?_
  have hPc := hP.sub (ws' := [(ht, .inr (7, [.ref hs, .int 0, .int 0, .int 0, .int 0, .int 0, .int 0, .int 0])), (hs, .inl (cS, 400, .inl f))]) [1, 2] rfl
  have hDc := hD.sub (ws' := [(ht, .inr (7, [.ref hs, .int 0, .int 0, .int 0, .int 0, .int 0, .int 0, .int 0])), (hs, .inl (cS, 400, .inl f))]) [1, 2] (by decide) rfl
  have hKc := hK.sub (tys' := [(cS, .char)]) [0] rfl
  have hFc := va_free (wc := [(ht, .inr (7, [.ref hs, .int 0, .int 0, .int 0, .int 0, .int 0, .int 0, .int 0])), (hs, .inl (cS, 400, .inl f))]) hD hS hA [1, 2] rfl
  refine va_callv (va_runV (As := [.int a1]) (rest := []) ⟨hx, hb, hml, hown, hts⟩ (c_append_0 l D ad H.size ht hs cS f a1) ⟨callB_of 1 hts (gd_C qq_2_10) rfl rfl rfl (hT _ qq_1_2) (hT _ qq_2_7) (by decide +kernel) (rm_R rfl rfl), (hT _ qq_2_8), (hT _ qq_2_9)⟩ (pr_V hPc hKc hDc hN (ci := 7) (q0 := 0) rfl rfl) rfl rfl hl.1 rfl (lv_room (Nat.le_of_ble_eq_true rfl)) dX11_feed_19 ⟨Nat.le_of_ble_eq_true rfl, Nat.le_of_ble_eq_true rfl⟩) hS (fun q _ h => hFc q h) hFc (fun u_2 t_5 H1 locs ht9 hvm hw_3 hB_4 hz1 hk1 hS => ?_)
  obtain ⟨g_6, hP1, hK1, hD1⟩ := hB_4
  rw [ht9] at hP1
  have hK1 := va_K.moved hvm.symm hK1
  obtain ⟨hP, hD⟩ := va_join (wr := [(x0, .inr (9, [.ref ht, .ref hrr, .ref hru, .int 0, .ref hn, .ref him, .ref hp, .ref hac, .ref hfo, .ref hwd, .null, .null]))]) (w1 := [(ht, .inr (7, [.ref hs, .int 4, .int 0, .int 0, .int 0, .int 0, .int 0, .int 0])), (hs, .inl (cS, 400, .inl g_6))]) hP hD [1, 2] [0] rfl rfl (by decide) (by decide) hk1 hFc hP1 hD1
  have hK := (hK.sub (tys' := []) [] rfl).app hK1
  have hK : va_K D vwCl [(cS, .char)] s := hK
  generalize H1 = H at hP hS ⊢
  have hP : va_P D vwCl [(x0, .inr (9, [.ref ht, .ref hrr, .ref hru, .int 0, .ref hn, .ref him, .ref hp, .ref hac, .ref hfo, .ref hwd, .null, .null])), (ht, .inr (7, [.ref hs, .int 4, .int 0, .int 0, .int 0, .int 0, .int 0, .int 0])), (hs, .inl (cS, 400, .inl g_6))] H := hP
  have hD : va_D A [(x0, .inr (9, [.ref ht, .ref hrr, .ref hru, .int 0, .ref hn, .ref him, .ref hp, .ref hac, .ref hfo, .ref hwd, .null, .null])), (ht, .inr (7, [.ref hs, .int 4, .int 0, .int 0, .int 0, .int 0, .int 0, .int 0])), (hs, .inl (cS, 400, .inl g_6))] := hD
  refine lv_aload_n hx hb dX11_feed_22 rfl (lv_at hl 0 rfl) ?_
  refine va_get (D := D) (ci := 9) (v := .ref ht) (C := "WrongHole") (T := TX11) (N := 12) hx hb hts (iq_RX11 _) hown hK hP 0 rfl rfl 0 (by decide) (hT _ qq_1_202) (fun _ h9 => h9) rfl dX11_feed_23 ?_
  refine lv_iload_n hx hb dX11_feed_26 rfl (lv_at hl 2 rfl) ?_
  have hPc := hP.sub (ws' := [(ht, .inr (7, [.ref hs, .int 4, .int 0, .int 0, .int 0, .int 0, .int 0, .int 0])), (hs, .inl (cS, 400, .inl g_6))]) [1, 2] rfl
  have hDc := hD.sub (ws' := [(ht, .inr (7, [.ref hs, .int 4, .int 0, .int 0, .int 0, .int 0, .int 0, .int 0])), (hs, .inl (cS, 400, .inl g_6))]) [1, 2] (by decide) rfl
  have hKc := hK.sub (tys' := [(cS, .char)]) [0] rfl
  have hFc := va_free (wc := [(ht, .inr (7, [.ref hs, .int 4, .int 0, .int 0, .int 0, .int 0, .int 0, .int 0])), (hs, .inl (cS, 400, .inl g_6))]) hD hS hA [1, 2] rfl
  refine va_callv (va_runV (As := [.int a2]) (rest := []) ⟨hx, hb, hml, hown, hts⟩ (c_append_4 l D ad H.size ht hs cS g_6 a2) ⟨callB_of 1 hts (gd_C qq_2_10) rfl rfl rfl (hT _ qq_1_2) (hT _ qq_2_7) (by decide +kernel) (rm_R rfl rfl), (hT _ qq_2_8), (hT _ qq_2_9)⟩ (pr_V hPc hKc hDc hN (ci := 7) (q0 := 0) rfl rfl) rfl rfl hl.1 rfl (lv_room (Nat.le_of_ble_eq_true rfl)) dX11_feed_27 ⟨Nat.le_of_ble_eq_true rfl, Nat.le_of_ble_eq_true rfl⟩) hS (fun q _ h => hFc q h) hFc (fun u_7 t_10 H1 locs ht9 hvm hw_8 hB_9 hz1 hk1 hS => ?_)
  obtain ⟨g_11, hP1, hK1, hD1⟩ := hB_9
  rw [ht9] at hP1
  have hK1 := va_K.moved hvm.symm hK1
  obtain ⟨hP, hD⟩ := va_join (wr := [(x0, .inr (9, [.ref ht, .ref hrr, .ref hru, .int 0, .ref hn, .ref him, .ref hp, .ref hac, .ref hfo, .ref hwd, .null, .null]))]) (w1 := [(ht, .inr (7, [.ref hs, .int 8, .int 0, .int 0, .int 0, .int 0, .int 0, .int 0])), (hs, .inl (cS, 400, .inl g_11))]) hP hD [1, 2] [0] rfl rfl (by decide) (by decide) hk1 hFc hP1 hD1
  have hK := (hK.sub (tys' := []) [] rfl).app hK1
  have hK : va_K D vwCl [(cS, .char)] s := hK
  generalize H1 = H at hP hS ⊢
  have hP : va_P D vwCl [(x0, .inr (9, [.ref ht, .ref hrr, .ref hru, .int 0, .ref hn, .ref him, .ref hp, .ref hac, .ref hfo, .ref hwd, .null, .null])), (ht, .inr (7, [.ref hs, .int 8, .int 0, .int 0, .int 0, .int 0, .int 0, .int 0])), (hs, .inl (cS, 400, .inl g_11))] H := hP
  have hD : va_D A [(x0, .inr (9, [.ref ht, .ref hrr, .ref hru, .int 0, .ref hn, .ref him, .ref hp, .ref hac, .ref hfo, .ref hwd, .null, .null])), (ht, .inr (7, [.ref hs, .int 8, .int 0, .int 0, .int 0, .int 0, .int 0, .int 0])), (hs, .inl (cS, 400, .inl g_11))] := hD
  refine lv_aload_n hx hb dX11_feed_30 rfl (lv_at hl 0 rfl) ?_
  refine va_get (D := D) (ci := 9) (v := .ref ht) (C := "WrongHole") (T := TX11) (N := 12) hx hb hts (iq_RX11 _) hown hK hP 0 rfl rfl 0 (by decide) (hT _ qq_1_202) (fun _ h9 => h9) rfl dX11_feed_31 ?_
  refine lv_iload_n hx hb dX11_feed_34 rfl (lv_at hl 3 rfl) ?_
  have hPc := hP.sub (ws' := [(ht, .inr (7, [.ref hs, .int 8, .int 0, .int 0, .int 0, .int 0, .int 0, .int 0])), (hs, .inl (cS, 400, .inl g_11))]) [1, 2] rfl
  have hDc := hD.sub (ws' := [(ht, .inr (7, [.ref hs, .int 8, .int 0, .int 0, .int 0, .int 0, .int 0, .int 0])), (hs, .inl (cS, 400, .inl g_11))]) [1, 2] (by decide) rfl
  have hKc := hK.sub (tys' := [(cS, .char)]) [0] rfl
  have hFc := va_free (wc := [(ht, .inr (7, [.ref hs, .int 8, .int 0, .int 0, .int 0, .int 0, .int 0, .int 0])), (hs, .inl (cS, 400, .inl g_11))]) hD hS hA [1, 2] rfl
  refine va_callv (va_runV (As := [.int a3]) (rest := []) ⟨hx, hb, hml, hown, hts⟩ (c_append_8 l D ad H.size ht hs cS g_11 a3) ⟨callB_of 1 hts (gd_C qq_2_10) rfl rfl rfl (hT _ qq_1_2) (hT _ qq_2_7) (by decide +kernel) (rm_R rfl rfl), (hT _ qq_2_8), (hT _ qq_2_9)⟩ (pr_V hPc hKc hDc hN (ci := 7) (q0 := 0) rfl rfl) rfl rfl hl.1 rfl (lv_room (Nat.le_of_ble_eq_true rfl)) dX11_feed_35 ⟨Nat.le_of_ble_eq_true rfl, Nat.le_of_ble_eq_true rfl⟩) hS (fun q _ h => hFc q h) hFc (fun u_12 t_15 H1 locs ht9 hvm hw_13 hB_14 hz1 hk1 hS => ?_)
  obtain ⟨g_16, hP1, hK1, hD1⟩ := hB_14
  rw [ht9] at hP1
  have hK1 := va_K.moved hvm.symm hK1
  obtain ⟨hP, hD⟩ := va_join (wr := [(x0, .inr (9, [.ref ht, .ref hrr, .ref hru, .int 0, .ref hn, .ref him, .ref hp, .ref hac, .ref hfo, .ref hwd, .null, .null]))]) (w1 := [(ht, .inr (7, [.ref hs, .int 12, .int 0, .int 0, .int 0, .int 0, .int 0, .int 0])), (hs, .inl (cS, 400, .inl g_16))]) hP hD [1, 2] [0] rfl rfl (by decide) (by decide) hk1 hFc hP1 hD1
  have hK := (hK.sub (tys' := []) [] rfl).app hK1
  have hK : va_K D vwCl [(cS, .char)] s := hK
  generalize H1 = H at hP hS ⊢
  have hP : va_P D vwCl [(x0, .inr (9, [.ref ht, .ref hrr, .ref hru, .int 0, .ref hn, .ref him, .ref hp, .ref hac, .ref hfo, .ref hwd, .null, .null])), (ht, .inr (7, [.ref hs, .int 12, .int 0, .int 0, .int 0, .int 0, .int 0, .int 0])), (hs, .inl (cS, 400, .inl g_16))] H := hP
  have hD : va_D A [(x0, .inr (9, [.ref ht, .ref hrr, .ref hru, .int 0, .ref hn, .ref him, .ref hp, .ref hac, .ref hfo, .ref hwd, .null, .null])), (ht, .inr (7, [.ref hs, .int 12, .int 0, .int 0, .int 0, .int 0, .int 0, .int 0])), (hs, .inl (cS, 400, .inl g_16))] := hD
  refine lv_aload_n hx hb dX11_feed_38 rfl (lv_at hl 0 rfl) ?_
  refine va_get (D := D) (ci := 9) (v := .ref ht) (C := "WrongHole") (T := TX11) (N := 12) hx hb hts (iq_RX11 _) hown hK hP 0 rfl rfl 0 (by decide) (hT _ qq_1_202) (fun _ h9 => h9) rfl dX11_feed_39 ?_
  refine lv_iload hx hb dX11_feed_42 (lv_at hl 4 rfl) ?_
  have hPc := hP.sub (ws' := [(ht, .inr (7, [.ref hs, .int 12, .int 0, .int 0, .int 0, .int 0, .int 0, .int 0])), (hs, .inl (cS, 400, .inl g_16))]) [1, 2] rfl
  have hDc := hD.sub (ws' := [(ht, .inr (7, [.ref hs, .int 12, .int 0, .int 0, .int 0, .int 0, .int 0, .int 0])), (hs, .inl (cS, 400, .inl g_16))]) [1, 2] (by decide) rfl
  have hKc := hK.sub (tys' := [(cS, .char)]) [0] rfl
  have hFc := va_free (wc := [(ht, .inr (7, [.ref hs, .int 12, .int 0, .int 0, .int 0, .int 0, .int 0, .int 0])), (hs, .inl (cS, 400, .inl g_16))]) hD hS hA [1, 2] rfl
  refine va_callv (va_runV (As := [.int a4]) (rest := []) ⟨hx, hb, hml, hown, hts⟩ (c_append_12 l D ad H.size ht hs cS g_16 a4) ⟨callB_of 1 hts (gd_C qq_2_10) rfl rfl rfl (hT _ qq_1_2) (hT _ qq_2_7) (by decide +kernel) (rm_R rfl rfl), (hT _ qq_2_8), (hT _ qq_2_9)⟩ (pr_V hPc hKc hDc hN (ci := 7) (q0 := 0) rfl rfl) rfl rfl hl.1 rfl (lv_room (Nat.le_of_ble_eq_true rfl)) dX11_feed_44 ⟨Nat.le_of_ble_eq_true rfl, Nat.le_of_ble_eq_true rfl⟩) hS (fun q _ h => hFc q h) hFc (fun u_17 t_20 H1 locs ht9 hvm hw_18 hB_19 hz1 hk1 hS => ?_)
  obtain ⟨g_21, hP1, hK1, hD1⟩ := hB_19
  rw [ht9] at hP1
  have hK1 := va_K.moved hvm.symm hK1
  obtain ⟨hP, hD⟩ := va_join (wr := [(x0, .inr (9, [.ref ht, .ref hrr, .ref hru, .int 0, .ref hn, .ref him, .ref hp, .ref hac, .ref hfo, .ref hwd, .null, .null]))]) (w1 := [(ht, .inr (7, [.ref hs, .int 16, .int 0, .int 0, .int 0, .int 0, .int 0, .int 0])), (hs, .inl (cS, 400, .inl g_21))]) hP hD [1, 2] [0] rfl rfl (by decide) (by decide) hk1 hFc hP1 hD1
  have hK := (hK.sub (tys' := []) [] rfl).app hK1
  have hK : va_K D vwCl [(cS, .char)] s := hK
  generalize H1 = H at hP hS ⊢
  have hP : va_P D vwCl [(x0, .inr (9, [.ref ht, .ref hrr, .ref hru, .int 0, .ref hn, .ref him, .ref hp, .ref hac, .ref hfo, .ref hwd, .null, .null])), (ht, .inr (7, [.ref hs, .int 16, .int 0, .int 0, .int 0, .int 0, .int 0, .int 0])), (hs, .inl (cS, 400, .inl g_21))] H := hP
  have hD : va_D A [(x0, .inr (9, [.ref ht, .ref hrr, .ref hru, .int 0, .ref hn, .ref him, .ref hp, .ref hac, .ref hfo, .ref hwd, .null, .null])), (ht, .inr (7, [.ref hs, .int 16, .int 0, .int 0, .int 0, .int 0, .int 0, .int 0])), (hs, .inl (cS, 400, .inl g_21))] := hD
  refine lv_aload_n hx hb dX11_feed_47 rfl (lv_at hl 0 rfl) ?_
  refine va_get (D := D) (ci := 9) (v := .ref ht) (C := "WrongHole") (T := TX11) (N := 12) hx hb hts (iq_RX11 _) hown hK hP 0 rfl rfl 0 (by decide) (hT _ qq_1_202) (fun _ h9 => h9) rfl dX11_feed_48 ?_
  refine lv_iload hx hb dX11_feed_51 (lv_at hl 5 rfl) ?_
  have hPc := hP.sub (ws' := [(ht, .inr (7, [.ref hs, .int 16, .int 0, .int 0, .int 0, .int 0, .int 0, .int 0])), (hs, .inl (cS, 400, .inl g_21))]) [1, 2] rfl
  have hDc := hD.sub (ws' := [(ht, .inr (7, [.ref hs, .int 16, .int 0, .int 0, .int 0, .int 0, .int 0, .int 0])), (hs, .inl (cS, 400, .inl g_21))]) [1, 2] (by decide) rfl
  have hKc := hK.sub (tys' := [(cS, .char)]) [0] rfl
  have hFc := va_free (wc := [(ht, .inr (7, [.ref hs, .int 16, .int 0, .int 0, .int 0, .int 0, .int 0, .int 0])), (hs, .inl (cS, 400, .inl g_21))]) hD hS hA [1, 2] rfl
  refine va_callv (va_runV (As := [.int a5]) (rest := []) ⟨hx, hb, hml, hown, hts⟩ (c_append_16 l D ad H.size ht hs cS g_21 a5) ⟨callB_of 1 hts (gd_C qq_2_10) rfl rfl rfl (hT _ qq_1_2) (hT _ qq_2_7) (by decide +kernel) (rm_R rfl rfl), (hT _ qq_2_8), (hT _ qq_2_9)⟩ (pr_V hPc hKc hDc hN (ci := 7) (q0 := 0) rfl rfl) rfl rfl hl.1 rfl (lv_room (Nat.le_of_ble_eq_true rfl)) dX11_feed_53 ⟨Nat.le_of_ble_eq_true rfl, Nat.le_of_ble_eq_true rfl⟩) hS (fun q _ h => hFc q h) hFc (fun u_22 t_25 H1 locs ht9 hvm hw_23 hB_24 hz1 hk1 hS => ?_)
  obtain ⟨g_26, hP1, hK1, hD1⟩ := hB_24
  rw [ht9] at hP1
  have hK1 := va_K.moved hvm.symm hK1
  obtain ⟨hP, hD⟩ := va_join (wr := [(x0, .inr (9, [.ref ht, .ref hrr, .ref hru, .int 0, .ref hn, .ref him, .ref hp, .ref hac, .ref hfo, .ref hwd, .null, .null]))]) (w1 := [(ht, .inr (7, [.ref hs, .int 20, .int 0, .int 0, .int 0, .int 0, .int 0, .int 0])), (hs, .inl (cS, 400, .inl g_26))]) hP hD [1, 2] [0] rfl rfl (by decide) (by decide) hk1 hFc hP1 hD1
  have hK := (hK.sub (tys' := []) [] rfl).app hK1
  have hK : va_K D vwCl [(cS, .char)] s := hK
  generalize H1 = H at hP hS ⊢
  have hP : va_P D vwCl [(x0, .inr (9, [.ref ht, .ref hrr, .ref hru, .int 0, .ref hn, .ref him, .ref hp, .ref hac, .ref hfo, .ref hwd, .null, .null])), (ht, .inr (7, [.ref hs, .int 20, .int 0, .int 0, .int 0, .int 0, .int 0, .int 0])), (hs, .inl (cS, 400, .inl g_26))] H := hP
  have hD : va_D A [(x0, .inr (9, [.ref ht, .ref hrr, .ref hru, .int 0, .ref hn, .ref him, .ref hp, .ref hac, .ref hfo, .ref hwd, .null, .null])), (ht, .inr (7, [.ref hs, .int 20, .int 0, .int 0, .int 0, .int 0, .int 0, .int 0])), (hs, .inl (cS, 400, .inl g_26))] := hD
  refine lv_aload_n hx hb dX11_feed_56 rfl (lv_at hl 0 rfl) ?_
  refine va_get (D := D) (ci := 9) (v := .ref ht) (C := "WrongHole") (T := TX11) (N := 12) hx hb hts (iq_RX11 _) hown hK hP 0 rfl rfl 0 (by decide) (hT _ qq_1_202) (fun _ h9 => h9) rfl dX11_feed_57 ?_
  refine va_getN (D := D) (ci := 7) (v := .int 20) (C := "WrongHole$Text") (T := TX9) (N := 8) hx hb hts (iq_RX9 _) hown hK hP 1 rfl rfl 1 (by decide) (hN.f nq_1_38) (fun _ h9 => h9) rfl dX11_feed_60 ?_
  refine W.widen (k := 0) (n := 0) (Nat.le_of_ble_eq_true rfl) (Nat.le_of_ble_eq_true rfl) ?_
  exact W.iret (v := 20) hx hb hr (fun t9 ht9 hW9 => ⟨⟨_, (), rfl, rfl, trivial⟩, hS.F ht9⟩) hS.2.2 dX11_feed_63
theorem dX11_end_0 : decode cX11_end 0 = .ok (.iload_n 1, 1) := by decide +kernel
theorem dX11_end_1 : decode cX11_end 1 = .ok (.ifCond .lt 14, 3) := by decide +kernel
theorem dX11_end_15 : decode cX11_end 15 = .ok (.iconst (-1), 1) := by decide +kernel
theorem dX11_end_16 : decode cX11_end 16 = .ok (.ireturn, 1) := by decide +kernel
theorem dX11_end_4 : decode cX11_end 4 = .ok (.iload_n 1, 1) := by decide +kernel
theorem dX11_end_5 : decode cX11_end 5 = .ok (.aload_n 0, 1) := by decide +kernel
theorem dX11_end_6 : decode cX11_end 6 = .ok (.getfield 10, 3) := by decide +kernel
theorem dX11_end_9 : decode cX11_end 9 = .ok (.getfield 73, 3) := by decide +kernel
theorem dX11_end_12 : decode cX11_end 12 = .ok (.if_icmp .le 5, 3) := by decide +kernel
theorem dX11_end_17 : decode cX11_end 17 = .ok (.aload_n 0, 1) := by decide +kernel
theorem dX11_end_18 : decode cX11_end 18 = .ok (.getfield 10, 3) := by decide +kernel
theorem dX11_end_21 : decode cX11_end 21 = .ok (.iload_n 1, 1) := by decide +kernel
theorem dX11_end_22 : decode cX11_end 22 = .ok (.putfield 73, 3) := by decide +kernel
theorem dX11_end_25 : decode cX11_end 25 = .ok (.iload_n 1, 1) := by decide +kernel
theorem dX11_end_26 : decode cX11_end 26 = .ok (.ireturn, 1) := by decide +kernel
set_option maxHeartbeats 4000000 in
set_option maxRecDepth 100000 in
theorem c_x_end (l : Launch) (D : va_G) (ad : Nat → Nat) (sz : Nat) (x0 : Nat) (ht : Nat) (hrr : Nat) (hru : Nat) (hn : Nat) (him : Nat) (hp : Nat) (hac : Nat) (hfo : Nat) (hwd : Nat) (hs : Nat) (a1 : Int32)  : Met l yX11_end (Cond.code yX11_end cX11_end 2 (some .int) :: TB) (RM 1 0 0) (va_Pc [.ref x0, .int a1] (PRE D ad [(x0, .inr (9, [.ref ht, .ref hrr, .ref hru, .int 0, .ref hn, .ref him, .ref hp, .ref hac, .ref hfo, .ref hwd, .null, .null])), (ht, .inr (7, [.ref hs, .int 0, .int 0, .int 0, .int 0, .int 0, .int 0, .int 0]))] [] sz)) (va_Qi (S := Unit) (fun r _ => r = (r_end a1)) (fun _ t => True) (va_A [(x0, .inr (9, [.ref ht, .ref hrr, .ref hru, .int 0, .ref hn, .ref him, .ref hp, .ref hac, .ref hfo, .ref hwd, .null, .null])), (ht, .inr (7, [.ref hs, .int 0, .int 0, .int 0, .int 0, .int 0, .int 0, .int 0]))] sz)) 0 0 (va_A [(x0, .inr (9, [.ref ht, .ref hrr, .ref hru, .int 0, .ref hn, .ref him, .ref hp, .ref hac, .ref hfo, .ref hwd, .null, .null])), (ht, .inr (7, [.ref hs, .int 0, .int 0, .int 0, .int 0, .int 0, .int 0, .int 0]))] sz) := by
  refine MET (y := yX11_end) (cc := cX11_end) (maxL := 2) (ret := (some .int)) (d := 1) (mc := 0) (ms := 0) (D := D) (ad := ad) (ws := [(x0, .inr (9, [.ref ht, .ref hrr, .ref hru, .int 0, .ref hn, .ref him, .ref hp, .ref hac, .ref hfo, .ref hwd, .null, .null])), (ht, .inr (7, [.ref hs, .int 0, .int 0, .int 0, .int 0, .int 0, .int 0, .int 0]))]) (tys := []) (sz := sz) (av := [.ref x0, .int a1]) (Qc := fun A => va_Qi (S := Unit) (fun r _ => r = (r_end a1)) (fun _ t => True) A) (fr := fun A => A) (by decide) (Nat.le_of_ble_eq_true rfl) ?_
  intro p e s m below meth c ls A H hHe hx hb hr hml hown hts hlocks hnm hP hK hD hA hS hN hl
  have hown : s.vm.findClass "WrongHole" = some m.cls := hown
  have hT : ∀ w ∈ TB, w.before ([.ref x0, .int a1] : List Value).toArray s = true := fun w h => hts w (List.mem_cons_of_mem _ h)
  have hl : lv_has ls 2 [(0, .ref x0), (1, .int a1)] := hl
  have hP : va_P D vwCl [(x0, .inr (9, [.ref ht, .ref hrr, .ref hru, .int 0, .ref hn, .ref him, .ref hp, .ref hac, .ref hfo, .ref hwd, .null, .null])), (ht, .inr (7, [.ref hs, .int 0, .int 0, .int 0, .int 0, .int 0, .int 0, .int 0]))] H := hP
  refine lv_iload_n hx hb dX11_end_0 rfl (lv_at hl 1 rfl) ?_
  refine lv_if_lt (tgt := 15) hx hb dX11_end_1 (by decide) (fun c_1 => ?_) (fun c_1 => ?_)
  · refine lv_iconst (v := (-1)) hx hb dX11_end_15 (by decide) ?_
    refine W.widen (k := 0) (n := 0) (Nat.le_of_ble_eq_true rfl) (Nat.le_of_ble_eq_true rfl) ?_
    exact W.iret (v := (-1)) hx hb hr (fun t9 ht9 hW9 => ⟨⟨_, (), rfl, (by simp [r_end, c_1]), trivial⟩, hS.F ht9⟩) hS.2.2 dX11_end_16
  · refine lv_iload_n hx hb dX11_end_4 rfl (lv_at hl 1 rfl) ?_
    refine lv_aload_n hx hb dX11_end_5 rfl (lv_at hl 0 rfl) ?_
    refine va_get (D := D) (ci := 9) (v := .ref ht) (C := "WrongHole") (T := TX11) (N := 12) hx hb hts (iq_RX11 _) hown hK hP 0 rfl rfl 0 (by decide) (hT _ qq_1_202) (fun _ h9 => h9) rfl dX11_end_6 ?_
    refine va_getN (D := D) (ci := 7) (v := .int 0) (C := "WrongHole$Text") (T := TX9) (N := 8) hx hb hts (iq_RX9 _) hown hK hP 1 rfl rfl 1 (by decide) (hN.f nq_1_38) (fun _ h9 => h9) rfl dX11_end_9 ?_
    refine lv_icmp_le (tgt := 17) hx hb dX11_end_12 (by decide) (fun c_2 => ?_) (fun c_2 => ?_)
    · refine lv_aload_n hx hb dX11_end_17 rfl (lv_at hl 0 rfl) ?_
      refine va_get (D := D) (ci := 9) (v := .ref ht) (C := "WrongHole") (T := TX11) (N := 12) hx hb hts (iq_RX11 _) hown hK hP 0 rfl rfl 0 (by decide) (hT _ qq_1_202) (fun _ h9 => h9) rfl dX11_end_18 ?_
      refine lv_iload_n hx hb dX11_end_21 rfl (lv_at hl 1 rfl) ?_
      refine va_putN (D := D) (ci := 7) (v := .int a1) (ty := .int) (C := "WrongHole$Text") (T := TX9) (N := 8) hx hb hts (iq_RX9 _) tyX9 tyX9_ok nmX9 hown hK hP hD hS 1 rfl rfl 1 (by decide) (hN.f nq_1_38) (fun _ h9 => h9) rfl (by decide +kernel) rfl rfl (Nat.le_of_ble_eq_true rfl) dX11_end_22 (fun H locs hP hD hS => ?_)
      have hP : va_P D vwCl [(x0, .inr (9, [.ref ht, .ref hrr, .ref hru, .int 0, .ref hn, .ref him, .ref hp, .ref hac, .ref hfo, .ref hwd, .null, .null])), (ht, .inr (7, [.ref hs, .int a1, .int 0, .int 0, .int 0, .int 0, .int 0, .int 0]))] H := hP
      have hD : va_D A [(x0, .inr (9, [.ref ht, .ref hrr, .ref hru, .int 0, .ref hn, .ref him, .ref hp, .ref hac, .ref hfo, .ref hwd, .null, .null])), (ht, .inr (7, [.ref hs, .int a1, .int 0, .int 0, .int 0, .int 0, .int 0, .int 0]))] := hD
      refine lv_iload_n hx hb dX11_end_25 rfl (lv_at hl 1 rfl) ?_
      refine W.widen (k := 0) (n := 0) (Nat.le_of_ble_eq_true rfl) (Nat.le_of_ble_eq_true rfl) ?_
      exact W.iret (v := a1) hx hb hr (fun t9 ht9 hW9 => ⟨⟨_, (), rfl, (by have h9 := z_nlt (a := a1) c_1 (i_C c_2); simp [r_end, h9]), trivial⟩, hS.F ht9⟩) hS.2.2 dX11_end_26
    · refine lv_iconst (v := (-1)) hx hb dX11_end_15 (by decide) ?_
      refine W.widen (k := 0) (n := 0) (Nat.le_of_ble_eq_true rfl) (Nat.le_of_ble_eq_true rfl) ?_
      exact W.iret (v := (-1)) hx hb hr (fun t9 ht9 hW9 => ⟨⟨_, (), rfl, (by simp [r_end, c_1, (i_D c_2)]), trivial⟩, hS.F ht9⟩) hS.2.2 dX11_end_16
