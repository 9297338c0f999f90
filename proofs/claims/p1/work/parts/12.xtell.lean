theorem dX11_button_0 : decode cX11_button 0 = .ok (.aload_n 0, 1) := by decide +kernel
theorem dX11_button_1 : decode cX11_button 1 = .ok (.getfield 32, 3) := by decide +kernel
theorem dX11_button_4 : decode cX11_button 4 = .ok (.getfield 86, 3) := by decide +kernel
theorem nq_1_99 : Cond.fieldLinkNest "WrongHole" 86 "WrongHole$Worn" "lift" "LWrongHole$Lift;" "WrongHole" ∈ NW := mk_nw (ti_1 (List.mem_of_getElem? (i := 99) rfl)) rfl
theorem dX11_button_7 : decode cX11_button 7 = .ok (.astore_n 3, 1) := by decide +kernel
theorem dX11_button_8 : decode cX11_button 8 = .ok (.aload_n 3, 1) := by decide +kernel
theorem dX11_button_9 : decode cX11_button 9 = .ok (.ifnull 11, 3) := by decide +kernel
theorem dX11_button_20 : decode cX11_button 20 = .ok (.bipush (-2), 2) := by decide +kernel
theorem dX11_button_22 : decode cX11_button 22 = .ok (.ireturn, 1) := by decide +kernel
set_option maxHeartbeats 4000000 in
set_option maxRecDepth 100000 in
theorem c_x_button (l : Launch) (D : va_G) (ad : Nat → Nat) (sz : Nat) (x0 : Nat) (ht : Nat) (hrr : Nat) (hru : Nat) (hn : Nat) (him : Nat) (hp : Nat) (hac : Nat) (hfo : Nat) (hwd : Nat) (wa : Nat) (wb : Nat) (wc : Nat) (wd : Nat) (a1 : Int32) (a2 : Int32)  : Met l yX11_button (Cond.code yX11_button cX11_button 4 (some .int) :: TB) (RM 1 0 0) (va_Pc [.ref x0, .int a1, .int a2] (PRE D ad [(x0, .inr (9, [.ref ht, .ref hrr, .ref hru, .int 0, .ref hn, .ref him, .ref hp, .ref hac, .ref hfo, .ref hwd, .null, .null])), (hn, .inr (8, [.null, .int 0, .int 0, .int 0, .int 0, .ref wa, .ref wb, .ref wc, .ref wd]))] [] sz)) (k2_QcV (.int (-2))) 0 0 (fun _ => False) := by
  refine MET (y := yX11_button) (cc := cX11_button) (maxL := 4) (ret := (some .int)) (d := 1) (mc := 0) (ms := 0) (D := D) (ad := ad) (ws := [(x0, .inr (9, [.ref ht, .ref hrr, .ref hru, .int 0, .ref hn, .ref him, .ref hp, .ref hac, .ref hfo, .ref hwd, .null, .null])), (hn, .inr (8, [.null, .int 0, .int 0, .int 0, .int 0, .ref wa, .ref wb, .ref wc, .ref wd]))]) (tys := []) (sz := sz) (av := [.ref x0, .int a1, .int a2]) (Qc := fun A => k2_QcV (.int (-2))) (fr := fun A => (fun _ => False)) (by decide) (Nat.le_of_ble_eq_true rfl) ?_
  intro p e s m below meth c ls A H hHe hx hb hr hml hown hts hlocks hnm hP hK hD hA hS hN hl
  have hown : s.vm.findClass "WrongHole" = some m.cls := hown
  have hT : ∀ w ∈ TB, w.before ([.ref x0, .int a1, .int a2] : List Value).toArray s = true := fun w h => hts w (List.mem_cons_of_mem _ h)
  have hl : lv_has ls 4 [(0, .ref x0), (1, .int a1), (2, .int a2)] := hl
  have hP : va_P D vwCl [(x0, .inr (9, [.ref ht, .ref hrr, .ref hru, .int 0, .ref hn, .ref him, .ref hp, .ref hac, .ref hfo, .ref hwd, .null, .null])), (hn, .inr (8, [.null, .int 0, .int 0, .int 0, .int 0, .ref wa, .ref wb, .ref wc, .ref wd]))] H := hP
  refine lv_aload_n hx hb dX11_button_0 rfl (lv_at hl 0 rfl) ?_
  refine va_get (D := D) (ci := 9) (v := .ref hn) (C := "WrongHole") (T := TX11) (N := 12) hx hb hts (iq_RX11 _) hown hK hP 0 rfl rfl 4 (by decide) (hT _ qq_1_206) (fun _ h9 => h9) rfl dX11_button_1 ?_
  refine va_getN (D := D) (ci := 8) (v := .null) (C := "WrongHole$Worn") (T := TX10) (N := 9) hx hb hts (iq_RX10 _) hown hK hP 1 rfl rfl 0 (by decide) (hN.f nq_1_99) (fun _ h9 => h9) rfl dX11_button_4 ?_
  refine lv_astore_nN (lv' := [(3, .null), (0, .ref x0), (1, .int a1), (2, .int a2)]) hx hb dX11_button_7 rfl hl (by decide) rfl (fun ls hl => ?_)
  refine lv_aload_nN hx hb dX11_button_8 rfl (lv_at hl 0 rfl) ?_
  refine lv_ifnullN (tgt := 20) hx hb dX11_button_9 (by decide) ?_
  refine lv_bipush (v := (-2)) hx hb dX11_button_20 (by decide) ?_
  exact W.iret (v := (-2)) hx hb hr (fun t9 ht9 hW9 => ⟨rfl, ht9.trans hHe⟩) (fun _ h9 => absurd h9 List.not_mem_nil) dX11_button_22
theorem dX11_hole_0 : decode cX11_hole 0 = .ok (.aload_n 0, 1) := by decide +kernel
theorem dX11_hole_1 : decode cX11_hole 1 = .ok (.getfield 32, 3) := by decide +kernel
theorem dX11_hole_4 : decode cX11_hole 4 = .ok (.getfield 86, 3) := by decide +kernel
theorem dX11_hole_7 : decode cX11_hole 7 = .ok (.astore_n 3, 1) := by decide +kernel
theorem dX11_hole_8 : decode cX11_hole 8 = .ok (.aload_n 3, 1) := by decide +kernel
theorem dX11_hole_9 : decode cX11_hole 9 = .ok (.ifnull 11, 3) := by decide +kernel
theorem dX11_hole_20 : decode cX11_hole 20 = .ok (.bipush (-2), 2) := by decide +kernel
theorem dX11_hole_22 : decode cX11_hole 22 = .ok (.ireturn, 1) := by decide +kernel
set_option maxHeartbeats 4000000 in
set_option maxRecDepth 100000 in
theorem c_x_hole (l : Launch) (D : va_G) (ad : Nat → Nat) (sz : Nat) (x0 : Nat) (ht : Nat) (hrr : Nat) (hru : Nat) (hn : Nat) (him : Nat) (hp : Nat) (hac : Nat) (hfo : Nat) (hwd : Nat) (wa : Nat) (wb : Nat) (wc : Nat) (wd : Nat) (a1 : Int32) (a2 : Int32)  : Met l yX11_hole (Cond.code yX11_hole cX11_hole 4 (some .int) :: TB) (RM 1 0 0) (va_Pc [.ref x0, .int a1, .int a2] (PRE D ad [(x0, .inr (9, [.ref ht, .ref hrr, .ref hru, .int 0, .ref hn, .ref him, .ref hp, .ref hac, .ref hfo, .ref hwd, .null, .null])), (hn, .inr (8, [.null, .int 0, .int 0, .int 0, .int 0, .ref wa, .ref wb, .ref wc, .ref wd]))] [] sz)) (k2_QcV (.int (-2))) 0 0 (fun _ => False) := by
  refine MET (y := yX11_hole) (cc := cX11_hole) (maxL := 4) (ret := (some .int)) (d := 1) (mc := 0) (ms := 0) (D := D) (ad := ad) (ws := [(x0, .inr (9, [.ref ht, .ref hrr, .ref hru, .int 0, .ref hn, .ref him, .ref hp, .ref hac, .ref hfo, .ref hwd, .null, .null])), (hn, .inr (8, [.null, .int 0, .int 0, .int 0, .int 0, .ref wa, .ref wb, .ref wc, .ref wd]))]) (tys := []) (sz := sz) (av := [.ref x0, .int a1, .int a2]) (Qc := fun A => k2_QcV (.int (-2))) (fr := fun A => (fun _ => False)) (by decide) (Nat.le_of_ble_eq_true rfl) ?_
  intro p e s m below meth c ls A H hHe hx hb hr hml hown hts hlocks hnm hP hK hD hA hS hN hl
  have hown : s.vm.findClass "WrongHole" = some m.cls := hown
  have hT : ∀ w ∈ TB, w.before ([.ref x0, .int a1, .int a2] : List Value).toArray s = true := fun w h => hts w (List.mem_cons_of_mem _ h)
  have hl : lv_has ls 4 [(0, .ref x0), (1, .int a1), (2, .int a2)] := hl
  have hP : va_P D vwCl [(x0, .inr (9, [.ref ht, .ref hrr, .ref hru, .int 0, .ref hn, .ref him, .ref hp, .ref hac, .ref hfo, .ref hwd, .null, .null])), (hn, .inr (8, [.null, .int 0, .int 0, .int 0, .int 0, .ref wa, .ref wb, .ref wc, .ref wd]))] H := hP
  refine lv_aload_n hx hb dX11_hole_0 rfl (lv_at hl 0 rfl) ?_
  refine va_get (D := D) (ci := 9) (v := .ref hn) (C := "WrongHole") (T := TX11) (N := 12) hx hb hts (iq_RX11 _) hown hK hP 0 rfl rfl 4 (by decide) (hT _ qq_1_206) (fun _ h9 => h9) rfl dX11_hole_1 ?_
  refine va_getN (D := D) (ci := 8) (v := .null) (C := "WrongHole$Worn") (T := TX10) (N := 9) hx hb hts (iq_RX10 _) hown hK hP 1 rfl rfl 0 (by decide) (hN.f nq_1_99) (fun _ h9 => h9) rfl dX11_hole_4 ?_
  refine lv_astore_nN (lv' := [(3, .null), (0, .ref x0), (1, .int a1), (2, .int a2)]) hx hb dX11_hole_7 rfl hl (by decide) rfl (fun ls hl => ?_)
  refine lv_aload_nN hx hb dX11_hole_8 rfl (lv_at hl 0 rfl) ?_
  refine lv_ifnullN (tgt := 20) hx hb dX11_hole_9 (by decide) ?_
  refine lv_bipush (v := (-2)) hx hb dX11_hole_20 (by decide) ?_
  exact W.iret (v := (-2)) hx hb hr (fun t9 ht9 hW9 => ⟨rfl, ht9.trans hHe⟩) (fun _ h9 => absurd h9 List.not_mem_nil) dX11_hole_22
theorem dX11_row_0 : decode cX11_row 0 = .ok (.aload_n 0, 1) := by decide +kernel
theorem dX11_row_1 : decode cX11_row 1 = .ok (.getfield 32, 3) := by decide +kernel
theorem dX11_row_4 : decode cX11_row 4 = .ok (.getfield 86, 3) := by decide +kernel
theorem dX11_row_7 : decode cX11_row 7 = .ok (.astore_n 2, 1) := by decide +kernel
theorem dX11_row_8 : decode cX11_row 8 = .ok (.aload_n 2, 1) := by decide +kernel
theorem dX11_row_9 : decode cX11_row 9 = .ok (.ifnonnull 5, 3) := by decide +kernel
theorem dX11_row_12 : decode cX11_row 12 = .ok (.iconst (-1), 1) := by decide +kernel
theorem dX11_row_13 : decode cX11_row 13 = .ok (.ireturn, 1) := by decide +kernel
set_option maxHeartbeats 4000000 in
set_option maxRecDepth 100000 in
theorem c_x_row (l : Launch) (D : va_G) (ad : Nat → Nat) (sz : Nat) (x0 : Nat) (ht : Nat) (hrr : Nat) (hru : Nat) (hn : Nat) (him : Nat) (hp : Nat) (hac : Nat) (hfo : Nat) (hwd : Nat) (wa : Nat) (wb : Nat) (wc : Nat) (wd : Nat) (a1 : Int32)  : Met l yX11_row (Cond.code yX11_row cX11_row 3 (some .int) :: TB) (RM 1 0 0) (va_Pc [.ref x0, .int a1] (PRE D ad [(x0, .inr (9, [.ref ht, .ref hrr, .ref hru, .int 0, .ref hn, .ref him, .ref hp, .ref hac, .ref hfo, .ref hwd, .null, .null])), (hn, .inr (8, [.null, .int 0, .int 0, .int 0, .int 0, .ref wa, .ref wb, .ref wc, .ref wd]))] [] sz)) (k2_QcV (.int (-1))) 0 0 (fun _ => False) := by
  refine MET (y := yX11_row) (cc := cX11_row) (maxL := 3) (ret := (some .int)) (d := 1) (mc := 0) (ms := 0) (D := D) (ad := ad) (ws := [(x0, .inr (9, [.ref ht, .ref hrr, .ref hru, .int 0, .ref hn, .ref him, .ref hp, .ref hac, .ref hfo, .ref hwd, .null, .null])), (hn, .inr (8, [.null, .int 0, .int 0, .int 0, .int 0, .ref wa, .ref wb, .ref wc, .ref wd]))]) (tys := []) (sz := sz) (av := [.ref x0, .int a1]) (Qc := fun A => k2_QcV (.int (-1))) (fr := fun A => (fun _ => False)) (by decide) (Nat.le_of_ble_eq_true rfl) ?_
  intro p e s m below meth c ls A H hHe hx hb hr hml hown hts hlocks hnm hP hK hD hA hS hN hl
  have hown : s.vm.findClass "WrongHole" = some m.cls := hown
  have hT : ∀ w ∈ TB, w.before ([.ref x0, .int a1] : List Value).toArray s = true := fun w h => hts w (List.mem_cons_of_mem _ h)
  have hl : lv_has ls 3 [(0, .ref x0), (1, .int a1)] := hl
  have hP : va_P D vwCl [(x0, .inr (9, [.ref ht, .ref hrr, .ref hru, .int 0, .ref hn, .ref him, .ref hp, .ref hac, .ref hfo, .ref hwd, .null, .null])), (hn, .inr (8, [.null, .int 0, .int 0, .int 0, .int 0, .ref wa, .ref wb, .ref wc, .ref wd]))] H := hP
  refine lv_aload_n hx hb dX11_row_0 rfl (lv_at hl 0 rfl) ?_
  refine va_get (D := D) (ci := 9) (v := .ref hn) (C := "WrongHole") (T := TX11) (N := 12) hx hb hts (iq_RX11 _) hown hK hP 0 rfl rfl 4 (by decide) (hT _ qq_1_206) (fun _ h9 => h9) rfl dX11_row_1 ?_
  refine va_getN (D := D) (ci := 8) (v := .null) (C := "WrongHole$Worn") (T := TX10) (N := 9) hx hb hts (iq_RX10 _) hown hK hP 1 rfl rfl 0 (by decide) (hN.f nq_1_99) (fun _ h9 => h9) rfl dX11_row_4 ?_
  refine lv_astore_nN (lv' := [(2, .null), (0, .ref x0), (1, .int a1)]) hx hb dX11_row_7 rfl hl (by decide) rfl (fun ls hl => ?_)
  refine lv_aload_nN hx hb dX11_row_8 rfl (lv_at hl 0 rfl) ?_
  refine lv_ifnonnullN hx hb dX11_row_9 ?_
  refine lv_iconst (v := (-1)) hx hb dX11_row_12 (by decide) ?_
  exact W.iret (v := (-1)) hx hb hr (fun t9 ht9 hW9 => ⟨rfl, ht9.trans hHe⟩) (fun _ h9 => absurd h9 List.not_mem_nil) dX11_row_13
theorem dX11_shown_0 : decode cX11_shown 0 = .ok (.aload_n 0, 1) := by decide +kernel
theorem dX11_shown_1 : decode cX11_shown 1 = .ok (.getfield 32, 3) := by decide +kernel
theorem dX11_shown_4 : decode cX11_shown 4 = .ok (.getfield 86, 3) := by decide +kernel
theorem dX11_shown_7 : decode cX11_shown 7 = .ok (.ifnull 14, 3) := by decide +kernel
theorem dX11_shown_21 : decode cX11_shown 21 = .ok (.iconst (-1), 1) := by decide +kernel
theorem dX11_shown_22 : decode cX11_shown 22 = .ok (.ireturn, 1) := by decide +kernel
set_option maxHeartbeats 4000000 in
set_option maxRecDepth 100000 in
theorem c_x_shown (l : Launch) (D : va_G) (ad : Nat → Nat) (sz : Nat) (x0 : Nat) (ht : Nat) (hrr : Nat) (hru : Nat) (hn : Nat) (him : Nat) (hp : Nat) (hac : Nat) (hfo : Nat) (hwd : Nat) (wa : Nat) (wb : Nat) (wc : Nat) (wd : Nat) (a1 : Int32)  : Met l yX11_shown (Cond.code yX11_shown cX11_shown 2 (some .int) :: TB) (RM 1 0 0) (va_Pc [.ref x0, .int a1] (PRE D ad [(x0, .inr (9, [.ref ht, .ref hrr, .ref hru, .int 0, .ref hn, .ref him, .ref hp, .ref hac, .ref hfo, .ref hwd, .null, .null])), (hn, .inr (8, [.null, .int 0, .int 0, .int 0, .int 0, .ref wa, .ref wb, .ref wc, .ref wd]))] [] sz)) (k2_QcV (.int (-1))) 0 0 (fun _ => False) := by
  refine MET (y := yX11_shown) (cc := cX11_shown) (maxL := 2) (ret := (some .int)) (d := 1) (mc := 0) (ms := 0) (D := D) (ad := ad) (ws := [(x0, .inr (9, [.ref ht, .ref hrr, .ref hru, .int 0, .ref hn, .ref him, .ref hp, .ref hac, .ref hfo, .ref hwd, .null, .null])), (hn, .inr (8, [.null, .int 0, .int 0, .int 0, .int 0, .ref wa, .ref wb, .ref wc, .ref wd]))]) (tys := []) (sz := sz) (av := [.ref x0, .int a1]) (Qc := fun A => k2_QcV (.int (-1))) (fr := fun A => (fun _ => False)) (by decide) (Nat.le_of_ble_eq_true rfl) ?_
  intro p e s m below meth c ls A H hHe hx hb hr hml hown hts hlocks hnm hP hK hD hA hS hN hl
  have hown : s.vm.findClass "WrongHole" = some m.cls := hown
  have hT : ∀ w ∈ TB, w.before ([.ref x0, .int a1] : List Value).toArray s = true := fun w h => hts w (List.mem_cons_of_mem _ h)
  have hl : lv_has ls 2 [(0, .ref x0), (1, .int a1)] := hl
  have hP : va_P D vwCl [(x0, .inr (9, [.ref ht, .ref hrr, .ref hru, .int 0, .ref hn, .ref him, .ref hp, .ref hac, .ref hfo, .ref hwd, .null, .null])), (hn, .inr (8, [.null, .int 0, .int 0, .int 0, .int 0, .ref wa, .ref wb, .ref wc, .ref wd]))] H := hP
  refine lv_aload_n hx hb dX11_shown_0 rfl (lv_at hl 0 rfl) ?_
  refine va_get (D := D) (ci := 9) (v := .ref hn) (C := "WrongHole") (T := TX11) (N := 12) hx hb hts (iq_RX11 _) hown hK hP 0 rfl rfl 4 (by decide) (hT _ qq_1_206) (fun _ h9 => h9) rfl dX11_shown_1 ?_
  refine va_getN (D := D) (ci := 8) (v := .null) (C := "WrongHole$Worn") (T := TX10) (N := 9) hx hb hts (iq_RX10 _) hown hK hP 1 rfl rfl 0 (by decide) (hN.f nq_1_99) (fun _ h9 => h9) rfl dX11_shown_4 ?_
  refine lv_ifnullN (tgt := 21) hx hb dX11_shown_7 (by decide) ?_
  refine lv_iconst (v := (-1)) hx hb dX11_shown_21 (by decide) ?_
  exact W.iret (v := (-1)) hx hb hr (fun t9 ht9 hW9 => ⟨rfl, ht9.trans hHe⟩) (fun _ h9 => absurd h9 List.not_mem_nil) dX11_shown_22
theorem dX11_unfasten_0 : decode cX11_unfasten 0 = .ok (.aload_n 0, 1) := by decide +kernel
theorem dX11_unfasten_1 : decode cX11_unfasten 1 = .ok (.getfield 32, 3) := by decide +kernel
theorem dX11_unfasten_4 : decode cX11_unfasten 4 = .ok (.getfield 86, 3) := by decide +kernel
theorem dX11_unfasten_7 : decode cX11_unfasten 7 = .ok (.astore_n 2, 1) := by decide +kernel
theorem dX11_unfasten_8 : decode cX11_unfasten 8 = .ok (.aload_n 2, 1) := by decide +kernel
theorem dX11_unfasten_9 : decode cX11_unfasten 9 = .ok (.ifnull 26, 3) := by decide +kernel
theorem dX11_unfasten_35 : decode cX11_unfasten 35 = .ok (.iconst (-1), 1) := by decide +kernel
theorem dX11_unfasten_36 : decode cX11_unfasten 36 = .ok (.ireturn, 1) := by decide +kernel
set_option maxHeartbeats 4000000 in
set_option maxRecDepth 100000 in
theorem c_x_unfasten (l : Launch) (D : va_G) (ad : Nat → Nat) (sz : Nat) (x0 : Nat) (ht : Nat) (hrr : Nat) (hru : Nat) (hn : Nat) (him : Nat) (hp : Nat) (hac : Nat) (hfo : Nat) (hwd : Nat) (wa : Nat) (wb : Nat) (wc : Nat) (wd : Nat) (a1 : Int32)  : Met l yX11_unfasten (Cond.code yX11_unfasten cX11_unfasten 3 (some .int) :: TB) (RM 1 0 0) (va_Pc [.ref x0, .int a1] (PRE D ad [(x0, .inr (9, [.ref ht, .ref hrr, .ref hru, .int 0, .ref hn, .ref him, .ref hp, .ref hac, .ref hfo, .ref hwd, .null, .null])), (hn, .inr (8, [.null, .int 0, .int 0, .int 0, .int 0, .ref wa, .ref wb, .ref wc, .ref wd]))] [] sz)) (k2_QcV (.int (-1))) 0 0 (fun _ => False) := by
  refine MET (y := yX11_unfasten) (cc := cX11_unfasten) (maxL := 3) (ret := (some .int)) (d := 1) (mc := 0) (ms := 0) (D := D) (ad := ad) (ws := [(x0, .inr (9, [.ref ht, .ref hrr, .ref hru, .int 0, .ref hn, .ref him, .ref hp, .ref hac, .ref hfo, .ref hwd, .null, .null])), (hn, .inr (8, [.null, .int 0, .int 0, .int 0, .int 0, .ref wa, .ref wb, .ref wc, .ref wd]))]) (tys := []) (sz := sz) (av := [.ref x0, .int a1]) (Qc := fun A => k2_QcV (.int (-1))) (fr := fun A => (fun _ => False)) (by decide) (Nat.le_of_ble_eq_true rfl) ?_
  intro p e s m below meth c ls A H hHe hx hb hr hml hown hts hlocks hnm hP hK hD hA hS hN hl
  have hown : s.vm.findClass "WrongHole" = some m.cls := hown
  have hT : ∀ w ∈ TB, w.before ([.ref x0, .int a1] : List Value).toArray s = true := fun w h => hts w (List.mem_cons_of_mem _ h)
  have hl : lv_has ls 3 [(0, .ref x0), (1, .int a1)] := hl
  have hP : va_P D vwCl [(x0, .inr (9, [.ref ht, .ref hrr, .ref hru, .int 0, .ref hn, .ref him, .ref hp, .ref hac, .ref hfo, .ref hwd, .null, .null])), (hn, .inr (8, [.null, .int 0, .int 0, .int 0, .int 0, .ref wa, .ref wb, .ref wc, .ref wd]))] H := hP
  refine lv_aload_n hx hb dX11_unfasten_0 rfl (lv_at hl 0 rfl) ?_
  refine va_get (D := D) (ci := 9) (v := .ref hn) (C := "WrongHole") (T := TX11) (N := 12) hx hb hts (iq_RX11 _) hown hK hP 0 rfl rfl 4 (by decide) (hT _ qq_1_206) (fun _ h9 => h9) rfl dX11_unfasten_1 ?_
  refine va_getN (D := D) (ci := 8) (v := .null) (C := "WrongHole$Worn") (T := TX10) (N := 9) hx hb hts (iq_RX10 _) hown hK hP 1 rfl rfl 0 (by decide) (hN.f nq_1_99) (fun _ h9 => h9) rfl dX11_unfasten_4 ?_
  refine lv_astore_nN (lv' := [(2, .null), (0, .ref x0), (1, .int a1)]) hx hb dX11_unfasten_7 rfl hl (by decide) rfl (fun ls hl => ?_)
  refine lv_aload_nN hx hb dX11_unfasten_8 rfl (lv_at hl 0 rfl) ?_
  refine lv_ifnullN (tgt := 35) hx hb dX11_unfasten_9 (by decide) ?_
  refine lv_iconst (v := (-1)) hx hb dX11_unfasten_35 (by decide) ?_
  exact W.iret (v := (-1)) hx hb hr (fun t9 ht9 hW9 => ⟨rfl, ht9.trans hHe⟩) (fun _ h9 => absurd h9 List.not_mem_nil) dX11_unfasten_36
theorem dX11_fasten_0 : decode cX11_fasten 0 = .ok (.aload_n 0, 1) := by decide +kernel
theorem dX11_fasten_1 : decode cX11_fasten 1 = .ok (.getfield 32, 3) := by decide +kernel
theorem dX11_fasten_4 : decode cX11_fasten 4 = .ok (.getfield 86, 3) := by decide +kernel
theorem dX11_fasten_7 : decode cX11_fasten 7 = .ok (.astore_n 3, 1) := by decide +kernel
theorem dX11_fasten_8 : decode cX11_fasten 8 = .ok (.aload_n 3, 1) := by decide +kernel
theorem dX11_fasten_9 : decode cX11_fasten 9 = .ok (.ifnull 35, 3) := by decide +kernel
theorem dX11_fasten_44 : decode cX11_fasten 44 = .ok (.iconst (-1), 1) := by decide +kernel
theorem dX11_fasten_45 : decode cX11_fasten 45 = .ok (.ireturn, 1) := by decide +kernel
set_option maxHeartbeats 4000000 in
set_option maxRecDepth 100000 in
theorem c_x_fasten (l : Launch) (D : va_G) (ad : Nat → Nat) (sz : Nat) (x0 : Nat) (ht : Nat) (hrr : Nat) (hru : Nat) (hn : Nat) (him : Nat) (hp : Nat) (hac : Nat) (hfo : Nat) (hwd : Nat) (wa : Nat) (wb : Nat) (wc : Nat) (wd : Nat) (a1 : Int32) (a2 : Int32)  : Met l yX11_fasten (Cond.code yX11_fasten cX11_fasten 4 (some .int) :: TB) (RM 1 0 0) (va_Pc [.ref x0, .int a1, .int a2] (PRE D ad [(x0, .inr (9, [.ref ht, .ref hrr, .ref hru, .int 0, .ref hn, .ref him, .ref hp, .ref hac, .ref hfo, .ref hwd, .null, .null])), (hn, .inr (8, [.null, .int 0, .int 0, .int 0, .int 0, .ref wa, .ref wb, .ref wc, .ref wd]))] [] sz)) (k2_QcV (.int (-1))) 0 0 (fun _ => False) := by
  refine MET (y := yX11_fasten) (cc := cX11_fasten) (maxL := 4) (ret := (some .int)) (d := 1) (mc := 0) (ms := 0) (D := D) (ad := ad) (ws := [(x0, .inr (9, [.ref ht, .ref hrr, .ref hru, .int 0, .ref hn, .ref him, .ref hp, .ref hac, .ref hfo, .ref hwd, .null, .null])), (hn, .inr (8, [.null, .int 0, .int 0, .int 0, .int 0, .ref wa, .ref wb, .ref wc, .ref wd]))]) (tys := []) (sz := sz) (av := [.ref x0, .int a1, .int a2]) (Qc := fun A => k2_QcV (.int (-1))) (fr := fun A => (fun _ => False)) (by decide) (Nat.le_of_ble_eq_true rfl) ?_
  intro p e s m below meth c ls A H hHe hx hb hr hml hown hts hlocks hnm hP hK hD hA hS hN hl
  have hown : s.vm.findClass "WrongHole" = some m.cls := hown
  have hT : ∀ w ∈ TB, w.before ([.ref x0, .int a1, .int a2] : List Value).toArray s = true := fun w h => hts w (List.mem_cons_of_mem _ h)
  have hl : lv_has ls 4 [(0, .ref x0), (1, .int a1), (2, .int a2)] := hl
  have hP : va_P D vwCl [(x0, .inr (9, [.ref ht, .ref hrr, .ref hru, .int 0, .ref hn, .ref him, .ref hp, .ref hac, .ref hfo, .ref hwd, .null, .null])), (hn, .inr (8, [.null, .int 0, .int 0, .int 0, .int 0, .ref wa, .ref wb, .ref wc, .ref wd]))] H := hP
  refine lv_aload_n hx hb dX11_fasten_0 rfl (lv_at hl 0 rfl) ?_
  refine va_get (D := D) (ci := 9) (v := .ref hn) (C := "WrongHole") (T := TX11) (N := 12) hx hb hts (iq_RX11 _) hown hK hP 0 rfl rfl 4 (by decide) (hT _ qq_1_206) (fun _ h9 => h9) rfl dX11_fasten_1 ?_
  refine va_getN (D := D) (ci := 8) (v := .null) (C := "WrongHole$Worn") (T := TX10) (N := 9) hx hb hts (iq_RX10 _) hown hK hP 1 rfl rfl 0 (by decide) (hN.f nq_1_99) (fun _ h9 => h9) rfl dX11_fasten_4 ?_
  refine lv_astore_nN (lv' := [(3, .null), (0, .ref x0), (1, .int a1), (2, .int a2)]) hx hb dX11_fasten_7 rfl hl (by decide) rfl (fun ls hl => ?_)
  refine lv_aload_nN hx hb dX11_fasten_8 rfl (lv_at hl 0 rfl) ?_
  refine lv_ifnullN (tgt := 44) hx hb dX11_fasten_9 (by decide) ?_
  refine lv_iconst (v := (-1)) hx hb dX11_fasten_44 (by decide) ?_
  exact W.iret (v := (-1)) hx hb hr (fun t9 ht9 hW9 => ⟨rfl, ht9.trans hHe⟩) (fun _ h9 => absurd h9 List.not_mem_nil) dX11_fasten_45
theorem dX11_waits_0 : decode cX11_waits 0 = .ok (.aload_n 0, 1) := by decide +kernel
theorem dX11_waits_1 : decode cX11_waits 1 = .ok (.getfield 32, 3) := by decide +kernel
theorem dX11_waits_4 : decode cX11_waits 4 = .ok (.getfield 86, 3) := by decide +kernel
theorem dX11_waits_7 : decode cX11_waits 7 = .ok (.ifnull 30, 3) := by decide +kernel
theorem dX11_waits_37 : decode cX11_waits 37 = .ok (.iconst (-1), 1) := by decide +kernel
theorem dX11_waits_38 : decode cX11_waits 38 = .ok (.ireturn, 1) := by decide +kernel
set_option maxHeartbeats 4000000 in
set_option maxRecDepth 100000 in
theorem c_x_waits (l : Launch) (D : va_G) (ad : Nat → Nat) (sz : Nat) (x0 : Nat) (ht : Nat) (hrr : Nat) (hru : Nat) (hn : Nat) (him : Nat) (hp : Nat) (hac : Nat) (hfo : Nat) (hwd : Nat) (wa : Nat) (wb : Nat) (wc : Nat) (wd : Nat) (a1 : Int32)  : Met l yX11_waits (Cond.code yX11_waits cX11_waits 2 (some .int) :: TB) (RM 1 0 0) (va_Pc [.ref x0, .int a1] (PRE D ad [(x0, .inr (9, [.ref ht, .ref hrr, .ref hru, .int 0, .ref hn, .ref him, .ref hp, .ref hac, .ref hfo, .ref hwd, .null, .null])), (hn, .inr (8, [.null, .int 0, .int 0, .int 0, .int 0, .ref wa, .ref wb, .ref wc, .ref wd]))] [] sz)) (k2_QcV (.int (-1))) 0 0 (fun _ => False) := by
  refine MET (y := yX11_waits) (cc := cX11_waits) (maxL := 2) (ret := (some .int)) (d := 1) (mc := 0) (ms := 0) (D := D) (ad := ad) (ws := [(x0, .inr (9, [.ref ht, .ref hrr, .ref hru, .int 0, .ref hn, .ref him, .ref hp, .ref hac, .ref hfo, .ref hwd, .null, .null])), (hn, .inr (8, [.null, .int 0, .int 0, .int 0, .int 0, .ref wa, .ref wb, .ref wc, .ref wd]))]) (tys := []) (sz := sz) (av := [.ref x0, .int a1]) (Qc := fun A => k2_QcV (.int (-1))) (fr := fun A => (fun _ => False)) (by decide) (Nat.le_of_ble_eq_true rfl) ?_
  intro p e s m below meth c ls A H hHe hx hb hr hml hown hts hlocks hnm hP hK hD hA hS hN hl
  have hown : s.vm.findClass "WrongHole" = some m.cls := hown
  have hT : ∀ w ∈ TB, w.before ([.ref x0, .int a1] : List Value).toArray s = true := fun w h => hts w (List.mem_cons_of_mem _ h)
  have hl : lv_has ls 2 [(0, .ref x0), (1, .int a1)] := hl
  have hP : va_P D vwCl [(x0, .inr (9, [.ref ht, .ref hrr, .ref hru, .int 0, .ref hn, .ref him, .ref hp, .ref hac, .ref hfo, .ref hwd, .null, .null])), (hn, .inr (8, [.null, .int 0, .int 0, .int 0, .int 0, .ref wa, .ref wb, .ref wc, .ref wd]))] H := hP
  refine lv_aload_n hx hb dX11_waits_0 rfl (lv_at hl 0 rfl) ?_
  refine va_get (D := D) (ci := 9) (v := .ref hn) (C := "WrongHole") (T := TX11) (N := 12) hx hb hts (iq_RX11 _) hown hK hP 0 rfl rfl 4 (by decide) (hT _ qq_1_206) (fun _ h9 => h9) rfl dX11_waits_1 ?_
  refine va_getN (D := D) (ci := 8) (v := .null) (C := "WrongHole$Worn") (T := TX10) (N := 9) hx hb hts (iq_RX10 _) hown hK hP 1 rfl rfl 0 (by decide) (hN.f nq_1_99) (fun _ h9 => h9) rfl dX11_waits_4 ?_
  refine lv_ifnullN (tgt := 37) hx hb dX11_waits_7 (by decide) ?_
  refine lv_iconst (v := (-1)) hx hb dX11_waits_37 (by decide) ?_
  exact W.iret (v := (-1)) hx hb hr (fun t9 ht9 hW9 => ⟨rfl, ht9.trans hHe⟩) (fun _ h9 => absurd h9 List.not_mem_nil) dX11_waits_38
theorem dX11_run_0 : decode cX11_run 0 = .ok (.aload_n 0, 1) := by decide +kernel
theorem dX11_run_1 : decode cX11_run 1 = .ok (.getfield 32, 3) := by decide +kernel
theorem dX11_run_4 : decode cX11_run 4 = .ok (.getfield 86, 3) := by decide +kernel
theorem dX11_run_7 : decode cX11_run 7 = .ok (.astore_n 3, 1) := by decide +kernel
theorem dX11_run_8 : decode cX11_run 8 = .ok (.aload_n 3, 1) := by decide +kernel
theorem dX11_run_9 : decode cX11_run 9 = .ok (.ifnull 26, 3) := by decide +kernel
theorem dX11_run_35 : decode cX11_run 35 = .ok (.iconst (-1), 1) := by decide +kernel
theorem dX11_run_36 : decode cX11_run 36 = .ok (.ireturn, 1) := by decide +kernel
set_option maxHeartbeats 4000000 in
set_option maxRecDepth 100000 in
theorem c_x_run (l : Launch) (D : va_G) (ad : Nat → Nat) (sz : Nat) (x0 : Nat) (ht : Nat) (hrr : Nat) (hru : Nat) (hn : Nat) (him : Nat) (hp : Nat) (hac : Nat) (hfo : Nat) (hwd : Nat) (wa : Nat) (wb : Nat) (wc : Nat) (wd : Nat) (a1 : Int32) (a2 : Int32)  : Met l yX11_run (Cond.code yX11_run cX11_run 6 (some .int) :: TB) (RM 1 0 0) (va_Pc [.ref x0, .int a1, .int a2] (PRE D ad [(x0, .inr (9, [.ref ht, .ref hrr, .ref hru, .int 0, .ref hn, .ref him, .ref hp, .ref hac, .ref hfo, .ref hwd, .null, .null])), (hn, .inr (8, [.null, .int 0, .int 0, .int 0, .int 0, .ref wa, .ref wb, .ref wc, .ref wd]))] [] sz)) (k2_QcV (.int (-1))) 0 0 (fun _ => False) := by
  refine MET (y := yX11_run) (cc := cX11_run) (maxL := 6) (ret := (some .int)) (d := 1) (mc := 0) (ms := 0) (D := D) (ad := ad) (ws := [(x0, .inr (9, [.ref ht, .ref hrr, .ref hru, .int 0, .ref hn, .ref him, .ref hp, .ref hac, .ref hfo, .ref hwd, .null, .null])), (hn, .inr (8, [.null, .int 0, .int 0, .int 0, .int 0, .ref wa, .ref wb, .ref wc, .ref wd]))]) (tys := []) (sz := sz) (av := [.ref x0, .int a1, .int a2]) (Qc := fun A => k2_QcV (.int (-1))) (fr := fun A => (fun _ => False)) (by decide) (Nat.le_of_ble_eq_true rfl) ?_
  intro p e s m below meth c ls A H hHe hx hb hr hml hown hts hlocks hnm hP hK hD hA hS hN hl
  have hown : s.vm.findClass "WrongHole" = some m.cls := hown
  have hT : ∀ w ∈ TB, w.before ([.ref x0, .int a1, .int a2] : List Value).toArray s = true := fun w h => hts w (List.mem_cons_of_mem _ h)
  have hl : lv_has ls 6 [(0, .ref x0), (1, .int a1), (2, .int a2)] := hl
  have hP : va_P D vwCl [(x0, .inr (9, [.ref ht, .ref hrr, .ref hru, .int 0, .ref hn, .ref him, .ref hp, .ref hac, .ref hfo, .ref hwd, .null, .null])), (hn, .inr (8, [.null, .int 0, .int 0, .int 0, .int 0, .ref wa, .ref wb, .ref wc, .ref wd]))] H := hP
  refine lv_aload_n hx hb dX11_run_0 rfl (lv_at hl 0 rfl) ?_
  refine va_get (D := D) (ci := 9) (v := .ref hn) (C := "WrongHole") (T := TX11) (N := 12) hx hb hts (iq_RX11 _) hown hK hP 0 rfl rfl 4 (by decide) (hT _ qq_1_206) (fun _ h9 => h9) rfl dX11_run_1 ?_
  refine va_getN (D := D) (ci := 8) (v := .null) (C := "WrongHole$Worn") (T := TX10) (N := 9) hx hb hts (iq_RX10 _) hown hK hP 1 rfl rfl 0 (by decide) (hN.f nq_1_99) (fun _ h9 => h9) rfl dX11_run_4 ?_
  refine lv_astore_nN (lv' := [(3, .null), (0, .ref x0), (1, .int a1), (2, .int a2)]) hx hb dX11_run_7 rfl hl (by decide) rfl (fun ls hl => ?_)
  refine lv_aload_nN hx hb dX11_run_8 rfl (lv_at hl 0 rfl) ?_
  refine lv_ifnullN (tgt := 35) hx hb dX11_run_9 (by decide) ?_
  refine lv_iconst (v := (-1)) hx hb dX11_run_35 (by decide) ?_
  exact W.iret (v := (-1)) hx hb hr (fun t9 ht9 hW9 => ⟨rfl, ht9.trans hHe⟩) (fun _ h9 => absurd h9 List.not_mem_nil) dX11_run_36
theorem dX11_may_0 : decode cX11_may 0 = .ok (.aload_n 0, 1) := by decide +kernel
theorem dX11_may_1 : decode cX11_may 1 = .ok (.getfield 32, 3) := by decide +kernel
theorem dX11_may_4 : decode cX11_may 4 = .ok (.getfield 86, 3) := by decide +kernel
theorem dX11_may_7 : decode cX11_may 7 = .ok (.ifnonnull 5, 3) := by decide +kernel
theorem dX11_may_10 : decode cX11_may 10 = .ok (.iconst (-1), 1) := by decide +kernel
theorem dX11_may_11 : decode cX11_may 11 = .ok (.ireturn, 1) := by decide +kernel
set_option maxHeartbeats 4000000 in
set_option maxRecDepth 100000 in
theorem c_x_may (l : Launch) (D : va_G) (ad : Nat → Nat) (sz : Nat) (x0 : Nat) (ht : Nat) (hrr : Nat) (hru : Nat) (hn : Nat) (him : Nat) (hp : Nat) (hac : Nat) (hfo : Nat) (hwd : Nat) (wa : Nat) (wb : Nat) (wc : Nat) (wd : Nat)  : Met l yX11_may (Cond.code yX11_may cX11_may 1 (some .int) :: TB) (RM 1 0 0) (va_Pc [.ref x0] (PRE D ad [(x0, .inr (9, [.ref ht, .ref hrr, .ref hru, .int 0, .ref hn, .ref him, .ref hp, .ref hac, .ref hfo, .ref hwd, .null, .null])), (hn, .inr (8, [.null, .int 0, .int 0, .int 0, .int 0, .ref wa, .ref wb, .ref wc, .ref wd]))] [] sz)) (k2_QcV (.int (-1))) 0 0 (fun _ => False) := by
  refine MET (y := yX11_may) (cc := cX11_may) (maxL := 1) (ret := (some .int)) (d := 1) (mc := 0) (ms := 0) (D := D) (ad := ad) (ws := [(x0, .inr (9, [.ref ht, .ref hrr, .ref hru, .int 0, .ref hn, .ref him, .ref hp, .ref hac, .ref hfo, .ref hwd, .null, .null])), (hn, .inr (8, [.null, .int 0, .int 0, .int 0, .int 0, .ref wa, .ref wb, .ref wc, .ref wd]))]) (tys := []) (sz := sz) (av := [.ref x0]) (Qc := fun A => k2_QcV (.int (-1))) (fr := fun A => (fun _ => False)) (by decide) (Nat.le_of_ble_eq_true rfl) ?_
  intro p e s m below meth c ls A H hHe hx hb hr hml hown hts hlocks hnm hP hK hD hA hS hN hl
  have hown : s.vm.findClass "WrongHole" = some m.cls := hown
  have hT : ∀ w ∈ TB, w.before ([.ref x0] : List Value).toArray s = true := fun w h => hts w (List.mem_cons_of_mem _ h)
  have hl : lv_has ls 1 [(0, .ref x0)] := hl
  have hP : va_P D vwCl [(x0, .inr (9, [.ref ht, .ref hrr, .ref hru, .int 0, .ref hn, .ref him, .ref hp, .ref hac, .ref hfo, .ref hwd, .null, .null])), (hn, .inr (8, [.null, .int 0, .int 0, .int 0, .int 0, .ref wa, .ref wb, .ref wc, .ref wd]))] H := hP
  refine lv_aload_n hx hb dX11_may_0 rfl (lv_at hl 0 rfl) ?_
  refine va_get (D := D) (ci := 9) (v := .ref hn) (C := "WrongHole") (T := TX11) (N := 12) hx hb hts (iq_RX11 _) hown hK hP 0 rfl rfl 4 (by decide) (hT _ qq_1_206) (fun _ h9 => h9) rfl dX11_may_1 ?_
  refine va_getN (D := D) (ci := 8) (v := .null) (C := "WrongHole$Worn") (T := TX10) (N := 9) hx hb hts (iq_RX10 _) hown hK hP 1 rfl rfl 0 (by decide) (hN.f nq_1_99) (fun _ h9 => h9) rfl dX11_may_4 ?_
  refine lv_ifnonnullN hx hb dX11_may_7 ?_
  refine lv_iconst (v := (-1)) hx hb dX11_may_10 (by decide) ?_
  exact W.iret (v := (-1)) hx hb hr (fun t9 ht9 hW9 => ⟨rfl, ht9.trans hHe⟩) (fun _ h9 => absurd h9 List.not_mem_nil) dX11_may_11
theorem dX11_act_0 : decode cX11_act 0 = .ok (.aload_n 0, 1) := by decide +kernel
theorem dX11_act_1 : decode cX11_act 1 = .ok (.getfield 32, 3) := by decide +kernel
theorem dX11_act_4 : decode cX11_act 4 = .ok (.getfield 86, 3) := by decide +kernel
theorem dX11_act_7 : decode cX11_act 7 = .ok (.ifnull 16, 3) := by decide +kernel
theorem dX11_act_23 : decode cX11_act 23 = .ok (.iconst (-1), 1) := by decide +kernel
theorem dX11_act_24 : decode cX11_act 24 = .ok (.ireturn, 1) := by decide +kernel
set_option maxHeartbeats 4000000 in
set_option maxRecDepth 100000 in
theorem c_x_act (l : Launch) (D : va_G) (ad : Nat → Nat) (sz : Nat) (x0 : Nat) (ht : Nat) (hrr : Nat) (hru : Nat) (hn : Nat) (him : Nat) (hp : Nat) (hac : Nat) (hfo : Nat) (hwd : Nat) (wa : Nat) (wb : Nat) (wc : Nat) (wd : Nat) (a1 : Int32) (a2 : Int32)  : Met l yX11_act (Cond.code yX11_act cX11_act 3 (some .int) :: TB) (RM 1 0 0) (va_Pc [.ref x0, .int a1, .int a2] (PRE D ad [(x0, .inr (9, [.ref ht, .ref hrr, .ref hru, .int 0, .ref hn, .ref him, .ref hp, .ref hac, .ref hfo, .ref hwd, .null, .null])), (hn, .inr (8, [.null, .int 0, .int 0, .int 0, .int 0, .ref wa, .ref wb, .ref wc, .ref wd]))] [] sz)) (k2_QcV (.int (-1))) 0 0 (fun _ => False) := by
  refine MET (y := yX11_act) (cc := cX11_act) (maxL := 3) (ret := (some .int)) (d := 1) (mc := 0) (ms := 0) (D := D) (ad := ad) (ws := [(x0, .inr (9, [.ref ht, .ref hrr, .ref hru, .int 0, .ref hn, .ref him, .ref hp, .ref hac, .ref hfo, .ref hwd, .null, .null])), (hn, .inr (8, [.null, .int 0, .int 0, .int 0, .int 0, .ref wa, .ref wb, .ref wc, .ref wd]))]) (tys := []) (sz := sz) (av := [.ref x0, .int a1, .int a2]) (Qc := fun A => k2_QcV (.int (-1))) (fr := fun A => (fun _ => False)) (by decide) (Nat.le_of_ble_eq_true rfl) ?_
  intro p e s m below meth c ls A H hHe hx hb hr hml hown hts hlocks hnm hP hK hD hA hS hN hl
  have hown : s.vm.findClass "WrongHole" = some m.cls := hown
  have hT : ∀ w ∈ TB, w.before ([.ref x0, .int a1, .int a2] : List Value).toArray s = true := fun w h => hts w (List.mem_cons_of_mem _ h)
  have hl : lv_has ls 3 [(0, .ref x0), (1, .int a1), (2, .int a2)] := hl
  have hP : va_P D vwCl [(x0, .inr (9, [.ref ht, .ref hrr, .ref hru, .int 0, .ref hn, .ref him, .ref hp, .ref hac, .ref hfo, .ref hwd, .null, .null])), (hn, .inr (8, [.null, .int 0, .int 0, .int 0, .int 0, .ref wa, .ref wb, .ref wc, .ref wd]))] H := hP
  refine lv_aload_n hx hb dX11_act_0 rfl (lv_at hl 0 rfl) ?_
  refine va_get (D := D) (ci := 9) (v := .ref hn) (C := "WrongHole") (T := TX11) (N := 12) hx hb hts (iq_RX11 _) hown hK hP 0 rfl rfl 4 (by decide) (hT _ qq_1_206) (fun _ h9 => h9) rfl dX11_act_1 ?_
  refine va_getN (D := D) (ci := 8) (v := .null) (C := "WrongHole$Worn") (T := TX10) (N := 9) hx hb hts (iq_RX10 _) hown hK hP 1 rfl rfl 0 (by decide) (hN.f nq_1_99) (fun _ h9 => h9) rfl dX11_act_4 ?_
  refine lv_ifnullN (tgt := 23) hx hb dX11_act_7 (by decide) ?_
  refine lv_iconst (v := (-1)) hx hb dX11_act_23 (by decide) ?_
  exact W.iret (v := (-1)) hx hb hr (fun t9 ht9 hW9 => ⟨rfl, ht9.trans hHe⟩) (fun _ h9 => absurd h9 List.not_mem_nil) dX11_act_24
theorem dX11_fewest_0 : decode cX11_fewest 0 = .ok (.aload_n 0, 1) := by decide +kernel
theorem dX11_fewest_1 : decode cX11_fewest 1 = .ok (.getfield 32, 3) := by decide +kernel
theorem dX11_fewest_4 : decode cX11_fewest 4 = .ok (.getfield 86, 3) := by decide +kernel
theorem dX11_fewest_7 : decode cX11_fewest 7 = .ok (.ifnull 12, 3) := by decide +kernel
theorem dX11_fewest_19 : decode cX11_fewest 19 = .ok (.iconst (-1), 1) := by decide +kernel
theorem dX11_fewest_20 : decode cX11_fewest 20 = .ok (.ireturn, 1) := by decide +kernel
set_option maxHeartbeats 4000000 in
set_option maxRecDepth 100000 in
theorem c_x_fewest (l : Launch) (D : va_G) (ad : Nat → Nat) (sz : Nat) (x0 : Nat) (ht : Nat) (hrr : Nat) (hru : Nat) (hn : Nat) (him : Nat) (hp : Nat) (hac : Nat) (hfo : Nat) (hwd : Nat) (wa : Nat) (wb : Nat) (wc : Nat) (wd : Nat) (a1 : Int32)  : Met l yX11_fewest (Cond.code yX11_fewest cX11_fewest 3 (some .int) :: TB) (RM 1 0 0) (va_Pc [.ref x0, .int a1] (PRE D ad [(x0, .inr (9, [.ref ht, .ref hrr, .ref hru, .int 0, .ref hn, .ref him, .ref hp, .ref hac, .ref hfo, .ref hwd, .null, .null])), (hn, .inr (8, [.null, .int 0, .int 0, .int 0, .int 0, .ref wa, .ref wb, .ref wc, .ref wd]))] [] sz)) (k2_QcV (.int (-1))) 0 0 (fun _ => False) := by
  refine MET (y := yX11_fewest) (cc := cX11_fewest) (maxL := 3) (ret := (some .int)) (d := 1) (mc := 0) (ms := 0) (D := D) (ad := ad) (ws := [(x0, .inr (9, [.ref ht, .ref hrr, .ref hru, .int 0, .ref hn, .ref him, .ref hp, .ref hac, .ref hfo, .ref hwd, .null, .null])), (hn, .inr (8, [.null, .int 0, .int 0, .int 0, .int 0, .ref wa, .ref wb, .ref wc, .ref wd]))]) (tys := []) (sz := sz) (av := [.ref x0, .int a1]) (Qc := fun A => k2_QcV (.int (-1))) (fr := fun A => (fun _ => False)) (by decide) (Nat.le_of_ble_eq_true rfl) ?_
  intro p e s m below meth c ls A H hHe hx hb hr hml hown hts hlocks hnm hP hK hD hA hS hN hl
  have hown : s.vm.findClass "WrongHole" = some m.cls := hown
  have hT : ∀ w ∈ TB, w.before ([.ref x0, .int a1] : List Value).toArray s = true := fun w h => hts w (List.mem_cons_of_mem _ h)
  have hl : lv_has ls 3 [(0, .ref x0), (1, .int a1)] := hl
  have hP : va_P D vwCl [(x0, .inr (9, [.ref ht, .ref hrr, .ref hru, .int 0, .ref hn, .ref him, .ref hp, .ref hac, .ref hfo, .ref hwd, .null, .null])), (hn, .inr (8, [.null, .int 0, .int 0, .int 0, .int 0, .ref wa, .ref wb, .ref wc, .ref wd]))] H := hP
  refine lv_aload_n hx hb dX11_fewest_0 rfl (lv_at hl 0 rfl) ?_
  refine va_get (D := D) (ci := 9) (v := .ref hn) (C := "WrongHole") (T := TX11) (N := 12) hx hb hts (iq_RX11 _) hown hK hP 0 rfl rfl 4 (by decide) (hT _ qq_1_206) (fun _ h9 => h9) rfl dX11_fewest_1 ?_
  refine va_getN (D := D) (ci := 8) (v := .null) (C := "WrongHole$Worn") (T := TX10) (N := 9) hx hb hts (iq_RX10 _) hown hK hP 1 rfl rfl 0 (by decide) (hN.f nq_1_99) (fun _ h9 => h9) rfl dX11_fewest_4 ?_
  refine lv_ifnullN (tgt := 19) hx hb dX11_fewest_7 (by decide) ?_
  refine lv_iconst (v := (-1)) hx hb dX11_fewest_19 (by decide) ?_
  exact W.iret (v := (-1)) hx hb hr (fun t9 ht9 hW9 => ⟨rfl, ht9.trans hHe⟩) (fun _ h9 => absurd h9 List.not_mem_nil) dX11_fewest_20
theorem dX11_soonest_0 : decode cX11_soonest 0 = .ok (.aload_n 0, 1) := by decide +kernel
theorem dX11_soonest_1 : decode cX11_soonest 1 = .ok (.getfield 32, 3) := by decide +kernel
theorem dX11_soonest_4 : decode cX11_soonest 4 = .ok (.getfield 86, 3) := by decide +kernel
theorem dX11_soonest_7 : decode cX11_soonest 7 = .ok (.ifnonnull 5, 3) := by decide +kernel
theorem dX11_soonest_10 : decode cX11_soonest 10 = .ok (.iconst (-1), 1) := by decide +kernel
theorem dX11_soonest_11 : decode cX11_soonest 11 = .ok (.ireturn, 1) := by decide +kernel
set_option maxHeartbeats 4000000 in
set_option maxRecDepth 100000 in
theorem c_x_soonest (l : Launch) (D : va_G) (ad : Nat → Nat) (sz : Nat) (x0 : Nat) (ht : Nat) (hrr : Nat) (hru : Nat) (hn : Nat) (him : Nat) (hp : Nat) (hac : Nat) (hfo : Nat) (hwd : Nat) (wa : Nat) (wb : Nat) (wc : Nat) (wd : Nat)  : Met l yX11_soonest (Cond.code yX11_soonest cX11_soonest 2 (some .int) :: TB) (RM 1 0 0) (va_Pc [.ref x0] (PRE D ad [(x0, .inr (9, [.ref ht, .ref hrr, .ref hru, .int 0, .ref hn, .ref him, .ref hp, .ref hac, .ref hfo, .ref hwd, .null, .null])), (hn, .inr (8, [.null, .int 0, .int 0, .int 0, .int 0, .ref wa, .ref wb, .ref wc, .ref wd]))] [] sz)) (k2_QcV (.int (-1))) 0 0 (fun _ => False) := by
  refine MET (y := yX11_soonest) (cc := cX11_soonest) (maxL := 2) (ret := (some .int)) (d := 1) (mc := 0) (ms := 0) (D := D) (ad := ad) (ws := [(x0, .inr (9, [.ref ht, .ref hrr, .ref hru, .int 0, .ref hn, .ref him, .ref hp, .ref hac, .ref hfo, .ref hwd, .null, .null])), (hn, .inr (8, [.null, .int 0, .int 0, .int 0, .int 0, .ref wa, .ref wb, .ref wc, .ref wd]))]) (tys := []) (sz := sz) (av := [.ref x0]) (Qc := fun A => k2_QcV (.int (-1))) (fr := fun A => (fun _ => False)) (by decide) (Nat.le_of_ble_eq_true rfl) ?_
  intro p e s m below meth c ls A H hHe hx hb hr hml hown hts hlocks hnm hP hK hD hA hS hN hl
  have hown : s.vm.findClass "WrongHole" = some m.cls := hown
  have hT : ∀ w ∈ TB, w.before ([.ref x0] : List Value).toArray s = true := fun w h => hts w (List.mem_cons_of_mem _ h)
  have hl : lv_has ls 2 [(0, .ref x0)] := hl
  have hP : va_P D vwCl [(x0, .inr (9, [.ref ht, .ref hrr, .ref hru, .int 0, .ref hn, .ref him, .ref hp, .ref hac, .ref hfo, .ref hwd, .null, .null])), (hn, .inr (8, [.null, .int 0, .int 0, .int 0, .int 0, .ref wa, .ref wb, .ref wc, .ref wd]))] H := hP
  refine lv_aload_n hx hb dX11_soonest_0 rfl (lv_at hl 0 rfl) ?_
  refine va_get (D := D) (ci := 9) (v := .ref hn) (C := "WrongHole") (T := TX11) (N := 12) hx hb hts (iq_RX11 _) hown hK hP 0 rfl rfl 4 (by decide) (hT _ qq_1_206) (fun _ h9 => h9) rfl dX11_soonest_1 ?_
  refine va_getN (D := D) (ci := 8) (v := .null) (C := "WrongHole$Worn") (T := TX10) (N := 9) hx hb hts (iq_RX10 _) hown hK hP 1 rfl rfl 0 (by decide) (hN.f nq_1_99) (fun _ h9 => h9) rfl dX11_soonest_4 ?_
  refine lv_ifnonnullN hx hb dX11_soonest_7 ?_
  refine lv_iconst (v := (-1)) hx hb dX11_soonest_10 (by decide) ?_
  exact W.iret (v := (-1)) hx hb hr (fun t9 ht9 hW9 => ⟨rfl, ht9.trans hHe⟩) (fun _ h9 => absurd h9 List.not_mem_nil) dX11_soonest_11
theorem dX11_step_0 : decode cX11_step 0 = .ok (.aload_n 0, 1) := by decide +kernel
theorem dX11_step_1 : decode cX11_step 1 = .ok (.getfield 32, 3) := by decide +kernel
theorem dX11_step_4 : decode cX11_step 4 = .ok (.getfield 86, 3) := by decide +kernel
theorem dX11_step_7 : decode cX11_step 7 = .ok (.ifnull 16, 3) := by decide +kernel
theorem dX11_step_23 : decode cX11_step 23 = .ok (.iconst (-1), 1) := by decide +kernel
theorem dX11_step_24 : decode cX11_step 24 = .ok (.ireturn, 1) := by decide +kernel
set_option maxHeartbeats 4000000 in
set_option maxRecDepth 100000 in
theorem c_x_step (l : Launch) (D : va_G) (ad : Nat → Nat) (sz : Nat) (x0 : Nat) (ht : Nat) (hrr : Nat) (hru : Nat) (hn : Nat) (him : Nat) (hp : Nat) (hac : Nat) (hfo : Nat) (hwd : Nat) (wa : Nat) (wb : Nat) (wc : Nat) (wd : Nat) (a1 : Int32) (a2 : Int32)  : Met l yX11_step (Cond.code yX11_step cX11_step 7 (some .int) :: TB) (RM 1 0 0) (va_Pc [.ref x0, .int a1, .int a2] (PRE D ad [(x0, .inr (9, [.ref ht, .ref hrr, .ref hru, .int 0, .ref hn, .ref him, .ref hp, .ref hac, .ref hfo, .ref hwd, .null, .null])), (hn, .inr (8, [.null, .int 0, .int 0, .int 0, .int 0, .ref wa, .ref wb, .ref wc, .ref wd]))] [] sz)) (k2_QcV (.int (-1))) 0 0 (fun _ => False) := by
  refine MET (y := yX11_step) (cc := cX11_step) (maxL := 7) (ret := (some .int)) (d := 1) (mc := 0) (ms := 0) (D := D) (ad := ad) (ws := [(x0, .inr (9, [.ref ht, .ref hrr, .ref hru, .int 0, .ref hn, .ref him, .ref hp, .ref hac, .ref hfo, .ref hwd, .null, .null])), (hn, .inr (8, [.null, .int 0, .int 0, .int 0, .int 0, .ref wa, .ref wb, .ref wc, .ref wd]))]) (tys := []) (sz := sz) (av := [.ref x0, .int a1, .int a2]) (Qc := fun A => k2_QcV (.int (-1))) (fr := fun A => (fun _ => False)) (by decide) (Nat.le_of_ble_eq_true rfl) ?_
  intro p e s m below meth c ls A H hHe hx hb hr hml hown hts hlocks hnm hP hK hD hA hS hN hl
  have hown : s.vm.findClass "WrongHole" = some m.cls := hown
  have hT : ∀ w ∈ TB, w.before ([.ref x0, .int a1, .int a2] : List Value).toArray s = true := fun w h => hts w (List.mem_cons_of_mem _ h)
  have hl : lv_has ls 7 [(0, .ref x0), (1, .int a1), (2, .int a2)] := hl
  have hP : va_P D vwCl [(x0, .inr (9, [.ref ht, .ref hrr, .ref hru, .int 0, .ref hn, .ref him, .ref hp, .ref hac, .ref hfo, .ref hwd, .null, .null])), (hn, .inr (8, [.null, .int 0, .int 0, .int 0, .int 0, .ref wa, .ref wb, .ref wc, .ref wd]))] H := hP
  refine lv_aload_n hx hb dX11_step_0 rfl (lv_at hl 0 rfl) ?_
  refine va_get (D := D) (ci := 9) (v := .ref hn) (C := "WrongHole") (T := TX11) (N := 12) hx hb hts (iq_RX11 _) hown hK hP 0 rfl rfl 4 (by decide) (hT _ qq_1_206) (fun _ h9 => h9) rfl dX11_step_1 ?_
  refine va_getN (D := D) (ci := 8) (v := .null) (C := "WrongHole$Worn") (T := TX10) (N := 9) hx hb hts (iq_RX10 _) hown hK hP 1 rfl rfl 0 (by decide) (hN.f nq_1_99) (fun _ h9 => h9) rfl dX11_step_4 ?_
  refine lv_ifnullN (tgt := 23) hx hb dX11_step_7 (by decide) ?_
  refine lv_iconst (v := (-1)) hx hb dX11_step_23 (by decide) ?_
  exact W.iret (v := (-1)) hx hb hr (fun t9 ht9 hW9 => ⟨rfl, ht9.trans hHe⟩) (fun _ h9 => absurd h9 List.not_mem_nil) dX11_step_24
theorem dX11_floor_0 : decode cX11_floor 0 = .ok (.aload_n 0, 1) := by decide +kernel
theorem dX11_floor_1 : decode cX11_floor 1 = .ok (.getfield 32, 3) := by decide +kernel
theorem dX11_floor_4 : decode cX11_floor 4 = .ok (.getfield 86, 3) := by decide +kernel
theorem dX11_floor_7 : decode cX11_floor 7 = .ok (.ifnull 23, 3) := by decide +kernel
theorem dX11_floor_30 : decode cX11_floor 30 = .ok (.iconst (-1), 1) := by decide +kernel
theorem dX11_floor_31 : decode cX11_floor 31 = .ok (.ireturn, 1) := by decide +kernel
set_option maxHeartbeats 4000000 in
set_option maxRecDepth 100000 in
theorem c_x_floor (l : Launch) (D : va_G) (ad : Nat → Nat) (sz : Nat) (x0 : Nat) (ht : Nat) (hrr : Nat) (hru : Nat) (hn : Nat) (him : Nat) (hp : Nat) (hac : Nat) (hfo : Nat) (hwd : Nat) (wa : Nat) (wb : Nat) (wc : Nat) (wd : Nat) (a1 : Int32) (a2 : Int32)  : Met l yX11_floor (Cond.code yX11_floor cX11_floor 3 (some .int) :: TB) (RM 1 0 0) (va_Pc [.ref x0, .int a1, .int a2] (PRE D ad [(x0, .inr (9, [.ref ht, .ref hrr, .ref hru, .int 0, .ref hn, .ref him, .ref hp, .ref hac, .ref hfo, .ref hwd, .null, .null])), (hn, .inr (8, [.null, .int 0, .int 0, .int 0, .int 0, .ref wa, .ref wb, .ref wc, .ref wd]))] [] sz)) (k2_QcV (.int (-1))) 0 0 (fun _ => False) := by
  refine MET (y := yX11_floor) (cc := cX11_floor) (maxL := 3) (ret := (some .int)) (d := 1) (mc := 0) (ms := 0) (D := D) (ad := ad) (ws := [(x0, .inr (9, [.ref ht, .ref hrr, .ref hru, .int 0, .ref hn, .ref him, .ref hp, .ref hac, .ref hfo, .ref hwd, .null, .null])), (hn, .inr (8, [.null, .int 0, .int 0, .int 0, .int 0, .ref wa, .ref wb, .ref wc, .ref wd]))]) (tys := []) (sz := sz) (av := [.ref x0, .int a1, .int a2]) (Qc := fun A => k2_QcV (.int (-1))) (fr := fun A => (fun _ => False)) (by decide) (Nat.le_of_ble_eq_true rfl) ?_
  intro p e s m below meth c ls A H hHe hx hb hr hml hown hts hlocks hnm hP hK hD hA hS hN hl
  have hown : s.vm.findClass "WrongHole" = some m.cls := hown
  have hT : ∀ w ∈ TB, w.before ([.ref x0, .int a1, .int a2] : List Value).toArray s = true := fun w h => hts w (List.mem_cons_of_mem _ h)
  have hl : lv_has ls 3 [(0, .ref x0), (1, .int a1), (2, .int a2)] := hl
  have hP : va_P D vwCl [(x0, .inr (9, [.ref ht, .ref hrr, .ref hru, .int 0, .ref hn, .ref him, .ref hp, .ref hac, .ref hfo, .ref hwd, .null, .null])), (hn, .inr (8, [.null, .int 0, .int 0, .int 0, .int 0, .ref wa, .ref wb, .ref wc, .ref wd]))] H := hP
  refine lv_aload_n hx hb dX11_floor_0 rfl (lv_at hl 0 rfl) ?_
  refine va_get (D := D) (ci := 9) (v := .ref hn) (C := "WrongHole") (T := TX11) (N := 12) hx hb hts (iq_RX11 _) hown hK hP 0 rfl rfl 4 (by decide) (hT _ qq_1_206) (fun _ h9 => h9) rfl dX11_floor_1 ?_
  refine va_getN (D := D) (ci := 8) (v := .null) (C := "WrongHole$Worn") (T := TX10) (N := 9) hx hb hts (iq_RX10 _) hown hK hP 1 rfl rfl 0 (by decide) (hN.f nq_1_99) (fun _ h9 => h9) rfl dX11_floor_4 ?_
  refine lv_ifnullN (tgt := 30) hx hb dX11_floor_7 (by decide) ?_
  refine lv_iconst (v := (-1)) hx hb dX11_floor_30 (by decide) ?_
  exact W.iret (v := (-1)) hx hb hr (fun t9 ht9 hW9 => ⟨rfl, ht9.trans hHe⟩) (fun _ h9 => absurd h9 List.not_mem_nil) dX11_floor_31
theorem dX11_goes_0 : decode cX11_goes 0 = .ok (.aload_n 0, 1) := by decide +kernel
theorem dX11_goes_1 : decode cX11_goes 1 = .ok (.getfield 32, 3) := by decide +kernel
theorem dX11_goes_4 : decode cX11_goes 4 = .ok (.getfield 86, 3) := by decide +kernel
theorem dX11_goes_7 : decode cX11_goes 7 = .ok (.astore_n 2, 1) := by decide +kernel
theorem dX11_goes_8 : decode cX11_goes 8 = .ok (.aload_n 2, 1) := by decide +kernel
theorem dX11_goes_9 : decode cX11_goes 9 = .ok (.ifnull 14, 3) := by decide +kernel
theorem dX11_goes_23 : decode cX11_goes 23 = .ok (.iconst (-1), 1) := by decide +kernel
theorem dX11_goes_24 : decode cX11_goes 24 = .ok (.ireturn, 1) := by decide +kernel
set_option maxHeartbeats 4000000 in
set_option maxRecDepth 100000 in
theorem c_x_goes (l : Launch) (D : va_G) (ad : Nat → Nat) (sz : Nat) (x0 : Nat) (ht : Nat) (hrr : Nat) (hru : Nat) (hn : Nat) (him : Nat) (hp : Nat) (hac : Nat) (hfo : Nat) (hwd : Nat) (wa : Nat) (wb : Nat) (wc : Nat) (wd : Nat) (a1 : Int32)  : Met l yX11_goes (Cond.code yX11_goes cX11_goes 8 (some .int) :: TB) (RM 1 0 0) (va_Pc [.ref x0, .int a1] (PRE D ad [(x0, .inr (9, [.ref ht, .ref hrr, .ref hru, .int 0, .ref hn, .ref him, .ref hp, .ref hac, .ref hfo, .ref hwd, .null, .null])), (hn, .inr (8, [.null, .int 0, .int 0, .int 0, .int 0, .ref wa, .ref wb, .ref wc, .ref wd]))] [] sz)) (k2_QcV (.int (-1))) 0 0 (fun _ => False) := by
  refine MET (y := yX11_goes) (cc := cX11_goes) (maxL := 8) (ret := (some .int)) (d := 1) (mc := 0) (ms := 0) (D := D) (ad := ad) (ws := [(x0, .inr (9, [.ref ht, .ref hrr, .ref hru, .int 0, .ref hn, .ref him, .ref hp, .ref hac, .ref hfo, .ref hwd, .null, .null])), (hn, .inr (8, [.null, .int 0, .int 0, .int 0, .int 0, .ref wa, .ref wb, .ref wc, .ref wd]))]) (tys := []) (sz := sz) (av := [.ref x0, .int a1]) (Qc := fun A => k2_QcV (.int (-1))) (fr := fun A => (fun _ => False)) (by decide) (Nat.le_of_ble_eq_true rfl) ?_
  intro p e s m below meth c ls A H hHe hx hb hr hml hown hts hlocks hnm hP hK hD hA hS hN hl
  have hown : s.vm.findClass "WrongHole" = some m.cls := hown
  have hT : ∀ w ∈ TB, w.before ([.ref x0, .int a1] : List Value).toArray s = true := fun w h => hts w (List.mem_cons_of_mem _ h)
  have hl : lv_has ls 8 [(0, .ref x0), (1, .int a1)] := hl
  have hP : va_P D vwCl [(x0, .inr (9, [.ref ht, .ref hrr, .ref hru, .int 0, .ref hn, .ref him, .ref hp, .ref hac, .ref hfo, .ref hwd, .null, .null])), (hn, .inr (8, [.null, .int 0, .int 0, .int 0, .int 0, .ref wa, .ref wb, .ref wc, .ref wd]))] H := hP
  refine lv_aload_n hx hb dX11_goes_0 rfl (lv_at hl 0 rfl) ?_
  refine va_get (D := D) (ci := 9) (v := .ref hn) (C := "WrongHole") (T := TX11) (N := 12) hx hb hts (iq_RX11 _) hown hK hP 0 rfl rfl 4 (by decide) (hT _ qq_1_206) (fun _ h9 => h9) rfl dX11_goes_1 ?_
  refine va_getN (D := D) (ci := 8) (v := .null) (C := "WrongHole$Worn") (T := TX10) (N := 9) hx hb hts (iq_RX10 _) hown hK hP 1 rfl rfl 0 (by decide) (hN.f nq_1_99) (fun _ h9 => h9) rfl dX11_goes_4 ?_
  refine lv_astore_nN (lv' := [(2, .null), (0, .ref x0), (1, .int a1)]) hx hb dX11_goes_7 rfl hl (by decide) rfl (fun ls hl => ?_)
  refine lv_aload_nN hx hb dX11_goes_8 rfl (lv_at hl 0 rfl) ?_
  refine lv_ifnullN (tgt := 23) hx hb dX11_goes_9 (by decide) ?_
  refine lv_iconst (v := (-1)) hx hb dX11_goes_23 (by decide) ?_
  exact W.iret (v := (-1)) hx hb hr (fun t9 ht9 hW9 => ⟨rfl, ht9.trans hHe⟩) (fun _ h9 => absurd h9 List.not_mem_nil) dX11_goes_24
theorem dX11_child_0 : decode cX11_child 0 = .ok (.aload_n 0, 1) := by decide +kernel
theorem dX11_child_1 : decode cX11_child 1 = .ok (.getfield 32, 3) := by decide +kernel
theorem dX11_child_4 : decode cX11_child 4 = .ok (.getfield 86, 3) := by decide +kernel
theorem dX11_child_7 : decode cX11_child 7 = .ok (.ifnull 28, 3) := by decide +kernel
theorem dX11_child_35 : decode cX11_child 35 = .ok (.iconst (-1), 1) := by decide +kernel
theorem dX11_child_36 : decode cX11_child 36 = .ok (.ireturn, 1) := by decide +kernel
set_option maxHeartbeats 4000000 in
set_option maxRecDepth 100000 in
theorem c_x_child (l : Launch) (D : va_G) (ad : Nat → Nat) (sz : Nat) (x0 : Nat) (ht : Nat) (hrr : Nat) (hru : Nat) (hn : Nat) (him : Nat) (hp : Nat) (hac : Nat) (hfo : Nat) (hwd : Nat) (wa : Nat) (wb : Nat) (wc : Nat) (wd : Nat) (a1 : Int32) (a2 : Int32) (a3 : Int32)  : Met l yX11_child (Cond.code yX11_child cX11_child 10 (some .int) :: TB) (RM 1 0 0) (va_Pc [.ref x0, .int a1, .int a2, .int a3] (PRE D ad [(x0, .inr (9, [.ref ht, .ref hrr, .ref hru, .int 0, .ref hn, .ref him, .ref hp, .ref hac, .ref hfo, .ref hwd, .null, .null])), (hn, .inr (8, [.null, .int 0, .int 0, .int 0, .int 0, .ref wa, .ref wb, .ref wc, .ref wd]))] [] sz)) (k2_QcV (.int (-1))) 0 0 (fun _ => False) := by
  refine MET (y := yX11_child) (cc := cX11_child) (maxL := 10) (ret := (some .int)) (d := 1) (mc := 0) (ms := 0) (D := D) (ad := ad) (ws := [(x0, .inr (9, [.ref ht, .ref hrr, .ref hru, .int 0, .ref hn, .ref him, .ref hp, .ref hac, .ref hfo, .ref hwd, .null, .null])), (hn, .inr (8, [.null, .int 0, .int 0, .int 0, .int 0, .ref wa, .ref wb, .ref wc, .ref wd]))]) (tys := []) (sz := sz) (av := [.ref x0, .int a1, .int a2, .int a3]) (Qc := fun A => k2_QcV (.int (-1))) (fr := fun A => (fun _ => False)) (by decide) (Nat.le_of_ble_eq_true rfl) ?_
  intro p e s m below meth c ls A H hHe hx hb hr hml hown hts hlocks hnm hP hK hD hA hS hN hl
  have hown : s.vm.findClass "WrongHole" = some m.cls := hown
  have hT : ∀ w ∈ TB, w.before ([.ref x0, .int a1, .int a2, .int a3] : List Value).toArray s = true := fun w h => hts w (List.mem_cons_of_mem _ h)
  have hl : lv_has ls 10 [(0, .ref x0), (1, .int a1), (2, .int a2), (3, .int a3)] := hl
  have hP : va_P D vwCl [(x0, .inr (9, [.ref ht, .ref hrr, .ref hru, .int 0, .ref hn, .ref him, .ref hp, .ref hac, .ref hfo, .ref hwd, .null, .null])), (hn, .inr (8, [.null, .int 0, .int 0, .int 0, .int 0, .ref wa, .ref wb, .ref wc, .ref wd]))] H := hP
  refine lv_aload_n hx hb dX11_child_0 rfl (lv_at hl 0 rfl) ?_
  refine va_get (D := D) (ci := 9) (v := .ref hn) (C := "WrongHole") (T := TX11) (N := 12) hx hb hts (iq_RX11 _) hown hK hP 0 rfl rfl 4 (by decide) (hT _ qq_1_206) (fun _ h9 => h9) rfl dX11_child_1 ?_
  refine va_getN (D := D) (ci := 8) (v := .null) (C := "WrongHole$Worn") (T := TX10) (N := 9) hx hb hts (iq_RX10 _) hown hK hP 1 rfl rfl 0 (by decide) (hN.f nq_1_99) (fun _ h9 => h9) rfl dX11_child_4 ?_
  refine lv_ifnullN (tgt := 35) hx hb dX11_child_7 (by decide) ?_
  refine lv_iconst (v := (-1)) hx hb dX11_child_35 (by decide) ?_
  exact W.iret (v := (-1)) hx hb hr (fun t9 ht9 hW9 => ⟨rfl, ht9.trans hHe⟩) (fun _ h9 => absurd h9 List.not_mem_nil) dX11_child_36
theorem dX11_spare_0 : decode cX11_spare 0 = .ok (.aload_n 0, 1) := by decide +kernel
theorem dX11_spare_1 : decode cX11_spare 1 = .ok (.getfield 32, 3) := by decide +kernel
theorem dX11_spare_4 : decode cX11_spare 4 = .ok (.getfield 86, 3) := by decide +kernel
theorem dX11_spare_7 : decode cX11_spare 7 = .ok (.astore_n 3, 1) := by decide +kernel
theorem dX11_spare_8 : decode cX11_spare 8 = .ok (.aload_n 3, 1) := by decide +kernel
theorem dX11_spare_9 : decode cX11_spare 9 = .ok (.ifnull 31, 3) := by decide +kernel
theorem dX11_spare_40 : decode cX11_spare 40 = .ok (.iconst (-1), 1) := by decide +kernel
theorem dX11_spare_41 : decode cX11_spare 41 = .ok (.ireturn, 1) := by decide +kernel
set_option maxHeartbeats 4000000 in
set_option maxRecDepth 100000 in
theorem c_x_spare (l : Launch) (D : va_G) (ad : Nat → Nat) (sz : Nat) (x0 : Nat) (ht : Nat) (hrr : Nat) (hru : Nat) (hn : Nat) (him : Nat) (hp : Nat) (hac : Nat) (hfo : Nat) (hwd : Nat) (wa : Nat) (wb : Nat) (wc : Nat) (wd : Nat) (a1 : Int32) (a2 : Int32)  : Met l yX11_spare (Cond.code yX11_spare cX11_spare 7 (some .int) :: TB) (RM 1 0 0) (va_Pc [.ref x0, .int a1, .int a2] (PRE D ad [(x0, .inr (9, [.ref ht, .ref hrr, .ref hru, .int 0, .ref hn, .ref him, .ref hp, .ref hac, .ref hfo, .ref hwd, .null, .null])), (hn, .inr (8, [.null, .int 0, .int 0, .int 0, .int 0, .ref wa, .ref wb, .ref wc, .ref wd]))] [] sz)) (k2_QcV (.int (-1))) 0 0 (fun _ => False) := by
  refine MET (y := yX11_spare) (cc := cX11_spare) (maxL := 7) (ret := (some .int)) (d := 1) (mc := 0) (ms := 0) (D := D) (ad := ad) (ws := [(x0, .inr (9, [.ref ht, .ref hrr, .ref hru, .int 0, .ref hn, .ref him, .ref hp, .ref hac, .ref hfo, .ref hwd, .null, .null])), (hn, .inr (8, [.null, .int 0, .int 0, .int 0, .int 0, .ref wa, .ref wb, .ref wc, .ref wd]))]) (tys := []) (sz := sz) (av := [.ref x0, .int a1, .int a2]) (Qc := fun A => k2_QcV (.int (-1))) (fr := fun A => (fun _ => False)) (by decide) (Nat.le_of_ble_eq_true rfl) ?_
  intro p e s m below meth c ls A H hHe hx hb hr hml hown hts hlocks hnm hP hK hD hA hS hN hl
  have hown : s.vm.findClass "WrongHole" = some m.cls := hown
  have hT : ∀ w ∈ TB, w.before ([.ref x0, .int a1, .int a2] : List Value).toArray s = true := fun w h => hts w (List.mem_cons_of_mem _ h)
  have hl : lv_has ls 7 [(0, .ref x0), (1, .int a1), (2, .int a2)] := hl
  have hP : va_P D vwCl [(x0, .inr (9, [.ref ht, .ref hrr, .ref hru, .int 0, .ref hn, .ref him, .ref hp, .ref hac, .ref hfo, .ref hwd, .null, .null])), (hn, .inr (8, [.null, .int 0, .int 0, .int 0, .int 0, .ref wa, .ref wb, .ref wc, .ref wd]))] H := hP
  refine lv_aload_n hx hb dX11_spare_0 rfl (lv_at hl 0 rfl) ?_
  refine va_get (D := D) (ci := 9) (v := .ref hn) (C := "WrongHole") (T := TX11) (N := 12) hx hb hts (iq_RX11 _) hown hK hP 0 rfl rfl 4 (by decide) (hT _ qq_1_206) (fun _ h9 => h9) rfl dX11_spare_1 ?_
  refine va_getN (D := D) (ci := 8) (v := .null) (C := "WrongHole$Worn") (T := TX10) (N := 9) hx hb hts (iq_RX10 _) hown hK hP 1 rfl rfl 0 (by decide) (hN.f nq_1_99) (fun _ h9 => h9) rfl dX11_spare_4 ?_
  refine lv_astore_nN (lv' := [(3, .null), (0, .ref x0), (1, .int a1), (2, .int a2)]) hx hb dX11_spare_7 rfl hl (by decide) rfl (fun ls hl => ?_)
  refine lv_aload_nN hx hb dX11_spare_8 rfl (lv_at hl 0 rfl) ?_
  refine lv_ifnullN (tgt := 40) hx hb dX11_spare_9 (by decide) ?_
  refine lv_iconst (v := (-1)) hx hb dX11_spare_40 (by decide) ?_
  exact W.iret (v := (-1)) hx hb hr (fun t9 ht9 hW9 => ⟨rfl, ht9.trans hHe⟩) (fun _ h9 => absurd h9 List.not_mem_nil) dX11_spare_41
theorem dX11_ways_0 : decode cX11_ways 0 = .ok (.aload_n 0, 1) := by decide +kernel
theorem dX11_ways_1 : decode cX11_ways 1 = .ok (.getfield 32, 3) := by decide +kernel
theorem dX11_ways_4 : decode cX11_ways 4 = .ok (.getfield 86, 3) := by decide +kernel
theorem dX11_ways_7 : decode cX11_ways 7 = .ok (.astore_n 2, 1) := by decide +kernel
theorem dX11_ways_8 : decode cX11_ways 8 = .ok (.aload_n 2, 1) := by decide +kernel
theorem dX11_ways_9 : decode cX11_ways 9 = .ok (.ifnull 12, 3) := by decide +kernel
theorem dX11_ways_21 : decode cX11_ways 21 = .ok (.iconst (-1), 1) := by decide +kernel
theorem dX11_ways_22 : decode cX11_ways 22 = .ok (.ireturn, 1) := by decide +kernel
set_option maxHeartbeats 4000000 in
set_option maxRecDepth 100000 in
theorem c_x_ways (l : Launch) (D : va_G) (ad : Nat → Nat) (sz : Nat) (x0 : Nat) (ht : Nat) (hrr : Nat) (hru : Nat) (hn : Nat) (him : Nat) (hp : Nat) (hac : Nat) (hfo : Nat) (hwd : Nat) (wa : Nat) (wb : Nat) (wc : Nat) (wd : Nat) (a1 : Int32)  : Met l yX11_ways (Cond.code yX11_ways cX11_ways 4 (some .int) :: TB) (RM 1 0 0) (va_Pc [.ref x0, .int a1] (PRE D ad [(x0, .inr (9, [.ref ht, .ref hrr, .ref hru, .int 0, .ref hn, .ref him, .ref hp, .ref hac, .ref hfo, .ref hwd, .null, .null])), (hn, .inr (8, [.null, .int 0, .int 0, .int 0, .int 0, .ref wa, .ref wb, .ref wc, .ref wd]))] [] sz)) (k2_QcV (.int (-1))) 0 0 (fun _ => False) := by
  refine MET (y := yX11_ways) (cc := cX11_ways) (maxL := 4) (ret := (some .int)) (d := 1) (mc := 0) (ms := 0) (D := D) (ad := ad) (ws := [(x0, .inr (9, [.ref ht, .ref hrr, .ref hru, .int 0, .ref hn, .ref him, .ref hp, .ref hac, .ref hfo, .ref hwd, .null, .null])), (hn, .inr (8, [.null, .int 0, .int 0, .int 0, .int 0, .ref wa, .ref wb, .ref wc, .ref wd]))]) (tys := []) (sz := sz) (av := [.ref x0, .int a1]) (Qc := fun A => k2_QcV (.int (-1))) (fr := fun A => (fun _ => False)) (by decide) (Nat.le_of_ble_eq_true rfl) ?_
  intro p e s m below meth c ls A H hHe hx hb hr hml hown hts hlocks hnm hP hK hD hA hS hN hl
  have hown : s.vm.findClass "WrongHole" = some m.cls := hown
  have hT : ∀ w ∈ TB, w.before ([.ref x0, .int a1] : List Value).toArray s = true := fun w h => hts w (List.mem_cons_of_mem _ h)
  have hl : lv_has ls 4 [(0, .ref x0), (1, .int a1)] := hl
  have hP : va_P D vwCl [(x0, .inr (9, [.ref ht, .ref hrr, .ref hru, .int 0, .ref hn, .ref him, .ref hp, .ref hac, .ref hfo, .ref hwd, .null, .null])), (hn, .inr (8, [.null, .int 0, .int 0, .int 0, .int 0, .ref wa, .ref wb, .ref wc, .ref wd]))] H := hP
  refine lv_aload_n hx hb dX11_ways_0 rfl (lv_at hl 0 rfl) ?_
  refine va_get (D := D) (ci := 9) (v := .ref hn) (C := "WrongHole") (T := TX11) (N := 12) hx hb hts (iq_RX11 _) hown hK hP 0 rfl rfl 4 (by decide) (hT _ qq_1_206) (fun _ h9 => h9) rfl dX11_ways_1 ?_
  refine va_getN (D := D) (ci := 8) (v := .null) (C := "WrongHole$Worn") (T := TX10) (N := 9) hx hb hts (iq_RX10 _) hown hK hP 1 rfl rfl 0 (by decide) (hN.f nq_1_99) (fun _ h9 => h9) rfl dX11_ways_4 ?_
  refine lv_astore_nN (lv' := [(2, .null), (0, .ref x0), (1, .int a1)]) hx hb dX11_ways_7 rfl hl (by decide) rfl (fun ls hl => ?_)
  refine lv_aload_nN hx hb dX11_ways_8 rfl (lv_at hl 0 rfl) ?_
  refine lv_ifnullN (tgt := 21) hx hb dX11_ways_9 (by decide) ?_
  refine lv_iconst (v := (-1)) hx hb dX11_ways_21 (by decide) ?_
  exact W.iret (v := (-1)) hx hb hr (fun t9 ht9 hW9 => ⟨rfl, ht9.trans hHe⟩) (fun _ h9 => absurd h9 List.not_mem_nil) dX11_ways_22
theorem dX11_dressed_0 : decode cX11_dressed 0 = .ok (.aload_n 0, 1) := by decide +kernel
theorem dX11_dressed_1 : decode cX11_dressed 1 = .ok (.getfield 32, 3) := by decide +kernel
theorem dX11_dressed_4 : decode cX11_dressed 4 = .ok (.getfield 86, 3) := by decide +kernel
theorem dX11_dressed_7 : decode cX11_dressed 7 = .ok (.astore 4, 2) := by decide +kernel
theorem dX11_dressed_9 : decode cX11_dressed 9 = .ok (.aload 4, 2) := by decide +kernel
theorem dX11_dressed_11 : decode cX11_dressed 11 = .ok (.ifnull 34, 3) := by decide +kernel
theorem dX11_dressed_45 : decode cX11_dressed 45 = .ok (.iconst (-1), 1) := by decide +kernel
theorem dX11_dressed_46 : decode cX11_dressed 46 = .ok (.ireturn, 1) := by decide +kernel
set_option maxHeartbeats 4000000 in
set_option maxRecDepth 100000 in
theorem c_x_dressed (l : Launch) (D : va_G) (ad : Nat → Nat) (sz : Nat) (x0 : Nat) (ht : Nat) (hrr : Nat) (hru : Nat) (hn : Nat) (him : Nat) (hp : Nat) (hac : Nat) (hfo : Nat) (hwd : Nat) (wa : Nat) (wb : Nat) (wc : Nat) (wd : Nat) (a1 : Int32) (a2 : Int32) (a3 : Int32)  : Met l yX11_dressed (Cond.code yX11_dressed cX11_dressed 13 (some .int) :: TB) (RM 1 0 0) (va_Pc [.ref x0, .int a1, .int a2, .int a3] (PRE D ad [(x0, .inr (9, [.ref ht, .ref hrr, .ref hru, .int 0, .ref hn, .ref him, .ref hp, .ref hac, .ref hfo, .ref hwd, .null, .null])), (hn, .inr (8, [.null, .int 0, .int 0, .int 0, .int 0, .ref wa, .ref wb, .ref wc, .ref wd]))] [] sz)) (k2_QcV (.int (-1))) 0 0 (fun _ => False) := by
  refine MET (y := yX11_dressed) (cc := cX11_dressed) (maxL := 13) (ret := (some .int)) (d := 1) (mc := 0) (ms := 0) (D := D) (ad := ad) (ws := [(x0, .inr (9, [.ref ht, .ref hrr, .ref hru, .int 0, .ref hn, .ref him, .ref hp, .ref hac, .ref hfo, .ref hwd, .null, .null])), (hn, .inr (8, [.null, .int 0, .int 0, .int 0, .int 0, .ref wa, .ref wb, .ref wc, .ref wd]))]) (tys := []) (sz := sz) (av := [.ref x0, .int a1, .int a2, .int a3]) (Qc := fun A => k2_QcV (.int (-1))) (fr := fun A => (fun _ => False)) (by decide) (Nat.le_of_ble_eq_true rfl) ?_
  intro p e s m below meth c ls A H hHe hx hb hr hml hown hts hlocks hnm hP hK hD hA hS hN hl
  have hown : s.vm.findClass "WrongHole" = some m.cls := hown
  have hT : ∀ w ∈ TB, w.before ([.ref x0, .int a1, .int a2, .int a3] : List Value).toArray s = true := fun w h => hts w (List.mem_cons_of_mem _ h)
  have hl : lv_has ls 13 [(0, .ref x0), (1, .int a1), (2, .int a2), (3, .int a3)] := hl
  have hP : va_P D vwCl [(x0, .inr (9, [.ref ht, .ref hrr, .ref hru, .int 0, .ref hn, .ref him, .ref hp, .ref hac, .ref hfo, .ref hwd, .null, .null])), (hn, .inr (8, [.null, .int 0, .int 0, .int 0, .int 0, .ref wa, .ref wb, .ref wc, .ref wd]))] H := hP
  refine lv_aload_n hx hb dX11_dressed_0 rfl (lv_at hl 0 rfl) ?_
  refine va_get (D := D) (ci := 9) (v := .ref hn) (C := "WrongHole") (T := TX11) (N := 12) hx hb hts (iq_RX11 _) hown hK hP 0 rfl rfl 4 (by decide) (hT _ qq_1_206) (fun _ h9 => h9) rfl dX11_dressed_1 ?_
  refine va_getN (D := D) (ci := 8) (v := .null) (C := "WrongHole$Worn") (T := TX10) (N := 9) hx hb hts (iq_RX10 _) hown hK hP 1 rfl rfl 0 (by decide) (hN.f nq_1_99) (fun _ h9 => h9) rfl dX11_dressed_4 ?_
  refine lv_astoreN (lv' := [(4, .null), (0, .ref x0), (1, .int a1), (2, .int a2), (3, .int a3)]) hx hb dX11_dressed_7 hl (by decide) rfl (fun ls hl => ?_)
  refine lv_aloadN hx hb dX11_dressed_9 (lv_at hl 0 rfl) ?_
  refine lv_ifnullN (tgt := 45) hx hb dX11_dressed_11 (by decide) ?_
  refine lv_iconst (v := (-1)) hx hb dX11_dressed_45 (by decide) ?_
  exact W.iret (v := (-1)) hx hb hr (fun t9 ht9 hW9 => ⟨rfl, ht9.trans hHe⟩) (fun _ h9 => absurd h9 List.not_mem_nil) dX11_dressed_46
theorem dX11_takeBack_0 : decode cX11_takeBack 0 = .ok (.aload_n 0, 1) := by decide +kernel
theorem dX11_takeBack_1 : decode cX11_takeBack 1 = .ok (.getfield 43, 3) := by decide +kernel
theorem dX11_takeBack_4 : decode cX11_takeBack 4 = .ok (.getfield 203, 3) := by decide +kernel
theorem nq_1_146 : Cond.fieldLinkNest "WrongHole" 203 "WrongHole$Past" "size" "I" "WrongHole" ∈ NW := mk_nw (ti_1 (List.mem_of_getElem? (i := 146) rfl)) rfl
theorem dX11_takeBack_7 : decode cX11_takeBack 7 = .ok (.ifCond .ne 5, 3) := by decide +kernel
theorem dX11_takeBack_10 : decode cX11_takeBack 10 = .ok (.iconst (-1), 1) := by decide +kernel
theorem dX11_takeBack_11 : decode cX11_takeBack 11 = .ok (.ireturn, 1) := by decide +kernel
set_option maxHeartbeats 4000000 in
set_option maxRecDepth 100000 in
theorem c_x_takeBack (l : Launch) (D : va_G) (ad : Nat → Nat) (sz : Nat) (x0 : Nat) (ht : Nat) (hrr : Nat) (hru : Nat) (hn : Nat) (him : Nat) (hp : Nat) (hac : Nat) (hfo : Nat) (hwd : Nat) (pa1 : Nat) (pa2 : Nat)  : Met l yX11_takeBack (Cond.code yX11_takeBack cX11_takeBack 1 (some .int) :: TB) (RM 1 0 0) (va_Pc [.ref x0] (PRE D ad [(x0, .inr (9, [.ref ht, .ref hrr, .ref hru, .int 0, .ref hn, .ref him, .ref hp, .ref hac, .ref hfo, .ref hwd, .null, .null])), (hp, .inr (3, [.ref pa1, .ref pa2, .int 0, .int 0]))] [] sz)) (k2_QcV (.int (-1))) 0 0 (fun _ => False) := by
  refine MET (y := yX11_takeBack) (cc := cX11_takeBack) (maxL := 1) (ret := (some .int)) (d := 1) (mc := 0) (ms := 0) (D := D) (ad := ad) (ws := [(x0, .inr (9, [.ref ht, .ref hrr, .ref hru, .int 0, .ref hn, .ref him, .ref hp, .ref hac, .ref hfo, .ref hwd, .null, .null])), (hp, .inr (3, [.ref pa1, .ref pa2, .int 0, .int 0]))]) (tys := []) (sz := sz) (av := [.ref x0]) (Qc := fun A => k2_QcV (.int (-1))) (fr := fun A => (fun _ => False)) (by decide) (Nat.le_of_ble_eq_true rfl) ?_
  intro p e s m below meth c ls A H hHe hx hb hr hml hown hts hlocks hnm hP hK hD hA hS hN hl
  have hown : s.vm.findClass "WrongHole" = some m.cls := hown
  have hT : ∀ w ∈ TB, w.before ([.ref x0] : List Value).toArray s = true := fun w h => hts w (List.mem_cons_of_mem _ h)
  have hl : lv_has ls 1 [(0, .ref x0)] := hl
  have hP : va_P D vwCl [(x0, .inr (9, [.ref ht, .ref hrr, .ref hru, .int 0, .ref hn, .ref him, .ref hp, .ref hac, .ref hfo, .ref hwd, .null, .null])), (hp, .inr (3, [.ref pa1, .ref pa2, .int 0, .int 0]))] H := hP
  refine lv_aload_n hx hb dX11_takeBack_0 rfl (lv_at hl 0 rfl) ?_
  refine va_get (D := D) (ci := 9) (v := .ref hp) (C := "WrongHole") (T := TX11) (N := 12) hx hb hts (iq_RX11 _) hown hK hP 0 rfl rfl 6 (by decide) (hT _ qq_1_208) (fun _ h9 => h9) rfl dX11_takeBack_1 ?_
  refine va_getN (D := D) (ci := 3) (v := .int 0) (C := "WrongHole$Past") (T := TX4) (N := 4) hx hb hts (iq_RX4 _) hown hK hP 1 rfl rfl 3 (by decide) (hN.f nq_1_146) (fun _ h9 => h9) rfl dX11_takeBack_4 ?_
  refine lv_if_ne (tgt := 12) hx hb dX11_takeBack_7 (by decide) (fun c_1 => absurd (by decide) c_1) (fun _ => ?_)
  refine lv_iconst (v := (-1)) hx hb dX11_takeBack_10 (by decide) ?_
  exact W.iret (v := (-1)) hx hb hr (fun t9 ht9 hW9 => ⟨rfl, ht9.trans hHe⟩) (fun _ h9 => absurd h9 List.not_mem_nil) dX11_takeBack_11
theorem dX11_crease_0 : decode cX11_crease 0 = .ok (.iload_n 1, 1) := by decide +kernel
theorem dX11_crease_1 : decode cX11_crease 1 = .ok (.iconst (-1), 1) := by decide +kernel
theorem dX11_crease_2 : decode cX11_crease 2 = .ok (.if_icmp .ne 13, 3) := by decide +kernel
theorem dX11_crease_15 : decode cX11_crease 15 = .ok (.aload_n 0, 1) := by decide +kernel
theorem dX11_crease_16 : decode cX11_crease 16 = .ok (.getfield 32, 3) := by decide +kernel
theorem dX11_crease_19 : decode cX11_crease 19 = .ok (.getfield 86, 3) := by decide +kernel
theorem dX11_crease_22 : decode cX11_crease 22 = .ok (.astore 4, 2) := by decide +kernel
theorem dX11_crease_24 : decode cX11_crease 24 = .ok (.aload 4, 2) := by decide +kernel
theorem dX11_crease_26 : decode cX11_crease 26 = .ok (.ifnull 26, 3) := by decide +kernel
theorem dX11_crease_52 : decode cX11_crease 52 = .ok (.bipush (-2), 2) := by decide +kernel
theorem dX11_crease_54 : decode cX11_crease 54 = .ok (.ireturn, 1) := by decide +kernel
theorem dX11_crease_5 : decode cX11_crease 5 = .ok (.aload_n 0, 1) := by decide +kernel
theorem dX11_crease_6 : decode cX11_crease 6 = .ok (.getfield 32, 3) := by decide +kernel
theorem dX11_crease_9 : decode cX11_crease 9 = .ok (.iconst 0, 1) := by decide +kernel
theorem dX11_crease_10 : decode cX11_crease 10 = .ok (.putfield 99, 3) := by decide +kernel
theorem nq_1_107 : Cond.fieldLinkNest "WrongHole" 99 "WrongHole$Worn" "creases" "I" "WrongHole" ∈ NW := mk_nw (ti_1 (List.mem_of_getElem? (i := 107) rfl)) rfl
theorem dX11_crease_13 : decode cX11_crease 13 = .ok (.iconst 0, 1) := by decide +kernel
theorem dX11_crease_14 : decode cX11_crease 14 = .ok (.ireturn, 1) := by decide +kernel
set_option maxHeartbeats 4000000 in
set_option maxRecDepth 100000 in
theorem c_x_crease (l : Launch) (D : va_G) (ad : Nat → Nat) (sz : Nat) (x0 : Nat) (ht : Nat) (hrr : Nat) (hru : Nat) (hn : Nat) (him : Nat) (hp : Nat) (hac : Nat) (hfo : Nat) (hwd : Nat) (wa : Nat) (wb : Nat) (wc : Nat) (wd : Nat) (a1 : Int32) (a2 : Int32) (a3 : Int32)  : Met l yX11_crease (Cond.code yX11_crease cX11_crease 5 (some .int) :: TB) (RM 1 0 0) (va_Pc [.ref x0, .int a1, .int a2, .int a3] (PRE D ad [(x0, .inr (9, [.ref ht, .ref hrr, .ref hru, .int 0, .ref hn, .ref him, .ref hp, .ref hac, .ref hfo, .ref hwd, .null, .null])), (hn, .inr (8, [.null, .int 0, .int 0, .int 0, .int 0, .ref wa, .ref wb, .ref wc, .ref wd]))] [] sz)) (va_Qi (S := Unit) (fun r _ => r = (r_crease a1)) (fun _ t => True) (va_A [(x0, .inr (9, [.ref ht, .ref hrr, .ref hru, .int 0, .ref hn, .ref him, .ref hp, .ref hac, .ref hfo, .ref hwd, .null, .null])), (hn, .inr (8, [.null, .int 0, .int 0, .int 0, .int 0, .ref wa, .ref wb, .ref wc, .ref wd]))] sz)) 0 0 (va_A [(x0, .inr (9, [.ref ht, .ref hrr, .ref hru, .int 0, .ref hn, .ref him, .ref hp, .ref hac, .ref hfo, .ref hwd, .null, .null])), (hn, .inr (8, [.null, .int 0, .int 0, .int 0, .int 0, .ref wa, .ref wb, .ref wc, .ref wd]))] sz) := by
  refine MET (y := yX11_crease) (cc := cX11_crease) (maxL := 5) (ret := (some .int)) (d := 1) (mc := 0) (ms := 0) (D := D) (ad := ad) (ws := [(x0, .inr (9, [.ref ht, .ref hrr, .ref hru, .int 0, .ref hn, .ref him, .ref hp, .ref hac, .ref hfo, .ref hwd, .null, .null])), (hn, .inr (8, [.null, .int 0, .int 0, .int 0, .int 0, .ref wa, .ref wb, .ref wc, .ref wd]))]) (tys := []) (sz := sz) (av := [.ref x0, .int a1, .int a2, .int a3]) (Qc := fun A => va_Qi (S := Unit) (fun r _ => r = (r_crease a1)) (fun _ t => True) A) (fr := fun A => A) (by decide) (Nat.le_of_ble_eq_true rfl) ?_
  intro p e s m below meth c ls A H hHe hx hb hr hml hown hts hlocks hnm hP hK hD hA hS hN hl
  have hown : s.vm.findClass "WrongHole" = some m.cls := hown
  have hT : ∀ w ∈ TB, w.before ([.ref x0, .int a1, .int a2, .int a3] : List Value).toArray s = true := fun w h => hts w (List.mem_cons_of_mem _ h)
  have hl : lv_has ls 5 [(0, .ref x0), (1, .int a1), (2, .int a2), (3, .int a3)] := hl
  have hP : va_P D vwCl [(x0, .inr (9, [.ref ht, .ref hrr, .ref hru, .int 0, .ref hn, .ref him, .ref hp, .ref hac, .ref hfo, .ref hwd, .null, .null])), (hn, .inr (8, [.null, .int 0, .int 0, .int 0, .int 0, .ref wa, .ref wb, .ref wc, .ref wd]))] H := hP
  refine lv_iload_n hx hb dX11_crease_0 rfl (lv_at hl 1 rfl) ?_
  refine lv_iconst (v := (-1)) hx hb dX11_crease_1 (by decide) ?_
  refine lv_icmp_ne (tgt := 15) hx hb dX11_crease_2 (by decide) (fun c_1 => ?_) (fun c_1 => ?_)
  · refine lv_aload_n hx hb dX11_crease_15 rfl (lv_at hl 0 rfl) ?_
    refine va_get (D := D) (ci := 9) (v := .ref hn) (C := "WrongHole") (T := TX11) (N := 12) hx hb hts (iq_RX11 _) hown hK hP 0 rfl rfl 4 (by decide) (hT _ qq_1_206) (fun _ h9 => h9) rfl dX11_crease_16 ?_
    refine va_getN (D := D) (ci := 8) (v := .null) (C := "WrongHole$Worn") (T := TX10) (N := 9) hx hb hts (iq_RX10 _) hown hK hP 1 rfl rfl 0 (by decide) (hN.f nq_1_99) (fun _ h9 => h9) rfl dX11_crease_19 ?_
    refine lv_astoreN (lv' := [(4, .null), (0, .ref x0), (1, .int a1), (2, .int a2), (3, .int a3)]) hx hb dX11_crease_22 hl (by decide) rfl (fun ls hl => ?_)
    refine lv_aloadN hx hb dX11_crease_24 (lv_at hl 0 rfl) ?_
    refine lv_ifnullN (tgt := 52) hx hb dX11_crease_26 (by decide) ?_
    refine lv_bipush (v := (-2)) hx hb dX11_crease_52 (by decide) ?_
    refine W.widen (k := 0) (n := 0) (Nat.le_of_ble_eq_true rfl) (Nat.le_of_ble_eq_true rfl) ?_
    exact W.iret (v := (-2)) hx hb hr (fun t9 ht9 hW9 => ⟨⟨_, (), rfl, (by simp [r_crease, c_1]), trivial⟩, hS.F ht9⟩) hS.2.2 dX11_crease_54
  · refine lv_aload_n hx hb dX11_crease_5 rfl (lv_at hl 0 rfl) ?_
    refine va_get (D := D) (ci := 9) (v := .ref hn) (C := "WrongHole") (T := TX11) (N := 12) hx hb hts (iq_RX11 _) hown hK hP 0 rfl rfl 4 (by decide) (hT _ qq_1_206) (fun _ h9 => h9) rfl dX11_crease_6 ?_
    refine lv_iconst (v := 0) hx hb dX11_crease_9 (by decide) ?_
    refine va_putN (D := D) (ci := 8) (v := .int 0) (ty := .int) (C := "WrongHole$Worn") (T := TX10) (N := 9) hx hb hts (iq_RX10 _) tyX10 tyX10_ok nmX10 hown hK hP hD hS 1 rfl rfl 4 (by decide) (hN.f nq_1_107) (fun _ h9 => h9) rfl (by decide +kernel) rfl rfl (Nat.le_of_ble_eq_true rfl) dX11_crease_10 (fun H locs hP hD hS => ?_)
    have hP : va_P D vwCl [(x0, .inr (9, [.ref ht, .ref hrr, .ref hru, .int 0, .ref hn, .ref him, .ref hp, .ref hac, .ref hfo, .ref hwd, .null, .null])), (hn, .inr (8, [.null, .int 0, .int 0, .int 0, .int 0, .ref wa, .ref wb, .ref wc, .ref wd]))] H := hP
    have hD : va_D A [(x0, .inr (9, [.ref ht, .ref hrr, .ref hru, .int 0, .ref hn, .ref him, .ref hp, .ref hac, .ref hfo, .ref hwd, .null, .null])), (hn, .inr (8, [.null, .int 0, .int 0, .int 0, .int 0, .ref wa, .ref wb, .ref wc, .ref wd]))] := hD
    refine lv_iconst (v := 0) hx hb dX11_crease_13 (by decide) ?_
    refine W.widen (k := 0) (n := 0) (Nat.le_of_ble_eq_true rfl) (Nat.le_of_ble_eq_true rfl) ?_
    exact W.iret (v := 0) hx hb hr (fun t9 ht9 hW9 => ⟨⟨_, (), rfl, (by simp [r_crease, c_1]), trivial⟩, hS.F ht9⟩) hS.2.2 dX11_crease_14
theorem dX11_seat_0 : decode cX11_seat 0 = .ok (.iload_n 1, 1) := by decide +kernel
theorem dX11_seat_1 : decode cX11_seat 1 = .ok (.ifCond .lt 20, 3) := by decide +kernel
theorem dX11_seat_21 : decode cX11_seat 21 = .ok (.bipush (-2), 2) := by decide +kernel
theorem dX11_seat_23 : decode cX11_seat 23 = .ok (.ireturn, 1) := by decide +kernel
theorem dX11_seat_4 : decode cX11_seat 4 = .ok (.iload_n 1, 1) := by decide +kernel
theorem dX11_seat_5 : decode cX11_seat 5 = .ok (.bipush 10, 2) := by decide +kernel
theorem dX11_seat_7 : decode cX11_seat 7 = .ok (.if_icmp .ge 14, 3) := by decide +kernel
theorem dX11_seat_10 : decode cX11_seat 10 = .ok (.iload_n 2, 1) := by decide +kernel
theorem dX11_seat_11 : decode cX11_seat 11 = .ok (.iconst (-1), 1) := by decide +kernel
theorem dX11_seat_12 : decode cX11_seat 12 = .ok (.if_icmp .lt 9, 3) := by decide +kernel
theorem dX11_seat_15 : decode cX11_seat 15 = .ok (.iload_n 2, 1) := by decide +kernel
theorem dX11_seat_16 : decode cX11_seat 16 = .ok (.bipush 10, 2) := by decide +kernel
theorem dX11_seat_18 : decode cX11_seat 18 = .ok (.if_icmp .lt 6, 3) := by decide +kernel
theorem dX11_seat_24 : decode cX11_seat 24 = .ok (.aload_n 0, 1) := by decide +kernel
theorem dX11_seat_25 : decode cX11_seat 25 = .ok (.getfield 32, 3) := by decide +kernel
theorem dX11_seat_28 : decode cX11_seat 28 = .ok (.getfield 309, 3) := by decide +kernel
theorem nq_1_115 : Cond.fieldLinkNest "WrongHole" 309 "WrongHole$Worn" "seats" "[I" "WrongHole" ∈ NW := mk_nw (ti_1 (List.mem_of_getElem? (i := 115) rfl)) rfl
theorem dX11_seat_31 : decode cX11_seat 31 = .ok (.iload_n 1, 1) := by decide +kernel
theorem dX11_seat_32 : decode cX11_seat 32 = .ok (.iaload, 1) := by decide +kernel
theorem dX11_seat_33 : decode cX11_seat 33 = .ok (.istore_n 3, 1) := by decide +kernel
theorem dX11_seat_34 : decode cX11_seat 34 = .ok (.iconst 0, 1) := by decide +kernel
theorem dX11_seat_35 : decode cX11_seat 35 = .ok (.istore 4, 2) := by decide +kernel
theorem dX11_seat_37 : decode cX11_seat 37 = .ok (.iload 4, 2) := by decide +kernel
theorem dX11_seat_39 : decode cX11_seat 39 = .ok (.bipush 10, 2) := by decide +kernel
theorem dX11_seat_41 : decode cX11_seat 41 = .ok (.if_icmp .ge 34, 3) := by decide +kernel
theorem dX11_seat_44 : decode cX11_seat 44 = .ok (.aload_n 0, 1) := by decide +kernel
theorem dX11_seat_45 : decode cX11_seat 45 = .ok (.getfield 32, 3) := by decide +kernel
theorem dX11_seat_48 : decode cX11_seat 48 = .ok (.getfield 309, 3) := by decide +kernel
theorem dX11_seat_51 : decode cX11_seat 51 = .ok (.iload 4, 2) := by decide +kernel
theorem dX11_seat_53 : decode cX11_seat 53 = .ok (.iaload, 1) := by decide +kernel
theorem dX11_seat_54 : decode cX11_seat 54 = .ok (.iload_n 2, 1) := by decide +kernel
theorem dX11_seat_55 : decode cX11_seat 55 = .ok (.if_icmp .ne 14, 3) := by decide +kernel
theorem dX11_seat_69 : decode cX11_seat 69 = .ok (.iinc 4 1, 3) := by decide +kernel
theorem dX11_seat_72 : decode cX11_seat 72 = .ok (.goto (-35), 3) := by decide +kernel
theorem dX11_seat_75 : decode cX11_seat 75 = .ok (.aload_n 0, 1) := by decide +kernel
theorem dX11_seat_76 : decode cX11_seat 76 = .ok (.getfield 32, 3) := by decide +kernel
theorem dX11_seat_79 : decode cX11_seat 79 = .ok (.getfield 309, 3) := by decide +kernel
theorem dX11_seat_82 : decode cX11_seat 82 = .ok (.iload_n 1, 1) := by decide +kernel
theorem dX11_seat_83 : decode cX11_seat 83 = .ok (.iload_n 2, 1) := by decide +kernel
theorem dX11_seat_84 : decode cX11_seat 84 = .ok (.iastore, 1) := by decide +kernel
theorem dX11_seat_85 : decode cX11_seat 85 = .ok (.iload_n 3, 1) := by decide +kernel
theorem dX11_seat_86 : decode cX11_seat 86 = .ok (.ireturn, 1) := by decide +kernel
theorem dX11_seat_58 : decode cX11_seat 58 = .ok (.aload_n 0, 1) := by decide +kernel
theorem dX11_seat_59 : decode cX11_seat 59 = .ok (.getfield 32, 3) := by decide +kernel
theorem dX11_seat_62 : decode cX11_seat 62 = .ok (.getfield 309, 3) := by decide +kernel
theorem dX11_seat_65 : decode cX11_seat 65 = .ok (.iload 4, 2) := by decide +kernel
theorem dX11_seat_67 : decode cX11_seat 67 = .ok (.iconst (-1), 1) := by decide +kernel
theorem dX11_seat_68 : decode cX11_seat 68 = .ok (.iastore, 1) := by decide +kernel
set_option maxHeartbeats 4000000 in
set_option maxRecDepth 100000 in
theorem c_x_seat (l : Launch) (D : va_G) (ad : Nat → Nat) (sz : Nat) (x0 : Nat) (ht : Nat) (hrr : Nat) (hru : Nat) (hn : Nat) (him : Nat) (hp : Nat) (hac : Nat) (hfo : Nat) (hwd : Nat) (wa : Nat) (wb : Nat) (wc : Nat) (wd : Nat) (kwd : ClassId) (a1 : Int32) (a2 : Int32)  : Met l yX11_seat (Cond.code yX11_seat cX11_seat 5 (some .int) :: TB) (RM 1 0 0) (va_Pc [.ref x0, .int a1, .int a2] (PRE D ad [(x0, .inr (9, [.ref ht, .ref hrr, .ref hru, .int 0, .ref hn, .ref him, .ref hp, .ref hac, .ref hfo, .ref hwd, .null, .null])), (hn, .inr (8, [.null, .int 0, .int 0, .int 0, .int 0, .ref wa, .ref wb, .ref wc, .ref wd])), (wd, .inl (kwd, 10, .inl (fun _ => (-1))))] [(kwd, .int)] sz)) (va_Qi (S := Unit) (fun r _ => r = (r_seat a1 a2)) (fun _ t => True) (va_A [(x0, .inr (9, [.ref ht, .ref hrr, .ref hru, .int 0, .ref hn, .ref him, .ref hp, .ref hac, .ref hfo, .ref hwd, .null, .null])), (hn, .inr (8, [.null, .int 0, .int 0, .int 0, .int 0, .ref wa, .ref wb, .ref wc, .ref wd])), (wd, .inl (kwd, 10, .inl (fun _ => (-1))))] sz)) 0 0 (va_A [(x0, .inr (9, [.ref ht, .ref hrr, .ref hru, .int 0, .ref hn, .ref him, .ref hp, .ref hac, .ref hfo, .ref hwd, .null, .null])), (hn, .inr (8, [.null, .int 0, .int 0, .int 0, .int 0, .ref wa, .ref wb, .ref wc, .ref wd])), (wd, .inl (kwd, 10, .inl (fun _ => (-1))))] sz) := by
  refine MET (y := yX11_seat) (cc := cX11_seat) (maxL := 5) (ret := (some .int)) (d := 1) (mc := 0) (ms := 0) (D := D) (ad := ad) (ws := [(x0, .inr (9, [.ref ht, .ref hrr, .ref hru, .int 0, .ref hn, .ref him, .ref hp, .ref hac, .ref hfo, .ref hwd, .null, .null])), (hn, .inr (8, [.null, .int 0, .int 0, .int 0, .int 0, .ref wa, .ref wb, .ref wc, .ref wd])), (wd, .inl (kwd, 10, .inl (fun _ => (-1))))]) (tys := [(kwd, .int)]) (sz := sz) (av := [.ref x0, .int a1, .int a2]) (Qc := fun A => va_Qi (S := Unit) (fun r _ => r = (r_seat a1 a2)) (fun _ t => True) A) (fr := fun A => A) (by decide) (Nat.le_of_ble_eq_true rfl) ?_
  intro p e s m below meth c ls A H hHe hx hb hr hml hown hts hlocks hnm hP hK hD hA hS hN hl
  have hown : s.vm.findClass "WrongHole" = some m.cls := hown
  have hT : ∀ w ∈ TB, w.before ([.ref x0, .int a1, .int a2] : List Value).toArray s = true := fun w h => hts w (List.mem_cons_of_mem _ h)
  have hl : lv_has ls 5 [(0, .ref x0), (1, .int a1), (2, .int a2)] := hl
  have hP : va_P D vwCl [(x0, .inr (9, [.ref ht, .ref hrr, .ref hru, .int 0, .ref hn, .ref him, .ref hp, .ref hac, .ref hfo, .ref hwd, .null, .null])), (hn, .inr (8, [.null, .int 0, .int 0, .int 0, .int 0, .ref wa, .ref wb, .ref wc, .ref wd])), (wd, .inl (kwd, 10, .inl (fun _ => (-1))))] H := hP
  refine lv_iload_n hx hb dX11_seat_0 rfl (lv_at hl 1 rfl) ?_
  refine lv_if_lt (tgt := 21) hx hb dX11_seat_1 (by decide) (fun c_1 => ?_) (fun c_1 => ?_)
  · refine lv_bipush (v := (-2)) hx hb dX11_seat_21 (by decide) ?_
    refine W.widen (k := 0) (n := 0) (Nat.le_of_ble_eq_true rfl) (Nat.le_of_ble_eq_true rfl) ?_
    exact W.iret (v := (-2)) hx hb hr (fun t9 ht9 hW9 => ⟨⟨_, (), rfl, (by (try simp only [x10, x4, lt10, lt4, le10] at c_1); simp [r_seat, c_1]), trivial⟩, hS.F ht9⟩) hS.2.2 dX11_seat_23
  · refine lv_iload_n hx hb dX11_seat_4 rfl (lv_at hl 1 rfl) ?_
    refine lv_bipush (v := 10) hx hb dX11_seat_5 (by decide) ?_
    refine lv_icmp_ge (tgt := 21) hx hb dX11_seat_7 (by decide) (fun c_2 => ?_) (fun c_2 => ?_)
    · refine lv_bipush (v := (-2)) hx hb dX11_seat_21 (by decide) ?_
      refine W.widen (k := 0) (n := 0) (Nat.le_of_ble_eq_true rfl) (Nat.le_of_ble_eq_true rfl) ?_
      exact W.iret (v := (-2)) hx hb hr (fun t9 ht9 hW9 => ⟨⟨_, (), rfl, (by (try simp only [x10, x4, lt10, lt4, le10] at c_1 c_2); simp [r_seat, c_1, c_2]), trivial⟩, hS.F ht9⟩) hS.2.2 dX11_seat_23
    · refine lv_iload_n hx hb dX11_seat_10 rfl (lv_at hl 2 rfl) ?_
      refine lv_iconst (v := (-1)) hx hb dX11_seat_11 (by decide) ?_
      refine lv_icmp_lt (tgt := 21) hx hb dX11_seat_12 (by decide) (fun c_3 => ?_) (fun c_3 => ?_)
      · refine lv_bipush (v := (-2)) hx hb dX11_seat_21 (by decide) ?_
        refine W.widen (k := 0) (n := 0) (Nat.le_of_ble_eq_true rfl) (Nat.le_of_ble_eq_true rfl) ?_
        exact W.iret (v := (-2)) hx hb hr (fun t9 ht9 hW9 => ⟨⟨_, (), rfl, (by (try simp only [x10, x4, lt10, lt4, le10] at c_1 c_2 c_3); simp [r_seat, c_1, c_2, c_3]), trivial⟩, hS.F ht9⟩) hS.2.2 dX11_seat_23
      · refine lv_iload_n hx hb dX11_seat_15 rfl (lv_at hl 2 rfl) ?_
        refine lv_bipush (v := 10) hx hb dX11_seat_16 (by decide) ?_
        refine lv_icmp_lt (tgt := 24) hx hb dX11_seat_18 (by decide) (fun c_4 => ?_) (fun c_4 => ?_)
        · refine lv_aload_n hx hb dX11_seat_24 rfl (lv_at hl 0 rfl) ?_
          refine va_get (D := D) (ci := 9) (v := .ref hn) (C := "WrongHole") (T := TX11) (N := 12) hx hb hts (iq_RX11 _) hown hK hP 0 rfl rfl 4 (by decide) (hT _ qq_1_206) (fun _ h9 => h9) rfl dX11_seat_25 ?_
          refine va_getN (D := D) (ci := 8) (v := .ref wd) (C := "WrongHole$Worn") (T := TX10) (N := 9) hx hb hts (iq_RX10 _) hown hK hP 1 rfl rfl 8 (by decide) (hN.f nq_1_115) (fun _ h9 => h9) rfl dX11_seat_28 ?_
          refine lv_iload_n hx hb dX11_seat_31 rfl (lv_at hl 1 rfl) ?_
          refine va_iald hx hb hK hP 2 0 rfl rfl (vi_n (M := 10) rfl c_1 c_2) dX11_seat_32 ?_
          refine tc_i (-1) (rfl) ?_
          refine lv_istore_n (lv' := [(3, .int (-1)), (0, .ref x0), (1, .int a1), (2, .int a2)]) hx hb dX11_seat_33 rfl hl (by decide) rfl (fun ls hl => ?_)
          refine lv_iconst (v := 0) hx hb dX11_seat_34 (by decide) ?_
          refine lv_istore (lv' := [(4, .int 0), (3, .int (-1)), (0, .ref x0), (1, .int a1), (2, .int a2)]) hx hb dX11_seat_35 hl (by decide) rfl (fun ls hl => ?_)
          refine lv_iload hx hb dX11_seat_37 (lv_at hl 0 rfl) ?_
          refine lv_bipush (v := 10) hx hb dX11_seat_39 (by decide) ?_
          refine lv_icmp_ge (tgt := 75) hx hb dX11_seat_41 (by decide) (fun c_5 => absurd c_5 (by decide)) (fun _ => ?_)
          refine lv_aload_n hx hb dX11_seat_44 rfl (lv_at hl 2 rfl) ?_
          refine va_get (D := D) (ci := 9) (v := .ref hn) (C := "WrongHole") (T := TX11) (N := 12) hx hb hts (iq_RX11 _) hown hK hP 0 rfl rfl 4 (by decide) (hT _ qq_1_206) (fun _ h9 => h9) rfl dX11_seat_45 ?_
          refine va_getN (D := D) (ci := 8) (v := .ref wd) (C := "WrongHole$Worn") (T := TX10) (N := 9) hx hb hts (iq_RX10 _) hown hK hP 1 rfl rfl 8 (by decide) (hN.f nq_1_115) (fun _ h9 => h9) rfl dX11_seat_48 ?_
          refine lv_iload hx hb dX11_seat_51 (lv_at hl 0 rfl) ?_
          refine va_iald hx hb hK hP 2 0 rfl rfl (vi_c rfl) dX11_seat_53 ?_
          refine tc_i (-1) (rfl) ?_
          refine lv_iload_n hx hb dX11_seat_54 rfl (lv_at hl 4 rfl) ?_
          refine lv_icmp_ne (tgt := 69) hx hb dX11_seat_55 (by decide) (fun c_6 => ?_) (fun c_6 => ?_)
          · refine lv_iinc (v := 1) (lv' := [(4, .int 1), (3, .int (-1)), (0, .ref x0), (1, .int a1), (2, .int a2)]) hx hb dX11_seat_69 hl (k := 0) rfl (by decide) (by decide) rfl (fun ls hl => ?_)
            refine lv_goto (tgt := 37) hx hb dX11_seat_72 (by decide) ?_
            refine lv_iload hx hb dX11_seat_37 (lv_at hl 0 rfl) ?_
            refine lv_bipush (v := 10) hx hb dX11_seat_39 (by decide) ?_
            refine lv_icmp_ge (tgt := 75) hx hb dX11_seat_41 (by decide) (fun c_7 => absurd c_7 (by decide)) (fun _ => ?_)
            refine lv_aload_n hx hb dX11_seat_44 rfl (lv_at hl 2 rfl) ?_
            refine va_get (D := D) (ci := 9) (v := .ref hn) (C := "WrongHole") (T := TX11) (N := 12) hx hb hts (iq_RX11 _) hown hK hP 0 rfl rfl 4 (by decide) (hT _ qq_1_206) (fun _ h9 => h9) rfl dX11_seat_45 ?_
            refine va_getN (D := D) (ci := 8) (v := .ref wd) (C := "WrongHole$Worn") (T := TX10) (N := 9) hx hb hts (iq_RX10 _) hown hK hP 1 rfl rfl 8 (by decide) (hN.f nq_1_115) (fun _ h9 => h9) rfl dX11_seat_48 ?_
            refine lv_iload hx hb dX11_seat_51 (lv_at hl 0 rfl) ?_
            refine va_iald hx hb hK hP 2 0 rfl rfl (vi_c rfl) dX11_seat_53 ?_
            refine tc_i (-1) (rfl) ?_
            refine lv_iload_n hx hb dX11_seat_54 rfl (lv_at hl 4 rfl) ?_
            refine lv_icmp_ne (tgt := 69) hx hb dX11_seat_55 (by decide) (fun _ => ?_) (fun c_8 => absurd c_8 (c_6))
            refine lv_iinc (v := 2) (lv' := [(4, .int 2), (3, .int (-1)), (0, .ref x0), (1, .int a1), (2, .int a2)]) hx hb dX11_seat_69 hl (k := 0) rfl (by decide) (by decide) rfl (fun ls hl => ?_)
            refine lv_goto (tgt := 37) hx hb dX11_seat_72 (by decide) ?_
            refine lv_iload hx hb dX11_seat_37 (lv_at hl 0 rfl) ?_
            refine lv_bipush (v := 10) hx hb dX11_seat_39 (by decide) ?_
            refine lv_icmp_ge (tgt := 75) hx hb dX11_seat_41 (by decide) (fun c_9 => absurd c_9 (by decide)) (fun _ => ?_)
            refine lv_aload_n hx hb dX11_seat_44 rfl (lv_at hl 2 rfl) ?_
            refine va_get (D := D) (ci := 9) (v := .ref hn) (C := "WrongHole") (T := TX11) (N := 12) hx hb hts (iq_RX11 _) hown hK hP 0 rfl rfl 4 (by decide) (hT _ qq_1_206) (fun _ h9 => h9) rfl dX11_seat_45 ?_
            refine va_getN (D := D) (ci := 8) (v := .ref wd) (C := "WrongHole$Worn") (T := TX10) (N := 9) hx hb hts (iq_RX10 _) hown hK hP 1 rfl rfl 8 (by decide) (hN.f nq_1_115) (fun _ h9 => h9) rfl dX11_seat_48 ?_
            refine lv_iload hx hb dX11_seat_51 (lv_at hl 0 rfl) ?_
            refine va_iald hx hb hK hP 2 0 rfl rfl (vi_c rfl) dX11_seat_53 ?_
            refine tc_i (-1) (rfl) ?_
            refine lv_iload_n hx hb dX11_seat_54 rfl (lv_at hl 4 rfl) ?_
            refine lv_icmp_ne (tgt := 69) hx hb dX11_seat_55 (by decide) (fun _ => ?_) (fun c_10 => absurd c_10 (c_6))
            refine lv_iinc (v := 3) (lv' := [(4, .int 3), (3, .int (-1)), (0, .ref x0), (1, .int a1), (2, .int a2)]) hx hb dX11_seat_69 hl (k := 0) rfl (by decide) (by decide) rfl (fun ls hl => ?_)
            refine lv_goto (tgt := 37) hx hb dX11_seat_72 (by decide) ?_
            refine lv_iload hx hb dX11_seat_37 (lv_at hl 0 rfl) ?_
            refine lv_bipush (v := 10) hx hb dX11_seat_39 (by decide) ?_
            refine lv_icmp_ge (tgt := 75) hx hb dX11_seat_41 (by decide) (fun c_11 => absurd c_11 (by decide)) (fun _ => ?_)
            refine lv_aload_n hx hb dX11_seat_44 rfl (lv_at hl 2 rfl) ?_
            refine va_get (D := D) (ci := 9) (v := .ref hn) (C := "WrongHole") (T := TX11) (N := 12) hx hb hts (iq_RX11 _) hown hK hP 0 rfl rfl 4 (by decide) (hT _ qq_1_206) (fun _ h9 => h9) rfl dX11_seat_45 ?_
            refine va_getN (D := D) (ci := 8) (v := .ref wd) (C := "WrongHole$Worn") (T := TX10) (N := 9) hx hb hts (iq_RX10 _) hown hK hP 1 rfl rfl 8 (by decide) (hN.f nq_1_115) (fun _ h9 => h9) rfl dX11_seat_48 ?_
            refine lv_iload hx hb dX11_seat_51 (lv_at hl 0 rfl) ?_
            refine va_iald hx hb hK hP 2 0 rfl rfl (vi_c rfl) dX11_seat_53 ?_
            refine tc_i (-1) (rfl) ?_
            refine lv_iload_n hx hb dX11_seat_54 rfl (lv_at hl 4 rfl) ?_
            refine lv_icmp_ne (tgt := 69) hx hb dX11_seat_55 (by decide) (fun _ => ?_) (fun c_12 => absurd c_12 (c_6))
            refine lv_iinc (v := 4) (lv' := [(4, .int 4), (3, .int (-1)), (0, .ref x0), (1, .int a1), (2, .int a2)]) hx hb dX11_seat_69 hl (k := 0) rfl (by decide) (by decide) rfl (fun ls hl => ?_)
            refine lv_goto (tgt := 37) hx hb dX11_seat_72 (by decide) ?_
            refine lv_iload hx hb dX11_seat_37 (lv_at hl 0 rfl) ?_
            refine lv_bipush (v := 10) hx hb dX11_seat_39 (by decide) ?_
            refine lv_icmp_ge (tgt := 75) hx hb dX11_seat_41 (by decide) (fun c_13 => absurd c_13 (by decide)) (fun _ => ?_)
            refine lv_aload_n hx hb dX11_seat_44 rfl (lv_at hl 2 rfl) ?_
            refine va_get (D := D) (ci := 9) (v := .ref hn) (C := "WrongHole") (T := TX11) (N := 12) hx hb hts (iq_RX11 _) hown hK hP 0 rfl rfl 4 (by decide) (hT _ qq_1_206) (fun _ h9 => h9) rfl dX11_seat_45 ?_
            refine va_getN (D := D) (ci := 8) (v := .ref wd) (C := "WrongHole$Worn") (T := TX10) (N := 9) hx hb hts (iq_RX10 _) hown hK hP 1 rfl rfl 8 (by decide) (hN.f nq_1_115) (fun _ h9 => h9) rfl dX11_seat_48 ?_
            refine lv_iload hx hb dX11_seat_51 (lv_at hl 0 rfl) ?_
            refine va_iald hx hb hK hP 2 0 rfl rfl (vi_c rfl) dX11_seat_53 ?_
            refine tc_i (-1) (rfl) ?_
            refine lv_iload_n hx hb dX11_seat_54 rfl (lv_at hl 4 rfl) ?_
            refine lv_icmp_ne (tgt := 69) hx hb dX11_seat_55 (by decide) (fun _ => ?_) (fun c_14 => absurd c_14 (c_6))
            refine lv_iinc (v := 5) (lv' := [(4, .int 5), (3, .int (-1)), (0, .ref x0), (1, .int a1), (2, .int a2)]) hx hb dX11_seat_69 hl (k := 0) rfl (by decide) (by decide) rfl (fun ls hl => ?_)
            refine lv_goto (tgt := 37) hx hb dX11_seat_72 (by decide) ?_
            refine lv_iload hx hb dX11_seat_37 (lv_at hl 0 rfl) ?_
            refine lv_bipush (v := 10) hx hb dX11_seat_39 (by decide) ?_
            refine lv_icmp_ge (tgt := 75) hx hb dX11_seat_41 (by decide) (fun c_15 => absurd c_15 (by decide)) (fun _ => ?_)
            refine lv_aload_n hx hb dX11_seat_44 rfl (lv_at hl 2 rfl) ?_
            refine va_get (D := D) (ci := 9) (v := .ref hn) (C := "WrongHole") (T := TX11) (N := 12) hx hb hts (iq_RX11 _) hown hK hP 0 rfl rfl 4 (by decide) (hT _ qq_1_206) (fun _ h9 => h9) rfl dX11_seat_45 ?_
            refine va_getN (D := D) (ci := 8) (v := .ref wd) (C := "WrongHole$Worn") (T := TX10) (N := 9) hx hb hts (iq_RX10 _) hown hK hP 1 rfl rfl 8 (by decide) (hN.f nq_1_115) (fun _ h9 => h9) rfl dX11_seat_48 ?_
            refine lv_iload hx hb dX11_seat_51 (lv_at hl 0 rfl) ?_
            refine va_iald hx hb hK hP 2 0 rfl rfl (vi_c rfl) dX11_seat_53 ?_
            refine tc_i (-1) (rfl) ?_
            refine lv_iload_n hx hb dX11_seat_54 rfl (lv_at hl 4 rfl) ?_
            refine lv_icmp_ne (tgt := 69) hx hb dX11_seat_55 (by decide) (fun _ => ?_) (fun c_16 => absurd c_16 (c_6))
            refine lv_iinc (v := 6) (lv' := [(4, .int 6), (3, .int (-1)), (0, .ref x0), (1, .int a1), (2, .int a2)]) hx hb dX11_seat_69 hl (k := 0) rfl (by decide) (by decide) rfl (fun ls hl => ?_)
            refine lv_goto (tgt := 37) hx hb dX11_seat_72 (by decide) ?_
            refine lv_iload hx hb dX11_seat_37 (lv_at hl 0 rfl) ?_
            refine lv_bipush (v := 10) hx hb dX11_seat_39 (by decide) ?_
            refine lv_icmp_ge (tgt := 75) hx hb dX11_seat_41 (by decide) (fun c_17 => absurd c_17 (by decide)) (fun _ => ?_)
            refine lv_aload_n hx hb dX11_seat_44 rfl (lv_at hl 2 rfl) ?_
            refine va_get (D := D) (ci := 9) (v := .ref hn) (C := "WrongHole") (T := TX11) (N := 12) hx hb hts (iq_RX11 _) hown hK hP 0 rfl rfl 4 (by decide) (hT _ qq_1_206) (fun _ h9 => h9) rfl dX11_seat_45 ?_
            refine va_getN (D := D) (ci := 8) (v := .ref wd) (C := "WrongHole$Worn") (T := TX10) (N := 9) hx hb hts (iq_RX10 _) hown hK hP 1 rfl rfl 8 (by decide) (hN.f nq_1_115) (fun _ h9 => h9) rfl dX11_seat_48 ?_
            refine lv_iload hx hb dX11_seat_51 (lv_at hl 0 rfl) ?_
            refine va_iald hx hb hK hP 2 0 rfl rfl (vi_c rfl) dX11_seat_53 ?_
            refine tc_i (-1) (rfl) ?_
            refine lv_iload_n hx hb dX11_seat_54 rfl (lv_at hl 4 rfl) ?_
            refine lv_icmp_ne (tgt := 69) hx hb dX11_seat_55 (by decide) (fun _ => ?_) (fun c_18 => absurd c_18 (c_6))
            refine lv_iinc (v := 7) (lv' := [(4, .int 7), (3, .int (-1)), (0, .ref x0), (1, .int a1), (2, .int a2)]) hx hb dX11_seat_69 hl (k := 0) rfl (by decide) (by decide) rfl (fun ls hl => ?_)
            refine lv_goto (tgt := 37) hx hb dX11_seat_72 (by decide) ?_
            refine lv_iload hx hb dX11_seat_37 (lv_at hl 0 rfl) ?_
            refine lv_bipush (v := 10) hx hb dX11_seat_39 (by decide) ?_
            refine lv_icmp_ge (tgt := 75) hx hb dX11_seat_41 (by decide) (fun c_19 => absurd c_19 (by decide)) (fun _ => ?_)
            refine lv_aload_n hx hb dX11_seat_44 rfl (lv_at hl 2 rfl) ?_
            refine va_get (D := D) (ci := 9) (v := .ref hn) (C := "WrongHole") (T := TX11) (N := 12) hx hb hts (iq_RX11 _) hown hK hP 0 rfl rfl 4 (by decide) (hT _ qq_1_206) (fun _ h9 => h9) rfl dX11_seat_45 ?_
            refine va_getN (D := D) (ci := 8) (v := .ref wd) (C := "WrongHole$Worn") (T := TX10) (N := 9) hx hb hts (iq_RX10 _) hown hK hP 1 rfl rfl 8 (by decide) (hN.f nq_1_115) (fun _ h9 => h9) rfl dX11_seat_48 ?_
            refine lv_iload hx hb dX11_seat_51 (lv_at hl 0 rfl) ?_
            refine va_iald hx hb hK hP 2 0 rfl rfl (vi_c rfl) dX11_seat_53 ?_
            refine tc_i (-1) (rfl) ?_
            refine lv_iload_n hx hb dX11_seat_54 rfl (lv_at hl 4 rfl) ?_
            refine lv_icmp_ne (tgt := 69) hx hb dX11_seat_55 (by decide) (fun _ => ?_) (fun c_20 => absurd c_20 (c_6))
            refine lv_iinc (v := 8) (lv' := [(4, .int 8), (3, .int (-1)), (0, .ref x0), (1, .int a1), (2, .int a2)]) hx hb dX11_seat_69 hl (k := 0) rfl (by decide) (by decide) rfl (fun ls hl => ?_)
            refine lv_goto (tgt := 37) hx hb dX11_seat_72 (by decide) ?_
            refine lv_iload hx hb dX11_seat_37 (lv_at hl 0 rfl) ?_
            refine lv_bipush (v := 10) hx hb dX11_seat_39 (by decide) ?_
            refine lv_icmp_ge (tgt := 75) hx hb dX11_seat_41 (by decide) (fun c_21 => absurd c_21 (by decide)) (fun _ => ?_)
            refine lv_aload_n hx hb dX11_seat_44 rfl (lv_at hl 2 rfl) ?_
            refine va_get (D := D) (ci := 9) (v := .ref hn) (C := "WrongHole") (T := TX11) (N := 12) hx hb hts (iq_RX11 _) hown hK hP 0 rfl rfl 4 (by decide) (hT _ qq_1_206) (fun _ h9 => h9) rfl dX11_seat_45 ?_
            refine va_getN (D := D) (ci := 8) (v := .ref wd) (C := "WrongHole$Worn") (T := TX10) (N := 9) hx hb hts (iq_RX10 _) hown hK hP 1 rfl rfl 8 (by decide) (hN.f nq_1_115) (fun _ h9 => h9) rfl dX11_seat_48 ?_
            refine lv_iload hx hb dX11_seat_51 (lv_at hl 0 rfl) ?_
            refine va_iald hx hb hK hP 2 0 rfl rfl (vi_c rfl) dX11_seat_53 ?_
            refine tc_i (-1) (rfl) ?_
            refine lv_iload_n hx hb dX11_seat_54 rfl (lv_at hl 4 rfl) ?_
            refine lv_icmp_ne (tgt := 69) hx hb dX11_seat_55 (by decide) (fun _ => ?_) (fun c_22 => absurd c_22 (c_6))
            refine lv_iinc (v := 9) (lv' := [(4, .int 9), (3, .int (-1)), (0, .ref x0), (1, .int a1), (2, .int a2)]) hx hb dX11_seat_69 hl (k := 0) rfl (by decide) (by decide) rfl (fun ls hl => ?_)
            refine lv_goto (tgt := 37) hx hb dX11_seat_72 (by decide) ?_
            refine lv_iload hx hb dX11_seat_37 (lv_at hl 0 rfl) ?_
            refine lv_bipush (v := 10) hx hb dX11_seat_39 (by decide) ?_
            refine lv_icmp_ge (tgt := 75) hx hb dX11_seat_41 (by decide) (fun c_23 => absurd c_23 (by decide)) (fun _ => ?_)
            refine lv_aload_n hx hb dX11_seat_44 rfl (lv_at hl 2 rfl) ?_
            refine va_get (D := D) (ci := 9) (v := .ref hn) (C := "WrongHole") (T := TX11) (N := 12) hx hb hts (iq_RX11 _) hown hK hP 0 rfl rfl 4 (by decide) (hT _ qq_1_206) (fun _ h9 => h9) rfl dX11_seat_45 ?_
            refine va_getN (D := D) (ci := 8) (v := .ref wd) (C := "WrongHole$Worn") (T := TX10) (N := 9) hx hb hts (iq_RX10 _) hown hK hP 1 rfl rfl 8 (by decide) (hN.f nq_1_115) (fun _ h9 => h9) rfl dX11_seat_48 ?_
            refine lv_iload hx hb dX11_seat_51 (lv_at hl 0 rfl) ?_
            refine va_iald hx hb hK hP 2 0 rfl rfl (vi_c rfl) dX11_seat_53 ?_
            refine tc_i (-1) (rfl) ?_
            refine lv_iload_n hx hb dX11_seat_54 rfl (lv_at hl 4 rfl) ?_
            refine lv_icmp_ne (tgt := 69) hx hb dX11_seat_55 (by decide) (fun _ => ?_) (fun c_24 => absurd c_24 (c_6))
            refine lv_iinc (v := 10) (lv' := [(4, .int 10), (3, .int (-1)), (0, .ref x0), (1, .int a1), (2, .int a2)]) hx hb dX11_seat_69 hl (k := 0) rfl (by decide) (by decide) rfl (fun ls hl => ?_)
            refine lv_goto (tgt := 37) hx hb dX11_seat_72 (by decide) ?_
            refine lv_iload hx hb dX11_seat_37 (lv_at hl 0 rfl) ?_
            refine lv_bipush (v := 10) hx hb dX11_seat_39 (by decide) ?_
            refine lv_icmp_ge (tgt := 75) hx hb dX11_seat_41 (by decide) (fun _ => ?_) (fun c_25 => absurd (by decide) c_25)
            refine lv_aload_n hx hb dX11_seat_75 rfl (lv_at hl 2 rfl) ?_
            refine va_get (D := D) (ci := 9) (v := .ref hn) (C := "WrongHole") (T := TX11) (N := 12) hx hb hts (iq_RX11 _) hown hK hP 0 rfl rfl 4 (by decide) (hT _ qq_1_206) (fun _ h9 => h9) rfl dX11_seat_76 ?_
            refine va_getN (D := D) (ci := 8) (v := .ref wd) (C := "WrongHole$Worn") (T := TX10) (N := 9) hx hb hts (iq_RX10 _) hown hK hP 1 rfl rfl 8 (by decide) (hN.f nq_1_115) (fun _ h9 => h9) rfl dX11_seat_79 ?_
            refine lv_iload_n hx hb dX11_seat_82 rfl (lv_at hl 3 rfl) ?_
            refine lv_iload_n hx hb dX11_seat_83 rfl (lv_at hl 4 rfl) ?_
            refine va_iast hx hb hK hP hD hS 2 0 rfl rfl (vi_n (M := 10) rfl c_1 c_2) dX11_seat_84 (fun H locs hP hD hS => ?_)
            have hP : va_P D vwCl [(x0, .inr (9, [.ref ht, .ref hrr, .ref hru, .int 0, .ref hn, .ref him, .ref hp, .ref hac, .ref hfo, .ref hwd, .null, .null])), (hn, .inr (8, [.null, .int 0, .int 0, .int 0, .int 0, .ref wa, .ref wb, .ref wc, .ref wd])), (wd, .inl (kwd, 10, .inl (upd (fun _ => (-1)) (Int32.toNatClampNeg a1) a2)))] H := hP
            have hD : va_D A [(x0, .inr (9, [.ref ht, .ref hrr, .ref hru, .int 0, .ref hn, .ref him, .ref hp, .ref hac, .ref hfo, .ref hwd, .null, .null])), (hn, .inr (8, [.null, .int 0, .int 0, .int 0, .int 0, .ref wa, .ref wb, .ref wc, .ref wd])), (wd, .inl (kwd, 10, .inl (upd (fun _ => (-1)) (Int32.toNatClampNeg a1) a2)))] := hD
            generalize upd (fun _ => (-1)) (Int32.toNatClampNeg a1) a2 = g_26 at hP hD
            refine lv_iload_n hx hb dX11_seat_85 rfl (lv_at hl 1 rfl) ?_
            refine W.widen (k := 0) (n := 0) (Nat.le_of_ble_eq_true rfl) (Nat.le_of_ble_eq_true rfl) ?_
            exact W.iret (v := (-1)) hx hb hr (fun t9 ht9 hW9 => ⟨⟨_, (), rfl, (by (try simp only [x10, x4, lt10, lt4, le10] at c_1 c_2 c_3 c_4 c_6); simp [r_seat, c_1, c_2, c_3, c_4, c_6]), trivial⟩, hS.F ht9⟩) hS.2.2 dX11_seat_86
          · refine lv_aload_n hx hb dX11_seat_58 rfl (lv_at hl 2 rfl) ?_
            refine va_get (D := D) (ci := 9) (v := .ref hn) (C := "WrongHole") (T := TX11) (N := 12) hx hb hts (iq_RX11 _) hown hK hP 0 rfl rfl 4 (by decide) (hT _ qq_1_206) (fun _ h9 => h9) rfl dX11_seat_59 ?_
            refine va_getN (D := D) (ci := 8) (v := .ref wd) (C := "WrongHole$Worn") (T := TX10) (N := 9) hx hb hts (iq_RX10 _) hown hK hP 1 rfl rfl 8 (by decide) (hN.f nq_1_115) (fun _ h9 => h9) rfl dX11_seat_62 ?_
            refine lv_iload hx hb dX11_seat_65 (lv_at hl 0 rfl) ?_
            refine lv_iconst (v := (-1)) hx hb dX11_seat_67 (by decide) ?_
            refine va_iast hx hb hK hP hD hS 2 0 rfl rfl (vi_c rfl) dX11_seat_68 (fun H locs hP hD hS => ?_)
            have hP : va_P D vwCl [(x0, .inr (9, [.ref ht, .ref hrr, .ref hru, .int 0, .ref hn, .ref him, .ref hp, .ref hac, .ref hfo, .ref hwd, .null, .null])), (hn, .inr (8, [.null, .int 0, .int 0, .int 0, .int 0, .ref wa, .ref wb, .ref wc, .ref wd])), (wd, .inl (kwd, 10, .inl (upd (fun _ => (-1)) 0 (-1))))] H := hP
            have hD : va_D A [(x0, .inr (9, [.ref ht, .ref hrr, .ref hru, .int 0, .ref hn, .ref him, .ref hp, .ref hac, .ref hfo, .ref hwd, .null, .null])), (hn, .inr (8, [.null, .int 0, .int 0, .int 0, .int 0, .ref wa, .ref wb, .ref wc, .ref wd])), (wd, .inl (kwd, 10, .inl (upd (fun _ => (-1)) 0 (-1))))] := hD
            rw [up_k] at hP hD
            have hP : va_P D vwCl [(x0, .inr (9, [.ref ht, .ref hrr, .ref hru, .int 0, .ref hn, .ref him, .ref hp, .ref hac, .ref hfo, .ref hwd, .null, .null])), (hn, .inr (8, [.null, .int 0, .int 0, .int 0, .int 0, .ref wa, .ref wb, .ref wc, .ref wd])), (wd, .inl (kwd, 10, .inl (fun _ => (-1))))] H := hP
            have hD : va_D A [(x0, .inr (9, [.ref ht, .ref hrr, .ref hru, .int 0, .ref hn, .ref him, .ref hp, .ref hac, .ref hfo, .ref hwd, .null, .null])), (hn, .inr (8, [.null, .int 0, .int 0, .int 0, .int 0, .ref wa, .ref wb, .ref wc, .ref wd])), (wd, .inl (kwd, 10, .inl (fun _ => (-1))))] := hD
            refine lv_iinc (v := 1) (lv' := [(4, .int 1), (3, .int (-1)), (0, .ref x0), (1, .int a1), (2, .int a2)]) hx hb dX11_seat_69 hl (k := 0) rfl (by decide) (by decide) rfl (fun ls hl => ?_)
            refine lv_goto (tgt := 37) hx hb dX11_seat_72 (by decide) ?_
            refine lv_iload hx hb dX11_seat_37 (lv_at hl 0 rfl) ?_
            refine lv_bipush (v := 10) hx hb dX11_seat_39 (by decide) ?_
            refine lv_icmp_ge (tgt := 75) hx hb dX11_seat_41 (by decide) (fun c_28 => absurd c_28 (by decide)) (fun _ => ?_)
            refine lv_aload_n hx hb dX11_seat_44 rfl (lv_at hl 2 rfl) ?_
            refine va_get (D := D) (ci := 9) (v := .ref hn) (C := "WrongHole") (T := TX11) (N := 12) hx hb hts (iq_RX11 _) hown hK hP 0 rfl rfl 4 (by decide) (hT _ qq_1_206) (fun _ h9 => h9) rfl dX11_seat_45 ?_
            refine va_getN (D := D) (ci := 8) (v := .ref wd) (C := "WrongHole$Worn") (T := TX10) (N := 9) hx hb hts (iq_RX10 _) hown hK hP 1 rfl rfl 8 (by decide) (hN.f nq_1_115) (fun _ h9 => h9) rfl dX11_seat_48 ?_
            refine lv_iload hx hb dX11_seat_51 (lv_at hl 0 rfl) ?_
            refine va_iald hx hb hK hP 2 0 rfl rfl (vi_c rfl) dX11_seat_53 ?_
            refine tc_i (-1) (rfl) ?_
            refine lv_iload_n hx hb dX11_seat_54 rfl (lv_at hl 4 rfl) ?_
            refine lv_icmp_ne (tgt := 69) hx hb dX11_seat_55 (by decide) (fun c_29 => absurd (c_6) c_29) (fun _ => ?_)
            refine lv_aload_n hx hb dX11_seat_58 rfl (lv_at hl 2 rfl) ?_
            refine va_get (D := D) (ci := 9) (v := .ref hn) (C := "WrongHole") (T := TX11) (N := 12) hx hb hts (iq_RX11 _) hown hK hP 0 rfl rfl 4 (by decide) (hT _ qq_1_206) (fun _ h9 => h9) rfl dX11_seat_59 ?_
            refine va_getN (D := D) (ci := 8) (v := .ref wd) (C := "WrongHole$Worn") (T := TX10) (N := 9) hx hb hts (iq_RX10 _) hown hK hP 1 rfl rfl 8 (by decide) (hN.f nq_1_115) (fun _ h9 => h9) rfl dX11_seat_62 ?_
            refine lv_iload hx hb dX11_seat_65 (lv_at hl 0 rfl) ?_
            refine lv_iconst (v := (-1)) hx hb dX11_seat_67 (by decide) ?_
            refine va_iast hx hb hK hP hD hS 2 0 rfl rfl (vi_c rfl) dX11_seat_68 (fun H locs hP hD hS => ?_)
            have hP : va_P D vwCl [(x0, .inr (9, [.ref ht, .ref hrr, .ref hru, .int 0, .ref hn, .ref him, .ref hp, .ref hac, .ref hfo, .ref hwd, .null, .null])), (hn, .inr (8, [.null, .int 0, .int 0, .int 0, .int 0, .ref wa, .ref wb, .ref wc, .ref wd])), (wd, .inl (kwd, 10, .inl (upd (fun _ => (-1)) 1 (-1))))] H := hP
            have hD : va_D A [(x0, .inr (9, [.ref ht, .ref hrr, .ref hru, .int 0, .ref hn, .ref him, .ref hp, .ref hac, .ref hfo, .ref hwd, .null, .null])), (hn, .inr (8, [.null, .int 0, .int 0, .int 0, .int 0, .ref wa, .ref wb, .ref wc, .ref wd])), (wd, .inl (kwd, 10, .inl (upd (fun _ => (-1)) 1 (-1))))] := hD
            rw [up_k] at hP hD
            have hP : va_P D vwCl [(x0, .inr (9, [.ref ht, .ref hrr, .ref hru, .int 0, .ref hn, .ref him, .ref hp, .ref hac, .ref hfo, .ref hwd, .null, .null])), (hn, .inr (8, [.null, .int 0, .int 0, .int 0, .int 0, .ref wa, .ref wb, .ref wc, .ref wd])), (wd, .inl (kwd, 10, .inl (fun _ => (-1))))] H := hP
            have hD : va_D A [(x0, .inr (9, [.ref ht, .ref hrr, .ref hru, .int 0, .ref hn, .ref him, .ref hp, .ref hac, .ref hfo, .ref hwd, .null, .null])), (hn, .inr (8, [.null, .int 0, .int 0, .int 0, .int 0, .ref wa, .ref wb, .ref wc, .ref wd])), (wd, .inl (kwd, 10, .inl (fun _ => (-1))))] := hD
            refine lv_iinc (v := 2) (lv' := [(4, .int 2), (3, .int (-1)), (0, .ref x0), (1, .int a1), (2, .int a2)]) hx hb dX11_seat_69 hl (k := 0) rfl (by decide) (by decide) rfl (fun ls hl => ?_)
            refine lv_goto (tgt := 37) hx hb dX11_seat_72 (by decide) ?_
            refine lv_iload hx hb dX11_seat_37 (lv_at hl 0 rfl) ?_
            refine lv_bipush (v := 10) hx hb dX11_seat_39 (by decide) ?_
            refine lv_icmp_ge (tgt := 75) hx hb dX11_seat_41 (by decide) (fun c_30 => absurd c_30 (by decide)) (fun _ => ?_)
            refine lv_aload_n hx hb dX11_seat_44 rfl (lv_at hl 2 rfl) ?_
            refine va_get (D := D) (ci := 9) (v := .ref hn) (C := "WrongHole") (T := TX11) (N := 12) hx hb hts (iq_RX11 _) hown hK hP 0 rfl rfl 4 (by decide) (hT _ qq_1_206) (fun _ h9 => h9) rfl dX11_seat_45 ?_
            refine va_getN (D := D) (ci := 8) (v := .ref wd) (C := "WrongHole$Worn") (T := TX10) (N := 9) hx hb hts (iq_RX10 _) hown hK hP 1 rfl rfl 8 (by decide) (hN.f nq_1_115) (fun _ h9 => h9) rfl dX11_seat_48 ?_
            refine lv_iload hx hb dX11_seat_51 (lv_at hl 0 rfl) ?_
            refine va_iald hx hb hK hP 2 0 rfl rfl (vi_c rfl) dX11_seat_53 ?_
            refine tc_i (-1) (rfl) ?_
            refine lv_iload_n hx hb dX11_seat_54 rfl (lv_at hl 4 rfl) ?_
            refine lv_icmp_ne (tgt := 69) hx hb dX11_seat_55 (by decide) (fun c_31 => absurd (c_6) c_31) (fun _ => ?_)
            refine lv_aload_n hx hb dX11_seat_58 rfl (lv_at hl 2 rfl) ?_
            refine va_get (D := D) (ci := 9) (v := .ref hn) (C := "WrongHole") (T := TX11) (N := 12) hx hb hts (iq_RX11 _) hown hK hP 0 rfl rfl 4 (by decide) (hT _ qq_1_206) (fun _ h9 => h9) rfl dX11_seat_59 ?_
            refine va_getN (D := D) (ci := 8) (v := .ref wd) (C := "WrongHole$Worn") (T := TX10) (N := 9) hx hb hts (iq_RX10 _) hown hK hP 1 rfl rfl 8 (by decide) (hN.f nq_1_115) (fun _ h9 => h9) rfl dX11_seat_62 ?_
            refine lv_iload hx hb dX11_seat_65 (lv_at hl 0 rfl) ?_
            refine lv_iconst (v := (-1)) hx hb dX11_seat_67 (by decide) ?_
            refine va_iast hx hb hK hP hD hS 2 0 rfl rfl (vi_c rfl) dX11_seat_68 (fun H locs hP hD hS => ?_)
            have hP : va_P D vwCl [(x0, .inr (9, [.ref ht, .ref hrr, .ref hru, .int 0, .ref hn, .ref him, .ref hp, .ref hac, .ref hfo, .ref hwd, .null, .null])), (hn, .inr (8, [.null, .int 0, .int 0, .int 0, .int 0, .ref wa, .ref wb, .ref wc, .ref wd])), (wd, .inl (kwd, 10, .inl (upd (fun _ => (-1)) 2 (-1))))] H := hP
            have hD : va_D A [(x0, .inr (9, [.ref ht, .ref hrr, .ref hru, .int 0, .ref hn, .ref him, .ref hp, .ref hac, .ref hfo, .ref hwd, .null, .null])), (hn, .inr (8, [.null, .int 0, .int 0, .int 0, .int 0, .ref wa, .ref wb, .ref wc, .ref wd])), (wd, .inl (kwd, 10, .inl (upd (fun _ => (-1)) 2 (-1))))] := hD
            rw [up_k] at hP hD
            have hP : va_P D vwCl [(x0, .inr (9, [.ref ht, .ref hrr, .ref hru, .int 0, .ref hn, .ref him, .ref hp, .ref hac, .ref hfo, .ref hwd, .null, .null])), (hn, .inr (8, [.null, .int 0, .int 0, .int 0, .int 0, .ref wa, .ref wb, .ref wc, .ref wd])), (wd, .inl (kwd, 10, .inl (fun _ => (-1))))] H := hP
            have hD : va_D A [(x0, .inr (9, [.ref ht, .ref hrr, .ref hru, .int 0, .ref hn, .ref him, .ref hp, .ref hac, .ref hfo, .ref hwd, .null, .null])), (hn, .inr (8, [.null, .int 0, .int 0, .int 0, .int 0, .ref wa, .ref wb, .ref wc, .ref wd])), (wd, .inl (kwd, 10, .inl (fun _ => (-1))))] := hD
            refine lv_iinc (v := 3) (lv' := [(4, .int 3), (3, .int (-1)), (0, .ref x0), (1, .int a1), (2, .int a2)]) hx hb dX11_seat_69 hl (k := 0) rfl (by decide) (by decide) rfl (fun ls hl => ?_)
            refine lv_goto (tgt := 37) hx hb dX11_seat_72 (by decide) ?_
            refine lv_iload hx hb dX11_seat_37 (lv_at hl 0 rfl) ?_
            refine lv_bipush (v := 10) hx hb dX11_seat_39 (by decide) ?_
            refine lv_icmp_ge (tgt := 75) hx hb dX11_seat_41 (by decide) (fun c_32 => absurd c_32 (by decide)) (fun _ => ?_)
            refine lv_aload_n hx hb dX11_seat_44 rfl (lv_at hl 2 rfl) ?_
            refine va_get (D := D) (ci := 9) (v := .ref hn) (C := "WrongHole") (T := TX11) (N := 12) hx hb hts (iq_RX11 _) hown hK hP 0 rfl rfl 4 (by decide) (hT _ qq_1_206) (fun _ h9 => h9) rfl dX11_seat_45 ?_
            refine va_getN (D := D) (ci := 8) (v := .ref wd) (C := "WrongHole$Worn") (T := TX10) (N := 9) hx hb hts (iq_RX10 _) hown hK hP 1 rfl rfl 8 (by decide) (hN.f nq_1_115) (fun _ h9 => h9) rfl dX11_seat_48 ?_
            refine lv_iload hx hb dX11_seat_51 (lv_at hl 0 rfl) ?_
            refine va_iald hx hb hK hP 2 0 rfl rfl (vi_c rfl) dX11_seat_53 ?_
            refine tc_i (-1) (rfl) ?_
            refine lv_iload_n hx hb dX11_seat_54 rfl (lv_at hl 4 rfl) ?_
            refine lv_icmp_ne (tgt := 69) hx hb dX11_seat_55 (by decide) (fun c_33 => absurd (c_6) c_33) (fun _ => ?_)
            refine lv_aload_n hx hb dX11_seat_58 rfl (lv_at hl 2 rfl) ?_
            refine va_get (D := D) (ci := 9) (v := .ref hn) (C := "WrongHole") (T := TX11) (N := 12) hx hb hts (iq_RX11 _) hown hK hP 0 rfl rfl 4 (by decide) (hT _ qq_1_206) (fun _ h9 => h9) rfl dX11_seat_59 ?_
            refine va_getN (D := D) (ci := 8) (v := .ref wd) (C := "WrongHole$Worn") (T := TX10) (N := 9) hx hb hts (iq_RX10 _) hown hK hP 1 rfl rfl 8 (by decide) (hN.f nq_1_115) (fun _ h9 => h9) rfl dX11_seat_62 ?_
            refine lv_iload hx hb dX11_seat_65 (lv_at hl 0 rfl) ?_
            refine lv_iconst (v := (-1)) hx hb dX11_seat_67 (by decide) ?_
            refine va_iast hx hb hK hP hD hS 2 0 rfl rfl (vi_c rfl) dX11_seat_68 (fun H locs hP hD hS => ?_)
            have hP : va_P D vwCl [(x0, .inr (9, [.ref ht, .ref hrr, .ref hru, .int 0, .ref hn, .ref him, .ref hp, .ref hac, .ref hfo, .ref hwd, .null, .null])), (hn, .inr (8, [.null, .int 0, .int 0, .int 0, .int 0, .ref wa, .ref wb, .ref wc, .ref wd])), (wd, .inl (kwd, 10, .inl (upd (fun _ => (-1)) 3 (-1))))] H := hP
            have hD : va_D A [(x0, .inr (9, [.ref ht, .ref hrr, .ref hru, .int 0, .ref hn, .ref him, .ref hp, .ref hac, .ref hfo, .ref hwd, .null, .null])), (hn, .inr (8, [.null, .int 0, .int 0, .int 0, .int 0, .ref wa, .ref wb, .ref wc, .ref wd])), (wd, .inl (kwd, 10, .inl (upd (fun _ => (-1)) 3 (-1))))] := hD
            rw [up_k] at hP hD
            have hP : va_P D vwCl [(x0, .inr (9, [.ref ht, .ref hrr, .ref hru, .int 0, .ref hn, .ref him, .ref hp, .ref hac, .ref hfo, .ref hwd, .null, .null])), (hn, .inr (8, [.null, .int 0, .int 0, .int 0, .int 0, .ref wa, .ref wb, .ref wc, .ref wd])), (wd, .inl (kwd, 10, .inl (fun _ => (-1))))] H := hP
            have hD : va_D A [(x0, .inr (9, [.ref ht, .ref hrr, .ref hru, .int 0, .ref hn, .ref him, .ref hp, .ref hac, .ref hfo, .ref hwd, .null, .null])), (hn, .inr (8, [.null, .int 0, .int 0, .int 0, .int 0, .ref wa, .ref wb, .ref wc, .ref wd])), (wd, .inl (kwd, 10, .inl (fun _ => (-1))))] := hD
            refine lv_iinc (v := 4) (lv' := [(4, .int 4), (3, .int (-1)), (0, .ref x0), (1, .int a1), (2, .int a2)]) hx hb dX11_seat_69 hl (k := 0) rfl (by decide) (by decide) rfl (fun ls hl => ?_)
            refine lv_goto (tgt := 37) hx hb dX11_seat_72 (by decide) ?_
            refine lv_iload hx hb dX11_seat_37 (lv_at hl 0 rfl) ?_
            refine lv_bipush (v := 10) hx hb dX11_seat_39 (by decide) ?_
            refine lv_icmp_ge (tgt := 75) hx hb dX11_seat_41 (by decide) (fun c_34 => absurd c_34 (by decide)) (fun _ => ?_)
            refine lv_aload_n hx hb dX11_seat_44 rfl (lv_at hl 2 rfl) ?_
            refine va_get (D := D) (ci := 9) (v := .ref hn) (C := "WrongHole") (T := TX11) (N := 12) hx hb hts (iq_RX11 _) hown hK hP 0 rfl rfl 4 (by decide) (hT _ qq_1_206) (fun _ h9 => h9) rfl dX11_seat_45 ?_
            refine va_getN (D := D) (ci := 8) (v := .ref wd) (C := "WrongHole$Worn") (T := TX10) (N := 9) hx hb hts (iq_RX10 _) hown hK hP 1 rfl rfl 8 (by decide) (hN.f nq_1_115) (fun _ h9 => h9) rfl dX11_seat_48 ?_
            refine lv_iload hx hb dX11_seat_51 (lv_at hl 0 rfl) ?_
            refine va_iald hx hb hK hP 2 0 rfl rfl (vi_c rfl) dX11_seat_53 ?_
            refine tc_i (-1) (rfl) ?_
            refine lv_iload_n hx hb dX11_seat_54 rfl (lv_at hl 4 rfl) ?_
            refine lv_icmp_ne (tgt := 69) hx hb dX11_seat_55 (by decide) (fun c_35 => absurd (c_6) c_35) (fun _ => ?_)
            refine lv_aload_n hx hb dX11_seat_58 rfl (lv_at hl 2 rfl) ?_
            refine va_get (D := D) (ci := 9) (v := .ref hn) (C := "WrongHole") (T := TX11) (N := 12) hx hb hts (iq_RX11 _) hown hK hP 0 rfl rfl 4 (by decide) (hT _ qq_1_206) (fun _ h9 => h9) rfl dX11_seat_59 ?_
            refine va_getN (D := D) (ci := 8) (v := .ref wd) (C := "WrongHole$Worn") (T := TX10) (N := 9) hx hb hts (iq_RX10 _) hown hK hP 1 rfl rfl 8 (by decide) (hN.f nq_1_115) (fun _ h9 => h9) rfl dX11_seat_62 ?_
            refine lv_iload hx hb dX11_seat_65 (lv_at hl 0 rfl) ?_
            refine lv_iconst (v := (-1)) hx hb dX11_seat_67 (by decide) ?_
            refine va_iast hx hb hK hP hD hS 2 0 rfl rfl (vi_c rfl) dX11_seat_68 (fun H locs hP hD hS => ?_)
            have hP : va_P D vwCl [(x0, .inr (9, [.ref ht, .ref hrr, .ref hru, .int 0, .ref hn, .ref him, .ref hp, .ref hac, .ref hfo, .ref hwd, .null, .null])), (hn, .inr (8, [.null, .int 0, .int 0, .int 0, .int 0, .ref wa, .ref wb, .ref wc, .ref wd])), (wd, .inl (kwd, 10, .inl (upd (fun _ => (-1)) 4 (-1))))] H := hP
            have hD : va_D A [(x0, .inr (9, [.ref ht, .ref hrr, .ref hru, .int 0, .ref hn, .ref him, .ref hp, .ref hac, .ref hfo, .ref hwd, .null, .null])), (hn, .inr (8, [.null, .int 0, .int 0, .int 0, .int 0, .ref wa, .ref wb, .ref wc, .ref wd])), (wd, .inl (kwd, 10, .inl (upd (fun _ => (-1)) 4 (-1))))] := hD
            rw [up_k] at hP hD
            have hP : va_P D vwCl [(x0, .inr (9, [.ref ht, .ref hrr, .ref hru, .int 0, .ref hn, .ref him, .ref hp, .ref hac, .ref hfo, .ref hwd, .null, .null])), (hn, .inr (8, [.null, .int 0, .int 0, .int 0, .int 0, .ref wa, .ref wb, .ref wc, .ref wd])), (wd, .inl (kwd, 10, .inl (fun _ => (-1))))] H := hP
            have hD : va_D A [(x0, .inr (9, [.ref ht, .ref hrr, .ref hru, .int 0, .ref hn, .ref him, .ref hp, .ref hac, .ref hfo, .ref hwd, .null, .null])), (hn, .inr (8, [.null, .int 0, .int 0, .int 0, .int 0, .ref wa, .ref wb, .ref wc, .ref wd])), (wd, .inl (kwd, 10, .inl (fun _ => (-1))))] := hD
            refine lv_iinc (v := 5) (lv' := [(4, .int 5), (3, .int (-1)), (0, .ref x0), (1, .int a1), (2, .int a2)]) hx hb dX11_seat_69 hl (k := 0) rfl (by decide) (by decide) rfl (fun ls hl => ?_)
            refine lv_goto (tgt := 37) hx hb dX11_seat_72 (by decide) ?_
            refine lv_iload hx hb dX11_seat_37 (lv_at hl 0 rfl) ?_
            refine lv_bipush (v := 10) hx hb dX11_seat_39 (by decide) ?_
            refine lv_icmp_ge (tgt := 75) hx hb dX11_seat_41 (by decide) (fun c_36 => absurd c_36 (by decide)) (fun _ => ?_)
            refine lv_aload_n hx hb dX11_seat_44 rfl (lv_at hl 2 rfl) ?_
            refine va_get (D := D) (ci := 9) (v := .ref hn) (C := "WrongHole") (T := TX11) (N := 12) hx hb hts (iq_RX11 _) hown hK hP 0 rfl rfl 4 (by decide) (hT _ qq_1_206) (fun _ h9 => h9) rfl dX11_seat_45 ?_
            refine va_getN (D := D) (ci := 8) (v := .ref wd) (C := "WrongHole$Worn") (T := TX10) (N := 9) hx hb hts (iq_RX10 _) hown hK hP 1 rfl rfl 8 (by decide) (hN.f nq_1_115) (fun _ h9 => h9) rfl dX11_seat_48 ?_
            refine lv_iload hx hb dX11_seat_51 (lv_at hl 0 rfl) ?_
            refine va_iald hx hb hK hP 2 0 rfl rfl (vi_c rfl) dX11_seat_53 ?_
            refine tc_i (-1) (rfl) ?_
            refine lv_iload_n hx hb dX11_seat_54 rfl (lv_at hl 4 rfl) ?_
            refine lv_icmp_ne (tgt := 69) hx hb dX11_seat_55 (by decide) (fun c_37 => absurd (c_6) c_37) (fun _ => ?_)
            refine lv_aload_n hx hb dX11_seat_58 rfl (lv_at hl 2 rfl) ?_
            refine va_get (D := D) (ci := 9) (v := .ref hn) (C := "WrongHole") (T := TX11) (N := 12) hx hb hts (iq_RX11 _) hown hK hP 0 rfl rfl 4 (by decide) (hT _ qq_1_206) (fun _ h9 => h9) rfl dX11_seat_59 ?_
            refine va_getN (D := D) (ci := 8) (v := .ref wd) (C := "WrongHole$Worn") (T := TX10) (N := 9) hx hb hts (iq_RX10 _) hown hK hP 1 rfl rfl 8 (by decide) (hN.f nq_1_115) (fun _ h9 => h9) rfl dX11_seat_62 ?_
            refine lv_iload hx hb dX11_seat_65 (lv_at hl 0 rfl) ?_
            refine lv_iconst (v := (-1)) hx hb dX11_seat_67 (by decide) ?_
            refine va_iast hx hb hK hP hD hS 2 0 rfl rfl (vi_c rfl) dX11_seat_68 (fun H locs hP hD hS => ?_)
            have hP : va_P D vwCl [(x0, .inr (9, [.ref ht, .ref hrr, .ref hru, .int 0, .ref hn, .ref him, .ref hp, .ref hac, .ref hfo, .ref hwd, .null, .null])), (hn, .inr (8, [.null, .int 0, .int 0, .int 0, .int 0, .ref wa, .ref wb, .ref wc, .ref wd])), (wd, .inl (kwd, 10, .inl (upd (fun _ => (-1)) 5 (-1))))] H := hP
            have hD : va_D A [(x0, .inr (9, [.ref ht, .ref hrr, .ref hru, .int 0, .ref hn, .ref him, .ref hp, .ref hac, .ref hfo, .ref hwd, .null, .null])), (hn, .inr (8, [.null, .int 0, .int 0, .int 0, .int 0, .ref wa, .ref wb, .ref wc, .ref wd])), (wd, .inl (kwd, 10, .inl (upd (fun _ => (-1)) 5 (-1))))] := hD
            rw [up_k] at hP hD
            have hP : va_P D vwCl [(x0, .inr (9, [.ref ht, .ref hrr, .ref hru, .int 0, .ref hn, .ref him, .ref hp, .ref hac, .ref hfo, .ref hwd, .null, .null])), (hn, .inr (8, [.null, .int 0, .int 0, .int 0, .int 0, .ref wa, .ref wb, .ref wc, .ref wd])), (wd, .inl (kwd, 10, .inl (fun _ => (-1))))] H := hP
            have hD : va_D A [(x0, .inr (9, [.ref ht, .ref hrr, .ref hru, .int 0, .ref hn, .ref him, .ref hp, .ref hac, .ref hfo, .ref hwd, .null, .null])), (hn, .inr (8, [.null, .int 0, .int 0, .int 0, .int 0, .ref wa, .ref wb, .ref wc, .ref wd])), (wd, .inl (kwd, 10, .inl (fun _ => (-1))))] := hD
            refine lv_iinc (v := 6) (lv' := [(4, .int 6), (3, .int (-1)), (0, .ref x0), (1, .int a1), (2, .int a2)]) hx hb dX11_seat_69 hl (k := 0) rfl (by decide) (by decide) rfl (fun ls hl => ?_)
            refine lv_goto (tgt := 37) hx hb dX11_seat_72 (by decide) ?_
            refine lv_iload hx hb dX11_seat_37 (lv_at hl 0 rfl) ?_
            refine lv_bipush (v := 10) hx hb dX11_seat_39 (by decide) ?_
            refine lv_icmp_ge (tgt := 75) hx hb dX11_seat_41 (by decide) (fun c_38 => absurd c_38 (by decide)) (fun _ => ?_)
            refine lv_aload_n hx hb dX11_seat_44 rfl (lv_at hl 2 rfl) ?_
            refine va_get (D := D) (ci := 9) (v := .ref hn) (C := "WrongHole") (T := TX11) (N := 12) hx hb hts (iq_RX11 _) hown hK hP 0 rfl rfl 4 (by decide) (hT _ qq_1_206) (fun _ h9 => h9) rfl dX11_seat_45 ?_
            refine va_getN (D := D) (ci := 8) (v := .ref wd) (C := "WrongHole$Worn") (T := TX10) (N := 9) hx hb hts (iq_RX10 _) hown hK hP 1 rfl rfl 8 (by decide) (hN.f nq_1_115) (fun _ h9 => h9) rfl dX11_seat_48 ?_
            refine lv_iload hx hb dX11_seat_51 (lv_at hl 0 rfl) ?_
            refine va_iald hx hb hK hP 2 0 rfl rfl (vi_c rfl) dX11_seat_53 ?_
            refine tc_i (-1) (rfl) ?_
            refine lv_iload_n hx hb dX11_seat_54 rfl (lv_at hl 4 rfl) ?_
            refine lv_icmp_ne (tgt := 69) hx hb dX11_seat_55 (by decide) (fun c_39 => absurd (c_6) c_39) (fun _ => ?_)
            refine lv_aload_n hx hb dX11_seat_58 rfl (lv_at hl 2 rfl) ?_
            refine va_get (D := D) (ci := 9) (v := .ref hn) (C := "WrongHole") (T := TX11) (N := 12) hx hb hts (iq_RX11 _) hown hK hP 0 rfl rfl 4 (by decide) (hT _ qq_1_206) (fun _ h9 => h9) rfl dX11_seat_59 ?_
            refine va_getN (D := D) (ci := 8) (v := .ref wd) (C := "WrongHole$Worn") (T := TX10) (N := 9) hx hb hts (iq_RX10 _) hown hK hP 1 rfl rfl 8 (by decide) (hN.f nq_1_115) (fun _ h9 => h9) rfl dX11_seat_62 ?_
            refine lv_iload hx hb dX11_seat_65 (lv_at hl 0 rfl) ?_
            refine lv_iconst (v := (-1)) hx hb dX11_seat_67 (by decide) ?_
            refine va_iast hx hb hK hP hD hS 2 0 rfl rfl (vi_c rfl) dX11_seat_68 (fun H locs hP hD hS => ?_)
            have hP : va_P D vwCl [(x0, .inr (9, [.ref ht, .ref hrr, .ref hru, .int 0, .ref hn, .ref him, .ref hp, .ref hac, .ref hfo, .ref hwd, .null, .null])), (hn, .inr (8, [.null, .int 0, .int 0, .int 0, .int 0, .ref wa, .ref wb, .ref wc, .ref wd])), (wd, .inl (kwd, 10, .inl (upd (fun _ => (-1)) 6 (-1))))] H := hP
            have hD : va_D A [(x0, .inr (9, [.ref ht, .ref hrr, .ref hru, .int 0, .ref hn, .ref him, .ref hp, .ref hac, .ref hfo, .ref hwd, .null, .null])), (hn, .inr (8, [.null, .int 0, .int 0, .int 0, .int 0, .ref wa, .ref wb, .ref wc, .ref wd])), (wd, .inl (kwd, 10, .inl (upd (fun _ => (-1)) 6 (-1))))] := hD
            rw [up_k] at hP hD
            have hP : va_P D vwCl [(x0, .inr (9, [.ref ht, .ref hrr, .ref hru, .int 0, .ref hn, .ref him, .ref hp, .ref hac, .ref hfo, .ref hwd, .null, .null])), (hn, .inr (8, [.null, .int 0, .int 0, .int 0, .int 0, .ref wa, .ref wb, .ref wc, .ref wd])), (wd, .inl (kwd, 10, .inl (fun _ => (-1))))] H := hP
            have hD : va_D A [(x0, .inr (9, [.ref ht, .ref hrr, .ref hru, .int 0, .ref hn, .ref him, .ref hp, .ref hac, .ref hfo, .ref hwd, .null, .null])), (hn, .inr (8, [.null, .int 0, .int 0, .int 0, .int 0, .ref wa, .ref wb, .ref wc, .ref wd])), (wd, .inl (kwd, 10, .inl (fun _ => (-1))))] := hD
            refine lv_iinc (v := 7) (lv' := [(4, .int 7), (3, .int (-1)), (0, .ref x0), (1, .int a1), (2, .int a2)]) hx hb dX11_seat_69 hl (k := 0) rfl (by decide) (by decide) rfl (fun ls hl => ?_)
            refine lv_goto (tgt := 37) hx hb dX11_seat_72 (by decide) ?_
            refine lv_iload hx hb dX11_seat_37 (lv_at hl 0 rfl) ?_
            refine lv_bipush (v := 10) hx hb dX11_seat_39 (by decide) ?_
            refine lv_icmp_ge (tgt := 75) hx hb dX11_seat_41 (by decide) (fun c_40 => absurd c_40 (by decide)) (fun _ => ?_)
            refine lv_aload_n hx hb dX11_seat_44 rfl (lv_at hl 2 rfl) ?_
            refine va_get (D := D) (ci := 9) (v := .ref hn) (C := "WrongHole") (T := TX11) (N := 12) hx hb hts (iq_RX11 _) hown hK hP 0 rfl rfl 4 (by decide) (hT _ qq_1_206) (fun _ h9 => h9) rfl dX11_seat_45 ?_
            refine va_getN (D := D) (ci := 8) (v := .ref wd) (C := "WrongHole$Worn") (T := TX10) (N := 9) hx hb hts (iq_RX10 _) hown hK hP 1 rfl rfl 8 (by decide) (hN.f nq_1_115) (fun _ h9 => h9) rfl dX11_seat_48 ?_
            refine lv_iload hx hb dX11_seat_51 (lv_at hl 0 rfl) ?_
            refine va_iald hx hb hK hP 2 0 rfl rfl (vi_c rfl) dX11_seat_53 ?_
            refine tc_i (-1) (rfl) ?_
            refine lv_iload_n hx hb dX11_seat_54 rfl (lv_at hl 4 rfl) ?_
            refine lv_icmp_ne (tgt := 69) hx hb dX11_seat_55 (by decide) (fun c_41 => absurd (c_6) c_41) (fun _ => ?_)
            refine lv_aload_n hx hb dX11_seat_58 rfl (lv_at hl 2 rfl) ?_
            refine va_get (D := D) (ci := 9) (v := .ref hn) (C := "WrongHole") (T := TX11) (N := 12) hx hb hts (iq_RX11 _) hown hK hP 0 rfl rfl 4 (by decide) (hT _ qq_1_206) (fun _ h9 => h9) rfl dX11_seat_59 ?_
            refine va_getN (D := D) (ci := 8) (v := .ref wd) (C := "WrongHole$Worn") (T := TX10) (N := 9) hx hb hts (iq_RX10 _) hown hK hP 1 rfl rfl 8 (by decide) (hN.f nq_1_115) (fun _ h9 => h9) rfl dX11_seat_62 ?_
            refine lv_iload hx hb dX11_seat_65 (lv_at hl 0 rfl) ?_
            refine lv_iconst (v := (-1)) hx hb dX11_seat_67 (by decide) ?_
            refine va_iast hx hb hK hP hD hS 2 0 rfl rfl (vi_c rfl) dX11_seat_68 (fun H locs hP hD hS => ?_)
            have hP : va_P D vwCl [(x0, .inr (9, [.ref ht, .ref hrr, .ref hru, .int 0, .ref hn, .ref him, .ref hp, .ref hac, .ref hfo, .ref hwd, .null, .null])), (hn, .inr (8, [.null, .int 0, .int 0, .int 0, .int 0, .ref wa, .ref wb, .ref wc, .ref wd])), (wd, .inl (kwd, 10, .inl (upd (fun _ => (-1)) 7 (-1))))] H := hP
            have hD : va_D A [(x0, .inr (9, [.ref ht, .ref hrr, .ref hru, .int 0, .ref hn, .ref him, .ref hp, .ref hac, .ref hfo, .ref hwd, .null, .null])), (hn, .inr (8, [.null, .int 0, .int 0, .int 0, .int 0, .ref wa, .ref wb, .ref wc, .ref wd])), (wd, .inl (kwd, 10, .inl (upd (fun _ => (-1)) 7 (-1))))] := hD
            rw [up_k] at hP hD
            have hP : va_P D vwCl [(x0, .inr (9, [.ref ht, .ref hrr, .ref hru, .int 0, .ref hn, .ref him, .ref hp, .ref hac, .ref hfo, .ref hwd, .null, .null])), (hn, .inr (8, [.null, .int 0, .int 0, .int 0, .int 0, .ref wa, .ref wb, .ref wc, .ref wd])), (wd, .inl (kwd, 10, .inl (fun _ => (-1))))] H := hP
            have hD : va_D A [(x0, .inr (9, [.ref ht, .ref hrr, .ref hru, .int 0, .ref hn, .ref him, .ref hp, .ref hac, .ref hfo, .ref hwd, .null, .null])), (hn, .inr (8, [.null, .int 0, .int 0, .int 0, .int 0, .ref wa, .ref wb, .ref wc, .ref wd])), (wd, .inl (kwd, 10, .inl (fun _ => (-1))))] := hD
            refine lv_iinc (v := 8) (lv' := [(4, .int 8), (3, .int (-1)), (0, .ref x0), (1, .int a1), (2, .int a2)]) hx hb dX11_seat_69 hl (k := 0) rfl (by decide) (by decide) rfl (fun ls hl => ?_)
            refine lv_goto (tgt := 37) hx hb dX11_seat_72 (by decide) ?_
            refine lv_iload hx hb dX11_seat_37 (lv_at hl 0 rfl) ?_
            refine lv_bipush (v := 10) hx hb dX11_seat_39 (by decide) ?_
            refine lv_icmp_ge (tgt := 75) hx hb dX11_seat_41 (by decide) (fun c_42 => absurd c_42 (by decide)) (fun _ => ?_)
            refine lv_aload_n hx hb dX11_seat_44 rfl (lv_at hl 2 rfl) ?_
            refine va_get (D := D) (ci := 9) (v := .ref hn) (C := "WrongHole") (T := TX11) (N := 12) hx hb hts (iq_RX11 _) hown hK hP 0 rfl rfl 4 (by decide) (hT _ qq_1_206) (fun _ h9 => h9) rfl dX11_seat_45 ?_
            refine va_getN (D := D) (ci := 8) (v := .ref wd) (C := "WrongHole$Worn") (T := TX10) (N := 9) hx hb hts (iq_RX10 _) hown hK hP 1 rfl rfl 8 (by decide) (hN.f nq_1_115) (fun _ h9 => h9) rfl dX11_seat_48 ?_
            refine lv_iload hx hb dX11_seat_51 (lv_at hl 0 rfl) ?_
            refine va_iald hx hb hK hP 2 0 rfl rfl (vi_c rfl) dX11_seat_53 ?_
            refine tc_i (-1) (rfl) ?_
            refine lv_iload_n hx hb dX11_seat_54 rfl (lv_at hl 4 rfl) ?_
            refine lv_icmp_ne (tgt := 69) hx hb dX11_seat_55 (by decide) (fun c_43 => absurd (c_6) c_43) (fun _ => ?_)
            refine lv_aload_n hx hb dX11_seat_58 rfl (lv_at hl 2 rfl) ?_
            refine va_get (D := D) (ci := 9) (v := .ref hn) (C := "WrongHole") (T := TX11) (N := 12) hx hb hts (iq_RX11 _) hown hK hP 0 rfl rfl 4 (by decide) (hT _ qq_1_206) (fun _ h9 => h9) rfl dX11_seat_59 ?_
            refine va_getN (D := D) (ci := 8) (v := .ref wd) (C := "WrongHole$Worn") (T := TX10) (N := 9) hx hb hts (iq_RX10 _) hown hK hP 1 rfl rfl 8 (by decide) (hN.f nq_1_115) (fun _ h9 => h9) rfl dX11_seat_62 ?_
            refine lv_iload hx hb dX11_seat_65 (lv_at hl 0 rfl) ?_
            refine lv_iconst (v := (-1)) hx hb dX11_seat_67 (by decide) ?_
            refine va_iast hx hb hK hP hD hS 2 0 rfl rfl (vi_c rfl) dX11_seat_68 (fun H locs hP hD hS => ?_)
            have hP : va_P D vwCl [(x0, .inr (9, [.ref ht, .ref hrr, .ref hru, .int 0, .ref hn, .ref him, .ref hp, .ref hac, .ref hfo, .ref hwd, .null, .null])), (hn, .inr (8, [.null, .int 0, .int 0, .int 0, .int 0, .ref wa, .ref wb, .ref wc, .ref wd])), (wd, .inl (kwd, 10, .inl (upd (fun _ => (-1)) 8 (-1))))] H := hP
            have hD : va_D A [(x0, .inr (9, [.ref ht, .ref hrr, .ref hru, .int 0, .ref hn, .ref him, .ref hp, .ref hac, .ref hfo, .ref hwd, .null, .null])), (hn, .inr (8, [.null, .int 0, .int 0, .int 0, .int 0, .ref wa, .ref wb, .ref wc, .ref wd])), (wd, .inl (kwd, 10, .inl (upd (fun _ => (-1)) 8 (-1))))] := hD
            rw [up_k] at hP hD
            have hP : va_P D vwCl [(x0, .inr (9, [.ref ht, .ref hrr, .ref hru, .int 0, .ref hn, .ref him, .ref hp, .ref hac, .ref hfo, .ref hwd, .null, .null])), (hn, .inr (8, [.null, .int 0, .int 0, .int 0, .int 0, .ref wa, .ref wb, .ref wc, .ref wd])), (wd, .inl (kwd, 10, .inl (fun _ => (-1))))] H := hP
            have hD : va_D A [(x0, .inr (9, [.ref ht, .ref hrr, .ref hru, .int 0, .ref hn, .ref him, .ref hp, .ref hac, .ref hfo, .ref hwd, .null, .null])), (hn, .inr (8, [.null, .int 0, .int 0, .int 0, .int 0, .ref wa, .ref wb, .ref wc, .ref wd])), (wd, .inl (kwd, 10, .inl (fun _ => (-1))))] := hD
            refine lv_iinc (v := 9) (lv' := [(4, .int 9), (3, .int (-1)), (0, .ref x0), (1, .int a1), (2, .int a2)]) hx hb dX11_seat_69 hl (k := 0) rfl (by decide) (by decide) rfl (fun ls hl => ?_)
            refine lv_goto (tgt := 37) hx hb dX11_seat_72 (by decide) ?_
            refine lv_iload hx hb dX11_seat_37 (lv_at hl 0 rfl) ?_
            refine lv_bipush (v := 10) hx hb dX11_seat_39 (by decide) ?_
            refine lv_icmp_ge (tgt := 75) hx hb dX11_seat_41 (by decide) (fun c_44 => absurd c_44 (by decide)) (fun _ => ?_)
            refine lv_aload_n hx hb dX11_seat_44 rfl (lv_at hl 2 rfl) ?_
            refine va_get (D := D) (ci := 9) (v := .ref hn) (C := "WrongHole") (T := TX11) (N := 12) hx hb hts (iq_RX11 _) hown hK hP 0 rfl rfl 4 (by decide) (hT _ qq_1_206) (fun _ h9 => h9) rfl dX11_seat_45 ?_
            refine va_getN (D := D) (ci := 8) (v := .ref wd) (C := "WrongHole$Worn") (T := TX10) (N := 9) hx hb hts (iq_RX10 _) hown hK hP 1 rfl rfl 8 (by decide) (hN.f nq_1_115) (fun _ h9 => h9) rfl dX11_seat_48 ?_
            refine lv_iload hx hb dX11_seat_51 (lv_at hl 0 rfl) ?_
            refine va_iald hx hb hK hP 2 0 rfl rfl (vi_c rfl) dX11_seat_53 ?_
            refine tc_i (-1) (rfl) ?_
            refine lv_iload_n hx hb dX11_seat_54 rfl (lv_at hl 4 rfl) ?_
            refine lv_icmp_ne (tgt := 69) hx hb dX11_seat_55 (by decide) (fun c_45 => absurd (c_6) c_45) (fun _ => ?_)
            refine lv_aload_n hx hb dX11_seat_58 rfl (lv_at hl 2 rfl) ?_
            refine va_get (D := D) (ci := 9) (v := .ref hn) (C := "WrongHole") (T := TX11) (N := 12) hx hb hts (iq_RX11 _) hown hK hP 0 rfl rfl 4 (by decide) (hT _ qq_1_206) (fun _ h9 => h9) rfl dX11_seat_59 ?_
            refine va_getN (D := D) (ci := 8) (v := .ref wd) (C := "WrongHole$Worn") (T := TX10) (N := 9) hx hb hts (iq_RX10 _) hown hK hP 1 rfl rfl 8 (by decide) (hN.f nq_1_115) (fun _ h9 => h9) rfl dX11_seat_62 ?_
            refine lv_iload hx hb dX11_seat_65 (lv_at hl 0 rfl) ?_
            refine lv_iconst (v := (-1)) hx hb dX11_seat_67 (by decide) ?_
            refine va_iast hx hb hK hP hD hS 2 0 rfl rfl (vi_c rfl) dX11_seat_68 (fun H locs hP hD hS => ?_)
            have hP : va_P D vwCl [(x0, .inr (9, [.ref ht, .ref hrr, .ref hru, .int 0, .ref hn, .ref him, .ref hp, .ref hac, .ref hfo, .ref hwd, .null, .null])), (hn, .inr (8, [.null, .int 0, .int 0, .int 0, .int 0, .ref wa, .ref wb, .ref wc, .ref wd])), (wd, .inl (kwd, 10, .inl (upd (fun _ => (-1)) 9 (-1))))] H := hP
            have hD : va_D A [(x0, .inr (9, [.ref ht, .ref hrr, .ref hru, .int 0, .ref hn, .ref him, .ref hp, .ref hac, .ref hfo, .ref hwd, .null, .null])), (hn, .inr (8, [.null, .int 0, .int 0, .int 0, .int 0, .ref wa, .ref wb, .ref wc, .ref wd])), (wd, .inl (kwd, 10, .inl (upd (fun _ => (-1)) 9 (-1))))] := hD
            rw [up_k] at hP hD
            have hP : va_P D vwCl [(x0, .inr (9, [.ref ht, .ref hrr, .ref hru, .int 0, .ref hn, .ref him, .ref hp, .ref hac, .ref hfo, .ref hwd, .null, .null])), (hn, .inr (8, [.null, .int 0, .int 0, .int 0, .int 0, .ref wa, .ref wb, .ref wc, .ref wd])), (wd, .inl (kwd, 10, .inl (fun _ => (-1))))] H := hP
            have hD : va_D A [(x0, .inr (9, [.ref ht, .ref hrr, .ref hru, .int 0, .ref hn, .ref him, .ref hp, .ref hac, .ref hfo, .ref hwd, .null, .null])), (hn, .inr (8, [.null, .int 0, .int 0, .int 0, .int 0, .ref wa, .ref wb, .ref wc, .ref wd])), (wd, .inl (kwd, 10, .inl (fun _ => (-1))))] := hD
            refine lv_iinc (v := 10) (lv' := [(4, .int 10), (3, .int (-1)), (0, .ref x0), (1, .int a1), (2, .int a2)]) hx hb dX11_seat_69 hl (k := 0) rfl (by decide) (by decide) rfl (fun ls hl => ?_)
            refine lv_goto (tgt := 37) hx hb dX11_seat_72 (by decide) ?_
            refine lv_iload hx hb dX11_seat_37 (lv_at hl 0 rfl) ?_
            refine lv_bipush (v := 10) hx hb dX11_seat_39 (by decide) ?_
            refine lv_icmp_ge (tgt := 75) hx hb dX11_seat_41 (by decide) (fun _ => ?_) (fun c_46 => absurd (by decide) c_46)
            refine lv_aload_n hx hb dX11_seat_75 rfl (lv_at hl 2 rfl) ?_
            refine va_get (D := D) (ci := 9) (v := .ref hn) (C := "WrongHole") (T := TX11) (N := 12) hx hb hts (iq_RX11 _) hown hK hP 0 rfl rfl 4 (by decide) (hT _ qq_1_206) (fun _ h9 => h9) rfl dX11_seat_76 ?_
            refine va_getN (D := D) (ci := 8) (v := .ref wd) (C := "WrongHole$Worn") (T := TX10) (N := 9) hx hb hts (iq_RX10 _) hown hK hP 1 rfl rfl 8 (by decide) (hN.f nq_1_115) (fun _ h9 => h9) rfl dX11_seat_79 ?_
            refine lv_iload_n hx hb dX11_seat_82 rfl (lv_at hl 3 rfl) ?_
            refine lv_iload_n hx hb dX11_seat_83 rfl (lv_at hl 4 rfl) ?_
            refine va_iast hx hb hK hP hD hS 2 0 rfl rfl (vi_n (M := 10) rfl c_1 c_2) dX11_seat_84 (fun H locs hP hD hS => ?_)
            have hP : va_P D vwCl [(x0, .inr (9, [.ref ht, .ref hrr, .ref hru, .int 0, .ref hn, .ref him, .ref hp, .ref hac, .ref hfo, .ref hwd, .null, .null])), (hn, .inr (8, [.null, .int 0, .int 0, .int 0, .int 0, .ref wa, .ref wb, .ref wc, .ref wd])), (wd, .inl (kwd, 10, .inl (upd (fun _ => (-1)) (Int32.toNatClampNeg a1) a2)))] H := hP
            have hD : va_D A [(x0, .inr (9, [.ref ht, .ref hrr, .ref hru, .int 0, .ref hn, .ref him, .ref hp, .ref hac, .ref hfo, .ref hwd, .null, .null])), (hn, .inr (8, [.null, .int 0, .int 0, .int 0, .int 0, .ref wa, .ref wb, .ref wc, .ref wd])), (wd, .inl (kwd, 10, .inl (upd (fun _ => (-1)) (Int32.toNatClampNeg a1) a2)))] := hD
            generalize upd (fun _ => (-1)) (Int32.toNatClampNeg a1) a2 = g_47 at hP hD
            refine lv_iload_n hx hb dX11_seat_85 rfl (lv_at hl 1 rfl) ?_
            refine W.widen (k := 0) (n := 0) (Nat.le_of_ble_eq_true rfl) (Nat.le_of_ble_eq_true rfl) ?_
            exact W.iret (v := (-1)) hx hb hr (fun t9 ht9 hW9 => ⟨⟨_, (), rfl, (by (try simp only [x10, x4, lt10, lt4, le10] at c_1 c_2 c_3 c_4 c_6); simp [r_seat, c_1, c_2, c_3, c_4, c_6]), trivial⟩, hS.F ht9⟩) hS.2.2 dX11_seat_86
        · refine lv_bipush (v := (-2)) hx hb dX11_seat_21 (by decide) ?_
          refine W.widen (k := 0) (n := 0) (Nat.le_of_ble_eq_true rfl) (Nat.le_of_ble_eq_true rfl) ?_
          exact W.iret (v := (-2)) hx hb hr (fun t9 ht9 hW9 => ⟨⟨_, (), rfl, (by (try simp only [x10, x4, lt10, lt4, le10] at c_1 c_2 c_3 c_4); simp [r_seat, c_1, c_2, c_3, c_4]), trivial⟩, hS.F ht9⟩) hS.2.2 dX11_seat_23
theorem dX11_roundsAmong_0 : decode cX11_roundsAmong 0 = .ok (.iconst 0, 1) := by decide +kernel
theorem dX11_roundsAmong_1 : decode cX11_roundsAmong 1 = .ok (.istore_n 2, 1) := by decide +kernel
theorem dX11_roundsAmong_2 : decode cX11_roundsAmong 2 = .ok (.iconst 0, 1) := by decide +kernel
theorem dX11_roundsAmong_3 : decode cX11_roundsAmong 3 = .ok (.istore_n 3, 1) := by decide +kernel
theorem dX11_roundsAmong_4 : decode cX11_roundsAmong 4 = .ok (.iload_n 3, 1) := by decide +kernel
theorem dX11_roundsAmong_5 : decode cX11_roundsAmong 5 = .ok (.iload_n 1, 1) := by decide +kernel
theorem dX11_roundsAmong_6 : decode cX11_roundsAmong 6 = .ok (.if_icmp .ge 88, 3) := by decide +kernel
theorem dX11_roundsAmong_94 : decode cX11_roundsAmong 94 = .ok (.iload_n 2, 1) := by decide +kernel
theorem dX11_roundsAmong_95 : decode cX11_roundsAmong 95 = .ok (.ireturn, 1) := by decide +kernel
theorem dX11_roundsAmong_9 : decode cX11_roundsAmong 9 = .ok (.iload_n 3, 1) := by decide +kernel
theorem dX11_roundsAmong_10 : decode cX11_roundsAmong 10 = .ok (.bipush 10, 2) := by decide +kernel
theorem dX11_roundsAmong_12 : decode cX11_roundsAmong 12 = .ok (.if_icmp .ge 82, 3) := by decide +kernel
theorem dX11_roundsAmong_15 : decode cX11_roundsAmong 15 = .ok (.aload_n 0, 1) := by decide +kernel
theorem dX11_roundsAmong_16 : decode cX11_roundsAmong 16 = .ok (.getfield 32, 3) := by decide +kernel
theorem dX11_roundsAmong_19 : decode cX11_roundsAmong 19 = .ok (.getfield 309, 3) := by decide +kernel
theorem dX11_roundsAmong_22 : decode cX11_roundsAmong 22 = .ok (.iload_n 3, 1) := by decide +kernel
theorem dX11_roundsAmong_23 : decode cX11_roundsAmong 23 = .ok (.iaload, 1) := by decide +kernel
theorem dX11_roundsAmong_24 : decode cX11_roundsAmong 24 = .ok (.istore 4, 2) := by decide +kernel
theorem dX11_roundsAmong_26 : decode cX11_roundsAmong 26 = .ok (.iconst 0, 1) := by decide +kernel
theorem dX11_roundsAmong_27 : decode cX11_roundsAmong 27 = .ok (.istore 5, 2) := by decide +kernel
theorem dX11_roundsAmong_29 : decode cX11_roundsAmong 29 = .ok (.iload 5, 2) := by decide +kernel
theorem dX11_roundsAmong_31 : decode cX11_roundsAmong 31 = .ok (.iload_n 1, 1) := by decide +kernel
theorem dX11_roundsAmong_32 : decode cX11_roundsAmong 32 = .ok (.if_icmp .ge 34, 3) := by decide +kernel
theorem dX11_roundsAmong_35 : decode cX11_roundsAmong 35 = .ok (.iload 4, 2) := by decide +kernel
theorem dX11_roundsAmong_37 : decode cX11_roundsAmong 37 = .ok (.iload_n 3, 1) := by decide +kernel
theorem dX11_roundsAmong_38 : decode cX11_roundsAmong 38 = .ok (.if_icmp .le 28, 3) := by decide +kernel
theorem dX11_roundsAmong_66 : decode cX11_roundsAmong 66 = .ok (.iload 4, 2) := by decide +kernel
theorem dX11_roundsAmong_68 : decode cX11_roundsAmong 68 = .ok (.iload_n 3, 1) := by decide +kernel
theorem dX11_roundsAmong_69 : decode cX11_roundsAmong 69 = .ok (.if_icmp .ne 19, 3) := by decide +kernel
theorem dX11_roundsAmong_88 : decode cX11_roundsAmong 88 = .ok (.iinc 3 1, 3) := by decide +kernel
theorem dX11_roundsAmong_91 : decode cX11_roundsAmong 91 = .ok (.goto (-87), 3) := by decide +kernel
set_option maxHeartbeats 4000000 in
set_option maxRecDepth 100000 in
theorem c_roundsAmong (l : Launch) (D : va_G) (ad : Nat → Nat) (sz : Nat) (x0 : Nat) (ht : Nat) (hrr : Nat) (hru : Nat) (hn : Nat) (him : Nat) (hp : Nat) (hac : Nat) (hfo : Nat) (hwd : Nat) (wa : Nat) (wb : Nat) (wc : Nat) (wd : Nat) (kwd : ClassId) (a1 : Int32)  : Met l yX11_roundsAmong (Cond.code yX11_roundsAmong cX11_roundsAmong 6 (some .int) :: TB) (RM 0 0 0) (va_Pc [.ref x0, .int a1] (PRE D ad [(x0, .inr (9, [.ref ht, .ref hrr, .ref hru, .int 0, .ref hn, .ref him, .ref hp, .ref hac, .ref hfo, .ref hwd, .null, .null])), (hn, .inr (8, [.null, .int 0, .int 0, .int 0, .int 0, .ref wa, .ref wb, .ref wc, .ref wd])), (wd, .inl (kwd, 10, .inl (fun _ => (-1))))] [(kwd, .int)] sz)) (k2_QcV (.int 0)) 0 0 (fun _ => False) := by
  refine MET (y := yX11_roundsAmong) (cc := cX11_roundsAmong) (maxL := 6) (ret := (some .int)) (d := 0) (mc := 0) (ms := 0) (D := D) (ad := ad) (ws := [(x0, .inr (9, [.ref ht, .ref hrr, .ref hru, .int 0, .ref hn, .ref him, .ref hp, .ref hac, .ref hfo, .ref hwd, .null, .null])), (hn, .inr (8, [.null, .int 0, .int 0, .int 0, .int 0, .ref wa, .ref wb, .ref wc, .ref wd])), (wd, .inl (kwd, 10, .inl (fun _ => (-1))))]) (tys := [(kwd, .int)]) (sz := sz) (av := [.ref x0, .int a1]) (Qc := fun A => k2_QcV (.int 0)) (fr := fun A => (fun _ => False)) (by decide) (Nat.le_of_ble_eq_true rfl) ?_
  intro p e s m below meth c ls A H hHe hx hb hr hml hown hts hlocks hnm hP hK hD hA hS hN hl
  have hown : s.vm.findClass "WrongHole" = some m.cls := hown
  have hT : ∀ w ∈ TB, w.before ([.ref x0, .int a1] : List Value).toArray s = true := fun w h => hts w (List.mem_cons_of_mem _ h)
  have hl : lv_has ls 6 [(0, .ref x0), (1, .int a1)] := hl
  have hP : va_P D vwCl [(x0, .inr (9, [.ref ht, .ref hrr, .ref hru, .int 0, .ref hn, .ref him, .ref hp, .ref hac, .ref hfo, .ref hwd, .null, .null])), (hn, .inr (8, [.null, .int 0, .int 0, .int 0, .int 0, .ref wa, .ref wb, .ref wc, .ref wd])), (wd, .inl (kwd, 10, .inl (fun _ => (-1))))] H := hP
  refine lv_iconst (v := 0) hx hb dX11_roundsAmong_0 (by decide) ?_
  refine lv_istore_n (lv' := [(2, .int 0), (0, .ref x0), (1, .int a1)]) hx hb dX11_roundsAmong_1 rfl hl (by decide) rfl (fun ls hl => ?_)
  refine lv_iconst (v := 0) hx hb dX11_roundsAmong_2 (by decide) ?_
  refine lv_istore_n (lv' := [(3, .int 0), (2, .int 0), (0, .ref x0), (1, .int a1)]) hx hb dX11_roundsAmong_3 rfl hl (by decide) rfl (fun ls hl => ?_)
  refine lv_iload_n hx hb dX11_roundsAmong_4 rfl (lv_at hl 0 rfl) ?_
  refine lv_iload_n hx hb dX11_roundsAmong_5 rfl (lv_at hl 3 rfl) ?_
  refine lv_icmp_ge (tgt := 94) hx hb dX11_roundsAmong_6 (by decide) (fun c_1 => ?_) (fun c_1 => ?_)
  · refine lv_iload_n hx hb dX11_roundsAmong_94 rfl (lv_at hl 1 rfl) ?_
    exact W.iret (v := 0) hx hb hr (fun t9 ht9 hW9 => ⟨rfl, ht9.trans hHe⟩) (fun _ h9 => absurd h9 List.not_mem_nil) dX11_roundsAmong_95
  · refine lv_iload_n hx hb dX11_roundsAmong_9 rfl (lv_at hl 0 rfl) ?_
    refine lv_bipush (v := 10) hx hb dX11_roundsAmong_10 (by decide) ?_
    refine lv_icmp_ge (tgt := 94) hx hb dX11_roundsAmong_12 (by decide) (fun c_2 => absurd c_2 (by decide)) (fun _ => ?_)
    refine lv_aload_n hx hb dX11_roundsAmong_15 rfl (lv_at hl 2 rfl) ?_
    refine va_get (D := D) (ci := 9) (v := .ref hn) (C := "WrongHole") (T := TX11) (N := 12) hx hb hts (iq_RX11 _) hown hK hP 0 rfl rfl 4 (by decide) (hT _ qq_1_206) (fun _ h9 => h9) rfl dX11_roundsAmong_16 ?_
    refine va_getN (D := D) (ci := 8) (v := .ref wd) (C := "WrongHole$Worn") (T := TX10) (N := 9) hx hb hts (iq_RX10 _) hown hK hP 1 rfl rfl 8 (by decide) (hN.f nq_1_115) (fun _ h9 => h9) rfl dX11_roundsAmong_19 ?_
    refine lv_iload_n hx hb dX11_roundsAmong_22 rfl (lv_at hl 0 rfl) ?_
    refine va_iald hx hb hK hP 2 0 rfl rfl (vi_c rfl) dX11_roundsAmong_23 ?_
    refine tc_i (-1) (rfl) ?_
    refine lv_istore (lv' := [(4, .int (-1)), (3, .int 0), (2, .int 0), (0, .ref x0), (1, .int a1)]) hx hb dX11_roundsAmong_24 hl (by decide) rfl (fun ls hl => ?_)
    refine lv_iconst (v := 0) hx hb dX11_roundsAmong_26 (by decide) ?_
    refine lv_istore (lv' := [(5, .int 0), (4, .int (-1)), (3, .int 0), (2, .int 0), (0, .ref x0), (1, .int a1)]) hx hb dX11_roundsAmong_27 hl (by decide) rfl (fun ls hl => ?_)
    refine lv_iload hx hb dX11_roundsAmong_29 (lv_at hl 0 rfl) ?_
    refine lv_iload_n hx hb dX11_roundsAmong_31 rfl (lv_at hl 5 rfl) ?_
    refine lv_icmp_ge (tgt := 66) hx hb dX11_roundsAmong_32 (by decide) (fun c_3 => absurd c_3 (c_1)) (fun _ => ?_)
    refine lv_iload hx hb dX11_roundsAmong_35 (lv_at hl 1 rfl) ?_
    refine lv_iload_n hx hb dX11_roundsAmong_37 rfl (lv_at hl 2 rfl) ?_
    refine lv_icmp_le (tgt := 66) hx hb dX11_roundsAmong_38 (by decide) (fun _ => ?_) (fun c_4 => absurd (by decide) c_4)
    refine lv_iload hx hb dX11_roundsAmong_66 (lv_at hl 1 rfl) ?_
    refine lv_iload_n hx hb dX11_roundsAmong_68 rfl (lv_at hl 2 rfl) ?_
    refine lv_icmp_ne (tgt := 88) hx hb dX11_roundsAmong_69 (by decide) (fun _ => ?_) (fun c_5 => absurd c_5 (by decide))
    refine lv_iinc (v := 1) (lv' := [(3, .int 1), (5, .int 0), (4, .int (-1)), (2, .int 0), (0, .ref x0), (1, .int a1)]) hx hb dX11_roundsAmong_88 hl (k := 2) rfl (by decide) (by decide) rfl (fun ls hl => ?_)
    refine lv_goto (tgt := 4) hx hb dX11_roundsAmong_91 (by decide) ?_
    refine lv_iload_n hx hb dX11_roundsAmong_4 rfl (lv_at hl 0 rfl) ?_
    refine lv_iload_n hx hb dX11_roundsAmong_5 rfl (lv_at hl 5 rfl) ?_
    refine lv_icmp_ge (tgt := 94) hx hb dX11_roundsAmong_6 (by decide) (fun c_6 => ?_) (fun c_6 => ?_)
    · refine lv_iload_n hx hb dX11_roundsAmong_94 rfl (lv_at hl 3 rfl) ?_
      exact W.iret (v := 0) hx hb hr (fun t9 ht9 hW9 => ⟨rfl, ht9.trans hHe⟩) (fun _ h9 => absurd h9 List.not_mem_nil) dX11_roundsAmong_95
    · refine lv_iload_n hx hb dX11_roundsAmong_9 rfl (lv_at hl 0 rfl) ?_
      refine lv_bipush (v := 10) hx hb dX11_roundsAmong_10 (by decide) ?_
      refine lv_icmp_ge (tgt := 94) hx hb dX11_roundsAmong_12 (by decide) (fun c_7 => absurd c_7 (by decide)) (fun _ => ?_)
      refine lv_aload_n hx hb dX11_roundsAmong_15 rfl (lv_at hl 4 rfl) ?_
      refine va_get (D := D) (ci := 9) (v := .ref hn) (C := "WrongHole") (T := TX11) (N := 12) hx hb hts (iq_RX11 _) hown hK hP 0 rfl rfl 4 (by decide) (hT _ qq_1_206) (fun _ h9 => h9) rfl dX11_roundsAmong_16 ?_
      refine va_getN (D := D) (ci := 8) (v := .ref wd) (C := "WrongHole$Worn") (T := TX10) (N := 9) hx hb hts (iq_RX10 _) hown hK hP 1 rfl rfl 8 (by decide) (hN.f nq_1_115) (fun _ h9 => h9) rfl dX11_roundsAmong_19 ?_
      refine lv_iload_n hx hb dX11_roundsAmong_22 rfl (lv_at hl 0 rfl) ?_
      refine va_iald hx hb hK hP 2 0 rfl rfl (vi_c rfl) dX11_roundsAmong_23 ?_
      refine tc_i (-1) (rfl) ?_
      refine lv_istore (lv' := [(4, .int (-1)), (3, .int 1), (5, .int 0), (2, .int 0), (0, .ref x0), (1, .int a1)]) hx hb dX11_roundsAmong_24 hl (by decide) rfl (fun ls hl => ?_)
      refine lv_iconst (v := 0) hx hb dX11_roundsAmong_26 (by decide) ?_
      refine lv_istore (lv' := [(5, .int 0), (4, .int (-1)), (3, .int 1), (2, .int 0), (0, .ref x0), (1, .int a1)]) hx hb dX11_roundsAmong_27 hl (by decide) rfl (fun ls hl => ?_)
      refine lv_iload hx hb dX11_roundsAmong_29 (lv_at hl 0 rfl) ?_
      refine lv_iload_n hx hb dX11_roundsAmong_31 rfl (lv_at hl 5 rfl) ?_
      refine lv_icmp_ge (tgt := 66) hx hb dX11_roundsAmong_32 (by decide) (fun c_8 => absurd c_8 (c_1)) (fun _ => ?_)
      refine lv_iload hx hb dX11_roundsAmong_35 (lv_at hl 1 rfl) ?_
      refine lv_iload_n hx hb dX11_roundsAmong_37 rfl (lv_at hl 2 rfl) ?_
      refine lv_icmp_le (tgt := 66) hx hb dX11_roundsAmong_38 (by decide) (fun _ => ?_) (fun c_9 => absurd (by decide) c_9)
      refine lv_iload hx hb dX11_roundsAmong_66 (lv_at hl 1 rfl) ?_
      refine lv_iload_n hx hb dX11_roundsAmong_68 rfl (lv_at hl 2 rfl) ?_
      refine lv_icmp_ne (tgt := 88) hx hb dX11_roundsAmong_69 (by decide) (fun _ => ?_) (fun c_10 => absurd c_10 (by decide))
      refine lv_iinc (v := 2) (lv' := [(3, .int 2), (5, .int 0), (4, .int (-1)), (2, .int 0), (0, .ref x0), (1, .int a1)]) hx hb dX11_roundsAmong_88 hl (k := 2) rfl (by decide) (by decide) rfl (fun ls hl => ?_)
      refine lv_goto (tgt := 4) hx hb dX11_roundsAmong_91 (by decide) ?_
      refine lv_iload_n hx hb dX11_roundsAmong_4 rfl (lv_at hl 0 rfl) ?_
      refine lv_iload_n hx hb dX11_roundsAmong_5 rfl (lv_at hl 5 rfl) ?_
      refine lv_icmp_ge (tgt := 94) hx hb dX11_roundsAmong_6 (by decide) (fun c_11 => ?_) (fun c_11 => ?_)
      · refine lv_iload_n hx hb dX11_roundsAmong_94 rfl (lv_at hl 3 rfl) ?_
        exact W.iret (v := 0) hx hb hr (fun t9 ht9 hW9 => ⟨rfl, ht9.trans hHe⟩) (fun _ h9 => absurd h9 List.not_mem_nil) dX11_roundsAmong_95
      · refine lv_iload_n hx hb dX11_roundsAmong_9 rfl (lv_at hl 0 rfl) ?_
        refine lv_bipush (v := 10) hx hb dX11_roundsAmong_10 (by decide) ?_
        refine lv_icmp_ge (tgt := 94) hx hb dX11_roundsAmong_12 (by decide) (fun c_12 => absurd c_12 (by decide)) (fun _ => ?_)
        refine lv_aload_n hx hb dX11_roundsAmong_15 rfl (lv_at hl 4 rfl) ?_
        refine va_get (D := D) (ci := 9) (v := .ref hn) (C := "WrongHole") (T := TX11) (N := 12) hx hb hts (iq_RX11 _) hown hK hP 0 rfl rfl 4 (by decide) (hT _ qq_1_206) (fun _ h9 => h9) rfl dX11_roundsAmong_16 ?_
        refine va_getN (D := D) (ci := 8) (v := .ref wd) (C := "WrongHole$Worn") (T := TX10) (N := 9) hx hb hts (iq_RX10 _) hown hK hP 1 rfl rfl 8 (by decide) (hN.f nq_1_115) (fun _ h9 => h9) rfl dX11_roundsAmong_19 ?_
        refine lv_iload_n hx hb dX11_roundsAmong_22 rfl (lv_at hl 0 rfl) ?_
        refine va_iald hx hb hK hP 2 0 rfl rfl (vi_c rfl) dX11_roundsAmong_23 ?_
        refine tc_i (-1) (rfl) ?_
        refine lv_istore (lv' := [(4, .int (-1)), (3, .int 2), (5, .int 0), (2, .int 0), (0, .ref x0), (1, .int a1)]) hx hb dX11_roundsAmong_24 hl (by decide) rfl (fun ls hl => ?_)
        refine lv_iconst (v := 0) hx hb dX11_roundsAmong_26 (by decide) ?_
        refine lv_istore (lv' := [(5, .int 0), (4, .int (-1)), (3, .int 2), (2, .int 0), (0, .ref x0), (1, .int a1)]) hx hb dX11_roundsAmong_27 hl (by decide) rfl (fun ls hl => ?_)
        refine lv_iload hx hb dX11_roundsAmong_29 (lv_at hl 0 rfl) ?_
        refine lv_iload_n hx hb dX11_roundsAmong_31 rfl (lv_at hl 5 rfl) ?_
        refine lv_icmp_ge (tgt := 66) hx hb dX11_roundsAmong_32 (by decide) (fun c_13 => absurd c_13 (c_1)) (fun _ => ?_)
        refine lv_iload hx hb dX11_roundsAmong_35 (lv_at hl 1 rfl) ?_
        refine lv_iload_n hx hb dX11_roundsAmong_37 rfl (lv_at hl 2 rfl) ?_
        refine lv_icmp_le (tgt := 66) hx hb dX11_roundsAmong_38 (by decide) (fun _ => ?_) (fun c_14 => absurd (by decide) c_14)
        refine lv_iload hx hb dX11_roundsAmong_66 (lv_at hl 1 rfl) ?_
        refine lv_iload_n hx hb dX11_roundsAmong_68 rfl (lv_at hl 2 rfl) ?_
        refine lv_icmp_ne (tgt := 88) hx hb dX11_roundsAmong_69 (by decide) (fun _ => ?_) (fun c_15 => absurd c_15 (by decide))
        refine lv_iinc (v := 3) (lv' := [(3, .int 3), (5, .int 0), (4, .int (-1)), (2, .int 0), (0, .ref x0), (1, .int a1)]) hx hb dX11_roundsAmong_88 hl (k := 2) rfl (by decide) (by decide) rfl (fun ls hl => ?_)
        refine lv_goto (tgt := 4) hx hb dX11_roundsAmong_91 (by decide) ?_
        refine lv_iload_n hx hb dX11_roundsAmong_4 rfl (lv_at hl 0 rfl) ?_
        refine lv_iload_n hx hb dX11_roundsAmong_5 rfl (lv_at hl 5 rfl) ?_
        refine lv_icmp_ge (tgt := 94) hx hb dX11_roundsAmong_6 (by decide) (fun c_16 => ?_) (fun c_16 => ?_)
        · refine lv_iload_n hx hb dX11_roundsAmong_94 rfl (lv_at hl 3 rfl) ?_
          exact W.iret (v := 0) hx hb hr (fun t9 ht9 hW9 => ⟨rfl, ht9.trans hHe⟩) (fun _ h9 => absurd h9 List.not_mem_nil) dX11_roundsAmong_95
        · refine lv_iload_n hx hb dX11_roundsAmong_9 rfl (lv_at hl 0 rfl) ?_
          refine lv_bipush (v := 10) hx hb dX11_roundsAmong_10 (by decide) ?_
          refine lv_icmp_ge (tgt := 94) hx hb dX11_roundsAmong_12 (by decide) (fun c_17 => absurd c_17 (by decide)) (fun _ => ?_)
          refine lv_aload_n hx hb dX11_roundsAmong_15 rfl (lv_at hl 4 rfl) ?_
          refine va_get (D := D) (ci := 9) (v := .ref hn) (C := "WrongHole") (T := TX11) (N := 12) hx hb hts (iq_RX11 _) hown hK hP 0 rfl rfl 4 (by decide) (hT _ qq_1_206) (fun _ h9 => h9) rfl dX11_roundsAmong_16 ?_
          refine va_getN (D := D) (ci := 8) (v := .ref wd) (C := "WrongHole$Worn") (T := TX10) (N := 9) hx hb hts (iq_RX10 _) hown hK hP 1 rfl rfl 8 (by decide) (hN.f nq_1_115) (fun _ h9 => h9) rfl dX11_roundsAmong_19 ?_
          refine lv_iload_n hx hb dX11_roundsAmong_22 rfl (lv_at hl 0 rfl) ?_
          refine va_iald hx hb hK hP 2 0 rfl rfl (vi_c rfl) dX11_roundsAmong_23 ?_
          refine tc_i (-1) (rfl) ?_
          refine lv_istore (lv' := [(4, .int (-1)), (3, .int 3), (5, .int 0), (2, .int 0), (0, .ref x0), (1, .int a1)]) hx hb dX11_roundsAmong_24 hl (by decide) rfl (fun ls hl => ?_)
          refine lv_iconst (v := 0) hx hb dX11_roundsAmong_26 (by decide) ?_
          refine lv_istore (lv' := [(5, .int 0), (4, .int (-1)), (3, .int 3), (2, .int 0), (0, .ref x0), (1, .int a1)]) hx hb dX11_roundsAmong_27 hl (by decide) rfl (fun ls hl => ?_)
          refine lv_iload hx hb dX11_roundsAmong_29 (lv_at hl 0 rfl) ?_
          refine lv_iload_n hx hb dX11_roundsAmong_31 rfl (lv_at hl 5 rfl) ?_
          refine lv_icmp_ge (tgt := 66) hx hb dX11_roundsAmong_32 (by decide) (fun c_18 => absurd c_18 (c_1)) (fun _ => ?_)
          refine lv_iload hx hb dX11_roundsAmong_35 (lv_at hl 1 rfl) ?_
          refine lv_iload_n hx hb dX11_roundsAmong_37 rfl (lv_at hl 2 rfl) ?_
          refine lv_icmp_le (tgt := 66) hx hb dX11_roundsAmong_38 (by decide) (fun _ => ?_) (fun c_19 => absurd (by decide) c_19)
          refine lv_iload hx hb dX11_roundsAmong_66 (lv_at hl 1 rfl) ?_
          refine lv_iload_n hx hb dX11_roundsAmong_68 rfl (lv_at hl 2 rfl) ?_
          refine lv_icmp_ne (tgt := 88) hx hb dX11_roundsAmong_69 (by decide) (fun _ => ?_) (fun c_20 => absurd c_20 (by decide))
          refine lv_iinc (v := 4) (lv' := [(3, .int 4), (5, .int 0), (4, .int (-1)), (2, .int 0), (0, .ref x0), (1, .int a1)]) hx hb dX11_roundsAmong_88 hl (k := 2) rfl (by decide) (by decide) rfl (fun ls hl => ?_)
          refine lv_goto (tgt := 4) hx hb dX11_roundsAmong_91 (by decide) ?_
          refine lv_iload_n hx hb dX11_roundsAmong_4 rfl (lv_at hl 0 rfl) ?_
          refine lv_iload_n hx hb dX11_roundsAmong_5 rfl (lv_at hl 5 rfl) ?_
          refine lv_icmp_ge (tgt := 94) hx hb dX11_roundsAmong_6 (by decide) (fun c_21 => ?_) (fun c_21 => ?_)
          · refine lv_iload_n hx hb dX11_roundsAmong_94 rfl (lv_at hl 3 rfl) ?_
            exact W.iret (v := 0) hx hb hr (fun t9 ht9 hW9 => ⟨rfl, ht9.trans hHe⟩) (fun _ h9 => absurd h9 List.not_mem_nil) dX11_roundsAmong_95
          · refine lv_iload_n hx hb dX11_roundsAmong_9 rfl (lv_at hl 0 rfl) ?_
            refine lv_bipush (v := 10) hx hb dX11_roundsAmong_10 (by decide) ?_
            refine lv_icmp_ge (tgt := 94) hx hb dX11_roundsAmong_12 (by decide) (fun c_22 => absurd c_22 (by decide)) (fun _ => ?_)
            refine lv_aload_n hx hb dX11_roundsAmong_15 rfl (lv_at hl 4 rfl) ?_
            refine va_get (D := D) (ci := 9) (v := .ref hn) (C := "WrongHole") (T := TX11) (N := 12) hx hb hts (iq_RX11 _) hown hK hP 0 rfl rfl 4 (by decide) (hT _ qq_1_206) (fun _ h9 => h9) rfl dX11_roundsAmong_16 ?_
            refine va_getN (D := D) (ci := 8) (v := .ref wd) (C := "WrongHole$Worn") (T := TX10) (N := 9) hx hb hts (iq_RX10 _) hown hK hP 1 rfl rfl 8 (by decide) (hN.f nq_1_115) (fun _ h9 => h9) rfl dX11_roundsAmong_19 ?_
            refine lv_iload_n hx hb dX11_roundsAmong_22 rfl (lv_at hl 0 rfl) ?_
            refine va_iald hx hb hK hP 2 0 rfl rfl (vi_c rfl) dX11_roundsAmong_23 ?_
            refine tc_i (-1) (rfl) ?_
            refine lv_istore (lv' := [(4, .int (-1)), (3, .int 4), (5, .int 0), (2, .int 0), (0, .ref x0), (1, .int a1)]) hx hb dX11_roundsAmong_24 hl (by decide) rfl (fun ls hl => ?_)
            refine lv_iconst (v := 0) hx hb dX11_roundsAmong_26 (by decide) ?_
            refine lv_istore (lv' := [(5, .int 0), (4, .int (-1)), (3, .int 4), (2, .int 0), (0, .ref x0), (1, .int a1)]) hx hb dX11_roundsAmong_27 hl (by decide) rfl (fun ls hl => ?_)
            refine lv_iload hx hb dX11_roundsAmong_29 (lv_at hl 0 rfl) ?_
            refine lv_iload_n hx hb dX11_roundsAmong_31 rfl (lv_at hl 5 rfl) ?_
            refine lv_icmp_ge (tgt := 66) hx hb dX11_roundsAmong_32 (by decide) (fun c_23 => absurd c_23 (c_1)) (fun _ => ?_)
            refine lv_iload hx hb dX11_roundsAmong_35 (lv_at hl 1 rfl) ?_
            refine lv_iload_n hx hb dX11_roundsAmong_37 rfl (lv_at hl 2 rfl) ?_
            refine lv_icmp_le (tgt := 66) hx hb dX11_roundsAmong_38 (by decide) (fun _ => ?_) (fun c_24 => absurd (by decide) c_24)
            refine lv_iload hx hb dX11_roundsAmong_66 (lv_at hl 1 rfl) ?_
            refine lv_iload_n hx hb dX11_roundsAmong_68 rfl (lv_at hl 2 rfl) ?_
            refine lv_icmp_ne (tgt := 88) hx hb dX11_roundsAmong_69 (by decide) (fun _ => ?_) (fun c_25 => absurd c_25 (by decide))
            refine lv_iinc (v := 5) (lv' := [(3, .int 5), (5, .int 0), (4, .int (-1)), (2, .int 0), (0, .ref x0), (1, .int a1)]) hx hb dX11_roundsAmong_88 hl (k := 2) rfl (by decide) (by decide) rfl (fun ls hl => ?_)
            refine lv_goto (tgt := 4) hx hb dX11_roundsAmong_91 (by decide) ?_
            refine lv_iload_n hx hb dX11_roundsAmong_4 rfl (lv_at hl 0 rfl) ?_
            refine lv_iload_n hx hb dX11_roundsAmong_5 rfl (lv_at hl 5 rfl) ?_
            refine lv_icmp_ge (tgt := 94) hx hb dX11_roundsAmong_6 (by decide) (fun c_26 => ?_) (fun c_26 => ?_)
            · refine lv_iload_n hx hb dX11_roundsAmong_94 rfl (lv_at hl 3 rfl) ?_
              exact W.iret (v := 0) hx hb hr (fun t9 ht9 hW9 => ⟨rfl, ht9.trans hHe⟩) (fun _ h9 => absurd h9 List.not_mem_nil) dX11_roundsAmong_95
            · refine lv_iload_n hx hb dX11_roundsAmong_9 rfl (lv_at hl 0 rfl) ?_
              refine lv_bipush (v := 10) hx hb dX11_roundsAmong_10 (by decide) ?_
              refine lv_icmp_ge (tgt := 94) hx hb dX11_roundsAmong_12 (by decide) (fun c_27 => absurd c_27 (by decide)) (fun _ => ?_)
              refine lv_aload_n hx hb dX11_roundsAmong_15 rfl (lv_at hl 4 rfl) ?_
              refine va_get (D := D) (ci := 9) (v := .ref hn) (C := "WrongHole") (T := TX11) (N := 12) hx hb hts (iq_RX11 _) hown hK hP 0 rfl rfl 4 (by decide) (hT _ qq_1_206) (fun _ h9 => h9) rfl dX11_roundsAmong_16 ?_
              refine va_getN (D := D) (ci := 8) (v := .ref wd) (C := "WrongHole$Worn") (T := TX10) (N := 9) hx hb hts (iq_RX10 _) hown hK hP 1 rfl rfl 8 (by decide) (hN.f nq_1_115) (fun _ h9 => h9) rfl dX11_roundsAmong_19 ?_
              refine lv_iload_n hx hb dX11_roundsAmong_22 rfl (lv_at hl 0 rfl) ?_
              refine va_iald hx hb hK hP 2 0 rfl rfl (vi_c rfl) dX11_roundsAmong_23 ?_
              refine tc_i (-1) (rfl) ?_
              refine lv_istore (lv' := [(4, .int (-1)), (3, .int 5), (5, .int 0), (2, .int 0), (0, .ref x0), (1, .int a1)]) hx hb dX11_roundsAmong_24 hl (by decide) rfl (fun ls hl => ?_)
              refine lv_iconst (v := 0) hx hb dX11_roundsAmong_26 (by decide) ?_
              refine lv_istore (lv' := [(5, .int 0), (4, .int (-1)), (3, .int 5), (2, .int 0), (0, .ref x0), (1, .int a1)]) hx hb dX11_roundsAmong_27 hl (by decide) rfl (fun ls hl => ?_)
              refine lv_iload hx hb dX11_roundsAmong_29 (lv_at hl 0 rfl) ?_
              refine lv_iload_n hx hb dX11_roundsAmong_31 rfl (lv_at hl 5 rfl) ?_
              refine lv_icmp_ge (tgt := 66) hx hb dX11_roundsAmong_32 (by decide) (fun c_28 => absurd c_28 (c_1)) (fun _ => ?_)
              refine lv_iload hx hb dX11_roundsAmong_35 (lv_at hl 1 rfl) ?_
              refine lv_iload_n hx hb dX11_roundsAmong_37 rfl (lv_at hl 2 rfl) ?_
              refine lv_icmp_le (tgt := 66) hx hb dX11_roundsAmong_38 (by decide) (fun _ => ?_) (fun c_29 => absurd (by decide) c_29)
              refine lv_iload hx hb dX11_roundsAmong_66 (lv_at hl 1 rfl) ?_
              refine lv_iload_n hx hb dX11_roundsAmong_68 rfl (lv_at hl 2 rfl) ?_
              refine lv_icmp_ne (tgt := 88) hx hb dX11_roundsAmong_69 (by decide) (fun _ => ?_) (fun c_30 => absurd c_30 (by decide))
              refine lv_iinc (v := 6) (lv' := [(3, .int 6), (5, .int 0), (4, .int (-1)), (2, .int 0), (0, .ref x0), (1, .int a1)]) hx hb dX11_roundsAmong_88 hl (k := 2) rfl (by decide) (by decide) rfl (fun ls hl => ?_)
              refine lv_goto (tgt := 4) hx hb dX11_roundsAmong_91 (by decide) ?_
              refine lv_iload_n hx hb dX11_roundsAmong_4 rfl (lv_at hl 0 rfl) ?_
              refine lv_iload_n hx hb dX11_roundsAmong_5 rfl (lv_at hl 5 rfl) ?_
              refine lv_icmp_ge (tgt := 94) hx hb dX11_roundsAmong_6 (by decide) (fun c_31 => ?_) (fun c_31 => ?_)
              · refine lv_iload_n hx hb dX11_roundsAmong_94 rfl (lv_at hl 3 rfl) ?_
                exact W.iret (v := 0) hx hb hr (fun t9 ht9 hW9 => ⟨rfl, ht9.trans hHe⟩) (fun _ h9 => absurd h9 List.not_mem_nil) dX11_roundsAmong_95
              · refine lv_iload_n hx hb dX11_roundsAmong_9 rfl (lv_at hl 0 rfl) ?_
                refine lv_bipush (v := 10) hx hb dX11_roundsAmong_10 (by decide) ?_
                refine lv_icmp_ge (tgt := 94) hx hb dX11_roundsAmong_12 (by decide) (fun c_32 => absurd c_32 (by decide)) (fun _ => ?_)
                refine lv_aload_n hx hb dX11_roundsAmong_15 rfl (lv_at hl 4 rfl) ?_
                refine va_get (D := D) (ci := 9) (v := .ref hn) (C := "WrongHole") (T := TX11) (N := 12) hx hb hts (iq_RX11 _) hown hK hP 0 rfl rfl 4 (by decide) (hT _ qq_1_206) (fun _ h9 => h9) rfl dX11_roundsAmong_16 ?_
                refine va_getN (D := D) (ci := 8) (v := .ref wd) (C := "WrongHole$Worn") (T := TX10) (N := 9) hx hb hts (iq_RX10 _) hown hK hP 1 rfl rfl 8 (by decide) (hN.f nq_1_115) (fun _ h9 => h9) rfl dX11_roundsAmong_19 ?_
                refine lv_iload_n hx hb dX11_roundsAmong_22 rfl (lv_at hl 0 rfl) ?_
                refine va_iald hx hb hK hP 2 0 rfl rfl (vi_c rfl) dX11_roundsAmong_23 ?_
                refine tc_i (-1) (rfl) ?_
                refine lv_istore (lv' := [(4, .int (-1)), (3, .int 6), (5, .int 0), (2, .int 0), (0, .ref x0), (1, .int a1)]) hx hb dX11_roundsAmong_24 hl (by decide) rfl (fun ls hl => ?_)
                refine lv_iconst (v := 0) hx hb dX11_roundsAmong_26 (by decide) ?_
                refine lv_istore (lv' := [(5, .int 0), (4, .int (-1)), (3, .int 6), (2, .int 0), (0, .ref x0), (1, .int a1)]) hx hb dX11_roundsAmong_27 hl (by decide) rfl (fun ls hl => ?_)
                refine lv_iload hx hb dX11_roundsAmong_29 (lv_at hl 0 rfl) ?_
                refine lv_iload_n hx hb dX11_roundsAmong_31 rfl (lv_at hl 5 rfl) ?_
                refine lv_icmp_ge (tgt := 66) hx hb dX11_roundsAmong_32 (by decide) (fun c_33 => absurd c_33 (c_1)) (fun _ => ?_)
                refine lv_iload hx hb dX11_roundsAmong_35 (lv_at hl 1 rfl) ?_
                refine lv_iload_n hx hb dX11_roundsAmong_37 rfl (lv_at hl 2 rfl) ?_
                refine lv_icmp_le (tgt := 66) hx hb dX11_roundsAmong_38 (by decide) (fun _ => ?_) (fun c_34 => absurd (by decide) c_34)
                refine lv_iload hx hb dX11_roundsAmong_66 (lv_at hl 1 rfl) ?_
                refine lv_iload_n hx hb dX11_roundsAmong_68 rfl (lv_at hl 2 rfl) ?_
                refine lv_icmp_ne (tgt := 88) hx hb dX11_roundsAmong_69 (by decide) (fun _ => ?_) (fun c_35 => absurd c_35 (by decide))
                refine lv_iinc (v := 7) (lv' := [(3, .int 7), (5, .int 0), (4, .int (-1)), (2, .int 0), (0, .ref x0), (1, .int a1)]) hx hb dX11_roundsAmong_88 hl (k := 2) rfl (by decide) (by decide) rfl (fun ls hl => ?_)
                refine lv_goto (tgt := 4) hx hb dX11_roundsAmong_91 (by decide) ?_
                refine lv_iload_n hx hb dX11_roundsAmong_4 rfl (lv_at hl 0 rfl) ?_
                refine lv_iload_n hx hb dX11_roundsAmong_5 rfl (lv_at hl 5 rfl) ?_
                refine lv_icmp_ge (tgt := 94) hx hb dX11_roundsAmong_6 (by decide) (fun c_36 => ?_) (fun c_36 => ?_)
                · refine lv_iload_n hx hb dX11_roundsAmong_94 rfl (lv_at hl 3 rfl) ?_
                  exact W.iret (v := 0) hx hb hr (fun t9 ht9 hW9 => ⟨rfl, ht9.trans hHe⟩) (fun _ h9 => absurd h9 List.not_mem_nil) dX11_roundsAmong_95
                · refine lv_iload_n hx hb dX11_roundsAmong_9 rfl (lv_at hl 0 rfl) ?_
                  refine lv_bipush (v := 10) hx hb dX11_roundsAmong_10 (by decide) ?_
                  refine lv_icmp_ge (tgt := 94) hx hb dX11_roundsAmong_12 (by decide) (fun c_37 => absurd c_37 (by decide)) (fun _ => ?_)
                  refine lv_aload_n hx hb dX11_roundsAmong_15 rfl (lv_at hl 4 rfl) ?_
                  refine va_get (D := D) (ci := 9) (v := .ref hn) (C := "WrongHole") (T := TX11) (N := 12) hx hb hts (iq_RX11 _) hown hK hP 0 rfl rfl 4 (by decide) (hT _ qq_1_206) (fun _ h9 => h9) rfl dX11_roundsAmong_16 ?_
                  refine va_getN (D := D) (ci := 8) (v := .ref wd) (C := "WrongHole$Worn") (T := TX10) (N := 9) hx hb hts (iq_RX10 _) hown hK hP 1 rfl rfl 8 (by decide) (hN.f nq_1_115) (fun _ h9 => h9) rfl dX11_roundsAmong_19 ?_
                  refine lv_iload_n hx hb dX11_roundsAmong_22 rfl (lv_at hl 0 rfl) ?_
                  refine va_iald hx hb hK hP 2 0 rfl rfl (vi_c rfl) dX11_roundsAmong_23 ?_
                  refine tc_i (-1) (rfl) ?_
                  refine lv_istore (lv' := [(4, .int (-1)), (3, .int 7), (5, .int 0), (2, .int 0), (0, .ref x0), (1, .int a1)]) hx hb dX11_roundsAmong_24 hl (by decide) rfl (fun ls hl => ?_)
                  refine lv_iconst (v := 0) hx hb dX11_roundsAmong_26 (by decide) ?_
                  refine lv_istore (lv' := [(5, .int 0), (4, .int (-1)), (3, .int 7), (2, .int 0), (0, .ref x0), (1, .int a1)]) hx hb dX11_roundsAmong_27 hl (by decide) rfl (fun ls hl => ?_)
                  refine lv_iload hx hb dX11_roundsAmong_29 (lv_at hl 0 rfl) ?_
                  refine lv_iload_n hx hb dX11_roundsAmong_31 rfl (lv_at hl 5 rfl) ?_
                  refine lv_icmp_ge (tgt := 66) hx hb dX11_roundsAmong_32 (by decide) (fun c_38 => absurd c_38 (c_1)) (fun _ => ?_)
                  refine lv_iload hx hb dX11_roundsAmong_35 (lv_at hl 1 rfl) ?_
                  refine lv_iload_n hx hb dX11_roundsAmong_37 rfl (lv_at hl 2 rfl) ?_
                  refine lv_icmp_le (tgt := 66) hx hb dX11_roundsAmong_38 (by decide) (fun _ => ?_) (fun c_39 => absurd (by decide) c_39)
                  refine lv_iload hx hb dX11_roundsAmong_66 (lv_at hl 1 rfl) ?_
                  refine lv_iload_n hx hb dX11_roundsAmong_68 rfl (lv_at hl 2 rfl) ?_
                  refine lv_icmp_ne (tgt := 88) hx hb dX11_roundsAmong_69 (by decide) (fun _ => ?_) (fun c_40 => absurd c_40 (by decide))
                  refine lv_iinc (v := 8) (lv' := [(3, .int 8), (5, .int 0), (4, .int (-1)), (2, .int 0), (0, .ref x0), (1, .int a1)]) hx hb dX11_roundsAmong_88 hl (k := 2) rfl (by decide) (by decide) rfl (fun ls hl => ?_)
                  refine lv_goto (tgt := 4) hx hb dX11_roundsAmong_91 (by decide) ?_
                  refine lv_iload_n hx hb dX11_roundsAmong_4 rfl (lv_at hl 0 rfl) ?_
                  refine lv_iload_n hx hb dX11_roundsAmong_5 rfl (lv_at hl 5 rfl) ?_
                  refine lv_icmp_ge (tgt := 94) hx hb dX11_roundsAmong_6 (by decide) (fun c_41 => ?_) (fun c_41 => ?_)
                  · refine lv_iload_n hx hb dX11_roundsAmong_94 rfl (lv_at hl 3 rfl) ?_
                    exact W.iret (v := 0) hx hb hr (fun t9 ht9 hW9 => ⟨rfl, ht9.trans hHe⟩) (fun _ h9 => absurd h9 List.not_mem_nil) dX11_roundsAmong_95
                  · refine lv_iload_n hx hb dX11_roundsAmong_9 rfl (lv_at hl 0 rfl) ?_
                    refine lv_bipush (v := 10) hx hb dX11_roundsAmong_10 (by decide) ?_
                    refine lv_icmp_ge (tgt := 94) hx hb dX11_roundsAmong_12 (by decide) (fun c_42 => absurd c_42 (by decide)) (fun _ => ?_)
                    refine lv_aload_n hx hb dX11_roundsAmong_15 rfl (lv_at hl 4 rfl) ?_
                    refine va_get (D := D) (ci := 9) (v := .ref hn) (C := "WrongHole") (T := TX11) (N := 12) hx hb hts (iq_RX11 _) hown hK hP 0 rfl rfl 4 (by decide) (hT _ qq_1_206) (fun _ h9 => h9) rfl dX11_roundsAmong_16 ?_
                    refine va_getN (D := D) (ci := 8) (v := .ref wd) (C := "WrongHole$Worn") (T := TX10) (N := 9) hx hb hts (iq_RX10 _) hown hK hP 1 rfl rfl 8 (by decide) (hN.f nq_1_115) (fun _ h9 => h9) rfl dX11_roundsAmong_19 ?_
                    refine lv_iload_n hx hb dX11_roundsAmong_22 rfl (lv_at hl 0 rfl) ?_
                    refine va_iald hx hb hK hP 2 0 rfl rfl (vi_c rfl) dX11_roundsAmong_23 ?_
                    refine tc_i (-1) (rfl) ?_
                    refine lv_istore (lv' := [(4, .int (-1)), (3, .int 8), (5, .int 0), (2, .int 0), (0, .ref x0), (1, .int a1)]) hx hb dX11_roundsAmong_24 hl (by decide) rfl (fun ls hl => ?_)
                    refine lv_iconst (v := 0) hx hb dX11_roundsAmong_26 (by decide) ?_
                    refine lv_istore (lv' := [(5, .int 0), (4, .int (-1)), (3, .int 8), (2, .int 0), (0, .ref x0), (1, .int a1)]) hx hb dX11_roundsAmong_27 hl (by decide) rfl (fun ls hl => ?_)
                    refine lv_iload hx hb dX11_roundsAmong_29 (lv_at hl 0 rfl) ?_
                    refine lv_iload_n hx hb dX11_roundsAmong_31 rfl (lv_at hl 5 rfl) ?_
                    refine lv_icmp_ge (tgt := 66) hx hb dX11_roundsAmong_32 (by decide) (fun c_43 => absurd c_43 (c_1)) (fun _ => ?_)
                    refine lv_iload hx hb dX11_roundsAmong_35 (lv_at hl 1 rfl) ?_
                    refine lv_iload_n hx hb dX11_roundsAmong_37 rfl (lv_at hl 2 rfl) ?_
                    refine lv_icmp_le (tgt := 66) hx hb dX11_roundsAmong_38 (by decide) (fun _ => ?_) (fun c_44 => absurd (by decide) c_44)
                    refine lv_iload hx hb dX11_roundsAmong_66 (lv_at hl 1 rfl) ?_
                    refine lv_iload_n hx hb dX11_roundsAmong_68 rfl (lv_at hl 2 rfl) ?_
                    refine lv_icmp_ne (tgt := 88) hx hb dX11_roundsAmong_69 (by decide) (fun _ => ?_) (fun c_45 => absurd c_45 (by decide))
                    refine lv_iinc (v := 9) (lv' := [(3, .int 9), (5, .int 0), (4, .int (-1)), (2, .int 0), (0, .ref x0), (1, .int a1)]) hx hb dX11_roundsAmong_88 hl (k := 2) rfl (by decide) (by decide) rfl (fun ls hl => ?_)
                    refine lv_goto (tgt := 4) hx hb dX11_roundsAmong_91 (by decide) ?_
                    refine lv_iload_n hx hb dX11_roundsAmong_4 rfl (lv_at hl 0 rfl) ?_
                    refine lv_iload_n hx hb dX11_roundsAmong_5 rfl (lv_at hl 5 rfl) ?_
                    refine lv_icmp_ge (tgt := 94) hx hb dX11_roundsAmong_6 (by decide) (fun c_46 => ?_) (fun c_46 => ?_)
                    · refine lv_iload_n hx hb dX11_roundsAmong_94 rfl (lv_at hl 3 rfl) ?_
                      exact W.iret (v := 0) hx hb hr (fun t9 ht9 hW9 => ⟨rfl, ht9.trans hHe⟩) (fun _ h9 => absurd h9 List.not_mem_nil) dX11_roundsAmong_95
                    · refine lv_iload_n hx hb dX11_roundsAmong_9 rfl (lv_at hl 0 rfl) ?_
                      refine lv_bipush (v := 10) hx hb dX11_roundsAmong_10 (by decide) ?_
                      refine lv_icmp_ge (tgt := 94) hx hb dX11_roundsAmong_12 (by decide) (fun c_47 => absurd c_47 (by decide)) (fun _ => ?_)
                      refine lv_aload_n hx hb dX11_roundsAmong_15 rfl (lv_at hl 4 rfl) ?_
                      refine va_get (D := D) (ci := 9) (v := .ref hn) (C := "WrongHole") (T := TX11) (N := 12) hx hb hts (iq_RX11 _) hown hK hP 0 rfl rfl 4 (by decide) (hT _ qq_1_206) (fun _ h9 => h9) rfl dX11_roundsAmong_16 ?_
                      refine va_getN (D := D) (ci := 8) (v := .ref wd) (C := "WrongHole$Worn") (T := TX10) (N := 9) hx hb hts (iq_RX10 _) hown hK hP 1 rfl rfl 8 (by decide) (hN.f nq_1_115) (fun _ h9 => h9) rfl dX11_roundsAmong_19 ?_
                      refine lv_iload_n hx hb dX11_roundsAmong_22 rfl (lv_at hl 0 rfl) ?_
                      refine va_iald hx hb hK hP 2 0 rfl rfl (vi_c rfl) dX11_roundsAmong_23 ?_
                      refine tc_i (-1) (rfl) ?_
                      refine lv_istore (lv' := [(4, .int (-1)), (3, .int 9), (5, .int 0), (2, .int 0), (0, .ref x0), (1, .int a1)]) hx hb dX11_roundsAmong_24 hl (by decide) rfl (fun ls hl => ?_)
                      refine lv_iconst (v := 0) hx hb dX11_roundsAmong_26 (by decide) ?_
                      refine lv_istore (lv' := [(5, .int 0), (4, .int (-1)), (3, .int 9), (2, .int 0), (0, .ref x0), (1, .int a1)]) hx hb dX11_roundsAmong_27 hl (by decide) rfl (fun ls hl => ?_)
                      refine lv_iload hx hb dX11_roundsAmong_29 (lv_at hl 0 rfl) ?_
                      refine lv_iload_n hx hb dX11_roundsAmong_31 rfl (lv_at hl 5 rfl) ?_
                      refine lv_icmp_ge (tgt := 66) hx hb dX11_roundsAmong_32 (by decide) (fun c_48 => absurd c_48 (c_1)) (fun _ => ?_)
                      refine lv_iload hx hb dX11_roundsAmong_35 (lv_at hl 1 rfl) ?_
                      refine lv_iload_n hx hb dX11_roundsAmong_37 rfl (lv_at hl 2 rfl) ?_
                      refine lv_icmp_le (tgt := 66) hx hb dX11_roundsAmong_38 (by decide) (fun _ => ?_) (fun c_49 => absurd (by decide) c_49)
                      refine lv_iload hx hb dX11_roundsAmong_66 (lv_at hl 1 rfl) ?_
                      refine lv_iload_n hx hb dX11_roundsAmong_68 rfl (lv_at hl 2 rfl) ?_
                      refine lv_icmp_ne (tgt := 88) hx hb dX11_roundsAmong_69 (by decide) (fun _ => ?_) (fun c_50 => absurd c_50 (by decide))
                      refine lv_iinc (v := 10) (lv' := [(3, .int 10), (5, .int 0), (4, .int (-1)), (2, .int 0), (0, .ref x0), (1, .int a1)]) hx hb dX11_roundsAmong_88 hl (k := 2) rfl (by decide) (by decide) rfl (fun ls hl => ?_)
                      refine lv_goto (tgt := 4) hx hb dX11_roundsAmong_91 (by decide) ?_
                      refine lv_iload_n hx hb dX11_roundsAmong_4 rfl (lv_at hl 0 rfl) ?_
                      refine lv_iload_n hx hb dX11_roundsAmong_5 rfl (lv_at hl 5 rfl) ?_
                      refine lv_icmp_ge (tgt := 94) hx hb dX11_roundsAmong_6 (by decide) (fun c_51 => ?_) (fun c_51 => ?_)
                      · refine lv_iload_n hx hb dX11_roundsAmong_94 rfl (lv_at hl 3 rfl) ?_
                        exact W.iret (v := 0) hx hb hr (fun t9 ht9 hW9 => ⟨rfl, ht9.trans hHe⟩) (fun _ h9 => absurd h9 List.not_mem_nil) dX11_roundsAmong_95
                      · refine lv_iload_n hx hb dX11_roundsAmong_9 rfl (lv_at hl 0 rfl) ?_
                        refine lv_bipush (v := 10) hx hb dX11_roundsAmong_10 (by decide) ?_
                        refine lv_icmp_ge (tgt := 94) hx hb dX11_roundsAmong_12 (by decide) (fun _ => ?_) (fun c_52 => absurd (by decide) c_52)
                        refine lv_iload_n hx hb dX11_roundsAmong_94 rfl (lv_at hl 3 rfl) ?_
                        exact W.iret (v := 0) hx hb hr (fun t9 ht9 hW9 => ⟨rfl, ht9.trans hHe⟩) (fun _ h9 => absurd h9 List.not_mem_nil) dX11_roundsAmong_95
theorem dX11_moves_0 : decode cX11_moves 0 = .ok (.iload_n 1, 1) := by decide +kernel
theorem dX11_moves_1 : decode cX11_moves 1 = .ok (.iconst 1, 1) := by decide +kernel
theorem dX11_moves_2 : decode cX11_moves 2 = .ok (.if_icmp .lt 9, 3) := by decide +kernel
theorem dX11_moves_11 : decode cX11_moves 11 = .ok (.iconst (-1), 1) := by decide +kernel
theorem dX11_moves_12 : decode cX11_moves 12 = .ok (.ireturn, 1) := by decide +kernel
theorem dX11_moves_5 : decode cX11_moves 5 = .ok (.iload_n 1, 1) := by decide +kernel
theorem dX11_moves_6 : decode cX11_moves 6 = .ok (.bipush 10, 2) := by decide +kernel
theorem dX11_moves_8 : decode cX11_moves 8 = .ok (.if_icmp .le 5, 3) := by decide +kernel
theorem dX11_moves_13 : decode cX11_moves 13 = .ok (.iconst 0, 1) := by decide +kernel
theorem dX11_moves_14 : decode cX11_moves 14 = .ok (.istore_n 2, 1) := by decide +kernel
theorem dX11_moves_15 : decode cX11_moves 15 = .ok (.iconst 0, 1) := by decide +kernel
theorem dX11_moves_16 : decode cX11_moves 16 = .ok (.istore_n 3, 1) := by decide +kernel
theorem dX11_moves_17 : decode cX11_moves 17 = .ok (.iconst 0, 1) := by decide +kernel
theorem dX11_moves_18 : decode cX11_moves 18 = .ok (.istore 4, 2) := by decide +kernel
theorem dX11_moves_20 : decode cX11_moves 20 = .ok (.iload 4, 2) := by decide +kernel
theorem dX11_moves_22 : decode cX11_moves 22 = .ok (.iload_n 1, 1) := by decide +kernel
theorem dX11_moves_23 : decode cX11_moves 23 = .ok (.if_icmp .ge 63, 3) := by decide +kernel
theorem dX11_moves_26 : decode cX11_moves 26 = .ok (.aload_n 0, 1) := by decide +kernel
theorem dX11_moves_27 : decode cX11_moves 27 = .ok (.getfield 32, 3) := by decide +kernel
theorem dX11_moves_30 : decode cX11_moves 30 = .ok (.getfield 309, 3) := by decide +kernel
theorem dX11_moves_33 : decode cX11_moves 33 = .ok (.iload 4, 2) := by decide +kernel
theorem dX11_moves_35 : decode cX11_moves 35 = .ok (.iaload, 1) := by decide +kernel
theorem dX11_moves_36 : decode cX11_moves 36 = .ok (.iload_n 1, 1) := by decide +kernel
theorem dX11_moves_37 : decode cX11_moves 37 = .ok (.if_icmp .lt 5, 3) := by decide +kernel
theorem dX11_moves_42 : decode cX11_moves 42 = .ok (.aload_n 0, 1) := by decide +kernel
theorem dX11_moves_43 : decode cX11_moves 43 = .ok (.getfield 32, 3) := by decide +kernel
theorem dX11_moves_46 : decode cX11_moves 46 = .ok (.getfield 309, 3) := by decide +kernel
theorem dX11_moves_49 : decode cX11_moves 49 = .ok (.iload 4, 2) := by decide +kernel
theorem dX11_moves_51 : decode cX11_moves 51 = .ok (.iaload, 1) := by decide +kernel
theorem dX11_moves_52 : decode cX11_moves 52 = .ok (.iconst (-1), 1) := by decide +kernel
theorem dX11_moves_53 : decode cX11_moves 53 = .ok (.if_icmp .ne 9, 3) := by decide +kernel
theorem dX11_moves_56 : decode cX11_moves 56 = .ok (.iinc 3 1, 3) := by decide +kernel
theorem dX11_moves_59 : decode cX11_moves 59 = .ok (.goto 21, 3) := by decide +kernel
theorem dX11_moves_80 : decode cX11_moves 80 = .ok (.iinc 4 1, 3) := by decide +kernel
theorem dX11_moves_83 : decode cX11_moves 83 = .ok (.goto (-63), 3) := by decide +kernel
theorem dX11_moves_86 : decode cX11_moves 86 = .ok (.iload_n 3, 1) := by decide +kernel
theorem dX11_moves_87 : decode cX11_moves 87 = .ok (.ifCond .ne 10, 3) := by decide +kernel
theorem dX11_moves_97 : decode cX11_moves 97 = .ok (.iload_n 2, 1) := by decide +kernel
theorem dX11_moves_98 : decode cX11_moves 98 = .ok (.aload_n 0, 1) := by decide +kernel
theorem dX11_moves_99 : decode cX11_moves 99 = .ok (.iload_n 1, 1) := by decide +kernel
theorem dX11_moves_100 : decode cX11_moves 100 = .ok (.invokevirtual 312, 3) := by decide +kernel
theorem qq_5_110 : Cond.code yX11_roundsAmong cX11_roundsAmong 6 (some .int) ∈ TB := mk_tb (ti_5 (List.mem_of_getElem? (i := 110) rfl)) rfl
theorem qq_1_1 : Cond.initialized "WrongHole" ∈ TB := mk_tb (ti_1 (List.mem_of_getElem? (i := 1) rfl)) rfl
theorem qq_5_107 : Cond.methodLink "WrongHole" 312 yX11_roundsAmong ∈ TB := mk_tb (ti_5 (List.mem_of_getElem? (i := 107) rfl)) rfl
theorem qq_5_109 : Cond.instanceMethod yX11_roundsAmong ∈ TB := mk_tb (ti_5 (List.mem_of_getElem? (i := 109) rfl)) rfl
theorem qs_1_13 : Cond.selects "WrongHole" yX11_roundsAmong yX11_roundsAmong ∈ TB := mk_tb (ti_s (q := (yX11_roundsAmong, 12)) (List.mem_append_right _ (List.mem_append_left _ (List.mem_of_getElem? (i := 13) rfl)))) rfl
theorem dX11_moves_103 : decode cX11_moves 103 = .ok (.iadd, 1) := by decide +kernel
theorem dX11_moves_104 : decode cX11_moves 104 = .ok (.ireturn, 1) := by decide +kernel
set_option maxHeartbeats 4000000 in
set_option maxRecDepth 100000 in
theorem c_x_moves (l : Launch) (D : va_G) (ad : Nat → Nat) (sz : Nat) (x0 : Nat) (ht : Nat) (hrr : Nat) (hru : Nat) (hn : Nat) (him : Nat) (hp : Nat) (hac : Nat) (hfo : Nat) (hwd : Nat) (wa : Nat) (wb : Nat) (wc : Nat) (wd : Nat) (kwd : ClassId) (a1 : Int32)  : Met l yX11_moves (Cond.code yX11_moves cX11_moves 5 (some .int) :: TB) (RM 1 0 0) (va_Pc [.ref x0, .int a1] (PRE D ad [(x0, .inr (9, [.ref ht, .ref hrr, .ref hru, .int 0, .ref hn, .ref him, .ref hp, .ref hac, .ref hfo, .ref hwd, .null, .null])), (hn, .inr (8, [.null, .int 0, .int 0, .int 0, .int 0, .ref wa, .ref wb, .ref wc, .ref wd])), (wd, .inl (kwd, 10, .inl (fun _ => (-1))))] [(kwd, .int)] sz)) (k2_QcV (.int (r_moves a1))) 0 0 (fun _ => False) := by
  refine MET (y := yX11_moves) (cc := cX11_moves) (maxL := 5) (ret := (some .int)) (d := 1) (mc := 0) (ms := 0) (D := D) (ad := ad) (ws := [(x0, .inr (9, [.ref ht, .ref hrr, .ref hru, .int 0, .ref hn, .ref him, .ref hp, .ref hac, .ref hfo, .ref hwd, .null, .null])), (hn, .inr (8, [.null, .int 0, .int 0, .int 0, .int 0, .ref wa, .ref wb, .ref wc, .ref wd])), (wd, .inl (kwd, 10, .inl (fun _ => (-1))))]) (tys := [(kwd, .int)]) (sz := sz) (av := [.ref x0, .int a1]) (Qc := fun A => k2_QcV (.int (r_moves a1))) (fr := fun A => (fun _ => False)) (by decide) (Nat.le_of_ble_eq_true rfl) ?_
  intro p e s m below meth c ls A H hHe hx hb hr hml hown hts hlocks hnm hP hK hD hA hS hN hl
  have hown : s.vm.findClass "WrongHole" = some m.cls := hown
  have hT : ∀ w ∈ TB, w.before ([.ref x0, .int a1] : List Value).toArray s = true := fun w h => hts w (List.mem_cons_of_mem _ h)
  have hl : lv_has ls 5 [(0, .ref x0), (1, .int a1)] := hl
  have hP : va_P D vwCl [(x0, .inr (9, [.ref ht, .ref hrr, .ref hru, .int 0, .ref hn, .ref him, .ref hp, .ref hac, .ref hfo, .ref hwd, .null, .null])), (hn, .inr (8, [.null, .int 0, .int 0, .int 0, .int 0, .ref wa, .ref wb, .ref wc, .ref wd])), (wd, .inl (kwd, 10, .inl (fun _ => (-1))))] H := hP
  refine lv_iload_n hx hb dX11_moves_0 rfl (lv_at hl 1 rfl) ?_
  refine lv_iconst (v := 1) hx hb dX11_moves_1 (by decide) ?_
  refine lv_icmp_lt (tgt := 11) hx hb dX11_moves_2 (by decide) (fun c_1 => ?_) (fun c_1 => ?_)
  · refine lv_iconst (v := (-1)) hx hb dX11_moves_11 (by decide) ?_
    exact W.iret (v := (-1)) hx hb hr (fun t9 ht9 hW9 => ⟨by rw [show (.int (r_moves a1) : Value) = .int (-1) from (congrArg Value.int (by (try simp only [x10, x4, lt10, lt4, le10] at c_1); simp [r_moves, c_1]))], ht9.trans hHe⟩) (fun _ h9 => absurd h9 List.not_mem_nil) dX11_moves_12
  · refine lv_iload_n hx hb dX11_moves_5 rfl (lv_at hl 1 rfl) ?_
    refine lv_bipush (v := 10) hx hb dX11_moves_6 (by decide) ?_
    refine lv_icmp_le (tgt := 13) hx hb dX11_moves_8 (by decide) (fun c_2 => ?_) (fun c_2 => ?_)
    · refine lv_iconst (v := 0) hx hb dX11_moves_13 (by decide) ?_
      refine lv_istore_n (lv' := [(2, .int 0), (0, .ref x0), (1, .int a1)]) hx hb dX11_moves_14 rfl hl (by decide) rfl (fun ls hl => ?_)
      refine lv_iconst (v := 0) hx hb dX11_moves_15 (by decide) ?_
      refine lv_istore_n (lv' := [(3, .int 0), (2, .int 0), (0, .ref x0), (1, .int a1)]) hx hb dX11_moves_16 rfl hl (by decide) rfl (fun ls hl => ?_)
      refine lv_iconst (v := 0) hx hb dX11_moves_17 (by decide) ?_
      refine lv_istore (lv' := [(4, .int 0), (3, .int 0), (2, .int 0), (0, .ref x0), (1, .int a1)]) hx hb dX11_moves_18 hl (by decide) rfl (fun ls hl => ?_)
      refine lv_iload hx hb dX11_moves_20 (lv_at hl 0 rfl) ?_
      refine lv_iload_n hx hb dX11_moves_22 rfl (lv_at hl 4 rfl) ?_
      refine lv_icmp_ge (tgt := 86) hx hb dX11_moves_23 (by decide) (fun c_3 => absurd c_3 (mo_0 c_1)) (fun _ => ?_)
      refine lv_aload_n hx hb dX11_moves_26 rfl (lv_at hl 3 rfl) ?_
      refine va_get (D := D) (ci := 9) (v := .ref hn) (C := "WrongHole") (T := TX11) (N := 12) hx hb hts (iq_RX11 _) hown hK hP 0 rfl rfl 4 (by decide) (hT _ qq_1_206) (fun _ h9 => h9) rfl dX11_moves_27 ?_
      refine va_getN (D := D) (ci := 8) (v := .ref wd) (C := "WrongHole$Worn") (T := TX10) (N := 9) hx hb hts (iq_RX10 _) hown hK hP 1 rfl rfl 8 (by decide) (hN.f nq_1_115) (fun _ h9 => h9) rfl dX11_moves_30 ?_
      refine lv_iload hx hb dX11_moves_33 (lv_at hl 0 rfl) ?_
      refine va_iald hx hb hK hP 2 0 rfl rfl (vi_c rfl) dX11_moves_35 ?_
      refine tc_i (-1) (rfl) ?_
      refine lv_iload_n hx hb dX11_moves_36 rfl (lv_at hl 4 rfl) ?_
      refine lv_icmp_lt (tgt := 42) hx hb dX11_moves_37 (by decide) (fun _ => ?_) (fun c_4 => absurd (mo_1 c_1) c_4)
      refine lv_aload_n hx hb dX11_moves_42 rfl (lv_at hl 3 rfl) ?_
      refine va_get (D := D) (ci := 9) (v := .ref hn) (C := "WrongHole") (T := TX11) (N := 12) hx hb hts (iq_RX11 _) hown hK hP 0 rfl rfl 4 (by decide) (hT _ qq_1_206) (fun _ h9 => h9) rfl dX11_moves_43 ?_
      refine va_getN (D := D) (ci := 8) (v := .ref wd) (C := "WrongHole$Worn") (T := TX10) (N := 9) hx hb hts (iq_RX10 _) hown hK hP 1 rfl rfl 8 (by decide) (hN.f nq_1_115) (fun _ h9 => h9) rfl dX11_moves_46 ?_
      refine lv_iload hx hb dX11_moves_49 (lv_at hl 0 rfl) ?_
      refine va_iald hx hb hK hP 2 0 rfl rfl (vi_c rfl) dX11_moves_51 ?_
      refine tc_i (-1) (rfl) ?_
      refine lv_iconst (v := (-1)) hx hb dX11_moves_52 (by decide) ?_
      refine lv_icmp_ne (tgt := 62) hx hb dX11_moves_53 (by decide) (fun c_5 => absurd (by decide) c_5) (fun _ => ?_)
      refine lv_iinc (v := 1) (lv' := [(3, .int 1), (4, .int 0), (2, .int 0), (0, .ref x0), (1, .int a1)]) hx hb dX11_moves_56 hl (k := 1) rfl (by decide) (by decide) rfl (fun ls hl => ?_)
      refine lv_goto (tgt := 80) hx hb dX11_moves_59 (by decide) ?_
      refine lv_iinc (v := 1) (lv' := [(4, .int 1), (3, .int 1), (2, .int 0), (0, .ref x0), (1, .int a1)]) hx hb dX11_moves_80 hl (k := 1) rfl (by decide) (by decide) rfl (fun ls hl => ?_)
      refine lv_goto (tgt := 20) hx hb dX11_moves_83 (by decide) ?_
      refine lv_iload hx hb dX11_moves_20 (lv_at hl 0 rfl) ?_
      refine lv_iload_n hx hb dX11_moves_22 rfl (lv_at hl 4 rfl) ?_
      refine lv_icmp_ge (tgt := 86) hx hb dX11_moves_23 (by decide) (fun c_6 => ?_) (fun c_6 => ?_)
      · refine lv_iload_n hx hb dX11_moves_86 rfl (lv_at hl 1 rfl) ?_
        refine lv_if_ne (tgt := 97) hx hb dX11_moves_87 (by decide) (fun _ => ?_) (fun c_7 => absurd c_7 (by decide))
        refine lv_iload_n hx hb dX11_moves_97 rfl (lv_at hl 2 rfl) ?_
        refine lv_aload_n hx hb dX11_moves_98 rfl (lv_at hl 3 rfl) ?_
        refine lv_iload_n hx hb dX11_moves_99 rfl (lv_at hl 4 rfl) ?_
        have hPc := hP.sub (ws' := [(x0, .inr (9, [.ref ht, .ref hrr, .ref hru, .int 0, .ref hn, .ref him, .ref hp, .ref hac, .ref hfo, .ref hwd, .null, .null])), (hn, .inr (8, [.null, .int 0, .int 0, .int 0, .int 0, .ref wa, .ref wb, .ref wc, .ref wd])), (wd, .inl (kwd, 10, .inl (fun _ => (-1))))]) [0, 1, 2] rfl
        have hDc := hD.sub (ws' := [(x0, .inr (9, [.ref ht, .ref hrr, .ref hru, .int 0, .ref hn, .ref him, .ref hp, .ref hac, .ref hfo, .ref hwd, .null, .null])), (hn, .inr (8, [.null, .int 0, .int 0, .int 0, .int 0, .ref wa, .ref wb, .ref wc, .ref wd])), (wd, .inl (kwd, 10, .inl (fun _ => (-1))))]) [0, 1, 2] (by decide) rfl
        have hKc := hK.sub (tys' := [(kwd, .int)]) [0] rfl
        refine cl_V (W.runV (As := [.int a1]) (rest := [.int 0]) ⟨hx, hb, hml, hown, hts⟩ (c_roundsAmong l D ad H.size x0 ht hrr hru hn him hp hac hfo hwd wa wb wc wd kwd a1) ⟨callB_of 1 hts (gd_C qq_5_110) rfl rfl rfl (hT _ qq_1_1) (hT _ qq_5_107) (by decide +kernel) (rm_R rfl rfl), (hT _ qq_5_109), (hT _ qs_1_13)⟩ (pr_V hPc hKc hDc hN (ci := 9) (q0 := 0) rfl rfl) rfl rfl hl.1 rfl (lv_room (Nat.le_of_ble_eq_true rfl)) dX11_moves_100 ⟨Nat.le_of_ble_eq_true rfl, Nat.le_of_ble_eq_true rfl⟩) ?_
        refine lv_iadd hx hb dX11_moves_103 ?_
        refine tc_i 0 (by decide) ?_
        exact W.iret (v := 0) hx hb hr (fun t9 ht9 hW9 => ⟨by rw [show (.int (r_moves a1) : Value) = .int 0 from (congrArg Value.int (by (try simp only [x10, x4, lt10, lt4, le10] at c_1 c_2 c_6); simp [r_moves, c_1, c_2, c_6]))], ht9.trans hHe⟩) (fun _ h9 => absurd h9 List.not_mem_nil) dX11_moves_104
      · refine lv_aload_n hx hb dX11_moves_26 rfl (lv_at hl 3 rfl) ?_
        refine va_get (D := D) (ci := 9) (v := .ref hn) (C := "WrongHole") (T := TX11) (N := 12) hx hb hts (iq_RX11 _) hown hK hP 0 rfl rfl 4 (by decide) (hT _ qq_1_206) (fun _ h9 => h9) rfl dX11_moves_27 ?_
        refine va_getN (D := D) (ci := 8) (v := .ref wd) (C := "WrongHole$Worn") (T := TX10) (N := 9) hx hb hts (iq_RX10 _) hown hK hP 1 rfl rfl 8 (by decide) (hN.f nq_1_115) (fun _ h9 => h9) rfl dX11_moves_30 ?_
        refine lv_iload hx hb dX11_moves_33 (lv_at hl 0 rfl) ?_
        refine va_iald hx hb hK hP 2 0 rfl rfl (vi_c rfl) dX11_moves_35 ?_
        refine tc_i (-1) (rfl) ?_
        refine lv_iload_n hx hb dX11_moves_36 rfl (lv_at hl 4 rfl) ?_
        refine lv_icmp_lt (tgt := 42) hx hb dX11_moves_37 (by decide) (fun _ => ?_) (fun c_8 => absurd (mo_1 c_1) c_8)
        refine lv_aload_n hx hb dX11_moves_42 rfl (lv_at hl 3 rfl) ?_
        refine va_get (D := D) (ci := 9) (v := .ref hn) (C := "WrongHole") (T := TX11) (N := 12) hx hb hts (iq_RX11 _) hown hK hP 0 rfl rfl 4 (by decide) (hT _ qq_1_206) (fun _ h9 => h9) rfl dX11_moves_43 ?_
        refine va_getN (D := D) (ci := 8) (v := .ref wd) (C := "WrongHole$Worn") (T := TX10) (N := 9) hx hb hts (iq_RX10 _) hown hK hP 1 rfl rfl 8 (by decide) (hN.f nq_1_115) (fun _ h9 => h9) rfl dX11_moves_46 ?_
        refine lv_iload hx hb dX11_moves_49 (lv_at hl 0 rfl) ?_
        refine va_iald hx hb hK hP 2 0 rfl rfl (vi_c rfl) dX11_moves_51 ?_
        refine tc_i (-1) (rfl) ?_
        refine lv_iconst (v := (-1)) hx hb dX11_moves_52 (by decide) ?_
        refine lv_icmp_ne (tgt := 62) hx hb dX11_moves_53 (by decide) (fun c_9 => absurd (by decide) c_9) (fun _ => ?_)
        refine lv_iinc (v := 2) (lv' := [(3, .int 2), (4, .int 1), (2, .int 0), (0, .ref x0), (1, .int a1)]) hx hb dX11_moves_56 hl (k := 1) rfl (by decide) (by decide) rfl (fun ls hl => ?_)
        refine lv_goto (tgt := 80) hx hb dX11_moves_59 (by decide) ?_
        refine lv_iinc (v := 2) (lv' := [(4, .int 2), (3, .int 2), (2, .int 0), (0, .ref x0), (1, .int a1)]) hx hb dX11_moves_80 hl (k := 1) rfl (by decide) (by decide) rfl (fun ls hl => ?_)
        refine lv_goto (tgt := 20) hx hb dX11_moves_83 (by decide) ?_
        refine lv_iload hx hb dX11_moves_20 (lv_at hl 0 rfl) ?_
        refine lv_iload_n hx hb dX11_moves_22 rfl (lv_at hl 4 rfl) ?_
        refine lv_icmp_ge (tgt := 86) hx hb dX11_moves_23 (by decide) (fun c_10 => ?_) (fun c_10 => ?_)
        · refine lv_iload_n hx hb dX11_moves_86 rfl (lv_at hl 1 rfl) ?_
          refine lv_if_ne (tgt := 97) hx hb dX11_moves_87 (by decide) (fun _ => ?_) (fun c_11 => absurd c_11 (by decide))
          refine lv_iload_n hx hb dX11_moves_97 rfl (lv_at hl 2 rfl) ?_
          refine lv_aload_n hx hb dX11_moves_98 rfl (lv_at hl 3 rfl) ?_
          refine lv_iload_n hx hb dX11_moves_99 rfl (lv_at hl 4 rfl) ?_
          have hPc := hP.sub (ws' := [(x0, .inr (9, [.ref ht, .ref hrr, .ref hru, .int 0, .ref hn, .ref him, .ref hp, .ref hac, .ref hfo, .ref hwd, .null, .null])), (hn, .inr (8, [.null, .int 0, .int 0, .int 0, .int 0, .ref wa, .ref wb, .ref wc, .ref wd])), (wd, .inl (kwd, 10, .inl (fun _ => (-1))))]) [0, 1, 2] rfl
          have hDc := hD.sub (ws' := [(x0, .inr (9, [.ref ht, .ref hrr, .ref hru, .int 0, .ref hn, .ref him, .ref hp, .ref hac, .ref hfo, .ref hwd, .null, .null])), (hn, .inr (8, [.null, .int 0, .int 0, .int 0, .int 0, .ref wa, .ref wb, .ref wc, .ref wd])), (wd, .inl (kwd, 10, .inl (fun _ => (-1))))]) [0, 1, 2] (by decide) rfl
          have hKc := hK.sub (tys' := [(kwd, .int)]) [0] rfl
          refine cl_V (W.runV (As := [.int a1]) (rest := [.int 0]) ⟨hx, hb, hml, hown, hts⟩ (c_roundsAmong l D ad H.size x0 ht hrr hru hn him hp hac hfo hwd wa wb wc wd kwd a1) ⟨callB_of 1 hts (gd_C qq_5_110) rfl rfl rfl (hT _ qq_1_1) (hT _ qq_5_107) (by decide +kernel) (rm_R rfl rfl), (hT _ qq_5_109), (hT _ qs_1_13)⟩ (pr_V hPc hKc hDc hN (ci := 9) (q0 := 0) rfl rfl) rfl rfl hl.1 rfl (lv_room (Nat.le_of_ble_eq_true rfl)) dX11_moves_100 ⟨Nat.le_of_ble_eq_true rfl, Nat.le_of_ble_eq_true rfl⟩) ?_
          refine lv_iadd hx hb dX11_moves_103 ?_
          refine tc_i 0 (by decide) ?_
          exact W.iret (v := 0) hx hb hr (fun t9 ht9 hW9 => ⟨by rw [show (.int (r_moves a1) : Value) = .int 0 from (congrArg Value.int (by (try simp only [x10, x4, lt10, lt4, le10] at c_1 c_2 c_6 c_10); simp [r_moves, c_1, c_2, c_6, c_10]))], ht9.trans hHe⟩) (fun _ h9 => absurd h9 List.not_mem_nil) dX11_moves_104
        · refine lv_aload_n hx hb dX11_moves_26 rfl (lv_at hl 3 rfl) ?_
          refine va_get (D := D) (ci := 9) (v := .ref hn) (C := "WrongHole") (T := TX11) (N := 12) hx hb hts (iq_RX11 _) hown hK hP 0 rfl rfl 4 (by decide) (hT _ qq_1_206) (fun _ h9 => h9) rfl dX11_moves_27 ?_
          refine va_getN (D := D) (ci := 8) (v := .ref wd) (C := "WrongHole$Worn") (T := TX10) (N := 9) hx hb hts (iq_RX10 _) hown hK hP 1 rfl rfl 8 (by decide) (hN.f nq_1_115) (fun _ h9 => h9) rfl dX11_moves_30 ?_
          refine lv_iload hx hb dX11_moves_33 (lv_at hl 0 rfl) ?_
          refine va_iald hx hb hK hP 2 0 rfl rfl (vi_c rfl) dX11_moves_35 ?_
          refine tc_i (-1) (rfl) ?_
          refine lv_iload_n hx hb dX11_moves_36 rfl (lv_at hl 4 rfl) ?_
          refine lv_icmp_lt (tgt := 42) hx hb dX11_moves_37 (by decide) (fun _ => ?_) (fun c_12 => absurd (mo_1 c_1) c_12)
          refine lv_aload_n hx hb dX11_moves_42 rfl (lv_at hl 3 rfl) ?_
          refine va_get (D := D) (ci := 9) (v := .ref hn) (C := "WrongHole") (T := TX11) (N := 12) hx hb hts (iq_RX11 _) hown hK hP 0 rfl rfl 4 (by decide) (hT _ qq_1_206) (fun _ h9 => h9) rfl dX11_moves_43 ?_
          refine va_getN (D := D) (ci := 8) (v := .ref wd) (C := "WrongHole$Worn") (T := TX10) (N := 9) hx hb hts (iq_RX10 _) hown hK hP 1 rfl rfl 8 (by decide) (hN.f nq_1_115) (fun _ h9 => h9) rfl dX11_moves_46 ?_
          refine lv_iload hx hb dX11_moves_49 (lv_at hl 0 rfl) ?_
          refine va_iald hx hb hK hP 2 0 rfl rfl (vi_c rfl) dX11_moves_51 ?_
          refine tc_i (-1) (rfl) ?_
          refine lv_iconst (v := (-1)) hx hb dX11_moves_52 (by decide) ?_
          refine lv_icmp_ne (tgt := 62) hx hb dX11_moves_53 (by decide) (fun c_13 => absurd (by decide) c_13) (fun _ => ?_)
          refine lv_iinc (v := 3) (lv' := [(3, .int 3), (4, .int 2), (2, .int 0), (0, .ref x0), (1, .int a1)]) hx hb dX11_moves_56 hl (k := 1) rfl (by decide) (by decide) rfl (fun ls hl => ?_)
          refine lv_goto (tgt := 80) hx hb dX11_moves_59 (by decide) ?_
          refine lv_iinc (v := 3) (lv' := [(4, .int 3), (3, .int 3), (2, .int 0), (0, .ref x0), (1, .int a1)]) hx hb dX11_moves_80 hl (k := 1) rfl (by decide) (by decide) rfl (fun ls hl => ?_)
          refine lv_goto (tgt := 20) hx hb dX11_moves_83 (by decide) ?_
          refine lv_iload hx hb dX11_moves_20 (lv_at hl 0 rfl) ?_
          refine lv_iload_n hx hb dX11_moves_22 rfl (lv_at hl 4 rfl) ?_
          refine lv_icmp_ge (tgt := 86) hx hb dX11_moves_23 (by decide) (fun c_14 => ?_) (fun c_14 => ?_)
          · refine lv_iload_n hx hb dX11_moves_86 rfl (lv_at hl 1 rfl) ?_
            refine lv_if_ne (tgt := 97) hx hb dX11_moves_87 (by decide) (fun _ => ?_) (fun c_15 => absurd c_15 (by decide))
            refine lv_iload_n hx hb dX11_moves_97 rfl (lv_at hl 2 rfl) ?_
            refine lv_aload_n hx hb dX11_moves_98 rfl (lv_at hl 3 rfl) ?_
            refine lv_iload_n hx hb dX11_moves_99 rfl (lv_at hl 4 rfl) ?_
            have hPc := hP.sub (ws' := [(x0, .inr (9, [.ref ht, .ref hrr, .ref hru, .int 0, .ref hn, .ref him, .ref hp, .ref hac, .ref hfo, .ref hwd, .null, .null])), (hn, .inr (8, [.null, .int 0, .int 0, .int 0, .int 0, .ref wa, .ref wb, .ref wc, .ref wd])), (wd, .inl (kwd, 10, .inl (fun _ => (-1))))]) [0, 1, 2] rfl
            have hDc := hD.sub (ws' := [(x0, .inr (9, [.ref ht, .ref hrr, .ref hru, .int 0, .ref hn, .ref him, .ref hp, .ref hac, .ref hfo, .ref hwd, .null, .null])), (hn, .inr (8, [.null, .int 0, .int 0, .int 0, .int 0, .ref wa, .ref wb, .ref wc, .ref wd])), (wd, .inl (kwd, 10, .inl (fun _ => (-1))))]) [0, 1, 2] (by decide) rfl
            have hKc := hK.sub (tys' := [(kwd, .int)]) [0] rfl
            refine cl_V (W.runV (As := [.int a1]) (rest := [.int 0]) ⟨hx, hb, hml, hown, hts⟩ (c_roundsAmong l D ad H.size x0 ht hrr hru hn him hp hac hfo hwd wa wb wc wd kwd a1) ⟨callB_of 1 hts (gd_C qq_5_110) rfl rfl rfl (hT _ qq_1_1) (hT _ qq_5_107) (by decide +kernel) (rm_R rfl rfl), (hT _ qq_5_109), (hT _ qs_1_13)⟩ (pr_V hPc hKc hDc hN (ci := 9) (q0 := 0) rfl rfl) rfl rfl hl.1 rfl (lv_room (Nat.le_of_ble_eq_true rfl)) dX11_moves_100 ⟨Nat.le_of_ble_eq_true rfl, Nat.le_of_ble_eq_true rfl⟩) ?_
            refine lv_iadd hx hb dX11_moves_103 ?_
            refine tc_i 0 (by decide) ?_
            exact W.iret (v := 0) hx hb hr (fun t9 ht9 hW9 => ⟨by rw [show (.int (r_moves a1) : Value) = .int 0 from (congrArg Value.int (by (try simp only [x10, x4, lt10, lt4, le10] at c_1 c_2 c_6 c_10 c_14); simp [r_moves, c_1, c_2, c_6, c_10, c_14]))], ht9.trans hHe⟩) (fun _ h9 => absurd h9 List.not_mem_nil) dX11_moves_104
          · refine lv_aload_n hx hb dX11_moves_26 rfl (lv_at hl 3 rfl) ?_
            refine va_get (D := D) (ci := 9) (v := .ref hn) (C := "WrongHole") (T := TX11) (N := 12) hx hb hts (iq_RX11 _) hown hK hP 0 rfl rfl 4 (by decide) (hT _ qq_1_206) (fun _ h9 => h9) rfl dX11_moves_27 ?_
            refine va_getN (D := D) (ci := 8) (v := .ref wd) (C := "WrongHole$Worn") (T := TX10) (N := 9) hx hb hts (iq_RX10 _) hown hK hP 1 rfl rfl 8 (by decide) (hN.f nq_1_115) (fun _ h9 => h9) rfl dX11_moves_30 ?_
            refine lv_iload hx hb dX11_moves_33 (lv_at hl 0 rfl) ?_
            refine va_iald hx hb hK hP 2 0 rfl rfl (vi_c rfl) dX11_moves_35 ?_
            refine tc_i (-1) (rfl) ?_
            refine lv_iload_n hx hb dX11_moves_36 rfl (lv_at hl 4 rfl) ?_
            refine lv_icmp_lt (tgt := 42) hx hb dX11_moves_37 (by decide) (fun _ => ?_) (fun c_16 => absurd (mo_1 c_1) c_16)
            refine lv_aload_n hx hb dX11_moves_42 rfl (lv_at hl 3 rfl) ?_
            refine va_get (D := D) (ci := 9) (v := .ref hn) (C := "WrongHole") (T := TX11) (N := 12) hx hb hts (iq_RX11 _) hown hK hP 0 rfl rfl 4 (by decide) (hT _ qq_1_206) (fun _ h9 => h9) rfl dX11_moves_43 ?_
            refine va_getN (D := D) (ci := 8) (v := .ref wd) (C := "WrongHole$Worn") (T := TX10) (N := 9) hx hb hts (iq_RX10 _) hown hK hP 1 rfl rfl 8 (by decide) (hN.f nq_1_115) (fun _ h9 => h9) rfl dX11_moves_46 ?_
            refine lv_iload hx hb dX11_moves_49 (lv_at hl 0 rfl) ?_
            refine va_iald hx hb hK hP 2 0 rfl rfl (vi_c rfl) dX11_moves_51 ?_
            refine tc_i (-1) (rfl) ?_
            refine lv_iconst (v := (-1)) hx hb dX11_moves_52 (by decide) ?_
            refine lv_icmp_ne (tgt := 62) hx hb dX11_moves_53 (by decide) (fun c_17 => absurd (by decide) c_17) (fun _ => ?_)
            refine lv_iinc (v := 4) (lv' := [(3, .int 4), (4, .int 3), (2, .int 0), (0, .ref x0), (1, .int a1)]) hx hb dX11_moves_56 hl (k := 1) rfl (by decide) (by decide) rfl (fun ls hl => ?_)
            refine lv_goto (tgt := 80) hx hb dX11_moves_59 (by decide) ?_
            refine lv_iinc (v := 4) (lv' := [(4, .int 4), (3, .int 4), (2, .int 0), (0, .ref x0), (1, .int a1)]) hx hb dX11_moves_80 hl (k := 1) rfl (by decide) (by decide) rfl (fun ls hl => ?_)
            refine lv_goto (tgt := 20) hx hb dX11_moves_83 (by decide) ?_
            refine lv_iload hx hb dX11_moves_20 (lv_at hl 0 rfl) ?_
            refine lv_iload_n hx hb dX11_moves_22 rfl (lv_at hl 4 rfl) ?_
            refine lv_icmp_ge (tgt := 86) hx hb dX11_moves_23 (by decide) (fun c_18 => ?_) (fun c_18 => ?_)
            · refine lv_iload_n hx hb dX11_moves_86 rfl (lv_at hl 1 rfl) ?_
              refine lv_if_ne (tgt := 97) hx hb dX11_moves_87 (by decide) (fun _ => ?_) (fun c_19 => absurd c_19 (by decide))
              refine lv_iload_n hx hb dX11_moves_97 rfl (lv_at hl 2 rfl) ?_
              refine lv_aload_n hx hb dX11_moves_98 rfl (lv_at hl 3 rfl) ?_
              refine lv_iload_n hx hb dX11_moves_99 rfl (lv_at hl 4 rfl) ?_
              have hPc := hP.sub (ws' := [(x0, .inr (9, [.ref ht, .ref hrr, .ref hru, .int 0, .ref hn, .ref him, .ref hp, .ref hac, .ref hfo, .ref hwd, .null, .null])), (hn, .inr (8, [.null, .int 0, .int 0, .int 0, .int 0, .ref wa, .ref wb, .ref wc, .ref wd])), (wd, .inl (kwd, 10, .inl (fun _ => (-1))))]) [0, 1, 2] rfl
              have hDc := hD.sub (ws' := [(x0, .inr (9, [.ref ht, .ref hrr, .ref hru, .int 0, .ref hn, .ref him, .ref hp, .ref hac, .ref hfo, .ref hwd, .null, .null])), (hn, .inr (8, [.null, .int 0, .int 0, .int 0, .int 0, .ref wa, .ref wb, .ref wc, .ref wd])), (wd, .inl (kwd, 10, .inl (fun _ => (-1))))]) [0, 1, 2] (by decide) rfl
              have hKc := hK.sub (tys' := [(kwd, .int)]) [0] rfl
              refine cl_V (W.runV (As := [.int a1]) (rest := [.int 0]) ⟨hx, hb, hml, hown, hts⟩ (c_roundsAmong l D ad H.size x0 ht hrr hru hn him hp hac hfo hwd wa wb wc wd kwd a1) ⟨callB_of 1 hts (gd_C qq_5_110) rfl rfl rfl (hT _ qq_1_1) (hT _ qq_5_107) (by decide +kernel) (rm_R rfl rfl), (hT _ qq_5_109), (hT _ qs_1_13)⟩ (pr_V hPc hKc hDc hN (ci := 9) (q0 := 0) rfl rfl) rfl rfl hl.1 rfl (lv_room (Nat.le_of_ble_eq_true rfl)) dX11_moves_100 ⟨Nat.le_of_ble_eq_true rfl, Nat.le_of_ble_eq_true rfl⟩) ?_
              refine lv_iadd hx hb dX11_moves_103 ?_
              refine tc_i 0 (by decide) ?_
              exact W.iret (v := 0) hx hb hr (fun t9 ht9 hW9 => ⟨by rw [show (.int (r_moves a1) : Value) = .int 0 from (congrArg Value.int (by (try simp only [x10, x4, lt10, lt4, le10] at c_1 c_2 c_6 c_10 c_14 c_18); simp [r_moves, c_1, c_2, c_6, c_10, c_14, c_18]))], ht9.trans hHe⟩) (fun _ h9 => absurd h9 List.not_mem_nil) dX11_moves_104
            · refine lv_aload_n hx hb dX11_moves_26 rfl (lv_at hl 3 rfl) ?_
              refine va_get (D := D) (ci := 9) (v := .ref hn) (C := "WrongHole") (T := TX11) (N := 12) hx hb hts (iq_RX11 _) hown hK hP 0 rfl rfl 4 (by decide) (hT _ qq_1_206) (fun _ h9 => h9) rfl dX11_moves_27 ?_
              refine va_getN (D := D) (ci := 8) (v := .ref wd) (C := "WrongHole$Worn") (T := TX10) (N := 9) hx hb hts (iq_RX10 _) hown hK hP 1 rfl rfl 8 (by decide) (hN.f nq_1_115) (fun _ h9 => h9) rfl dX11_moves_30 ?_
              refine lv_iload hx hb dX11_moves_33 (lv_at hl 0 rfl) ?_
              refine va_iald hx hb hK hP 2 0 rfl rfl (vi_c rfl) dX11_moves_35 ?_
              refine tc_i (-1) (rfl) ?_
              refine lv_iload_n hx hb dX11_moves_36 rfl (lv_at hl 4 rfl) ?_
              refine lv_icmp_lt (tgt := 42) hx hb dX11_moves_37 (by decide) (fun _ => ?_) (fun c_20 => absurd (mo_1 c_1) c_20)
              refine lv_aload_n hx hb dX11_moves_42 rfl (lv_at hl 3 rfl) ?_
              refine va_get (D := D) (ci := 9) (v := .ref hn) (C := "WrongHole") (T := TX11) (N := 12) hx hb hts (iq_RX11 _) hown hK hP 0 rfl rfl 4 (by decide) (hT _ qq_1_206) (fun _ h9 => h9) rfl dX11_moves_43 ?_
              refine va_getN (D := D) (ci := 8) (v := .ref wd) (C := "WrongHole$Worn") (T := TX10) (N := 9) hx hb hts (iq_RX10 _) hown hK hP 1 rfl rfl 8 (by decide) (hN.f nq_1_115) (fun _ h9 => h9) rfl dX11_moves_46 ?_
              refine lv_iload hx hb dX11_moves_49 (lv_at hl 0 rfl) ?_
              refine va_iald hx hb hK hP 2 0 rfl rfl (vi_c rfl) dX11_moves_51 ?_
              refine tc_i (-1) (rfl) ?_
              refine lv_iconst (v := (-1)) hx hb dX11_moves_52 (by decide) ?_
              refine lv_icmp_ne (tgt := 62) hx hb dX11_moves_53 (by decide) (fun c_21 => absurd (by decide) c_21) (fun _ => ?_)
              refine lv_iinc (v := 5) (lv' := [(3, .int 5), (4, .int 4), (2, .int 0), (0, .ref x0), (1, .int a1)]) hx hb dX11_moves_56 hl (k := 1) rfl (by decide) (by decide) rfl (fun ls hl => ?_)
              refine lv_goto (tgt := 80) hx hb dX11_moves_59 (by decide) ?_
              refine lv_iinc (v := 5) (lv' := [(4, .int 5), (3, .int 5), (2, .int 0), (0, .ref x0), (1, .int a1)]) hx hb dX11_moves_80 hl (k := 1) rfl (by decide) (by decide) rfl (fun ls hl => ?_)
              refine lv_goto (tgt := 20) hx hb dX11_moves_83 (by decide) ?_
              refine lv_iload hx hb dX11_moves_20 (lv_at hl 0 rfl) ?_
              refine lv_iload_n hx hb dX11_moves_22 rfl (lv_at hl 4 rfl) ?_
              refine lv_icmp_ge (tgt := 86) hx hb dX11_moves_23 (by decide) (fun c_22 => ?_) (fun c_22 => ?_)
              · refine lv_iload_n hx hb dX11_moves_86 rfl (lv_at hl 1 rfl) ?_
                refine lv_if_ne (tgt := 97) hx hb dX11_moves_87 (by decide) (fun _ => ?_) (fun c_23 => absurd c_23 (by decide))
                refine lv_iload_n hx hb dX11_moves_97 rfl (lv_at hl 2 rfl) ?_
                refine lv_aload_n hx hb dX11_moves_98 rfl (lv_at hl 3 rfl) ?_
                refine lv_iload_n hx hb dX11_moves_99 rfl (lv_at hl 4 rfl) ?_
                have hPc := hP.sub (ws' := [(x0, .inr (9, [.ref ht, .ref hrr, .ref hru, .int 0, .ref hn, .ref him, .ref hp, .ref hac, .ref hfo, .ref hwd, .null, .null])), (hn, .inr (8, [.null, .int 0, .int 0, .int 0, .int 0, .ref wa, .ref wb, .ref wc, .ref wd])), (wd, .inl (kwd, 10, .inl (fun _ => (-1))))]) [0, 1, 2] rfl
                have hDc := hD.sub (ws' := [(x0, .inr (9, [.ref ht, .ref hrr, .ref hru, .int 0, .ref hn, .ref him, .ref hp, .ref hac, .ref hfo, .ref hwd, .null, .null])), (hn, .inr (8, [.null, .int 0, .int 0, .int 0, .int 0, .ref wa, .ref wb, .ref wc, .ref wd])), (wd, .inl (kwd, 10, .inl (fun _ => (-1))))]) [0, 1, 2] (by decide) rfl
                have hKc := hK.sub (tys' := [(kwd, .int)]) [0] rfl
                refine cl_V (W.runV (As := [.int a1]) (rest := [.int 0]) ⟨hx, hb, hml, hown, hts⟩ (c_roundsAmong l D ad H.size x0 ht hrr hru hn him hp hac hfo hwd wa wb wc wd kwd a1) ⟨callB_of 1 hts (gd_C qq_5_110) rfl rfl rfl (hT _ qq_1_1) (hT _ qq_5_107) (by decide +kernel) (rm_R rfl rfl), (hT _ qq_5_109), (hT _ qs_1_13)⟩ (pr_V hPc hKc hDc hN (ci := 9) (q0 := 0) rfl rfl) rfl rfl hl.1 rfl (lv_room (Nat.le_of_ble_eq_true rfl)) dX11_moves_100 ⟨Nat.le_of_ble_eq_true rfl, Nat.le_of_ble_eq_true rfl⟩) ?_
                refine lv_iadd hx hb dX11_moves_103 ?_
                refine tc_i 0 (by decide) ?_
                exact W.iret (v := 0) hx hb hr (fun t9 ht9 hW9 => ⟨by rw [show (.int (r_moves a1) : Value) = .int 0 from (congrArg Value.int (by (try simp only [x10, x4, lt10, lt4, le10] at c_1 c_2 c_6 c_10 c_14 c_18 c_22); simp [r_moves, c_1, c_2, c_6, c_10, c_14, c_18, c_22]))], ht9.trans hHe⟩) (fun _ h9 => absurd h9 List.not_mem_nil) dX11_moves_104
              · refine lv_aload_n hx hb dX11_moves_26 rfl (lv_at hl 3 rfl) ?_
                refine va_get (D := D) (ci := 9) (v := .ref hn) (C := "WrongHole") (T := TX11) (N := 12) hx hb hts (iq_RX11 _) hown hK hP 0 rfl rfl 4 (by decide) (hT _ qq_1_206) (fun _ h9 => h9) rfl dX11_moves_27 ?_
                refine va_getN (D := D) (ci := 8) (v := .ref wd) (C := "WrongHole$Worn") (T := TX10) (N := 9) hx hb hts (iq_RX10 _) hown hK hP 1 rfl rfl 8 (by decide) (hN.f nq_1_115) (fun _ h9 => h9) rfl dX11_moves_30 ?_
                refine lv_iload hx hb dX11_moves_33 (lv_at hl 0 rfl) ?_
                refine va_iald hx hb hK hP 2 0 rfl rfl (vi_c rfl) dX11_moves_35 ?_
                refine tc_i (-1) (rfl) ?_
                refine lv_iload_n hx hb dX11_moves_36 rfl (lv_at hl 4 rfl) ?_
                refine lv_icmp_lt (tgt := 42) hx hb dX11_moves_37 (by decide) (fun _ => ?_) (fun c_24 => absurd (mo_1 c_1) c_24)
                refine lv_aload_n hx hb dX11_moves_42 rfl (lv_at hl 3 rfl) ?_
                refine va_get (D := D) (ci := 9) (v := .ref hn) (C := "WrongHole") (T := TX11) (N := 12) hx hb hts (iq_RX11 _) hown hK hP 0 rfl rfl 4 (by decide) (hT _ qq_1_206) (fun _ h9 => h9) rfl dX11_moves_43 ?_
                refine va_getN (D := D) (ci := 8) (v := .ref wd) (C := "WrongHole$Worn") (T := TX10) (N := 9) hx hb hts (iq_RX10 _) hown hK hP 1 rfl rfl 8 (by decide) (hN.f nq_1_115) (fun _ h9 => h9) rfl dX11_moves_46 ?_
                refine lv_iload hx hb dX11_moves_49 (lv_at hl 0 rfl) ?_
                refine va_iald hx hb hK hP 2 0 rfl rfl (vi_c rfl) dX11_moves_51 ?_
                refine tc_i (-1) (rfl) ?_
                refine lv_iconst (v := (-1)) hx hb dX11_moves_52 (by decide) ?_
                refine lv_icmp_ne (tgt := 62) hx hb dX11_moves_53 (by decide) (fun c_25 => absurd (by decide) c_25) (fun _ => ?_)
                refine lv_iinc (v := 6) (lv' := [(3, .int 6), (4, .int 5), (2, .int 0), (0, .ref x0), (1, .int a1)]) hx hb dX11_moves_56 hl (k := 1) rfl (by decide) (by decide) rfl (fun ls hl => ?_)
                refine lv_goto (tgt := 80) hx hb dX11_moves_59 (by decide) ?_
                refine lv_iinc (v := 6) (lv' := [(4, .int 6), (3, .int 6), (2, .int 0), (0, .ref x0), (1, .int a1)]) hx hb dX11_moves_80 hl (k := 1) rfl (by decide) (by decide) rfl (fun ls hl => ?_)
                refine lv_goto (tgt := 20) hx hb dX11_moves_83 (by decide) ?_
                refine lv_iload hx hb dX11_moves_20 (lv_at hl 0 rfl) ?_
                refine lv_iload_n hx hb dX11_moves_22 rfl (lv_at hl 4 rfl) ?_
                refine lv_icmp_ge (tgt := 86) hx hb dX11_moves_23 (by decide) (fun c_26 => ?_) (fun c_26 => ?_)
                · refine lv_iload_n hx hb dX11_moves_86 rfl (lv_at hl 1 rfl) ?_
                  refine lv_if_ne (tgt := 97) hx hb dX11_moves_87 (by decide) (fun _ => ?_) (fun c_27 => absurd c_27 (by decide))
                  refine lv_iload_n hx hb dX11_moves_97 rfl (lv_at hl 2 rfl) ?_
                  refine lv_aload_n hx hb dX11_moves_98 rfl (lv_at hl 3 rfl) ?_
                  refine lv_iload_n hx hb dX11_moves_99 rfl (lv_at hl 4 rfl) ?_
                  have hPc := hP.sub (ws' := [(x0, .inr (9, [.ref ht, .ref hrr, .ref hru, .int 0, .ref hn, .ref him, .ref hp, .ref hac, .ref hfo, .ref hwd, .null, .null])), (hn, .inr (8, [.null, .int 0, .int 0, .int 0, .int 0, .ref wa, .ref wb, .ref wc, .ref wd])), (wd, .inl (kwd, 10, .inl (fun _ => (-1))))]) [0, 1, 2] rfl
                  have hDc := hD.sub (ws' := [(x0, .inr (9, [.ref ht, .ref hrr, .ref hru, .int 0, .ref hn, .ref him, .ref hp, .ref hac, .ref hfo, .ref hwd, .null, .null])), (hn, .inr (8, [.null, .int 0, .int 0, .int 0, .int 0, .ref wa, .ref wb, .ref wc, .ref wd])), (wd, .inl (kwd, 10, .inl (fun _ => (-1))))]) [0, 1, 2] (by decide) rfl
                  have hKc := hK.sub (tys' := [(kwd, .int)]) [0] rfl
                  refine cl_V (W.runV (As := [.int a1]) (rest := [.int 0]) ⟨hx, hb, hml, hown, hts⟩ (c_roundsAmong l D ad H.size x0 ht hrr hru hn him hp hac hfo hwd wa wb wc wd kwd a1) ⟨callB_of 1 hts (gd_C qq_5_110) rfl rfl rfl (hT _ qq_1_1) (hT _ qq_5_107) (by decide +kernel) (rm_R rfl rfl), (hT _ qq_5_109), (hT _ qs_1_13)⟩ (pr_V hPc hKc hDc hN (ci := 9) (q0 := 0) rfl rfl) rfl rfl hl.1 rfl (lv_room (Nat.le_of_ble_eq_true rfl)) dX11_moves_100 ⟨Nat.le_of_ble_eq_true rfl, Nat.le_of_ble_eq_true rfl⟩) ?_
                  refine lv_iadd hx hb dX11_moves_103 ?_
                  refine tc_i 0 (by decide) ?_
                  exact W.iret (v := 0) hx hb hr (fun t9 ht9 hW9 => ⟨by rw [show (.int (r_moves a1) : Value) = .int 0 from (congrArg Value.int (by (try simp only [x10, x4, lt10, lt4, le10] at c_1 c_2 c_6 c_10 c_14 c_18 c_22 c_26); simp [r_moves, c_1, c_2, c_6, c_10, c_14, c_18, c_22, c_26]))], ht9.trans hHe⟩) (fun _ h9 => absurd h9 List.not_mem_nil) dX11_moves_104
                · refine lv_aload_n hx hb dX11_moves_26 rfl (lv_at hl 3 rfl) ?_
                  refine va_get (D := D) (ci := 9) (v := .ref hn) (C := "WrongHole") (T := TX11) (N := 12) hx hb hts (iq_RX11 _) hown hK hP 0 rfl rfl 4 (by decide) (hT _ qq_1_206) (fun _ h9 => h9) rfl dX11_moves_27 ?_
                  refine va_getN (D := D) (ci := 8) (v := .ref wd) (C := "WrongHole$Worn") (T := TX10) (N := 9) hx hb hts (iq_RX10 _) hown hK hP 1 rfl rfl 8 (by decide) (hN.f nq_1_115) (fun _ h9 => h9) rfl dX11_moves_30 ?_
                  refine lv_iload hx hb dX11_moves_33 (lv_at hl 0 rfl) ?_
                  refine va_iald hx hb hK hP 2 0 rfl rfl (vi_c rfl) dX11_moves_35 ?_
                  refine tc_i (-1) (rfl) ?_
                  refine lv_iload_n hx hb dX11_moves_36 rfl (lv_at hl 4 rfl) ?_
                  refine lv_icmp_lt (tgt := 42) hx hb dX11_moves_37 (by decide) (fun _ => ?_) (fun c_28 => absurd (mo_1 c_1) c_28)
                  refine lv_aload_n hx hb dX11_moves_42 rfl (lv_at hl 3 rfl) ?_
                  refine va_get (D := D) (ci := 9) (v := .ref hn) (C := "WrongHole") (T := TX11) (N := 12) hx hb hts (iq_RX11 _) hown hK hP 0 rfl rfl 4 (by decide) (hT _ qq_1_206) (fun _ h9 => h9) rfl dX11_moves_43 ?_
                  refine va_getN (D := D) (ci := 8) (v := .ref wd) (C := "WrongHole$Worn") (T := TX10) (N := 9) hx hb hts (iq_RX10 _) hown hK hP 1 rfl rfl 8 (by decide) (hN.f nq_1_115) (fun _ h9 => h9) rfl dX11_moves_46 ?_
                  refine lv_iload hx hb dX11_moves_49 (lv_at hl 0 rfl) ?_
                  refine va_iald hx hb hK hP 2 0 rfl rfl (vi_c rfl) dX11_moves_51 ?_
                  refine tc_i (-1) (rfl) ?_
                  refine lv_iconst (v := (-1)) hx hb dX11_moves_52 (by decide) ?_
                  refine lv_icmp_ne (tgt := 62) hx hb dX11_moves_53 (by decide) (fun c_29 => absurd (by decide) c_29) (fun _ => ?_)
                  refine lv_iinc (v := 7) (lv' := [(3, .int 7), (4, .int 6), (2, .int 0), (0, .ref x0), (1, .int a1)]) hx hb dX11_moves_56 hl (k := 1) rfl (by decide) (by decide) rfl (fun ls hl => ?_)
                  refine lv_goto (tgt := 80) hx hb dX11_moves_59 (by decide) ?_
                  refine lv_iinc (v := 7) (lv' := [(4, .int 7), (3, .int 7), (2, .int 0), (0, .ref x0), (1, .int a1)]) hx hb dX11_moves_80 hl (k := 1) rfl (by decide) (by decide) rfl (fun ls hl => ?_)
                  refine lv_goto (tgt := 20) hx hb dX11_moves_83 (by decide) ?_
                  refine lv_iload hx hb dX11_moves_20 (lv_at hl 0 rfl) ?_
                  refine lv_iload_n hx hb dX11_moves_22 rfl (lv_at hl 4 rfl) ?_
                  refine lv_icmp_ge (tgt := 86) hx hb dX11_moves_23 (by decide) (fun c_30 => ?_) (fun c_30 => ?_)
                  · refine lv_iload_n hx hb dX11_moves_86 rfl (lv_at hl 1 rfl) ?_
                    refine lv_if_ne (tgt := 97) hx hb dX11_moves_87 (by decide) (fun _ => ?_) (fun c_31 => absurd c_31 (by decide))
                    refine lv_iload_n hx hb dX11_moves_97 rfl (lv_at hl 2 rfl) ?_
                    refine lv_aload_n hx hb dX11_moves_98 rfl (lv_at hl 3 rfl) ?_
                    refine lv_iload_n hx hb dX11_moves_99 rfl (lv_at hl 4 rfl) ?_
                    have hPc := hP.sub (ws' := [(x0, .inr (9, [.ref ht, .ref hrr, .ref hru, .int 0, .ref hn, .ref him, .ref hp, .ref hac, .ref hfo, .ref hwd, .null, .null])), (hn, .inr (8, [.null, .int 0, .int 0, .int 0, .int 0, .ref wa, .ref wb, .ref wc, .ref wd])), (wd, .inl (kwd, 10, .inl (fun _ => (-1))))]) [0, 1, 2] rfl
                    have hDc := hD.sub (ws' := [(x0, .inr (9, [.ref ht, .ref hrr, .ref hru, .int 0, .ref hn, .ref him, .ref hp, .ref hac, .ref hfo, .ref hwd, .null, .null])), (hn, .inr (8, [.null, .int 0, .int 0, .int 0, .int 0, .ref wa, .ref wb, .ref wc, .ref wd])), (wd, .inl (kwd, 10, .inl (fun _ => (-1))))]) [0, 1, 2] (by decide) rfl
                    have hKc := hK.sub (tys' := [(kwd, .int)]) [0] rfl
                    refine cl_V (W.runV (As := [.int a1]) (rest := [.int 0]) ⟨hx, hb, hml, hown, hts⟩ (c_roundsAmong l D ad H.size x0 ht hrr hru hn him hp hac hfo hwd wa wb wc wd kwd a1) ⟨callB_of 1 hts (gd_C qq_5_110) rfl rfl rfl (hT _ qq_1_1) (hT _ qq_5_107) (by decide +kernel) (rm_R rfl rfl), (hT _ qq_5_109), (hT _ qs_1_13)⟩ (pr_V hPc hKc hDc hN (ci := 9) (q0 := 0) rfl rfl) rfl rfl hl.1 rfl (lv_room (Nat.le_of_ble_eq_true rfl)) dX11_moves_100 ⟨Nat.le_of_ble_eq_true rfl, Nat.le_of_ble_eq_true rfl⟩) ?_
                    refine lv_iadd hx hb dX11_moves_103 ?_
                    refine tc_i 0 (by decide) ?_
                    exact W.iret (v := 0) hx hb hr (fun t9 ht9 hW9 => ⟨by rw [show (.int (r_moves a1) : Value) = .int 0 from (congrArg Value.int (by (try simp only [x10, x4, lt10, lt4, le10] at c_1 c_2 c_6 c_10 c_14 c_18 c_22 c_26 c_30); simp [r_moves, c_1, c_2, c_6, c_10, c_14, c_18, c_22, c_26, c_30]))], ht9.trans hHe⟩) (fun _ h9 => absurd h9 List.not_mem_nil) dX11_moves_104
                  · refine lv_aload_n hx hb dX11_moves_26 rfl (lv_at hl 3 rfl) ?_
                    refine va_get (D := D) (ci := 9) (v := .ref hn) (C := "WrongHole") (T := TX11) (N := 12) hx hb hts (iq_RX11 _) hown hK hP 0 rfl rfl 4 (by decide) (hT _ qq_1_206) (fun _ h9 => h9) rfl dX11_moves_27 ?_
                    refine va_getN (D := D) (ci := 8) (v := .ref wd) (C := "WrongHole$Worn") (T := TX10) (N := 9) hx hb hts (iq_RX10 _) hown hK hP 1 rfl rfl 8 (by decide) (hN.f nq_1_115) (fun _ h9 => h9) rfl dX11_moves_30 ?_
                    refine lv_iload hx hb dX11_moves_33 (lv_at hl 0 rfl) ?_
                    refine va_iald hx hb hK hP 2 0 rfl rfl (vi_c rfl) dX11_moves_35 ?_
                    refine tc_i (-1) (rfl) ?_
                    refine lv_iload_n hx hb dX11_moves_36 rfl (lv_at hl 4 rfl) ?_
                    refine lv_icmp_lt (tgt := 42) hx hb dX11_moves_37 (by decide) (fun _ => ?_) (fun c_32 => absurd (mo_1 c_1) c_32)
                    refine lv_aload_n hx hb dX11_moves_42 rfl (lv_at hl 3 rfl) ?_
                    refine va_get (D := D) (ci := 9) (v := .ref hn) (C := "WrongHole") (T := TX11) (N := 12) hx hb hts (iq_RX11 _) hown hK hP 0 rfl rfl 4 (by decide) (hT _ qq_1_206) (fun _ h9 => h9) rfl dX11_moves_43 ?_
                    refine va_getN (D := D) (ci := 8) (v := .ref wd) (C := "WrongHole$Worn") (T := TX10) (N := 9) hx hb hts (iq_RX10 _) hown hK hP 1 rfl rfl 8 (by decide) (hN.f nq_1_115) (fun _ h9 => h9) rfl dX11_moves_46 ?_
                    refine lv_iload hx hb dX11_moves_49 (lv_at hl 0 rfl) ?_
                    refine va_iald hx hb hK hP 2 0 rfl rfl (vi_c rfl) dX11_moves_51 ?_
                    refine tc_i (-1) (rfl) ?_
                    refine lv_iconst (v := (-1)) hx hb dX11_moves_52 (by decide) ?_
                    refine lv_icmp_ne (tgt := 62) hx hb dX11_moves_53 (by decide) (fun c_33 => absurd (by decide) c_33) (fun _ => ?_)
                    refine lv_iinc (v := 8) (lv' := [(3, .int 8), (4, .int 7), (2, .int 0), (0, .ref x0), (1, .int a1)]) hx hb dX11_moves_56 hl (k := 1) rfl (by decide) (by decide) rfl (fun ls hl => ?_)
                    refine lv_goto (tgt := 80) hx hb dX11_moves_59 (by decide) ?_
                    refine lv_iinc (v := 8) (lv' := [(4, .int 8), (3, .int 8), (2, .int 0), (0, .ref x0), (1, .int a1)]) hx hb dX11_moves_80 hl (k := 1) rfl (by decide) (by decide) rfl (fun ls hl => ?_)
                    refine lv_goto (tgt := 20) hx hb dX11_moves_83 (by decide) ?_
                    refine lv_iload hx hb dX11_moves_20 (lv_at hl 0 rfl) ?_
                    refine lv_iload_n hx hb dX11_moves_22 rfl (lv_at hl 4 rfl) ?_
                    refine lv_icmp_ge (tgt := 86) hx hb dX11_moves_23 (by decide) (fun c_34 => ?_) (fun c_34 => ?_)
                    · refine lv_iload_n hx hb dX11_moves_86 rfl (lv_at hl 1 rfl) ?_
                      refine lv_if_ne (tgt := 97) hx hb dX11_moves_87 (by decide) (fun _ => ?_) (fun c_35 => absurd c_35 (by decide))
                      refine lv_iload_n hx hb dX11_moves_97 rfl (lv_at hl 2 rfl) ?_
                      refine lv_aload_n hx hb dX11_moves_98 rfl (lv_at hl 3 rfl) ?_
                      refine lv_iload_n hx hb dX11_moves_99 rfl (lv_at hl 4 rfl) ?_
                      have hPc := hP.sub (ws' := [(x0, .inr (9, [.ref ht, .ref hrr, .ref hru, .int 0, .ref hn, .ref him, .ref hp, .ref hac, .ref hfo, .ref hwd, .null, .null])), (hn, .inr (8, [.null, .int 0, .int 0, .int 0, .int 0, .ref wa, .ref wb, .ref wc, .ref wd])), (wd, .inl (kwd, 10, .inl (fun _ => (-1))))]) [0, 1, 2] rfl
                      have hDc := hD.sub (ws' := [(x0, .inr (9, [.ref ht, .ref hrr, .ref hru, .int 0, .ref hn, .ref him, .ref hp, .ref hac, .ref hfo, .ref hwd, .null, .null])), (hn, .inr (8, [.null, .int 0, .int 0, .int 0, .int 0, .ref wa, .ref wb, .ref wc, .ref wd])), (wd, .inl (kwd, 10, .inl (fun _ => (-1))))]) [0, 1, 2] (by decide) rfl
                      have hKc := hK.sub (tys' := [(kwd, .int)]) [0] rfl
                      refine cl_V (W.runV (As := [.int a1]) (rest := [.int 0]) ⟨hx, hb, hml, hown, hts⟩ (c_roundsAmong l D ad H.size x0 ht hrr hru hn him hp hac hfo hwd wa wb wc wd kwd a1) ⟨callB_of 1 hts (gd_C qq_5_110) rfl rfl rfl (hT _ qq_1_1) (hT _ qq_5_107) (by decide +kernel) (rm_R rfl rfl), (hT _ qq_5_109), (hT _ qs_1_13)⟩ (pr_V hPc hKc hDc hN (ci := 9) (q0 := 0) rfl rfl) rfl rfl hl.1 rfl (lv_room (Nat.le_of_ble_eq_true rfl)) dX11_moves_100 ⟨Nat.le_of_ble_eq_true rfl, Nat.le_of_ble_eq_true rfl⟩) ?_
                      refine lv_iadd hx hb dX11_moves_103 ?_
                      refine tc_i 0 (by decide) ?_
                      exact W.iret (v := 0) hx hb hr (fun t9 ht9 hW9 => ⟨by rw [show (.int (r_moves a1) : Value) = .int 0 from (congrArg Value.int (by (try simp only [x10, x4, lt10, lt4, le10] at c_1 c_2 c_6 c_10 c_14 c_18 c_22 c_26 c_30 c_34); simp [r_moves, c_1, c_2, c_6, c_10, c_14, c_18, c_22, c_26, c_30, c_34]))], ht9.trans hHe⟩) (fun _ h9 => absurd h9 List.not_mem_nil) dX11_moves_104
                    · refine lv_aload_n hx hb dX11_moves_26 rfl (lv_at hl 3 rfl) ?_
                      refine va_get (D := D) (ci := 9) (v := .ref hn) (C := "WrongHole") (T := TX11) (N := 12) hx hb hts (iq_RX11 _) hown hK hP 0 rfl rfl 4 (by decide) (hT _ qq_1_206) (fun _ h9 => h9) rfl dX11_moves_27 ?_
                      refine va_getN (D := D) (ci := 8) (v := .ref wd) (C := "WrongHole$Worn") (T := TX10) (N := 9) hx hb hts (iq_RX10 _) hown hK hP 1 rfl rfl 8 (by decide) (hN.f nq_1_115) (fun _ h9 => h9) rfl dX11_moves_30 ?_
                      refine lv_iload hx hb dX11_moves_33 (lv_at hl 0 rfl) ?_
                      refine va_iald hx hb hK hP 2 0 rfl rfl (vi_c rfl) dX11_moves_35 ?_
                      refine tc_i (-1) (rfl) ?_
                      refine lv_iload_n hx hb dX11_moves_36 rfl (lv_at hl 4 rfl) ?_
                      refine lv_icmp_lt (tgt := 42) hx hb dX11_moves_37 (by decide) (fun _ => ?_) (fun c_36 => absurd (mo_1 c_1) c_36)
                      refine lv_aload_n hx hb dX11_moves_42 rfl (lv_at hl 3 rfl) ?_
                      refine va_get (D := D) (ci := 9) (v := .ref hn) (C := "WrongHole") (T := TX11) (N := 12) hx hb hts (iq_RX11 _) hown hK hP 0 rfl rfl 4 (by decide) (hT _ qq_1_206) (fun _ h9 => h9) rfl dX11_moves_43 ?_
                      refine va_getN (D := D) (ci := 8) (v := .ref wd) (C := "WrongHole$Worn") (T := TX10) (N := 9) hx hb hts (iq_RX10 _) hown hK hP 1 rfl rfl 8 (by decide) (hN.f nq_1_115) (fun _ h9 => h9) rfl dX11_moves_46 ?_
                      refine lv_iload hx hb dX11_moves_49 (lv_at hl 0 rfl) ?_
                      refine va_iald hx hb hK hP 2 0 rfl rfl (vi_c rfl) dX11_moves_51 ?_
                      refine tc_i (-1) (rfl) ?_
                      refine lv_iconst (v := (-1)) hx hb dX11_moves_52 (by decide) ?_
                      refine lv_icmp_ne (tgt := 62) hx hb dX11_moves_53 (by decide) (fun c_37 => absurd (by decide) c_37) (fun _ => ?_)
                      refine lv_iinc (v := 9) (lv' := [(3, .int 9), (4, .int 8), (2, .int 0), (0, .ref x0), (1, .int a1)]) hx hb dX11_moves_56 hl (k := 1) rfl (by decide) (by decide) rfl (fun ls hl => ?_)
                      refine lv_goto (tgt := 80) hx hb dX11_moves_59 (by decide) ?_
                      refine lv_iinc (v := 9) (lv' := [(4, .int 9), (3, .int 9), (2, .int 0), (0, .ref x0), (1, .int a1)]) hx hb dX11_moves_80 hl (k := 1) rfl (by decide) (by decide) rfl (fun ls hl => ?_)
                      refine lv_goto (tgt := 20) hx hb dX11_moves_83 (by decide) ?_
                      refine lv_iload hx hb dX11_moves_20 (lv_at hl 0 rfl) ?_
                      refine lv_iload_n hx hb dX11_moves_22 rfl (lv_at hl 4 rfl) ?_
                      refine lv_icmp_ge (tgt := 86) hx hb dX11_moves_23 (by decide) (fun c_38 => ?_) (fun c_38 => ?_)
                      · refine lv_iload_n hx hb dX11_moves_86 rfl (lv_at hl 1 rfl) ?_
                        refine lv_if_ne (tgt := 97) hx hb dX11_moves_87 (by decide) (fun _ => ?_) (fun c_39 => absurd c_39 (by decide))
                        refine lv_iload_n hx hb dX11_moves_97 rfl (lv_at hl 2 rfl) ?_
                        refine lv_aload_n hx hb dX11_moves_98 rfl (lv_at hl 3 rfl) ?_
                        refine lv_iload_n hx hb dX11_moves_99 rfl (lv_at hl 4 rfl) ?_
                        have hPc := hP.sub (ws' := [(x0, .inr (9, [.ref ht, .ref hrr, .ref hru, .int 0, .ref hn, .ref him, .ref hp, .ref hac, .ref hfo, .ref hwd, .null, .null])), (hn, .inr (8, [.null, .int 0, .int 0, .int 0, .int 0, .ref wa, .ref wb, .ref wc, .ref wd])), (wd, .inl (kwd, 10, .inl (fun _ => (-1))))]) [0, 1, 2] rfl
                        have hDc := hD.sub (ws' := [(x0, .inr (9, [.ref ht, .ref hrr, .ref hru, .int 0, .ref hn, .ref him, .ref hp, .ref hac, .ref hfo, .ref hwd, .null, .null])), (hn, .inr (8, [.null, .int 0, .int 0, .int 0, .int 0, .ref wa, .ref wb, .ref wc, .ref wd])), (wd, .inl (kwd, 10, .inl (fun _ => (-1))))]) [0, 1, 2] (by decide) rfl
                        have hKc := hK.sub (tys' := [(kwd, .int)]) [0] rfl
                        refine cl_V (W.runV (As := [.int a1]) (rest := [.int 0]) ⟨hx, hb, hml, hown, hts⟩ (c_roundsAmong l D ad H.size x0 ht hrr hru hn him hp hac hfo hwd wa wb wc wd kwd a1) ⟨callB_of 1 hts (gd_C qq_5_110) rfl rfl rfl (hT _ qq_1_1) (hT _ qq_5_107) (by decide +kernel) (rm_R rfl rfl), (hT _ qq_5_109), (hT _ qs_1_13)⟩ (pr_V hPc hKc hDc hN (ci := 9) (q0 := 0) rfl rfl) rfl rfl hl.1 rfl (lv_room (Nat.le_of_ble_eq_true rfl)) dX11_moves_100 ⟨Nat.le_of_ble_eq_true rfl, Nat.le_of_ble_eq_true rfl⟩) ?_
                        refine lv_iadd hx hb dX11_moves_103 ?_
                        refine tc_i 0 (by decide) ?_
                        exact W.iret (v := 0) hx hb hr (fun t9 ht9 hW9 => ⟨by rw [show (.int (r_moves a1) : Value) = .int 0 from (congrArg Value.int (by (try simp only [x10, x4, lt10, lt4, le10] at c_1 c_2 c_6 c_10 c_14 c_18 c_22 c_26 c_30 c_34 c_38); simp [r_moves, c_1, c_2, c_6, c_10, c_14, c_18, c_22, c_26, c_30, c_34, c_38]))], ht9.trans hHe⟩) (fun _ h9 => absurd h9 List.not_mem_nil) dX11_moves_104
                      · refine lv_aload_n hx hb dX11_moves_26 rfl (lv_at hl 3 rfl) ?_
                        refine va_get (D := D) (ci := 9) (v := .ref hn) (C := "WrongHole") (T := TX11) (N := 12) hx hb hts (iq_RX11 _) hown hK hP 0 rfl rfl 4 (by decide) (hT _ qq_1_206) (fun _ h9 => h9) rfl dX11_moves_27 ?_
                        refine va_getN (D := D) (ci := 8) (v := .ref wd) (C := "WrongHole$Worn") (T := TX10) (N := 9) hx hb hts (iq_RX10 _) hown hK hP 1 rfl rfl 8 (by decide) (hN.f nq_1_115) (fun _ h9 => h9) rfl dX11_moves_30 ?_
                        refine lv_iload hx hb dX11_moves_33 (lv_at hl 0 rfl) ?_
                        refine va_iald hx hb hK hP 2 0 rfl rfl (vi_c rfl) dX11_moves_35 ?_
                        refine tc_i (-1) (rfl) ?_
                        refine lv_iload_n hx hb dX11_moves_36 rfl (lv_at hl 4 rfl) ?_
                        refine lv_icmp_lt (tgt := 42) hx hb dX11_moves_37 (by decide) (fun _ => ?_) (fun c_40 => absurd (mo_1 c_1) c_40)
                        refine lv_aload_n hx hb dX11_moves_42 rfl (lv_at hl 3 rfl) ?_
                        refine va_get (D := D) (ci := 9) (v := .ref hn) (C := "WrongHole") (T := TX11) (N := 12) hx hb hts (iq_RX11 _) hown hK hP 0 rfl rfl 4 (by decide) (hT _ qq_1_206) (fun _ h9 => h9) rfl dX11_moves_43 ?_
                        refine va_getN (D := D) (ci := 8) (v := .ref wd) (C := "WrongHole$Worn") (T := TX10) (N := 9) hx hb hts (iq_RX10 _) hown hK hP 1 rfl rfl 8 (by decide) (hN.f nq_1_115) (fun _ h9 => h9) rfl dX11_moves_46 ?_
                        refine lv_iload hx hb dX11_moves_49 (lv_at hl 0 rfl) ?_
                        refine va_iald hx hb hK hP 2 0 rfl rfl (vi_c rfl) dX11_moves_51 ?_
                        refine tc_i (-1) (rfl) ?_
                        refine lv_iconst (v := (-1)) hx hb dX11_moves_52 (by decide) ?_
                        refine lv_icmp_ne (tgt := 62) hx hb dX11_moves_53 (by decide) (fun c_41 => absurd (by decide) c_41) (fun _ => ?_)
                        refine lv_iinc (v := 10) (lv' := [(3, .int 10), (4, .int 9), (2, .int 0), (0, .ref x0), (1, .int a1)]) hx hb dX11_moves_56 hl (k := 1) rfl (by decide) (by decide) rfl (fun ls hl => ?_)
                        refine lv_goto (tgt := 80) hx hb dX11_moves_59 (by decide) ?_
                        refine lv_iinc (v := 10) (lv' := [(4, .int 10), (3, .int 10), (2, .int 0), (0, .ref x0), (1, .int a1)]) hx hb dX11_moves_80 hl (k := 1) rfl (by decide) (by decide) rfl (fun ls hl => ?_)
                        refine lv_goto (tgt := 20) hx hb dX11_moves_83 (by decide) ?_
                        refine lv_iload hx hb dX11_moves_20 (lv_at hl 0 rfl) ?_
                        refine lv_iload_n hx hb dX11_moves_22 rfl (lv_at hl 4 rfl) ?_
                        refine lv_icmp_ge (tgt := 86) hx hb dX11_moves_23 (by decide) (fun _ => ?_) (fun c_42 => absurd (c_2) c_42)
                        refine lv_iload_n hx hb dX11_moves_86 rfl (lv_at hl 1 rfl) ?_
                        refine lv_if_ne (tgt := 97) hx hb dX11_moves_87 (by decide) (fun _ => ?_) (fun c_43 => absurd c_43 (by decide))
                        refine lv_iload_n hx hb dX11_moves_97 rfl (lv_at hl 2 rfl) ?_
                        refine lv_aload_n hx hb dX11_moves_98 rfl (lv_at hl 3 rfl) ?_
                        refine lv_iload_n hx hb dX11_moves_99 rfl (lv_at hl 4 rfl) ?_
                        have hPc := hP.sub (ws' := [(x0, .inr (9, [.ref ht, .ref hrr, .ref hru, .int 0, .ref hn, .ref him, .ref hp, .ref hac, .ref hfo, .ref hwd, .null, .null])), (hn, .inr (8, [.null, .int 0, .int 0, .int 0, .int 0, .ref wa, .ref wb, .ref wc, .ref wd])), (wd, .inl (kwd, 10, .inl (fun _ => (-1))))]) [0, 1, 2] rfl
                        have hDc := hD.sub (ws' := [(x0, .inr (9, [.ref ht, .ref hrr, .ref hru, .int 0, .ref hn, .ref him, .ref hp, .ref hac, .ref hfo, .ref hwd, .null, .null])), (hn, .inr (8, [.null, .int 0, .int 0, .int 0, .int 0, .ref wa, .ref wb, .ref wc, .ref wd])), (wd, .inl (kwd, 10, .inl (fun _ => (-1))))]) [0, 1, 2] (by decide) rfl
                        have hKc := hK.sub (tys' := [(kwd, .int)]) [0] rfl
                        refine cl_V (W.runV (As := [.int a1]) (rest := [.int 0]) ⟨hx, hb, hml, hown, hts⟩ (c_roundsAmong l D ad H.size x0 ht hrr hru hn him hp hac hfo hwd wa wb wc wd kwd a1) ⟨callB_of 1 hts (gd_C qq_5_110) rfl rfl rfl (hT _ qq_1_1) (hT _ qq_5_107) (by decide +kernel) (rm_R rfl rfl), (hT _ qq_5_109), (hT _ qs_1_13)⟩ (pr_V hPc hKc hDc hN (ci := 9) (q0 := 0) rfl rfl) rfl rfl hl.1 rfl (lv_room (Nat.le_of_ble_eq_true rfl)) dX11_moves_100 ⟨Nat.le_of_ble_eq_true rfl, Nat.le_of_ble_eq_true rfl⟩) ?_
                        refine lv_iadd hx hb dX11_moves_103 ?_
                        refine tc_i 0 (by decide) ?_
                        exact W.iret (v := 0) hx hb hr (fun t9 ht9 hW9 => ⟨by rw [show (.int (r_moves a1) : Value) = .int 0 from (congrArg Value.int (by (try simp only [x10, x4, lt10, lt4, le10] at c_1 c_2 c_6 c_10 c_14 c_18 c_22 c_26 c_30 c_34 c_38); simp [r_moves, c_1, c_2, c_6, c_10, c_14, c_18, c_22, c_26, c_30, c_34, c_38]))], ht9.trans hHe⟩) (fun _ h9 => absurd h9 List.not_mem_nil) dX11_moves_104
    · refine lv_iconst (v := (-1)) hx hb dX11_moves_11 (by decide) ?_
      exact W.iret (v := (-1)) hx hb hr (fun t9 ht9 hW9 => ⟨by rw [show (.int (r_moves a1) : Value) = .int (-1) from (congrArg Value.int (by (try simp only [x10, x4, lt10, lt4, le10] at c_1 c_2); simp [r_moves, c_1, c_2]))], ht9.trans hHe⟩) (fun _ h9 => absurd h9 List.not_mem_nil) dX11_moves_12
theorem dX11_seed_0 : decode cX11_seed 0 = .ok (.iload_n 1, 1) := by decide +kernel
theorem dX11_seed_1 : decode cX11_seed 1 = .ok (.ifCond .ge 5, 3) := by decide +kernel
theorem dX11_seed_6 : decode cX11_seed 6 = .ok (.aload_n 0, 1) := by decide +kernel
theorem dX11_seed_7 : decode cX11_seed 7 = .ok (.getfield 32, 3) := by decide +kernel
theorem dX11_seed_10 : decode cX11_seed 10 = .ok (.getfield 315, 3) := by decide +kernel
theorem nq_1_105 : Cond.fieldLinkNest "WrongHole" 315 "WrongHole$Worn" "x" "I" "WrongHole" ∈ NW := mk_nw (ti_1 (List.mem_of_getElem? (i := 105) rfl)) rfl
theorem dX11_seed_13 : decode cX11_seed 13 = .ok (.istore_n 2, 1) := by decide +kernel
theorem dX11_seed_14 : decode cX11_seed 14 = .ok (.aload_n 0, 1) := by decide +kernel
theorem dX11_seed_15 : decode cX11_seed 15 = .ok (.getfield 32, 3) := by decide +kernel
theorem dX11_seed_18 : decode cX11_seed 18 = .ok (.iload_n 1, 1) := by decide +kernel
theorem dX11_seed_19 : decode cX11_seed 19 = .ok (.putfield 315, 3) := by decide +kernel
theorem dX11_seed_22 : decode cX11_seed 22 = .ok (.iload_n 2, 1) := by decide +kernel
theorem dX11_seed_23 : decode cX11_seed 23 = .ok (.ireturn, 1) := by decide +kernel
theorem dX11_seed_4 : decode cX11_seed 4 = .ok (.iconst (-1), 1) := by decide +kernel
theorem dX11_seed_5 : decode cX11_seed 5 = .ok (.ireturn, 1) := by decide +kernel
set_option maxHeartbeats 4000000 in
set_option maxRecDepth 100000 in
theorem c_x_seed (l : Launch) (D : va_G) (ad : Nat → Nat) (sz : Nat) (x0 : Nat) (ht : Nat) (hrr : Nat) (hru : Nat) (hn : Nat) (him : Nat) (hp : Nat) (hac : Nat) (hfo : Nat) (hwd : Nat) (wa : Nat) (wb : Nat) (wc : Nat) (wd : Nat) (a1 : Int32)  : Met l yX11_seed (Cond.code yX11_seed cX11_seed 3 (some .int) :: TB) (RM 1 0 0) (va_Pc [.ref x0, .int a1] (PRE D ad [(x0, .inr (9, [.ref ht, .ref hrr, .ref hru, .int 0, .ref hn, .ref him, .ref hp, .ref hac, .ref hfo, .ref hwd, .null, .null])), (hn, .inr (8, [.null, .int 0, .int 0, .int 0, .int 0, .ref wa, .ref wb, .ref wc, .ref wd]))] [] sz)) (va_Qi (S := Unit) (fun r _ => r = (r_seed a1)) (fun _ t => True) (va_A [(x0, .inr (9, [.ref ht, .ref hrr, .ref hru, .int 0, .ref hn, .ref him, .ref hp, .ref hac, .ref hfo, .ref hwd, .null, .null])), (hn, .inr (8, [.null, .int 0, .int 0, .int 0, .int 0, .ref wa, .ref wb, .ref wc, .ref wd]))] sz)) 0 0 (va_A [(x0, .inr (9, [.ref ht, .ref hrr, .ref hru, .int 0, .ref hn, .ref him, .ref hp, .ref hac, .ref hfo, .ref hwd, .null, .null])), (hn, .inr (8, [.null, .int 0, .int 0, .int 0, .int 0, .ref wa, .ref wb, .ref wc, .ref wd]))] sz) := by
  refine MET (y := yX11_seed) (cc := cX11_seed) (maxL := 3) (ret := (some .int)) (d := 1) (mc := 0) (ms := 0) (D := D) (ad := ad) (ws := [(x0, .inr (9, [.ref ht, .ref hrr, .ref hru, .int 0, .ref hn, .ref him, .ref hp, .ref hac, .ref hfo, .ref hwd, .null, .null])), (hn, .inr (8, [.null, .int 0, .int 0, .int 0, .int 0, .ref wa, .ref wb, .ref wc, .ref wd]))]) (tys := []) (sz := sz) (av := [.ref x0, .int a1]) (Qc := fun A => va_Qi (S := Unit) (fun r _ => r = (r_seed a1)) (fun _ t => True) A) (fr := fun A => A) (by decide) (Nat.le_of_ble_eq_true rfl) ?_
  intro p e s m below meth c ls A H hHe hx hb hr hml hown hts hlocks hnm hP hK hD hA hS hN hl
  have hown : s.vm.findClass "WrongHole" = some m.cls := hown
  have hT : ∀ w ∈ TB, w.before ([.ref x0, .int a1] : List Value).toArray s = true := fun w h => hts w (List.mem_cons_of_mem _ h)
  have hl : lv_has ls 3 [(0, .ref x0), (1, .int a1)] := hl
  have hP : va_P D vwCl [(x0, .inr (9, [.ref ht, .ref hrr, .ref hru, .int 0, .ref hn, .ref him, .ref hp, .ref hac, .ref hfo, .ref hwd, .null, .null])), (hn, .inr (8, [.null, .int 0, .int 0, .int 0, .int 0, .ref wa, .ref wb, .ref wc, .ref wd]))] H := hP
  refine lv_iload_n hx hb dX11_seed_0 rfl (lv_at hl 1 rfl) ?_
  refine lv_if_ge (tgt := 6) hx hb dX11_seed_1 (by decide) (fun c_1 => ?_) (fun c_1 => ?_)
  · refine lv_aload_n hx hb dX11_seed_6 rfl (lv_at hl 0 rfl) ?_
    refine va_get (D := D) (ci := 9) (v := .ref hn) (C := "WrongHole") (T := TX11) (N := 12) hx hb hts (iq_RX11 _) hown hK hP 0 rfl rfl 4 (by decide) (hT _ qq_1_206) (fun _ h9 => h9) rfl dX11_seed_7 ?_
    refine va_getN (D := D) (ci := 8) (v := .int 0) (C := "WrongHole$Worn") (T := TX10) (N := 9) hx hb hts (iq_RX10 _) hown hK hP 1 rfl rfl 3 (by decide) (hN.f nq_1_105) (fun _ h9 => h9) rfl dX11_seed_10 ?_
    refine lv_istore_n (lv' := [(2, .int 0), (0, .ref x0), (1, .int a1)]) hx hb dX11_seed_13 rfl hl (by decide) rfl (fun ls hl => ?_)
    refine lv_aload_n hx hb dX11_seed_14 rfl (lv_at hl 1 rfl) ?_
    refine va_get (D := D) (ci := 9) (v := .ref hn) (C := "WrongHole") (T := TX11) (N := 12) hx hb hts (iq_RX11 _) hown hK hP 0 rfl rfl 4 (by decide) (hT _ qq_1_206) (fun _ h9 => h9) rfl dX11_seed_15 ?_
    refine lv_iload_n hx hb dX11_seed_18 rfl (lv_at hl 2 rfl) ?_
    refine va_putN (D := D) (ci := 8) (v := .int a1) (ty := .int) (C := "WrongHole$Worn") (T := TX10) (N := 9) hx hb hts (iq_RX10 _) tyX10 tyX10_ok nmX10 hown hK hP hD hS 1 rfl rfl 3 (by decide) (hN.f nq_1_105) (fun _ h9 => h9) rfl (by decide +kernel) rfl rfl (Nat.le_of_ble_eq_true rfl) dX11_seed_19 (fun H locs hP hD hS => ?_)
    have hP : va_P D vwCl [(x0, .inr (9, [.ref ht, .ref hrr, .ref hru, .int 0, .ref hn, .ref him, .ref hp, .ref hac, .ref hfo, .ref hwd, .null, .null])), (hn, .inr (8, [.null, .int 0, .int 0, .int a1, .int 0, .ref wa, .ref wb, .ref wc, .ref wd]))] H := hP
    have hD : va_D A [(x0, .inr (9, [.ref ht, .ref hrr, .ref hru, .int 0, .ref hn, .ref him, .ref hp, .ref hac, .ref hfo, .ref hwd, .null, .null])), (hn, .inr (8, [.null, .int 0, .int 0, .int a1, .int 0, .ref wa, .ref wb, .ref wc, .ref wd]))] := hD
    refine lv_iload_n hx hb dX11_seed_22 rfl (lv_at hl 0 rfl) ?_
    refine W.widen (k := 0) (n := 0) (Nat.le_of_ble_eq_true rfl) (Nat.le_of_ble_eq_true rfl) ?_
    exact W.iret (v := 0) hx hb hr (fun t9 ht9 hW9 => ⟨⟨_, (), rfl, (by simp [r_seed, c_1]), trivial⟩, hS.F ht9⟩) hS.2.2 dX11_seed_23
  · refine lv_iconst (v := (-1)) hx hb dX11_seed_4 (by decide) ?_
    refine W.widen (k := 0) (n := 0) (Nat.le_of_ble_eq_true rfl) (Nat.le_of_ble_eq_true rfl) ?_
    exact W.iret (v := (-1)) hx hb hr (fun t9 ht9 hW9 => ⟨⟨_, (), rfl, (by simp [r_seed, c_1]), trivial⟩, hS.F ht9⟩) hS.2.2 dX11_seed_5
theorem dX11_emptySeats_0 : decode cX11_emptySeats 0 = .ok (.iconst 0, 1) := by decide +kernel
theorem dX11_emptySeats_1 : decode cX11_emptySeats 1 = .ok (.istore_n 1, 1) := by decide +kernel
theorem dX11_emptySeats_2 : decode cX11_emptySeats 2 = .ok (.iconst 0, 1) := by decide +kernel
theorem dX11_emptySeats_3 : decode cX11_emptySeats 3 = .ok (.istore_n 2, 1) := by decide +kernel
theorem dX11_emptySeats_4 : decode cX11_emptySeats 4 = .ok (.iload_n 2, 1) := by decide +kernel
theorem dX11_emptySeats_5 : decode cX11_emptySeats 5 = .ok (.bipush 10, 2) := by decide +kernel
theorem dX11_emptySeats_7 : decode cX11_emptySeats 7 = .ok (.if_icmp .ge 30, 3) := by decide +kernel
theorem dX11_emptySeats_10 : decode cX11_emptySeats 10 = .ok (.iload_n 1, 1) := by decide +kernel
theorem dX11_emptySeats_11 : decode cX11_emptySeats 11 = .ok (.aload_n 0, 1) := by decide +kernel
theorem dX11_emptySeats_12 : decode cX11_emptySeats 12 = .ok (.getfield 32, 3) := by decide +kernel
theorem dX11_emptySeats_15 : decode cX11_emptySeats 15 = .ok (.getfield 309, 3) := by decide +kernel
theorem dX11_emptySeats_18 : decode cX11_emptySeats 18 = .ok (.iload_n 2, 1) := by decide +kernel
theorem dX11_emptySeats_19 : decode cX11_emptySeats 19 = .ok (.iaload, 1) := by decide +kernel
theorem dX11_emptySeats_20 : decode cX11_emptySeats 20 = .ok (.iconst (-1), 1) := by decide +kernel
theorem dX11_emptySeats_21 : decode cX11_emptySeats 21 = .ok (.if_icmp .ne 7, 3) := by decide +kernel
theorem dX11_emptySeats_24 : decode cX11_emptySeats 24 = .ok (.iconst 1, 1) := by decide +kernel
theorem dX11_emptySeats_25 : decode cX11_emptySeats 25 = .ok (.goto 4, 3) := by decide +kernel
theorem dX11_emptySeats_29 : decode cX11_emptySeats 29 = .ok (.iadd, 1) := by decide +kernel
theorem dX11_emptySeats_30 : decode cX11_emptySeats 30 = .ok (.istore_n 1, 1) := by decide +kernel
theorem dX11_emptySeats_31 : decode cX11_emptySeats 31 = .ok (.iinc 2 1, 3) := by decide +kernel
theorem dX11_emptySeats_34 : decode cX11_emptySeats 34 = .ok (.goto (-30), 3) := by decide +kernel
theorem dX11_emptySeats_37 : decode cX11_emptySeats 37 = .ok (.iload_n 1, 1) := by decide +kernel
theorem dX11_emptySeats_38 : decode cX11_emptySeats 38 = .ok (.ireturn, 1) := by decide +kernel
set_option maxHeartbeats 4000000 in
set_option maxRecDepth 100000 in
theorem c_emptySeats (l : Launch) (D : va_G) (ad : Nat → Nat) (sz : Nat) (x0 : Nat) (ht : Nat) (hrr : Nat) (hru : Nat) (hn : Nat) (him : Nat) (hp : Nat) (hac : Nat) (hfo : Nat) (hwd : Nat) (wa : Nat) (wb : Nat) (wc : Nat) (wd : Nat) (kwd : ClassId)  : Met l yX11_emptySeats (Cond.code yX11_emptySeats cX11_emptySeats 3 (some .int) :: TB) (RM 0 0 0) (va_Pc [.ref x0] (PRE D ad [(x0, .inr (9, [.ref ht, .ref hrr, .ref hru, .int 0, .ref hn, .ref him, .ref hp, .ref hac, .ref hfo, .ref hwd, .null, .null])), (hn, .inr (8, [.null, .int 0, .int 0, .int 0, .int 0, .ref wa, .ref wb, .ref wc, .ref wd])), (wd, .inl (kwd, 10, .inl (fun _ => (-1))))] [(kwd, .int)] sz)) (k2_QcV (.int 10)) 0 0 (fun _ => False) := by
  refine MET (y := yX11_emptySeats) (cc := cX11_emptySeats) (maxL := 3) (ret := (some .int)) (d := 0) (mc := 0) (ms := 0) (D := D) (ad := ad) (ws := [(x0, .inr (9, [.ref ht, .ref hrr, .ref hru, .int 0, .ref hn, .ref him, .ref hp, .ref hac, .ref hfo, .ref hwd, .null, .null])), (hn, .inr (8, [.null, .int 0, .int 0, .int 0, .int 0, .ref wa, .ref wb, .ref wc, .ref wd])), (wd, .inl (kwd, 10, .inl (fun _ => (-1))))]) (tys := [(kwd, .int)]) (sz := sz) (av := [.ref x0]) (Qc := fun A => k2_QcV (.int 10)) (fr := fun A => (fun _ => False)) (by decide) (Nat.le_of_ble_eq_true rfl) ?_
  intro p e s m below meth c ls A H hHe hx hb hr hml hown hts hlocks hnm hP hK hD hA hS hN hl
  have hown : s.vm.findClass "WrongHole" = some m.cls := hown
  have hT : ∀ w ∈ TB, w.before ([.ref x0] : List Value).toArray s = true := fun w h => hts w (List.mem_cons_of_mem _ h)
  have hl : lv_has ls 3 [(0, .ref x0)] := hl
  have hP : va_P D vwCl [(x0, .inr (9, [.ref ht, .ref hrr, .ref hru, .int 0, .ref hn, .ref him, .ref hp, .ref hac, .ref hfo, .ref hwd, .null, .null])), (hn, .inr (8, [.null, .int 0, .int 0, .int 0, .int 0, .ref wa, .ref wb, .ref wc, .ref wd])), (wd, .inl (kwd, 10, .inl (fun _ => (-1))))] H := hP
  refine lv_iconst (v := 0) hx hb dX11_emptySeats_0 (by decide) ?_
  refine lv_istore_n (lv' := [(1, .int 0), (0, .ref x0)]) hx hb dX11_emptySeats_1 rfl hl (by decide) rfl (fun ls hl => ?_)
  refine lv_iconst (v := 0) hx hb dX11_emptySeats_2 (by decide) ?_
  refine lv_istore_n (lv' := [(2, .int 0), (1, .int 0), (0, .ref x0)]) hx hb dX11_emptySeats_3 rfl hl (by decide) rfl (fun ls hl => ?_)
  refine lv_iload_n hx hb dX11_emptySeats_4 rfl (lv_at hl 0 rfl) ?_
  refine lv_bipush (v := 10) hx hb dX11_emptySeats_5 (by decide) ?_
  refine lv_icmp_ge (tgt := 37) hx hb dX11_emptySeats_7 (by decide) (fun c_1 => absurd c_1 (by decide)) (fun _ => ?_)
  refine lv_iload_n hx hb dX11_emptySeats_10 rfl (lv_at hl 1 rfl) ?_
  refine lv_aload_n hx hb dX11_emptySeats_11 rfl (lv_at hl 2 rfl) ?_
  refine va_get (D := D) (ci := 9) (v := .ref hn) (C := "WrongHole") (T := TX11) (N := 12) hx hb hts (iq_RX11 _) hown hK hP 0 rfl rfl 4 (by decide) (hT _ qq_1_206) (fun _ h9 => h9) rfl dX11_emptySeats_12 ?_
  refine va_getN (D := D) (ci := 8) (v := .ref wd) (C := "WrongHole$Worn") (T := TX10) (N := 9) hx hb hts (iq_RX10 _) hown hK hP 1 rfl rfl 8 (by decide) (hN.f nq_1_115) (fun _ h9 => h9) rfl dX11_emptySeats_15 ?_
  refine lv_iload_n hx hb dX11_emptySeats_18 rfl (lv_at hl 0 rfl) ?_
  refine va_iald hx hb hK hP 2 0 rfl rfl (vi_c rfl) dX11_emptySeats_19 ?_
  refine tc_i (-1) (rfl) ?_
  refine lv_iconst (v := (-1)) hx hb dX11_emptySeats_20 (by decide) ?_
  refine lv_icmp_ne (tgt := 28) hx hb dX11_emptySeats_21 (by decide) (fun c_2 => absurd (by decide) c_2) (fun _ => ?_)
  refine lv_iconst (v := 1) hx hb dX11_emptySeats_24 (by decide) ?_
  refine lv_goto (tgt := 29) hx hb dX11_emptySeats_25 (by decide) ?_
  refine lv_iadd hx hb dX11_emptySeats_29 ?_
  refine tc_i 1 (by decide) ?_
  refine lv_istore_n (lv' := [(1, .int 1), (2, .int 0), (0, .ref x0)]) hx hb dX11_emptySeats_30 rfl hl (by decide) rfl (fun ls hl => ?_)
  refine lv_iinc (v := 1) (lv' := [(2, .int 1), (1, .int 1), (0, .ref x0)]) hx hb dX11_emptySeats_31 hl (k := 1) rfl (by decide) (by decide) rfl (fun ls hl => ?_)
  refine lv_goto (tgt := 4) hx hb dX11_emptySeats_34 (by decide) ?_
  refine lv_iload_n hx hb dX11_emptySeats_4 rfl (lv_at hl 0 rfl) ?_
  refine lv_bipush (v := 10) hx hb dX11_emptySeats_5 (by decide) ?_
  refine lv_icmp_ge (tgt := 37) hx hb dX11_emptySeats_7 (by decide) (fun c_3 => absurd c_3 (by decide)) (fun _ => ?_)
  refine lv_iload_n hx hb dX11_emptySeats_10 rfl (lv_at hl 1 rfl) ?_
  refine lv_aload_n hx hb dX11_emptySeats_11 rfl (lv_at hl 2 rfl) ?_
  refine va_get (D := D) (ci := 9) (v := .ref hn) (C := "WrongHole") (T := TX11) (N := 12) hx hb hts (iq_RX11 _) hown hK hP 0 rfl rfl 4 (by decide) (hT _ qq_1_206) (fun _ h9 => h9) rfl dX11_emptySeats_12 ?_
  refine va_getN (D := D) (ci := 8) (v := .ref wd) (C := "WrongHole$Worn") (T := TX10) (N := 9) hx hb hts (iq_RX10 _) hown hK hP 1 rfl rfl 8 (by decide) (hN.f nq_1_115) (fun _ h9 => h9) rfl dX11_emptySeats_15 ?_
  refine lv_iload_n hx hb dX11_emptySeats_18 rfl (lv_at hl 0 rfl) ?_
  refine va_iald hx hb hK hP 2 0 rfl rfl (vi_c rfl) dX11_emptySeats_19 ?_
  refine tc_i (-1) (rfl) ?_
  refine lv_iconst (v := (-1)) hx hb dX11_emptySeats_20 (by decide) ?_
  refine lv_icmp_ne (tgt := 28) hx hb dX11_emptySeats_21 (by decide) (fun c_4 => absurd (by decide) c_4) (fun _ => ?_)
  refine lv_iconst (v := 1) hx hb dX11_emptySeats_24 (by decide) ?_
  refine lv_goto (tgt := 29) hx hb dX11_emptySeats_25 (by decide) ?_
  refine lv_iadd hx hb dX11_emptySeats_29 ?_
  refine tc_i 2 (by decide) ?_
  refine lv_istore_n (lv' := [(1, .int 2), (2, .int 1), (0, .ref x0)]) hx hb dX11_emptySeats_30 rfl hl (by decide) rfl (fun ls hl => ?_)
  refine lv_iinc (v := 2) (lv' := [(2, .int 2), (1, .int 2), (0, .ref x0)]) hx hb dX11_emptySeats_31 hl (k := 1) rfl (by decide) (by decide) rfl (fun ls hl => ?_)
  refine lv_goto (tgt := 4) hx hb dX11_emptySeats_34 (by decide) ?_
  refine lv_iload_n hx hb dX11_emptySeats_4 rfl (lv_at hl 0 rfl) ?_
  refine lv_bipush (v := 10) hx hb dX11_emptySeats_5 (by decide) ?_
  refine lv_icmp_ge (tgt := 37) hx hb dX11_emptySeats_7 (by decide) (fun c_5 => absurd c_5 (by decide)) (fun _ => ?_)
  refine lv_iload_n hx hb dX11_emptySeats_10 rfl (lv_at hl 1 rfl) ?_
  refine lv_aload_n hx hb dX11_emptySeats_11 rfl (lv_at hl 2 rfl) ?_
  refine va_get (D := D) (ci := 9) (v := .ref hn) (C := "WrongHole") (T := TX11) (N := 12) hx hb hts (iq_RX11 _) hown hK hP 0 rfl rfl 4 (by decide) (hT _ qq_1_206) (fun _ h9 => h9) rfl dX11_emptySeats_12 ?_
  refine va_getN (D := D) (ci := 8) (v := .ref wd) (C := "WrongHole$Worn") (T := TX10) (N := 9) hx hb hts (iq_RX10 _) hown hK hP 1 rfl rfl 8 (by decide) (hN.f nq_1_115) (fun _ h9 => h9) rfl dX11_emptySeats_15 ?_
  refine lv_iload_n hx hb dX11_emptySeats_18 rfl (lv_at hl 0 rfl) ?_
  refine va_iald hx hb hK hP 2 0 rfl rfl (vi_c rfl) dX11_emptySeats_19 ?_
  refine tc_i (-1) (rfl) ?_
  refine lv_iconst (v := (-1)) hx hb dX11_emptySeats_20 (by decide) ?_
  refine lv_icmp_ne (tgt := 28) hx hb dX11_emptySeats_21 (by decide) (fun c_6 => absurd (by decide) c_6) (fun _ => ?_)
  refine lv_iconst (v := 1) hx hb dX11_emptySeats_24 (by decide) ?_
  refine lv_goto (tgt := 29) hx hb dX11_emptySeats_25 (by decide) ?_
  refine lv_iadd hx hb dX11_emptySeats_29 ?_
  refine tc_i 3 (by decide) ?_
  refine lv_istore_n (lv' := [(1, .int 3), (2, .int 2), (0, .ref x0)]) hx hb dX11_emptySeats_30 rfl hl (by decide) rfl (fun ls hl => ?_)
  refine lv_iinc (v := 3) (lv' := [(2, .int 3), (1, .int 3), (0, .ref x0)]) hx hb dX11_emptySeats_31 hl (k := 1) rfl (by decide) (by decide) rfl (fun ls hl => ?_)
  refine lv_goto (tgt := 4) hx hb dX11_emptySeats_34 (by decide) ?_
  refine lv_iload_n hx hb dX11_emptySeats_4 rfl (lv_at hl 0 rfl) ?_
  refine lv_bipush (v := 10) hx hb dX11_emptySeats_5 (by decide) ?_
  refine lv_icmp_ge (tgt := 37) hx hb dX11_emptySeats_7 (by decide) (fun c_7 => absurd c_7 (by decide)) (fun _ => ?_)
  refine lv_iload_n hx hb dX11_emptySeats_10 rfl (lv_at hl 1 rfl) ?_
  refine lv_aload_n hx hb dX11_emptySeats_11 rfl (lv_at hl 2 rfl) ?_
  refine va_get (D := D) (ci := 9) (v := .ref hn) (C := "WrongHole") (T := TX11) (N := 12) hx hb hts (iq_RX11 _) hown hK hP 0 rfl rfl 4 (by decide) (hT _ qq_1_206) (fun _ h9 => h9) rfl dX11_emptySeats_12 ?_
  refine va_getN (D := D) (ci := 8) (v := .ref wd) (C := "WrongHole$Worn") (T := TX10) (N := 9) hx hb hts (iq_RX10 _) hown hK hP 1 rfl rfl 8 (by decide) (hN.f nq_1_115) (fun _ h9 => h9) rfl dX11_emptySeats_15 ?_
  refine lv_iload_n hx hb dX11_emptySeats_18 rfl (lv_at hl 0 rfl) ?_
  refine va_iald hx hb hK hP 2 0 rfl rfl (vi_c rfl) dX11_emptySeats_19 ?_
  refine tc_i (-1) (rfl) ?_
  refine lv_iconst (v := (-1)) hx hb dX11_emptySeats_20 (by decide) ?_
  refine lv_icmp_ne (tgt := 28) hx hb dX11_emptySeats_21 (by decide) (fun c_8 => absurd (by decide) c_8) (fun _ => ?_)
  refine lv_iconst (v := 1) hx hb dX11_emptySeats_24 (by decide) ?_
  refine lv_goto (tgt := 29) hx hb dX11_emptySeats_25 (by decide) ?_
  refine lv_iadd hx hb dX11_emptySeats_29 ?_
  refine tc_i 4 (by decide) ?_
  refine lv_istore_n (lv' := [(1, .int 4), (2, .int 3), (0, .ref x0)]) hx hb dX11_emptySeats_30 rfl hl (by decide) rfl (fun ls hl => ?_)
  refine lv_iinc (v := 4) (lv' := [(2, .int 4), (1, .int 4), (0, .ref x0)]) hx hb dX11_emptySeats_31 hl (k := 1) rfl (by decide) (by decide) rfl (fun ls hl => ?_)
  refine lv_goto (tgt := 4) hx hb dX11_emptySeats_34 (by decide) ?_
  refine lv_iload_n hx hb dX11_emptySeats_4 rfl (lv_at hl 0 rfl) ?_
  refine lv_bipush (v := 10) hx hb dX11_emptySeats_5 (by decide) ?_
  refine lv_icmp_ge (tgt := 37) hx hb dX11_emptySeats_7 (by decide) (fun c_9 => absurd c_9 (by decide)) (fun _ => ?_)
  refine lv_iload_n hx hb dX11_emptySeats_10 rfl (lv_at hl 1 rfl) ?_
  refine lv_aload_n hx hb dX11_emptySeats_11 rfl (lv_at hl 2 rfl) ?_
  refine va_get (D := D) (ci := 9) (v := .ref hn) (C := "WrongHole") (T := TX11) (N := 12) hx hb hts (iq_RX11 _) hown hK hP 0 rfl rfl 4 (by decide) (hT _ qq_1_206) (fun _ h9 => h9) rfl dX11_emptySeats_12 ?_
  refine va_getN (D := D) (ci := 8) (v := .ref wd) (C := "WrongHole$Worn") (T := TX10) (N := 9) hx hb hts (iq_RX10 _) hown hK hP 1 rfl rfl 8 (by decide) (hN.f nq_1_115) (fun _ h9 => h9) rfl dX11_emptySeats_15 ?_
  refine lv_iload_n hx hb dX11_emptySeats_18 rfl (lv_at hl 0 rfl) ?_
  refine va_iald hx hb hK hP 2 0 rfl rfl (vi_c rfl) dX11_emptySeats_19 ?_
  refine tc_i (-1) (rfl) ?_
  refine lv_iconst (v := (-1)) hx hb dX11_emptySeats_20 (by decide) ?_
  refine lv_icmp_ne (tgt := 28) hx hb dX11_emptySeats_21 (by decide) (fun c_10 => absurd (by decide) c_10) (fun _ => ?_)
  refine lv_iconst (v := 1) hx hb dX11_emptySeats_24 (by decide) ?_
  refine lv_goto (tgt := 29) hx hb dX11_emptySeats_25 (by decide) ?_
  refine lv_iadd hx hb dX11_emptySeats_29 ?_
  refine tc_i 5 (by decide) ?_
  refine lv_istore_n (lv' := [(1, .int 5), (2, .int 4), (0, .ref x0)]) hx hb dX11_emptySeats_30 rfl hl (by decide) rfl (fun ls hl => ?_)
  refine lv_iinc (v := 5) (lv' := [(2, .int 5), (1, .int 5), (0, .ref x0)]) hx hb dX11_emptySeats_31 hl (k := 1) rfl (by decide) (by decide) rfl (fun ls hl => ?_)
  refine lv_goto (tgt := 4) hx hb dX11_emptySeats_34 (by decide) ?_
  refine lv_iload_n hx hb dX11_emptySeats_4 rfl (lv_at hl 0 rfl) ?_
  refine lv_bipush (v := 10) hx hb dX11_emptySeats_5 (by decide) ?_
  refine lv_icmp_ge (tgt := 37) hx hb dX11_emptySeats_7 (by decide) (fun c_11 => absurd c_11 (by decide)) (fun _ => ?_)
  refine lv_iload_n hx hb dX11_emptySeats_10 rfl (lv_at hl 1 rfl) ?_
  refine lv_aload_n hx hb dX11_emptySeats_11 rfl (lv_at hl 2 rfl) ?_
  refine va_get (D := D) (ci := 9) (v := .ref hn) (C := "WrongHole") (T := TX11) (N := 12) hx hb hts (iq_RX11 _) hown hK hP 0 rfl rfl 4 (by decide) (hT _ qq_1_206) (fun _ h9 => h9) rfl dX11_emptySeats_12 ?_
  refine va_getN (D := D) (ci := 8) (v := .ref wd) (C := "WrongHole$Worn") (T := TX10) (N := 9) hx hb hts (iq_RX10 _) hown hK hP 1 rfl rfl 8 (by decide) (hN.f nq_1_115) (fun _ h9 => h9) rfl dX11_emptySeats_15 ?_
  refine lv_iload_n hx hb dX11_emptySeats_18 rfl (lv_at hl 0 rfl) ?_
  refine va_iald hx hb hK hP 2 0 rfl rfl (vi_c rfl) dX11_emptySeats_19 ?_
  refine tc_i (-1) (rfl) ?_
  refine lv_iconst (v := (-1)) hx hb dX11_emptySeats_20 (by decide) ?_
  refine lv_icmp_ne (tgt := 28) hx hb dX11_emptySeats_21 (by decide) (fun c_12 => absurd (by decide) c_12) (fun _ => ?_)
  refine lv_iconst (v := 1) hx hb dX11_emptySeats_24 (by decide) ?_
  refine lv_goto (tgt := 29) hx hb dX11_emptySeats_25 (by decide) ?_
  refine lv_iadd hx hb dX11_emptySeats_29 ?_
  refine tc_i 6 (by decide) ?_
  refine lv_istore_n (lv' := [(1, .int 6), (2, .int 5), (0, .ref x0)]) hx hb dX11_emptySeats_30 rfl hl (by decide) rfl (fun ls hl => ?_)
  refine lv_iinc (v := 6) (lv' := [(2, .int 6), (1, .int 6), (0, .ref x0)]) hx hb dX11_emptySeats_31 hl (k := 1) rfl (by decide) (by decide) rfl (fun ls hl => ?_)
  refine lv_goto (tgt := 4) hx hb dX11_emptySeats_34 (by decide) ?_
  refine lv_iload_n hx hb dX11_emptySeats_4 rfl (lv_at hl 0 rfl) ?_
  refine lv_bipush (v := 10) hx hb dX11_emptySeats_5 (by decide) ?_
  refine lv_icmp_ge (tgt := 37) hx hb dX11_emptySeats_7 (by decide) (fun c_13 => absurd c_13 (by decide)) (fun _ => ?_)
  refine lv_iload_n hx hb dX11_emptySeats_10 rfl (lv_at hl 1 rfl) ?_
  refine lv_aload_n hx hb dX11_emptySeats_11 rfl (lv_at hl 2 rfl) ?_
  refine va_get (D := D) (ci := 9) (v := .ref hn) (C := "WrongHole") (T := TX11) (N := 12) hx hb hts (iq_RX11 _) hown hK hP 0 rfl rfl 4 (by decide) (hT _ qq_1_206) (fun _ h9 => h9) rfl dX11_emptySeats_12 ?_
  refine va_getN (D := D) (ci := 8) (v := .ref wd) (C := "WrongHole$Worn") (T := TX10) (N := 9) hx hb hts (iq_RX10 _) hown hK hP 1 rfl rfl 8 (by decide) (hN.f nq_1_115) (fun _ h9 => h9) rfl dX11_emptySeats_15 ?_
  refine lv_iload_n hx hb dX11_emptySeats_18 rfl (lv_at hl 0 rfl) ?_
  refine va_iald hx hb hK hP 2 0 rfl rfl (vi_c rfl) dX11_emptySeats_19 ?_
  refine tc_i (-1) (rfl) ?_
  refine lv_iconst (v := (-1)) hx hb dX11_emptySeats_20 (by decide) ?_
  refine lv_icmp_ne (tgt := 28) hx hb dX11_emptySeats_21 (by decide) (fun c_14 => absurd (by decide) c_14) (fun _ => ?_)
  refine lv_iconst (v := 1) hx hb dX11_emptySeats_24 (by decide) ?_
  refine lv_goto (tgt := 29) hx hb dX11_emptySeats_25 (by decide) ?_
  refine lv_iadd hx hb dX11_emptySeats_29 ?_
  refine tc_i 7 (by decide) ?_
  refine lv_istore_n (lv' := [(1, .int 7), (2, .int 6), (0, .ref x0)]) hx hb dX11_emptySeats_30 rfl hl (by decide) rfl (fun ls hl => ?_)
  refine lv_iinc (v := 7) (lv' := [(2, .int 7), (1, .int 7), (0, .ref x0)]) hx hb dX11_emptySeats_31 hl (k := 1) rfl (by decide) (by decide) rfl (fun ls hl => ?_)
  refine lv_goto (tgt := 4) hx hb dX11_emptySeats_34 (by decide) ?_
  refine lv_iload_n hx hb dX11_emptySeats_4 rfl (lv_at hl 0 rfl) ?_
  refine lv_bipush (v := 10) hx hb dX11_emptySeats_5 (by decide) ?_
  refine lv_icmp_ge (tgt := 37) hx hb dX11_emptySeats_7 (by decide) (fun c_15 => absurd c_15 (by decide)) (fun _ => ?_)
  refine lv_iload_n hx hb dX11_emptySeats_10 rfl (lv_at hl 1 rfl) ?_
  refine lv_aload_n hx hb dX11_emptySeats_11 rfl (lv_at hl 2 rfl) ?_
  refine va_get (D := D) (ci := 9) (v := .ref hn) (C := "WrongHole") (T := TX11) (N := 12) hx hb hts (iq_RX11 _) hown hK hP 0 rfl rfl 4 (by decide) (hT _ qq_1_206) (fun _ h9 => h9) rfl dX11_emptySeats_12 ?_
  refine va_getN (D := D) (ci := 8) (v := .ref wd) (C := "WrongHole$Worn") (T := TX10) (N := 9) hx hb hts (iq_RX10 _) hown hK hP 1 rfl rfl 8 (by decide) (hN.f nq_1_115) (fun _ h9 => h9) rfl dX11_emptySeats_15 ?_
  refine lv_iload_n hx hb dX11_emptySeats_18 rfl (lv_at hl 0 rfl) ?_
  refine va_iald hx hb hK hP 2 0 rfl rfl (vi_c rfl) dX11_emptySeats_19 ?_
  refine tc_i (-1) (rfl) ?_
  refine lv_iconst (v := (-1)) hx hb dX11_emptySeats_20 (by decide) ?_
  refine lv_icmp_ne (tgt := 28) hx hb dX11_emptySeats_21 (by decide) (fun c_16 => absurd (by decide) c_16) (fun _ => ?_)
  refine lv_iconst (v := 1) hx hb dX11_emptySeats_24 (by decide) ?_
  refine lv_goto (tgt := 29) hx hb dX11_emptySeats_25 (by decide) ?_
  refine lv_iadd hx hb dX11_emptySeats_29 ?_
  refine tc_i 8 (by decide) ?_
  refine lv_istore_n (lv' := [(1, .int 8), (2, .int 7), (0, .ref x0)]) hx hb dX11_emptySeats_30 rfl hl (by decide) rfl (fun ls hl => ?_)
  refine lv_iinc (v := 8) (lv' := [(2, .int 8), (1, .int 8), (0, .ref x0)]) hx hb dX11_emptySeats_31 hl (k := 1) rfl (by decide) (by decide) rfl (fun ls hl => ?_)
  refine lv_goto (tgt := 4) hx hb dX11_emptySeats_34 (by decide) ?_
  refine lv_iload_n hx hb dX11_emptySeats_4 rfl (lv_at hl 0 rfl) ?_
  refine lv_bipush (v := 10) hx hb dX11_emptySeats_5 (by decide) ?_
  refine lv_icmp_ge (tgt := 37) hx hb dX11_emptySeats_7 (by decide) (fun c_17 => absurd c_17 (by decide)) (fun _ => ?_)
  refine lv_iload_n hx hb dX11_emptySeats_10 rfl (lv_at hl 1 rfl) ?_
  refine lv_aload_n hx hb dX11_emptySeats_11 rfl (lv_at hl 2 rfl) ?_
  refine va_get (D := D) (ci := 9) (v := .ref hn) (C := "WrongHole") (T := TX11) (N := 12) hx hb hts (iq_RX11 _) hown hK hP 0 rfl rfl 4 (by decide) (hT _ qq_1_206) (fun _ h9 => h9) rfl dX11_emptySeats_12 ?_
  refine va_getN (D := D) (ci := 8) (v := .ref wd) (C := "WrongHole$Worn") (T := TX10) (N := 9) hx hb hts (iq_RX10 _) hown hK hP 1 rfl rfl 8 (by decide) (hN.f nq_1_115) (fun _ h9 => h9) rfl dX11_emptySeats_15 ?_
  refine lv_iload_n hx hb dX11_emptySeats_18 rfl (lv_at hl 0 rfl) ?_
  refine va_iald hx hb hK hP 2 0 rfl rfl (vi_c rfl) dX11_emptySeats_19 ?_
  refine tc_i (-1) (rfl) ?_
  refine lv_iconst (v := (-1)) hx hb dX11_emptySeats_20 (by decide) ?_
  refine lv_icmp_ne (tgt := 28) hx hb dX11_emptySeats_21 (by decide) (fun c_18 => absurd (by decide) c_18) (fun _ => ?_)
  refine lv_iconst (v := 1) hx hb dX11_emptySeats_24 (by decide) ?_
  refine lv_goto (tgt := 29) hx hb dX11_emptySeats_25 (by decide) ?_
  refine lv_iadd hx hb dX11_emptySeats_29 ?_
  refine tc_i 9 (by decide) ?_
  refine lv_istore_n (lv' := [(1, .int 9), (2, .int 8), (0, .ref x0)]) hx hb dX11_emptySeats_30 rfl hl (by decide) rfl (fun ls hl => ?_)
  refine lv_iinc (v := 9) (lv' := [(2, .int 9), (1, .int 9), (0, .ref x0)]) hx hb dX11_emptySeats_31 hl (k := 1) rfl (by decide) (by decide) rfl (fun ls hl => ?_)
  refine lv_goto (tgt := 4) hx hb dX11_emptySeats_34 (by decide) ?_
  refine lv_iload_n hx hb dX11_emptySeats_4 rfl (lv_at hl 0 rfl) ?_
  refine lv_bipush (v := 10) hx hb dX11_emptySeats_5 (by decide) ?_
  refine lv_icmp_ge (tgt := 37) hx hb dX11_emptySeats_7 (by decide) (fun c_19 => absurd c_19 (by decide)) (fun _ => ?_)
  refine lv_iload_n hx hb dX11_emptySeats_10 rfl (lv_at hl 1 rfl) ?_
  refine lv_aload_n hx hb dX11_emptySeats_11 rfl (lv_at hl 2 rfl) ?_
  refine va_get (D := D) (ci := 9) (v := .ref hn) (C := "WrongHole") (T := TX11) (N := 12) hx hb hts (iq_RX11 _) hown hK hP 0 rfl rfl 4 (by decide) (hT _ qq_1_206) (fun _ h9 => h9) rfl dX11_emptySeats_12 ?_
  refine va_getN (D := D) (ci := 8) (v := .ref wd) (C := "WrongHole$Worn") (T := TX10) (N := 9) hx hb hts (iq_RX10 _) hown hK hP 1 rfl rfl 8 (by decide) (hN.f nq_1_115) (fun _ h9 => h9) rfl dX11_emptySeats_15 ?_
  refine lv_iload_n hx hb dX11_emptySeats_18 rfl (lv_at hl 0 rfl) ?_
  refine va_iald hx hb hK hP 2 0 rfl rfl (vi_c rfl) dX11_emptySeats_19 ?_
  refine tc_i (-1) (rfl) ?_
  refine lv_iconst (v := (-1)) hx hb dX11_emptySeats_20 (by decide) ?_
  refine lv_icmp_ne (tgt := 28) hx hb dX11_emptySeats_21 (by decide) (fun c_20 => absurd (by decide) c_20) (fun _ => ?_)
  refine lv_iconst (v := 1) hx hb dX11_emptySeats_24 (by decide) ?_
  refine lv_goto (tgt := 29) hx hb dX11_emptySeats_25 (by decide) ?_
  refine lv_iadd hx hb dX11_emptySeats_29 ?_
  refine tc_i 10 (by decide) ?_
  refine lv_istore_n (lv' := [(1, .int 10), (2, .int 9), (0, .ref x0)]) hx hb dX11_emptySeats_30 rfl hl (by decide) rfl (fun ls hl => ?_)
  refine lv_iinc (v := 10) (lv' := [(2, .int 10), (1, .int 10), (0, .ref x0)]) hx hb dX11_emptySeats_31 hl (k := 1) rfl (by decide) (by decide) rfl (fun ls hl => ?_)
  refine lv_goto (tgt := 4) hx hb dX11_emptySeats_34 (by decide) ?_
  refine lv_iload_n hx hb dX11_emptySeats_4 rfl (lv_at hl 0 rfl) ?_
  refine lv_bipush (v := 10) hx hb dX11_emptySeats_5 (by decide) ?_
  refine lv_icmp_ge (tgt := 37) hx hb dX11_emptySeats_7 (by decide) (fun _ => ?_) (fun c_21 => absurd (by decide) c_21)
  refine lv_iload_n hx hb dX11_emptySeats_37 rfl (lv_at hl 1 rfl) ?_
  exact W.iret (v := 10) hx hb hr (fun t9 ht9 hW9 => ⟨rfl, ht9.trans hHe⟩) (fun _ h9 => absurd h9 List.not_mem_nil) dX11_emptySeats_38
theorem dX11_count_0 : decode cX11_count 0 = .ok (.aload_n 0, 1) := by decide +kernel
theorem dX11_count_1 : decode cX11_count 1 = .ok (.getfield 32, 3) := by decide +kernel
theorem dX11_count_4 : decode cX11_count 4 = .ok (.getfield 86, 3) := by decide +kernel
theorem dX11_count_7 : decode cX11_count 7 = .ok (.astore_n 2, 1) := by decide +kernel
theorem dX11_count_8 : decode cX11_count 8 = .ok (.iload_n 1, 1) := by decide +kernel
theorem dX11_count_9 : decode cX11_count 9 = .ok (.tableswitch 178 0 11 #[63, 76, 89, 94, 107, 115, 123, 136, 149, 157, 162, 170], 63) := by decide +kernel
theorem dX11_count_187 : decode cX11_count 187 = .ok (.iconst (-1), 1) := by decide +kernel
theorem dX11_count_188 : decode cX11_count 188 = .ok (.ireturn, 1) := by decide +kernel
theorem dX11_count_72 : decode cX11_count 72 = .ok (.aload_n 2, 1) := by decide +kernel
theorem dX11_count_73 : decode cX11_count 73 = .ok (.ifnonnull 7, 3) := by decide +kernel
theorem dX11_count_76 : decode cX11_count 76 = .ok (.iconst 0, 1) := by decide +kernel
theorem dX11_count_77 : decode cX11_count 77 = .ok (.goto 7, 3) := by decide +kernel
theorem dX11_count_84 : decode cX11_count 84 = .ok (.ireturn, 1) := by decide +kernel
theorem dX11_count_85 : decode cX11_count 85 = .ok (.aload_n 2, 1) := by decide +kernel
theorem dX11_count_86 : decode cX11_count 86 = .ok (.ifnonnull 7, 3) := by decide +kernel
theorem dX11_count_89 : decode cX11_count 89 = .ok (.iconst 0, 1) := by decide +kernel
theorem dX11_count_90 : decode cX11_count 90 = .ok (.goto 7, 3) := by decide +kernel
theorem dX11_count_97 : decode cX11_count 97 = .ok (.ireturn, 1) := by decide +kernel
theorem dX11_count_98 : decode cX11_count 98 = .ok (.aload_n 0, 1) := by decide +kernel
theorem dX11_count_99 : decode cX11_count 99 = .ok (.getfield 108, 3) := by decide +kernel
theorem dX11_count_102 : decode cX11_count 102 = .ok (.ireturn, 1) := by decide +kernel
theorem dX11_count_103 : decode cX11_count 103 = .ok (.aload_n 2, 1) := by decide +kernel
theorem dX11_count_104 : decode cX11_count 104 = .ok (.ifnonnull 7, 3) := by decide +kernel
theorem dX11_count_107 : decode cX11_count 107 = .ok (.iconst 0, 1) := by decide +kernel
theorem dX11_count_108 : decode cX11_count 108 = .ok (.goto 7, 3) := by decide +kernel
theorem dX11_count_115 : decode cX11_count 115 = .ok (.ireturn, 1) := by decide +kernel
theorem dX11_count_116 : decode cX11_count 116 = .ok (.aload_n 0, 1) := by decide +kernel
theorem dX11_count_117 : decode cX11_count 117 = .ok (.getfield 32, 3) := by decide +kernel
theorem dX11_count_120 : decode cX11_count 120 = .ok (.getfield 96, 3) := by decide +kernel
theorem nq_1_103 : Cond.fieldLinkNest "WrongHole" 96 "WrongHole$Worn" "clock" "I" "WrongHole" ∈ NW := mk_nw (ti_1 (List.mem_of_getElem? (i := 103) rfl)) rfl
theorem dX11_count_123 : decode cX11_count 123 = .ok (.ireturn, 1) := by decide +kernel
theorem dX11_count_124 : decode cX11_count 124 = .ok (.aload_n 0, 1) := by decide +kernel
theorem dX11_count_125 : decode cX11_count 125 = .ok (.getfield 43, 3) := by decide +kernel
theorem dX11_count_128 : decode cX11_count 128 = .ok (.getfield 203, 3) := by decide +kernel
theorem dX11_count_131 : decode cX11_count 131 = .ok (.ireturn, 1) := by decide +kernel
theorem dX11_count_132 : decode cX11_count 132 = .ok (.aload_n 2, 1) := by decide +kernel
theorem dX11_count_133 : decode cX11_count 133 = .ok (.ifnonnull 7, 3) := by decide +kernel
theorem dX11_count_136 : decode cX11_count 136 = .ok (.iconst (-1), 1) := by decide +kernel
theorem dX11_count_137 : decode cX11_count 137 = .ok (.goto 7, 3) := by decide +kernel
theorem dX11_count_144 : decode cX11_count 144 = .ok (.ireturn, 1) := by decide +kernel
theorem dX11_count_145 : decode cX11_count 145 = .ok (.aload_n 2, 1) := by decide +kernel
theorem dX11_count_146 : decode cX11_count 146 = .ok (.ifnonnull 7, 3) := by decide +kernel
theorem dX11_count_149 : decode cX11_count 149 = .ok (.iconst 0, 1) := by decide +kernel
theorem dX11_count_150 : decode cX11_count 150 = .ok (.goto 7, 3) := by decide +kernel
theorem dX11_count_157 : decode cX11_count 157 = .ok (.ireturn, 1) := by decide +kernel
theorem dX11_count_158 : decode cX11_count 158 = .ok (.aload_n 0, 1) := by decide +kernel
theorem dX11_count_159 : decode cX11_count 159 = .ok (.getfield 32, 3) := by decide +kernel
theorem dX11_count_162 : decode cX11_count 162 = .ok (.getfield 99, 3) := by decide +kernel
theorem dX11_count_165 : decode cX11_count 165 = .ok (.ireturn, 1) := by decide +kernel
theorem dX11_count_166 : decode cX11_count 166 = .ok (.aload_n 0, 1) := by decide +kernel
theorem dX11_count_167 : decode cX11_count 167 = .ok (.invokevirtual 333, 3) := by decide +kernel
theorem qq_5_131 : Cond.code yX11_emptySeats cX11_emptySeats 3 (some .int) ∈ TB := mk_tb (ti_5 (List.mem_of_getElem? (i := 131) rfl)) rfl
theorem qq_5_128 : Cond.methodLink "WrongHole" 333 yX11_emptySeats ∈ TB := mk_tb (ti_5 (List.mem_of_getElem? (i := 128) rfl)) rfl
theorem qq_5_130 : Cond.instanceMethod yX11_emptySeats ∈ TB := mk_tb (ti_5 (List.mem_of_getElem? (i := 130) rfl)) rfl
theorem qs_1_14 : Cond.selects "WrongHole" yX11_emptySeats yX11_emptySeats ∈ TB := mk_tb (ti_s (q := (yX11_emptySeats, 12)) (List.mem_append_right _ (List.mem_append_left _ (List.mem_of_getElem? (i := 14) rfl)))) rfl
theorem dX11_count_170 : decode cX11_count 170 = .ok (.ireturn, 1) := by decide +kernel
theorem dX11_count_171 : decode cX11_count 171 = .ok (.aload_n 0, 1) := by decide +kernel
theorem dX11_count_172 : decode cX11_count 172 = .ok (.getfield 32, 3) := by decide +kernel
theorem dX11_count_175 : decode cX11_count 175 = .ok (.getfield 315, 3) := by decide +kernel
theorem dX11_count_178 : decode cX11_count 178 = .ok (.ireturn, 1) := by decide +kernel
theorem dX11_count_179 : decode cX11_count 179 = .ok (.aload_n 0, 1) := by decide +kernel
theorem dX11_count_180 : decode cX11_count 180 = .ok (.getfield 10, 3) := by decide +kernel
theorem dX11_count_183 : decode cX11_count 183 = .ok (.getfield 73, 3) := by decide +kernel
theorem dX11_count_186 : decode cX11_count 186 = .ok (.ireturn, 1) := by decide +kernel
set_option maxHeartbeats 4000000 in
set_option maxRecDepth 100000 in
theorem c_x_count (l : Launch) (D : va_G) (ad : Nat → Nat) (sz : Nat) (x0 : Nat) (ht : Nat) (hrr : Nat) (hru : Nat) (hn : Nat) (him : Nat) (hp : Nat) (hac : Nat) (hfo : Nat) (hwd : Nat) (wa : Nat) (wb : Nat) (wc : Nat) (wd : Nat) (kwd : ClassId) (pa1 : Nat) (pa2 : Nat) (hs : Nat) (a1 : Int32)  : Met l yX11_count (Cond.code yX11_count cX11_count 3 (some .int) :: TB) (RM 1 0 0) (va_Pc [.ref x0, .int a1] (PRE D ad [(x0, .inr (9, [.ref ht, .ref hrr, .ref hru, .int 0, .ref hn, .ref him, .ref hp, .ref hac, .ref hfo, .ref hwd, .null, .null])), (hn, .inr (8, [.null, .int 0, .int 0, .int 0, .int 0, .ref wa, .ref wb, .ref wc, .ref wd])), (wd, .inl (kwd, 10, .inl (fun _ => (-1)))), (hp, .inr (3, [.ref pa1, .ref pa2, .int 0, .int 0])), (ht, .inr (7, [.ref hs, .int 0, .int 0, .int 0, .int 0, .int 0, .int 0, .int 0]))] [(kwd, .int)] sz)) (k2_QcV (.int (r_count a1))) 0 0 (fun _ => False) := by
  refine MET (y := yX11_count) (cc := cX11_count) (maxL := 3) (ret := (some .int)) (d := 1) (mc := 0) (ms := 0) (D := D) (ad := ad) (ws := [(x0, .inr (9, [.ref ht, .ref hrr, .ref hru, .int 0, .ref hn, .ref him, .ref hp, .ref hac, .ref hfo, .ref hwd, .null, .null])), (hn, .inr (8, [.null, .int 0, .int 0, .int 0, .int 0, .ref wa, .ref wb, .ref wc, .ref wd])), (wd, .inl (kwd, 10, .inl (fun _ => (-1)))), (hp, .inr (3, [.ref pa1, .ref pa2, .int 0, .int 0])), (ht, .inr (7, [.ref hs, .int 0, .int 0, .int 0, .int 0, .int 0, .int 0, .int 0]))]) (tys := [(kwd, .int)]) (sz := sz) (av := [.ref x0, .int a1]) (Qc := fun A => k2_QcV (.int (r_count a1))) (fr := fun A => (fun _ => False)) (by decide) (Nat.le_of_ble_eq_true rfl) ?_
  intro p e s m below meth c ls A H hHe hx hb hr hml hown hts hlocks hnm hP hK hD hA hS hN hl
  have hown : s.vm.findClass "WrongHole" = some m.cls := hown
  have hT : ∀ w ∈ TB, w.before ([.ref x0, .int a1] : List Value).toArray s = true := fun w h => hts w (List.mem_cons_of_mem _ h)
  have hl : lv_has ls 3 [(0, .ref x0), (1, .int a1)] := hl
  have hP : va_P D vwCl [(x0, .inr (9, [.ref ht, .ref hrr, .ref hru, .int 0, .ref hn, .ref him, .ref hp, .ref hac, .ref hfo, .ref hwd, .null, .null])), (hn, .inr (8, [.null, .int 0, .int 0, .int 0, .int 0, .ref wa, .ref wb, .ref wc, .ref wd])), (wd, .inl (kwd, 10, .inl (fun _ => (-1)))), (hp, .inr (3, [.ref pa1, .ref pa2, .int 0, .int 0])), (ht, .inr (7, [.ref hs, .int 0, .int 0, .int 0, .int 0, .int 0, .int 0, .int 0]))] H := hP
  refine lv_aload_n hx hb dX11_count_0 rfl (lv_at hl 0 rfl) ?_
  refine va_get (D := D) (ci := 9) (v := .ref hn) (C := "WrongHole") (T := TX11) (N := 12) hx hb hts (iq_RX11 _) hown hK hP 0 rfl rfl 4 (by decide) (hT _ qq_1_206) (fun _ h9 => h9) rfl dX11_count_1 ?_
  refine va_getN (D := D) (ci := 8) (v := .null) (C := "WrongHole$Worn") (T := TX10) (N := 9) hx hb hts (iq_RX10 _) hown hK hP 1 rfl rfl 0 (by decide) (hN.f nq_1_99) (fun _ h9 => h9) rfl dX11_count_4 ?_
  refine lv_astore_nN (lv' := [(2, .null), (0, .ref x0), (1, .int a1)]) hx hb dX11_count_7 rfl hl (by decide) rfl (fun ls hl => ?_)
  refine lv_iload_n hx hb dX11_count_8 rfl (lv_at hl 2 rfl) ?_
  by_cases c_1 : Int32.toInt a1 < 0 ∨ 11 < Int32.toInt a1
  · refine lv_tableOut (tgt := 187) hx hb dX11_count_9 c_1 (by decide) ?_
    refine lv_iconst (v := (-1)) hx hb dX11_count_187 (by decide) ?_
    exact W.iret (v := (-1)) hx hb hr (fun t9 ht9 hW9 => ⟨by rw [show (.int (r_count a1) : Value) = .int (-1) from (congrArg Value.int (by unfold r_count; rw [if_pos c_1]))], ht9.trans hHe⟩) (fun _ h9 => absurd h9 List.not_mem_nil) dX11_count_188
  · have hsw : a1 = 0 ∨ a1 = 1 ∨ a1 = 2 ∨ a1 = 3 ∨ a1 = 4 ∨ a1 = 5 ∨ a1 = 6 ∨ a1 = 7 ∨ a1 = 8 ∨ a1 = 9 ∨ a1 = 10 ∨ a1 = 11 := by
      have h9 : ∀ v : Int32, ¬ (Int32.toInt v < 0 ∨ 11 < Int32.toInt v) → v = 0 ∨ v = 1 ∨ v = 2 ∨ v = 3 ∨ v = 4 ∨ v = 5 ∨ v = 6 ∨ v = 7 ∨ v = 8 ∨ v = 9 ∨ v = 10 ∨ v = 11 := fun v hv => by
        simp only [← Int32.toInt_inj]
        have h8 : ∀ n : Int32, True := fun _ => trivial
        simp (config := { decide := true }) only [show Int32.toInt 0 = 0 from rfl, show Int32.toInt 1 = 1 from rfl, show Int32.toInt 2 = 2 from rfl, show Int32.toInt 3 = 3 from rfl, show Int32.toInt 4 = 4 from rfl, show Int32.toInt 5 = 5 from rfl, show Int32.toInt 6 = 6 from rfl, show Int32.toInt 7 = 7 from rfl, show Int32.toInt 8 = 8 from rfl, show Int32.toInt 9 = 9 from rfl, show Int32.toInt 10 = 10 from rfl, show Int32.toInt 11 = 11 from rfl]
        omega
      exact h9 _ c_1
    rcases hsw with hsw | hsw | hsw | hsw | hsw | hsw | hsw | hsw | hsw | hsw | hsw | hsw
    · subst hsw
      refine lv_tableIn (tgt := 72) hx hb dX11_count_9 (by decide) (by decide) rfl (by decide) ?_
      refine lv_aload_nN hx hb dX11_count_72 rfl (lv_at hl 0 rfl) ?_
      refine lv_ifnonnullN hx hb dX11_count_73 ?_
      refine lv_iconst (v := 0) hx hb dX11_count_76 (by decide) ?_
      refine lv_goto (tgt := 84) hx hb dX11_count_77 (by decide) ?_
      exact W.iret (v := 0) hx hb hr (fun t9 ht9 hW9 => ⟨by rw [show (.int (r_count 0) : Value) = .int 0 from (congrArg Value.int (by decide))], ht9.trans hHe⟩) (fun _ h9 => absurd h9 List.not_mem_nil) dX11_count_84
    · subst hsw
      refine lv_tableIn (tgt := 85) hx hb dX11_count_9 (by decide) (by decide) rfl (by decide) ?_
      refine lv_aload_nN hx hb dX11_count_85 rfl (lv_at hl 0 rfl) ?_
      refine lv_ifnonnullN hx hb dX11_count_86 ?_
      refine lv_iconst (v := 0) hx hb dX11_count_89 (by decide) ?_
      refine lv_goto (tgt := 97) hx hb dX11_count_90 (by decide) ?_
      exact W.iret (v := 0) hx hb hr (fun t9 ht9 hW9 => ⟨by rw [show (.int (r_count 1) : Value) = .int 0 from (congrArg Value.int (by decide))], ht9.trans hHe⟩) (fun _ h9 => absurd h9 List.not_mem_nil) dX11_count_97
    · subst hsw
      refine lv_tableIn (tgt := 98) hx hb dX11_count_9 (by decide) (by decide) rfl (by decide) ?_
      refine lv_aload_n hx hb dX11_count_98 rfl (lv_at hl 1 rfl) ?_
      refine va_get (D := D) (ci := 9) (v := .int 0) (C := "WrongHole") (T := TX11) (N := 12) hx hb hts (iq_RX11 _) hown hK hP 0 rfl rfl 3 (by decide) (hT _ qq_1_205) (fun _ h9 => h9) rfl dX11_count_99 ?_
      exact W.iret (v := 0) hx hb hr (fun t9 ht9 hW9 => ⟨by rw [show (.int (r_count 2) : Value) = .int 0 from (congrArg Value.int (by decide))], ht9.trans hHe⟩) (fun _ h9 => absurd h9 List.not_mem_nil) dX11_count_102
    · subst hsw
      refine lv_tableIn (tgt := 103) hx hb dX11_count_9 (by decide) (by decide) rfl (by decide) ?_
      refine lv_aload_nN hx hb dX11_count_103 rfl (lv_at hl 0 rfl) ?_
      refine lv_ifnonnullN hx hb dX11_count_104 ?_
      refine lv_iconst (v := 0) hx hb dX11_count_107 (by decide) ?_
      refine lv_goto (tgt := 115) hx hb dX11_count_108 (by decide) ?_
      exact W.iret (v := 0) hx hb hr (fun t9 ht9 hW9 => ⟨by rw [show (.int (r_count 3) : Value) = .int 0 from (congrArg Value.int (by decide))], ht9.trans hHe⟩) (fun _ h9 => absurd h9 List.not_mem_nil) dX11_count_115
    · subst hsw
      refine lv_tableIn (tgt := 116) hx hb dX11_count_9 (by decide) (by decide) rfl (by decide) ?_
      refine lv_aload_n hx hb dX11_count_116 rfl (lv_at hl 1 rfl) ?_
      refine va_get (D := D) (ci := 9) (v := .ref hn) (C := "WrongHole") (T := TX11) (N := 12) hx hb hts (iq_RX11 _) hown hK hP 0 rfl rfl 4 (by decide) (hT _ qq_1_206) (fun _ h9 => h9) rfl dX11_count_117 ?_
      refine va_getN (D := D) (ci := 8) (v := .int 0) (C := "WrongHole$Worn") (T := TX10) (N := 9) hx hb hts (iq_RX10 _) hown hK hP 1 rfl rfl 2 (by decide) (hN.f nq_1_103) (fun _ h9 => h9) rfl dX11_count_120 ?_
      exact W.iret (v := 0) hx hb hr (fun t9 ht9 hW9 => ⟨by rw [show (.int (r_count 4) : Value) = .int 0 from (congrArg Value.int (by decide))], ht9.trans hHe⟩) (fun _ h9 => absurd h9 List.not_mem_nil) dX11_count_123
    · subst hsw
      refine lv_tableIn (tgt := 124) hx hb dX11_count_9 (by decide) (by decide) rfl (by decide) ?_
      refine lv_aload_n hx hb dX11_count_124 rfl (lv_at hl 1 rfl) ?_
      refine va_get (D := D) (ci := 9) (v := .ref hp) (C := "WrongHole") (T := TX11) (N := 12) hx hb hts (iq_RX11 _) hown hK hP 0 rfl rfl 6 (by decide) (hT _ qq_1_208) (fun _ h9 => h9) rfl dX11_count_125 ?_
      refine va_getN (D := D) (ci := 3) (v := .int 0) (C := "WrongHole$Past") (T := TX4) (N := 4) hx hb hts (iq_RX4 _) hown hK hP 3 rfl rfl 3 (by decide) (hN.f nq_1_146) (fun _ h9 => h9) rfl dX11_count_128 ?_
      exact W.iret (v := 0) hx hb hr (fun t9 ht9 hW9 => ⟨by rw [show (.int (r_count 5) : Value) = .int 0 from (congrArg Value.int (by decide))], ht9.trans hHe⟩) (fun _ h9 => absurd h9 List.not_mem_nil) dX11_count_131
    · subst hsw
      refine lv_tableIn (tgt := 132) hx hb dX11_count_9 (by decide) (by decide) rfl (by decide) ?_
      refine lv_aload_nN hx hb dX11_count_132 rfl (lv_at hl 0 rfl) ?_
      refine lv_ifnonnullN hx hb dX11_count_133 ?_
      refine lv_iconst (v := (-1)) hx hb dX11_count_136 (by decide) ?_
      refine lv_goto (tgt := 144) hx hb dX11_count_137 (by decide) ?_
      exact W.iret (v := (-1)) hx hb hr (fun t9 ht9 hW9 => ⟨by rw [show (.int (r_count 6) : Value) = .int (-1) from (congrArg Value.int (by decide))], ht9.trans hHe⟩) (fun _ h9 => absurd h9 List.not_mem_nil) dX11_count_144
    · subst hsw
      refine lv_tableIn (tgt := 145) hx hb dX11_count_9 (by decide) (by decide) rfl (by decide) ?_
      refine lv_aload_nN hx hb dX11_count_145 rfl (lv_at hl 0 rfl) ?_
      refine lv_ifnonnullN hx hb dX11_count_146 ?_
      refine lv_iconst (v := 0) hx hb dX11_count_149 (by decide) ?_
      refine lv_goto (tgt := 157) hx hb dX11_count_150 (by decide) ?_
      exact W.iret (v := 0) hx hb hr (fun t9 ht9 hW9 => ⟨by rw [show (.int (r_count 7) : Value) = .int 0 from (congrArg Value.int (by decide))], ht9.trans hHe⟩) (fun _ h9 => absurd h9 List.not_mem_nil) dX11_count_157
    · subst hsw
      refine lv_tableIn (tgt := 158) hx hb dX11_count_9 (by decide) (by decide) rfl (by decide) ?_
      refine lv_aload_n hx hb dX11_count_158 rfl (lv_at hl 1 rfl) ?_
      refine va_get (D := D) (ci := 9) (v := .ref hn) (C := "WrongHole") (T := TX11) (N := 12) hx hb hts (iq_RX11 _) hown hK hP 0 rfl rfl 4 (by decide) (hT _ qq_1_206) (fun _ h9 => h9) rfl dX11_count_159 ?_
      refine va_getN (D := D) (ci := 8) (v := .int 0) (C := "WrongHole$Worn") (T := TX10) (N := 9) hx hb hts (iq_RX10 _) hown hK hP 1 rfl rfl 4 (by decide) (hN.f nq_1_107) (fun _ h9 => h9) rfl dX11_count_162 ?_
      exact W.iret (v := 0) hx hb hr (fun t9 ht9 hW9 => ⟨by rw [show (.int (r_count 8) : Value) = .int 0 from (congrArg Value.int (by decide))], ht9.trans hHe⟩) (fun _ h9 => absurd h9 List.not_mem_nil) dX11_count_165
    · subst hsw
      refine lv_tableIn (tgt := 166) hx hb dX11_count_9 (by decide) (by decide) rfl (by decide) ?_
      refine lv_aload_n hx hb dX11_count_166 rfl (lv_at hl 1 rfl) ?_
      have hPc := hP.sub (ws' := [(x0, .inr (9, [.ref ht, .ref hrr, .ref hru, .int 0, .ref hn, .ref him, .ref hp, .ref hac, .ref hfo, .ref hwd, .null, .null])), (hn, .inr (8, [.null, .int 0, .int 0, .int 0, .int 0, .ref wa, .ref wb, .ref wc, .ref wd])), (wd, .inl (kwd, 10, .inl (fun _ => (-1))))]) [0, 1, 2] rfl
      have hDc := hD.sub (ws' := [(x0, .inr (9, [.ref ht, .ref hrr, .ref hru, .int 0, .ref hn, .ref him, .ref hp, .ref hac, .ref hfo, .ref hwd, .null, .null])), (hn, .inr (8, [.null, .int 0, .int 0, .int 0, .int 0, .ref wa, .ref wb, .ref wc, .ref wd])), (wd, .inl (kwd, 10, .inl (fun _ => (-1))))]) [0, 1, 2] (by decide) rfl
      have hKc := hK.sub (tys' := [(kwd, .int)]) [0] rfl
      refine cl_V (W.runV (As := []) (rest := []) ⟨hx, hb, hml, hown, hts⟩ (c_emptySeats l D ad H.size x0 ht hrr hru hn him hp hac hfo hwd wa wb wc wd kwd) ⟨callB_of 0 hts (gd_C qq_5_131) rfl rfl rfl (hT _ qq_1_1) (hT _ qq_5_128) (by decide +kernel) (rm_R rfl rfl), (hT _ qq_5_130), (hT _ qs_1_14)⟩ (pr_V hPc hKc hDc hN (ci := 9) (q0 := 0) rfl rfl) rfl rfl hl.1 rfl (lv_room (Nat.le_of_ble_eq_true rfl)) dX11_count_167 ⟨Nat.le_of_ble_eq_true rfl, Nat.le_of_ble_eq_true rfl⟩) ?_
      exact W.iret (v := 10) hx hb hr (fun t9 ht9 hW9 => ⟨by rw [show (.int (r_count 9) : Value) = .int 10 from (congrArg Value.int (by decide))], ht9.trans hHe⟩) (fun _ h9 => absurd h9 List.not_mem_nil) dX11_count_170
    · subst hsw
      refine lv_tableIn (tgt := 171) hx hb dX11_count_9 (by decide) (by decide) rfl (by decide) ?_
      refine lv_aload_n hx hb dX11_count_171 rfl (lv_at hl 1 rfl) ?_
      refine va_get (D := D) (ci := 9) (v := .ref hn) (C := "WrongHole") (T := TX11) (N := 12) hx hb hts (iq_RX11 _) hown hK hP 0 rfl rfl 4 (by decide) (hT _ qq_1_206) (fun _ h9 => h9) rfl dX11_count_172 ?_
      refine va_getN (D := D) (ci := 8) (v := .int 0) (C := "WrongHole$Worn") (T := TX10) (N := 9) hx hb hts (iq_RX10 _) hown hK hP 1 rfl rfl 3 (by decide) (hN.f nq_1_105) (fun _ h9 => h9) rfl dX11_count_175 ?_
      exact W.iret (v := 0) hx hb hr (fun t9 ht9 hW9 => ⟨by rw [show (.int (r_count 10) : Value) = .int 0 from (congrArg Value.int (by decide))], ht9.trans hHe⟩) (fun _ h9 => absurd h9 List.not_mem_nil) dX11_count_178
    · subst hsw
      refine lv_tableIn (tgt := 179) hx hb dX11_count_9 (by decide) (by decide) rfl (by decide) ?_
      refine lv_aload_n hx hb dX11_count_179 rfl (lv_at hl 1 rfl) ?_
      refine va_get (D := D) (ci := 9) (v := .ref ht) (C := "WrongHole") (T := TX11) (N := 12) hx hb hts (iq_RX11 _) hown hK hP 0 rfl rfl 0 (by decide) (hT _ qq_1_202) (fun _ h9 => h9) rfl dX11_count_180 ?_
      refine va_getN (D := D) (ci := 7) (v := .int 0) (C := "WrongHole$Text") (T := TX9) (N := 8) hx hb hts (iq_RX9 _) hown hK hP 4 rfl rfl 1 (by decide) (hN.f nq_1_38) (fun _ h9 => h9) rfl dX11_count_183 ?_
      exact W.iret (v := 0) hx hb hr (fun t9 ht9 hW9 => ⟨by rw [show (.int (r_count 11) : Value) = .int 0 from (congrArg Value.int (by decide))], ht9.trans hHe⟩) (fun _ h9 => absurd h9 List.not_mem_nil) dX11_count_186
theorem dX10_become_0 : decode cX10_become 0 = .ok (.aload_n 0, 1) := by decide +kernel
theorem dX10_become_1 : decode cX10_become 1 = .ok (.aload_n 1, 1) := by decide +kernel
theorem dX10_become_2 : decode cX10_become 2 = .ok (.getfield 30, 3) := by decide +kernel
theorem qq_1_98 : Cond.fieldLink "WrongHole$Worn" 30 "WrongHole$Worn" "lift" "LWrongHole$Lift;" ∈ TB := mk_tb (ti_1 (List.mem_of_getElem? (i := 98) rfl)) rfl
theorem dX10_become_5 : decode cX10_become 5 = .ok (.putfield 30, 3) := by decide +kernel
theorem dX10_become_8 : decode cX10_become 8 = .ok (.aload_n 0, 1) := by decide +kernel
theorem dX10_become_9 : decode cX10_become 9 = .ok (.aload_n 1, 1) := by decide +kernel
theorem dX10_become_10 : decode cX10_become 10 = .ok (.getfield 34, 3) := by decide +kernel
theorem qq_1_100 : Cond.fieldLink "WrongHole$Worn" 34 "WrongHole$Worn" "key" "I" ∈ TB := mk_tb (ti_1 (List.mem_of_getElem? (i := 100) rfl)) rfl
theorem dX10_become_13 : decode cX10_become 13 = .ok (.putfield 34, 3) := by decide +kernel
theorem dX10_become_16 : decode cX10_become 16 = .ok (.aload_n 0, 1) := by decide +kernel
theorem dX10_become_17 : decode cX10_become 17 = .ok (.aload_n 1, 1) := by decide +kernel
theorem dX10_become_18 : decode cX10_become 18 = .ok (.getfield 38, 3) := by decide +kernel
theorem qq_1_102 : Cond.fieldLink "WrongHole$Worn" 38 "WrongHole$Worn" "clock" "I" ∈ TB := mk_tb (ti_1 (List.mem_of_getElem? (i := 102) rfl)) rfl
theorem dX10_become_21 : decode cX10_become 21 = .ok (.putfield 38, 3) := by decide +kernel
theorem dX10_become_24 : decode cX10_become 24 = .ok (.aload_n 0, 1) := by decide +kernel
theorem dX10_become_25 : decode cX10_become 25 = .ok (.aload_n 1, 1) := by decide +kernel
theorem dX10_become_26 : decode cX10_become 26 = .ok (.getfield 41, 3) := by decide +kernel
theorem qq_1_104 : Cond.fieldLink "WrongHole$Worn" 41 "WrongHole$Worn" "x" "I" ∈ TB := mk_tb (ti_1 (List.mem_of_getElem? (i := 104) rfl)) rfl
theorem dX10_become_29 : decode cX10_become 29 = .ok (.putfield 41, 3) := by decide +kernel
theorem dX10_become_32 : decode cX10_become 32 = .ok (.aload_n 0, 1) := by decide +kernel
theorem dX10_become_33 : decode cX10_become 33 = .ok (.aload_n 1, 1) := by decide +kernel
theorem dX10_become_34 : decode cX10_become 34 = .ok (.getfield 44, 3) := by decide +kernel
theorem qq_1_106 : Cond.fieldLink "WrongHole$Worn" 44 "WrongHole$Worn" "creases" "I" ∈ TB := mk_tb (ti_1 (List.mem_of_getElem? (i := 106) rfl)) rfl
theorem dX10_become_37 : decode cX10_become 37 = .ok (.putfield 44, 3) := by decide +kernel
theorem dX10_become_40 : decode cX10_become 40 = .ok (.aload_n 1, 1) := by decide +kernel
theorem dX10_become_41 : decode cX10_become 41 = .ok (.getfield 9, 3) := by decide +kernel
theorem dX10_become_44 : decode cX10_become 44 = .ok (.iconst 0, 1) := by decide +kernel
theorem dX10_become_45 : decode cX10_become 45 = .ok (.aload_n 0, 1) := by decide +kernel
theorem dX10_become_46 : decode cX10_become 46 = .ok (.getfield 9, 3) := by decide +kernel
theorem dX10_become_49 : decode cX10_become 49 = .ok (.iconst 0, 1) := by decide +kernel
theorem dX10_become_50 : decode cX10_become 50 = .ok (.bipush 10, 2) := by decide +kernel
theorem dX10_become_52 : decode cX10_become 52 = .ok (.invokestatic 47, 3) := by decide +kernel
theorem qq_5_140 : Cond.methodLink "WrongHole$Worn" 47 (⟨"java/lang/System", "arraycopy", "(Ljava/lang/Object;ILjava/lang/Object;II)V"⟩ : MethodName) ∈ TB := mk_tb (ti_5 (List.mem_of_getElem? (i := 140) rfl)) rfl
theorem qq_3_141 : Cond.native (⟨"java/lang/System", "arraycopy", "(Ljava/lang/Object;ILjava/lang/Object;II)V"⟩ : MethodName) ∈ TB := mk_tb (ti_3 (List.mem_of_getElem? (i := 141) rfl)) rfl
theorem qq_3_140 : Cond.static (⟨"java/lang/System", "arraycopy", "(Ljava/lang/Object;ILjava/lang/Object;II)V"⟩ : MethodName) ∈ TB := mk_tb (ti_3 (List.mem_of_getElem? (i := 140) rfl)) rfl
theorem qq_1_20 : Cond.initialized "java/lang/System" ∈ TB := mk_tb (ti_1 (List.mem_of_getElem? (i := 20) rfl)) rfl
theorem dX10_become_55 : decode cX10_become 55 = .ok (.aload_n 1, 1) := by decide +kernel
theorem dX10_become_56 : decode cX10_become 56 = .ok (.getfield 15, 3) := by decide +kernel
theorem dX10_become_59 : decode cX10_become 59 = .ok (.iconst 0, 1) := by decide +kernel
theorem dX10_become_60 : decode cX10_become 60 = .ok (.aload_n 0, 1) := by decide +kernel
theorem dX10_become_61 : decode cX10_become 61 = .ok (.getfield 15, 3) := by decide +kernel
theorem dX10_become_64 : decode cX10_become 64 = .ok (.iconst 0, 1) := by decide +kernel
theorem dX10_become_65 : decode cX10_become 65 = .ok (.bipush 10, 2) := by decide +kernel
theorem dX10_become_67 : decode cX10_become 67 = .ok (.invokestatic 47, 3) := by decide +kernel
theorem dX10_become_70 : decode cX10_become 70 = .ok (.aload_n 1, 1) := by decide +kernel
theorem dX10_become_71 : decode cX10_become 71 = .ok (.getfield 18, 3) := by decide +kernel
theorem dX10_become_74 : decode cX10_become 74 = .ok (.iconst 0, 1) := by decide +kernel
theorem dX10_become_75 : decode cX10_become 75 = .ok (.aload_n 0, 1) := by decide +kernel
theorem dX10_become_76 : decode cX10_become 76 = .ok (.getfield 18, 3) := by decide +kernel
theorem dX10_become_79 : decode cX10_become 79 = .ok (.iconst 0, 1) := by decide +kernel
theorem dX10_become_80 : decode cX10_become 80 = .ok (.bipush 10, 2) := by decide +kernel
theorem dX10_become_82 : decode cX10_become 82 = .ok (.invokestatic 47, 3) := by decide +kernel
theorem dX10_become_85 : decode cX10_become 85 = .ok (.aload_n 1, 1) := by decide +kernel
theorem dX10_become_86 : decode cX10_become 86 = .ok (.getfield 21, 3) := by decide +kernel
theorem dX10_become_89 : decode cX10_become 89 = .ok (.iconst 0, 1) := by decide +kernel
theorem dX10_become_90 : decode cX10_become 90 = .ok (.aload_n 0, 1) := by decide +kernel
theorem dX10_become_91 : decode cX10_become 91 = .ok (.getfield 21, 3) := by decide +kernel
theorem dX10_become_94 : decode cX10_become 94 = .ok (.iconst 0, 1) := by decide +kernel
theorem dX10_become_95 : decode cX10_become 95 = .ok (.bipush 10, 2) := by decide +kernel
theorem dX10_become_97 : decode cX10_become 97 = .ok (.invokestatic 47, 3) := by decide +kernel
theorem dX10_become_100 : decode cX10_become 100 = .ok (.return_, 1) := by decide +kernel
set_option maxHeartbeats 4000000 in
set_option maxRecDepth 100000 in
theorem c_become (l : Launch) (D : va_G) (ad : Nat → Nat) (sz : Nat) (hv : Nat) (va : Nat) (vb : Nat) (vc : Nat) (vd : Nat) (kva : ClassId) (kvb : ClassId) (kvc : ClassId) (kvd : ClassId) (hn : Nat) (wa : Nat) (wb : Nat) (wc : Nat) (wd : Nat) (kwa : ClassId) (kwb : ClassId) (kwc : ClassId) (kwd : ClassId)  : Met l yX10_become (Cond.code yX10_become cX10_become 2 none :: TB) (RM 1 0 0) (va_Pc [.ref hv, .ref hn] (PRE D ad [(hv, .inr (8, [.null, .int 0, .int 0, .int 0, .int 0, .ref va, .ref vb, .ref vc, .ref vd])), (va, .inl (kva, 10, .inl (fun _ => 0))), (vb, .inl (kvb, 10, .inl (fun _ => 0))), (vc, .inl (kvc, 10, .inl (fun _ => 0))), (vd, .inl (kvd, 10, .inl (fun _ => (-1)))), (hn, .inr (8, [.null, .int 0, .int 0, .int 0, .int 0, .ref wa, .ref wb, .ref wc, .ref wd])), (wa, .inl (kwa, 10, .inl (fun _ => 0))), (wb, .inl (kwb, 10, .inl (fun _ => 0))), (wc, .inl (kwc, 10, .inl (fun _ => 0))), (wd, .inl (kwd, 10, .inl (fun _ => (-1))))] [(kva, .int), (kvb, .int), (kvc, .int), (kvd, .int), (kwa, .int), (kwb, .int), (kwc, .int), (kwd, .int)] sz)) (va_Qv (S := Unit) (fun _ => True) (fun _ t => va_P D vwCl [(hn, .inr (8, [.null, .int 0, .int 0, .int 0, .int 0, .ref wa, .ref wb, .ref wc, .ref wd]))] t.heap ∧ va_K D vwCl [] t ∧ va_D (va_A [(hv, .inr (8, [.null, .int 0, .int 0, .int 0, .int 0, .ref va, .ref vb, .ref vc, .ref vd])), (va, .inl (kva, 10, .inl (fun _ => 0))), (vb, .inl (kvb, 10, .inl (fun _ => 0))), (vc, .inl (kvc, 10, .inl (fun _ => 0))), (vd, .inl (kvd, 10, .inl (fun _ => (-1)))), (hn, .inr (8, [.null, .int 0, .int 0, .int 0, .int 0, .ref wa, .ref wb, .ref wc, .ref wd])), (wa, .inl (kwa, 10, .inl (fun _ => 0))), (wb, .inl (kwb, 10, .inl (fun _ => 0))), (wc, .inl (kwc, 10, .inl (fun _ => 0))), (wd, .inl (kwd, 10, .inl (fun _ => (-1))))] sz) [(hn, .inr (8, [.null, .int 0, .int 0, .int 0, .int 0, .ref wa, .ref wb, .ref wc, .ref wd]))]) (va_A [(hv, .inr (8, [.null, .int 0, .int 0, .int 0, .int 0, .ref va, .ref vb, .ref vc, .ref vd])), (va, .inl (kva, 10, .inl (fun _ => 0))), (vb, .inl (kvb, 10, .inl (fun _ => 0))), (vc, .inl (kvc, 10, .inl (fun _ => 0))), (vd, .inl (kvd, 10, .inl (fun _ => (-1)))), (hn, .inr (8, [.null, .int 0, .int 0, .int 0, .int 0, .ref wa, .ref wb, .ref wc, .ref wd])), (wa, .inl (kwa, 10, .inl (fun _ => 0))), (wb, .inl (kwb, 10, .inl (fun _ => 0))), (wc, .inl (kwc, 10, .inl (fun _ => 0))), (wd, .inl (kwd, 10, .inl (fun _ => (-1))))] sz)) 0 0 (va_A [(hv, .inr (8, [.null, .int 0, .int 0, .int 0, .int 0, .ref va, .ref vb, .ref vc, .ref vd])), (va, .inl (kva, 10, .inl (fun _ => 0))), (vb, .inl (kvb, 10, .inl (fun _ => 0))), (vc, .inl (kvc, 10, .inl (fun _ => 0))), (vd, .inl (kvd, 10, .inl (fun _ => (-1)))), (hn, .inr (8, [.null, .int 0, .int 0, .int 0, .int 0, .ref wa, .ref wb, .ref wc, .ref wd])), (wa, .inl (kwa, 10, .inl (fun _ => 0))), (wb, .inl (kwb, 10, .inl (fun _ => 0))), (wc, .inl (kwc, 10, .inl (fun _ => 0))), (wd, .inl (kwd, 10, .inl (fun _ => (-1))))] sz) := by
  refine MET (y := yX10_become) (cc := cX10_become) (maxL := 2) (ret := none) (d := 1) (mc := 0) (ms := 0) (D := D) (ad := ad) (ws := [(hv, .inr (8, [.null, .int 0, .int 0, .int 0, .int 0, .ref va, .ref vb, .ref vc, .ref vd])), (va, .inl (kva, 10, .inl (fun _ => 0))), (vb, .inl (kvb, 10, .inl (fun _ => 0))), (vc, .inl (kvc, 10, .inl (fun _ => 0))), (vd, .inl (kvd, 10, .inl (fun _ => (-1)))), (hn, .inr (8, [.null, .int 0, .int 0, .int 0, .int 0, .ref wa, .ref wb, .ref wc, .ref wd])), (wa, .inl (kwa, 10, .inl (fun _ => 0))), (wb, .inl (kwb, 10, .inl (fun _ => 0))), (wc, .inl (kwc, 10, .inl (fun _ => 0))), (wd, .inl (kwd, 10, .inl (fun _ => (-1))))]) (tys := [(kva, .int), (kvb, .int), (kvc, .int), (kvd, .int), (kwa, .int), (kwb, .int), (kwc, .int), (kwd, .int)]) (sz := sz) (av := [.ref hv, .ref hn]) (Qc := fun A => va_Qv (S := Unit) (fun _ => True) (fun _ t => va_P D vwCl [(hn, .inr (8, [.null, .int 0, .int 0, .int 0, .int 0, .ref wa, .ref wb, .ref wc, .ref wd]))] t.heap ∧ va_K D vwCl [] t ∧ va_D A [(hn, .inr (8, [.null, .int 0, .int 0, .int 0, .int 0, .ref wa, .ref wb, .ref wc, .ref wd]))]) A) (fr := fun A => A) (by decide) (Nat.le_of_ble_eq_true rfl) ?_
  intro p e s m below meth c ls A H hHe hx hb hr hml hown hts hlocks hnm hP hK hD hA hS hN hl
  have hown : s.vm.findClass "WrongHole$Worn" = some m.cls := hown
  have hT : ∀ w ∈ TB, w.before ([.ref hv, .ref hn] : List Value).toArray s = true := fun w h => hts w (List.mem_cons_of_mem _ h)
  have hl : lv_has ls 2 [(0, .ref hv), (1, .ref hn)] := hl
  have hP : va_P D vwCl [(hv, .inr (8, [.null, .int 0, .int 0, .int 0, .int 0, .ref va, .ref vb, .ref vc, .ref vd])), (va, .inl (kva, 10, .inl (fun _ => 0))), (vb, .inl (kvb, 10, .inl (fun _ => 0))), (vc, .inl (kvc, 10, .inl (fun _ => 0))), (vd, .inl (kvd, 10, .inl (fun _ => (-1)))), (hn, .inr (8, [.null, .int 0, .int 0, .int 0, .int 0, .ref wa, .ref wb, .ref wc, .ref wd])), (wa, .inl (kwa, 10, .inl (fun _ => 0))), (wb, .inl (kwb, 10, .inl (fun _ => 0))), (wc, .inl (kwc, 10, .inl (fun _ => 0))), (wd, .inl (kwd, 10, .inl (fun _ => (-1))))] H := hP
  refine lv_aload_n hx hb dX10_become_0 rfl (lv_at hl 0 rfl) ?_
  refine lv_aload_n hx hb dX10_become_1 rfl (lv_at hl 1 rfl) ?_
  refine va_get (D := D) (ci := 8) (v := .null) (C := "WrongHole$Worn") (T := TX10) (N := 9) hx hb hts (iq_RX10 _) hown hK hP 5 rfl rfl 0 (by decide) (hT _ qq_1_98) (fun _ h9 => h9) rfl dX10_become_2 ?_
  refine va_put (D := D) (ci := 8) (v := .null) (ty := .object "WrongHole$Lift") (C := "WrongHole$Worn") (T := TX10) (N := 9) hx hb hts (iq_RX10 _) tyX10 tyX10_ok nmX10 hown hK hP hD hS 0 rfl rfl 0 (by decide) (hT _ qq_1_98) (fun _ h9 => h9) rfl (by decide +kernel) rfl rfl (Nat.le_of_ble_eq_true rfl) dX10_become_5 (fun H locs hP hD hS => ?_)
  have hP : va_P D vwCl [(hv, .inr (8, [.null, .int 0, .int 0, .int 0, .int 0, .ref va, .ref vb, .ref vc, .ref vd])), (va, .inl (kva, 10, .inl (fun _ => 0))), (vb, .inl (kvb, 10, .inl (fun _ => 0))), (vc, .inl (kvc, 10, .inl (fun _ => 0))), (vd, .inl (kvd, 10, .inl (fun _ => (-1)))), (hn, .inr (8, [.null, .int 0, .int 0, .int 0, .int 0, .ref wa, .ref wb, .ref wc, .ref wd])), (wa, .inl (kwa, 10, .inl (fun _ => 0))), (wb, .inl (kwb, 10, .inl (fun _ => 0))), (wc, .inl (kwc, 10, .inl (fun _ => 0))), (wd, .inl (kwd, 10, .inl (fun _ => (-1))))] H := hP
  have hD : va_D A [(hv, .inr (8, [.null, .int 0, .int 0, .int 0, .int 0, .ref va, .ref vb, .ref vc, .ref vd])), (va, .inl (kva, 10, .inl (fun _ => 0))), (vb, .inl (kvb, 10, .inl (fun _ => 0))), (vc, .inl (kvc, 10, .inl (fun _ => 0))), (vd, .inl (kvd, 10, .inl (fun _ => (-1)))), (hn, .inr (8, [.null, .int 0, .int 0, .int 0, .int 0, .ref wa, .ref wb, .ref wc, .ref wd])), (wa, .inl (kwa, 10, .inl (fun _ => 0))), (wb, .inl (kwb, 10, .inl (fun _ => 0))), (wc, .inl (kwc, 10, .inl (fun _ => 0))), (wd, .inl (kwd, 10, .inl (fun _ => (-1))))] := hD
  refine lv_aload_n hx hb dX10_become_8 rfl (lv_at hl 0 rfl) ?_
  refine lv_aload_n hx hb dX10_become_9 rfl (lv_at hl 1 rfl) ?_
  refine va_get (D := D) (ci := 8) (v := .int 0) (C := "WrongHole$Worn") (T := TX10) (N := 9) hx hb hts (iq_RX10 _) hown hK hP 5 rfl rfl 1 (by decide) (hT _ qq_1_100) (fun _ h9 => h9) rfl dX10_become_10 ?_
  refine va_put (D := D) (ci := 8) (v := .int 0) (ty := .int) (C := "WrongHole$Worn") (T := TX10) (N := 9) hx hb hts (iq_RX10 _) tyX10 tyX10_ok nmX10 hown hK hP hD hS 0 rfl rfl 1 (by decide) (hT _ qq_1_100) (fun _ h9 => h9) rfl (by decide +kernel) rfl rfl (Nat.le_of_ble_eq_true rfl) dX10_become_13 (fun H locs hP hD hS => ?_)
  have hP : va_P D vwCl [(hv, .inr (8, [.null, .int 0, .int 0, .int 0, .int 0, .ref va, .ref vb, .ref vc, .ref vd])), (va, .inl (kva, 10, .inl (fun _ => 0))), (vb, .inl (kvb, 10, .inl (fun _ => 0))), (vc, .inl (kvc, 10, .inl (fun _ => 0))), (vd, .inl (kvd, 10, .inl (fun _ => (-1)))), (hn, .inr (8, [.null, .int 0, .int 0, .int 0, .int 0, .ref wa, .ref wb, .ref wc, .ref wd])), (wa, .inl (kwa, 10, .inl (fun _ => 0))), (wb, .inl (kwb, 10, .inl (fun _ => 0))), (wc, .inl (kwc, 10, .inl (fun _ => 0))), (wd, .inl (kwd, 10, .inl (fun _ => (-1))))] H := hP
  have hD : va_D A [(hv, .inr (8, [.null, .int 0, .int 0, .int 0, .int 0, .ref va, .ref vb, .ref vc, .ref vd])), (va, .inl (kva, 10, .inl (fun _ => 0))), (vb, .inl (kvb, 10, .inl (fun _ => 0))), (vc, .inl (kvc, 10, .inl (fun _ => 0))), (vd, .inl (kvd, 10, .inl (fun _ => (-1)))), (hn, .inr (8, [.null, .int 0, .int 0, .int 0, .int 0, .ref wa, .ref wb, .ref wc, .ref wd])), (wa, .inl (kwa, 10, .inl (fun _ => 0))), (wb, .inl (kwb, 10, .inl (fun _ => 0))), (wc, .inl (kwc, 10, .inl (fun _ => 0))), (wd, .inl (kwd, 10, .inl (fun _ => (-1))))] := hD
  refine lv_aload_n hx hb dX10_become_16 rfl (lv_at hl 0 rfl) ?_
  refine lv_aload_n hx hb dX10_become_17 rfl (lv_at hl 1 rfl) ?_
  refine va_get (D := D) (ci := 8) (v := .int 0) (C := "WrongHole$Worn") (T := TX10) (N := 9) hx hb hts (iq_RX10 _) hown hK hP 5 rfl rfl 2 (by decide) (hT _ qq_1_102) (fun _ h9 => h9) rfl dX10_become_18 ?_
  refine va_put (D := D) (ci := 8) (v := .int 0) (ty := .int) (C := "WrongHole$Worn") (T := TX10) (N := 9) hx hb hts (iq_RX10 _) tyX10 tyX10_ok nmX10 hown hK hP hD hS 0 rfl rfl 2 (by decide) (hT _ qq_1_102) (fun _ h9 => h9) rfl (by decide +kernel) rfl rfl (Nat.le_of_ble_eq_true rfl) dX10_become_21 (fun H locs hP hD hS => ?_)
  have hP : va_P D vwCl [(hv, .inr (8, [.null, .int 0, .int 0, .int 0, .int 0, .ref va, .ref vb, .ref vc, .ref vd])), (va, .inl (kva, 10, .inl (fun _ => 0))), (vb, .inl (kvb, 10, .inl (fun _ => 0))), (vc, .inl (kvc, 10, .inl (fun _ => 0))), (vd, .inl (kvd, 10, .inl (fun _ => (-1)))), (hn, .inr (8, [.null, .int 0, .int 0, .int 0, .int 0, .ref wa, .ref wb, .ref wc, .ref wd])), (wa, .inl (kwa, 10, .inl (fun _ => 0))), (wb, .inl (kwb, 10, .inl (fun _ => 0))), (wc, .inl (kwc, 10, .inl (fun _ => 0))), (wd, .inl (kwd, 10, .inl (fun _ => (-1))))] H := hP
  have hD : va_D A [(hv, .inr (8, [.null, .int 0, .int 0, .int 0, .int 0, .ref va, .ref vb, .ref vc, .ref vd])), (va, .inl (kva, 10, .inl (fun _ => 0))), (vb, .inl (kvb, 10, .inl (fun _ => 0))), (vc, .inl (kvc, 10, .inl (fun _ => 0))), (vd, .inl (kvd, 10, .inl (fun _ => (-1)))), (hn, .inr (8, [.null, .int 0, .int 0, .int 0, .int 0, .ref wa, .ref wb, .ref wc, .ref wd])), (wa, .inl (kwa, 10, .inl (fun _ => 0))), (wb, .inl (kwb, 10, .inl (fun _ => 0))), (wc, .inl (kwc, 10, .inl (fun _ => 0))), (wd, .inl (kwd, 10, .inl (fun _ => (-1))))] := hD
  refine lv_aload_n hx hb dX10_become_24 rfl (lv_at hl 0 rfl) ?_
  refine lv_aload_n hx hb dX10_become_25 rfl (lv_at hl 1 rfl) ?_
  refine va_get (D := D) (ci := 8) (v := .int 0) (C := "WrongHole$Worn") (T := TX10) (N := 9) hx hb hts (iq_RX10 _) hown hK hP 5 rfl rfl 3 (by decide) (hT _ qq_1_104) (fun _ h9 => h9) rfl dX10_become_26 ?_
  refine va_put (D := D) (ci := 8) (v := .int 0) (ty := .int) (C := "WrongHole$Worn") (T := TX10) (N := 9) hx hb hts (iq_RX10 _) tyX10 tyX10_ok nmX10 hown hK hP hD hS 0 rfl rfl 3 (by decide) (hT _ qq_1_104) (fun _ h9 => h9) rfl (by decide +kernel) rfl rfl (Nat.le_of_ble_eq_true rfl) dX10_become_29 (fun H locs hP hD hS => ?_)
  have hP : va_P D vwCl [(hv, .inr (8, [.null, .int 0, .int 0, .int 0, .int 0, .ref va, .ref vb, .ref vc, .ref vd])), (va, .inl (kva, 10, .inl (fun _ => 0))), (vb, .inl (kvb, 10, .inl (fun _ => 0))), (vc, .inl (kvc, 10, .inl (fun _ => 0))), (vd, .inl (kvd, 10, .inl (fun _ => (-1)))), (hn, .inr (8, [.null, .int 0, .int 0, .int 0, .int 0, .ref wa, .ref wb, .ref wc, .ref wd])), (wa, .inl (kwa, 10, .inl (fun _ => 0))), (wb, .inl (kwb, 10, .inl (fun _ => 0))), (wc, .inl (kwc, 10, .inl (fun _ => 0))), (wd, .inl (kwd, 10, .inl (fun _ => (-1))))] H := hP
  have hD : va_D A [(hv, .inr (8, [.null, .int 0, .int 0, .int 0, .int 0, .ref va, .ref vb, .ref vc, .ref vd])), (va, .inl (kva, 10, .inl (fun _ => 0))), (vb, .inl (kvb, 10, .inl (fun _ => 0))), (vc, .inl (kvc, 10, .inl (fun _ => 0))), (vd, .inl (kvd, 10, .inl (fun _ => (-1)))), (hn, .inr (8, [.null, .int 0, .int 0, .int 0, .int 0, .ref wa, .ref wb, .ref wc, .ref wd])), (wa, .inl (kwa, 10, .inl (fun _ => 0))), (wb, .inl (kwb, 10, .inl (fun _ => 0))), (wc, .inl (kwc, 10, .inl (fun _ => 0))), (wd, .inl (kwd, 10, .inl (fun _ => (-1))))] := hD
  refine lv_aload_n hx hb dX10_become_32 rfl (lv_at hl 0 rfl) ?_
  refine lv_aload_n hx hb dX10_become_33 rfl (lv_at hl 1 rfl) ?_
  refine va_get (D := D) (ci := 8) (v := .int 0) (C := "WrongHole$Worn") (T := TX10) (N := 9) hx hb hts (iq_RX10 _) hown hK hP 5 rfl rfl 4 (by decide) (hT _ qq_1_106) (fun _ h9 => h9) rfl dX10_become_34 ?_
  refine va_put (D := D) (ci := 8) (v := .int 0) (ty := .int) (C := "WrongHole$Worn") (T := TX10) (N := 9) hx hb hts (iq_RX10 _) tyX10 tyX10_ok nmX10 hown hK hP hD hS 0 rfl rfl 4 (by decide) (hT _ qq_1_106) (fun _ h9 => h9) rfl (by decide +kernel) rfl rfl (Nat.le_of_ble_eq_true rfl) dX10_become_37 (fun H locs hP hD hS => ?_)
  have hP : va_P D vwCl [(hv, .inr (8, [.null, .int 0, .int 0, .int 0, .int 0, .ref va, .ref vb, .ref vc, .ref vd])), (va, .inl (kva, 10, .inl (fun _ => 0))), (vb, .inl (kvb, 10, .inl (fun _ => 0))), (vc, .inl (kvc, 10, .inl (fun _ => 0))), (vd, .inl (kvd, 10, .inl (fun _ => (-1)))), (hn, .inr (8, [.null, .int 0, .int 0, .int 0, .int 0, .ref wa, .ref wb, .ref wc, .ref wd])), (wa, .inl (kwa, 10, .inl (fun _ => 0))), (wb, .inl (kwb, 10, .inl (fun _ => 0))), (wc, .inl (kwc, 10, .inl (fun _ => 0))), (wd, .inl (kwd, 10, .inl (fun _ => (-1))))] H := hP
  have hD : va_D A [(hv, .inr (8, [.null, .int 0, .int 0, .int 0, .int 0, .ref va, .ref vb, .ref vc, .ref vd])), (va, .inl (kva, 10, .inl (fun _ => 0))), (vb, .inl (kvb, 10, .inl (fun _ => 0))), (vc, .inl (kvc, 10, .inl (fun _ => 0))), (vd, .inl (kvd, 10, .inl (fun _ => (-1)))), (hn, .inr (8, [.null, .int 0, .int 0, .int 0, .int 0, .ref wa, .ref wb, .ref wc, .ref wd])), (wa, .inl (kwa, 10, .inl (fun _ => 0))), (wb, .inl (kwb, 10, .inl (fun _ => 0))), (wc, .inl (kwc, 10, .inl (fun _ => 0))), (wd, .inl (kwd, 10, .inl (fun _ => (-1))))] := hD
  refine lv_aload_n hx hb dX10_become_40 rfl (lv_at hl 1 rfl) ?_
  refine va_get (D := D) (ci := 8) (v := .ref wa) (C := "WrongHole$Worn") (T := TX10) (N := 9) hx hb hts (iq_RX10 _) hown hK hP 5 rfl rfl 5 (by decide) (hT _ qq_1_108) (fun _ h9 => h9) rfl dX10_become_41 ?_
  refine lv_iconst (v := 0) hx hb dX10_become_44 (by decide) ?_
  refine lv_aload_n hx hb dX10_become_45 rfl (lv_at hl 0 rfl) ?_
  refine va_get (D := D) (ci := 8) (v := .ref va) (C := "WrongHole$Worn") (T := TX10) (N := 9) hx hb hts (iq_RX10 _) hown hK hP 0 rfl rfl 5 (by decide) (hT _ qq_1_108) (fun _ h9 => h9) rfl dX10_become_46 ?_
  refine lv_iconst (v := 0) hx hb dX10_become_49 (by decide) ?_
  refine lv_bipush (v := 10) hx hb dX10_become_50 (by decide) ?_
  refine va_copyi (ty := .int) hx hb (hml.trans hl.1.symm) hown (hT _ qq_5_140) (hT _ qq_3_141) (hT _ qq_3_140) (hT _ qq_1_20) hK hP hD hS 6 1 4 0 rfl rfl rfl rfl rfl (by decide) (by decide) (by decide) (by decide) (by decide) (fun _ _ => rfl) (Nat.le_of_ble_eq_true rfl) (Nat.le_of_ble_eq_true rfl) dX10_become_52 (fun H locs hP hD hS => ?_)
  have hP : va_P D vwCl [(hv, .inr (8, [.null, .int 0, .int 0, .int 0, .int 0, .ref va, .ref vb, .ref vc, .ref vd])), (va, .inl (kva, 10, .inl (va_cpy (fun _ => 0) (fun _ => 0) (Int32.toNatClampNeg 0) (Int32.toNatClampNeg 0) (Int32.toNatClampNeg 10)))), (vb, .inl (kvb, 10, .inl (fun _ => 0))), (vc, .inl (kvc, 10, .inl (fun _ => 0))), (vd, .inl (kvd, 10, .inl (fun _ => (-1)))), (hn, .inr (8, [.null, .int 0, .int 0, .int 0, .int 0, .ref wa, .ref wb, .ref wc, .ref wd])), (wa, .inl (kwa, 10, .inl (fun _ => 0))), (wb, .inl (kwb, 10, .inl (fun _ => 0))), (wc, .inl (kwc, 10, .inl (fun _ => 0))), (wd, .inl (kwd, 10, .inl (fun _ => (-1))))] H := hP
  have hD : va_D A [(hv, .inr (8, [.null, .int 0, .int 0, .int 0, .int 0, .ref va, .ref vb, .ref vc, .ref vd])), (va, .inl (kva, 10, .inl (va_cpy (fun _ => 0) (fun _ => 0) (Int32.toNatClampNeg 0) (Int32.toNatClampNeg 0) (Int32.toNatClampNeg 10)))), (vb, .inl (kvb, 10, .inl (fun _ => 0))), (vc, .inl (kvc, 10, .inl (fun _ => 0))), (vd, .inl (kvd, 10, .inl (fun _ => (-1)))), (hn, .inr (8, [.null, .int 0, .int 0, .int 0, .int 0, .ref wa, .ref wb, .ref wc, .ref wd])), (wa, .inl (kwa, 10, .inl (fun _ => 0))), (wb, .inl (kwb, 10, .inl (fun _ => 0))), (wc, .inl (kwc, 10, .inl (fun _ => 0))), (wd, .inl (kwd, 10, .inl (fun _ => (-1))))] := hD
  generalize (va_cpy (fun _ => 0) (fun _ => 0) (Int32.toNatClampNeg 0) (Int32.toNatClampNeg 0) (Int32.toNatClampNeg 10) : Nat → Int32) = g_1 at hP hD
  refine lv_aload_n hx hb dX10_become_55 rfl (lv_at hl 1 rfl) ?_
  refine va_get (D := D) (ci := 8) (v := .ref wb) (C := "WrongHole$Worn") (T := TX10) (N := 9) hx hb hts (iq_RX10 _) hown hK hP 5 rfl rfl 6 (by decide) (hT _ qq_1_110) (fun _ h9 => h9) rfl dX10_become_56 ?_
  refine lv_iconst (v := 0) hx hb dX10_become_59 (by decide) ?_
  refine lv_aload_n hx hb dX10_become_60 rfl (lv_at hl 0 rfl) ?_
  refine va_get (D := D) (ci := 8) (v := .ref vb) (C := "WrongHole$Worn") (T := TX10) (N := 9) hx hb hts (iq_RX10 _) hown hK hP 0 rfl rfl 6 (by decide) (hT _ qq_1_110) (fun _ h9 => h9) rfl dX10_become_61 ?_
  refine lv_iconst (v := 0) hx hb dX10_become_64 (by decide) ?_
  refine lv_bipush (v := 10) hx hb dX10_become_65 (by decide) ?_
  refine va_copyi (ty := .int) hx hb (hml.trans hl.1.symm) hown (hT _ qq_5_140) (hT _ qq_3_141) (hT _ qq_3_140) (hT _ qq_1_20) hK hP hD hS 7 2 5 1 rfl rfl rfl rfl rfl (by decide) (by decide) (by decide) (by decide) (by decide) (fun _ _ => rfl) (Nat.le_of_ble_eq_true rfl) (Nat.le_of_ble_eq_true rfl) dX10_become_67 (fun H locs hP hD hS => ?_)
  have hP : va_P D vwCl [(hv, .inr (8, [.null, .int 0, .int 0, .int 0, .int 0, .ref va, .ref vb, .ref vc, .ref vd])), (va, .inl (kva, 10, .inl g_1)), (vb, .inl (kvb, 10, .inl (va_cpy (fun _ => 0) (fun _ => 0) (Int32.toNatClampNeg 0) (Int32.toNatClampNeg 0) (Int32.toNatClampNeg 10)))), (vc, .inl (kvc, 10, .inl (fun _ => 0))), (vd, .inl (kvd, 10, .inl (fun _ => (-1)))), (hn, .inr (8, [.null, .int 0, .int 0, .int 0, .int 0, .ref wa, .ref wb, .ref wc, .ref wd])), (wa, .inl (kwa, 10, .inl (fun _ => 0))), (wb, .inl (kwb, 10, .inl (fun _ => 0))), (wc, .inl (kwc, 10, .inl (fun _ => 0))), (wd, .inl (kwd, 10, .inl (fun _ => (-1))))] H := hP
  have hD : va_D A [(hv, .inr (8, [.null, .int 0, .int 0, .int 0, .int 0, .ref va, .ref vb, .ref vc, .ref vd])), (va, .inl (kva, 10, .inl g_1)), (vb, .inl (kvb, 10, .inl (va_cpy (fun _ => 0) (fun _ => 0) (Int32.toNatClampNeg 0) (Int32.toNatClampNeg 0) (Int32.toNatClampNeg 10)))), (vc, .inl (kvc, 10, .inl (fun _ => 0))), (vd, .inl (kvd, 10, .inl (fun _ => (-1)))), (hn, .inr (8, [.null, .int 0, .int 0, .int 0, .int 0, .ref wa, .ref wb, .ref wc, .ref wd])), (wa, .inl (kwa, 10, .inl (fun _ => 0))), (wb, .inl (kwb, 10, .inl (fun _ => 0))), (wc, .inl (kwc, 10, .inl (fun _ => 0))), (wd, .inl (kwd, 10, .inl (fun _ => (-1))))] := hD
  generalize (va_cpy (fun _ => 0) (fun _ => 0) (Int32.toNatClampNeg 0) (Int32.toNatClampNeg 0) (Int32.toNatClampNeg 10) : Nat → Int32) = g_2 at hP hD
  refine lv_aload_n hx hb dX10_become_70 rfl (lv_at hl 1 rfl) ?_
  refine va_get (D := D) (ci := 8) (v := .ref wc) (C := "WrongHole$Worn") (T := TX10) (N := 9) hx hb hts (iq_RX10 _) hown hK hP 5 rfl rfl 7 (by decide) (hT _ qq_1_112) (fun _ h9 => h9) rfl dX10_become_71 ?_
  refine lv_iconst (v := 0) hx hb dX10_become_74 (by decide) ?_
  refine lv_aload_n hx hb dX10_become_75 rfl (lv_at hl 0 rfl) ?_
  refine va_get (D := D) (ci := 8) (v := .ref vc) (C := "WrongHole$Worn") (T := TX10) (N := 9) hx hb hts (iq_RX10 _) hown hK hP 0 rfl rfl 7 (by decide) (hT _ qq_1_112) (fun _ h9 => h9) rfl dX10_become_76 ?_
  refine lv_iconst (v := 0) hx hb dX10_become_79 (by decide) ?_
  refine lv_bipush (v := 10) hx hb dX10_become_80 (by decide) ?_
  refine va_copyi (ty := .int) hx hb (hml.trans hl.1.symm) hown (hT _ qq_5_140) (hT _ qq_3_141) (hT _ qq_3_140) (hT _ qq_1_20) hK hP hD hS 8 3 6 2 rfl rfl rfl rfl rfl (by decide) (by decide) (by decide) (by decide) (by decide) (fun _ _ => rfl) (Nat.le_of_ble_eq_true rfl) (Nat.le_of_ble_eq_true rfl) dX10_become_82 (fun H locs hP hD hS => ?_)
  have hP : va_P D vwCl [(hv, .inr (8, [.null, .int 0, .int 0, .int 0, .int 0, .ref va, .ref vb, .ref vc, .ref vd])), (va, .inl (kva, 10, .inl g_1)), (vb, .inl (kvb, 10, .inl g_2)), (vc, .inl (kvc, 10, .inl (va_cpy (fun _ => 0) (fun _ => 0) (Int32.toNatClampNeg 0) (Int32.toNatClampNeg 0) (Int32.toNatClampNeg 10)))), (vd, .inl (kvd, 10, .inl (fun _ => (-1)))), (hn, .inr (8, [.null, .int 0, .int 0, .int 0, .int 0, .ref wa, .ref wb, .ref wc, .ref wd])), (wa, .inl (kwa, 10, .inl (fun _ => 0))), (wb, .inl (kwb, 10, .inl (fun _ => 0))), (wc, .inl (kwc, 10, .inl (fun _ => 0))), (wd, .inl (kwd, 10, .inl (fun _ => (-1))))] H := hP
  have hD : va_D A [(hv, .inr (8, [.null, .int 0, .int 0, .int 0, .int 0, .ref va, .ref vb, .ref vc, .ref vd])), (va, .inl (kva, 10, .inl g_1)), (vb, .inl (kvb, 10, .inl g_2)), (vc, .inl (kvc, 10, .inl (va_cpy (fun _ => 0) (fun _ => 0) (Int32.toNatClampNeg 0) (Int32.toNatClampNeg 0) (Int32.toNatClampNeg 10)))), (vd, .inl (kvd, 10, .inl (fun _ => (-1)))), (hn, .inr (8, [.null, .int 0, .int 0, .int 0, .int 0, .ref wa, .ref wb, .ref wc, .ref wd])), (wa, .inl (kwa, 10, .inl (fun _ => 0))), (wb, .inl (kwb, 10, .inl (fun _ => 0))), (wc, .inl (kwc, 10, .inl (fun _ => 0))), (wd, .inl (kwd, 10, .inl (fun _ => (-1))))] := hD
  generalize (va_cpy (fun _ => 0) (fun _ => 0) (Int32.toNatClampNeg 0) (Int32.toNatClampNeg 0) (Int32.toNatClampNeg 10) : Nat → Int32) = g_3 at hP hD
  refine lv_aload_n hx hb dX10_become_85 rfl (lv_at hl 1 rfl) ?_
  refine va_get (D := D) (ci := 8) (v := .ref wd) (C := "WrongHole$Worn") (T := TX10) (N := 9) hx hb hts (iq_RX10 _) hown hK hP 5 rfl rfl 8 (by decide) (hT _ qq_1_114) (fun _ h9 => h9) rfl dX10_become_86 ?_
  refine lv_iconst (v := 0) hx hb dX10_become_89 (by decide) ?_
  refine lv_aload_n hx hb dX10_become_90 rfl (lv_at hl 0 rfl) ?_
  refine va_get (D := D) (ci := 8) (v := .ref vd) (C := "WrongHole$Worn") (T := TX10) (N := 9) hx hb hts (iq_RX10 _) hown hK hP 0 rfl rfl 8 (by decide) (hT _ qq_1_114) (fun _ h9 => h9) rfl dX10_become_91 ?_
  refine lv_iconst (v := 0) hx hb dX10_become_94 (by decide) ?_
  refine lv_bipush (v := 10) hx hb dX10_become_95 (by decide) ?_
  refine va_copyi (ty := .int) hx hb (hml.trans hl.1.symm) hown (hT _ qq_5_140) (hT _ qq_3_141) (hT _ qq_3_140) (hT _ qq_1_20) hK hP hD hS 9 4 7 3 rfl rfl rfl rfl rfl (by decide) (by decide) (by decide) (by decide) (by decide) (fun _ _ => rfl) (Nat.le_of_ble_eq_true rfl) (Nat.le_of_ble_eq_true rfl) dX10_become_97 (fun H locs hP hD hS => ?_)
  have hP : va_P D vwCl [(hv, .inr (8, [.null, .int 0, .int 0, .int 0, .int 0, .ref va, .ref vb, .ref vc, .ref vd])), (va, .inl (kva, 10, .inl g_1)), (vb, .inl (kvb, 10, .inl g_2)), (vc, .inl (kvc, 10, .inl g_3)), (vd, .inl (kvd, 10, .inl (va_cpy (fun _ => (-1)) (fun _ => (-1)) (Int32.toNatClampNeg 0) (Int32.toNatClampNeg 0) (Int32.toNatClampNeg 10)))), (hn, .inr (8, [.null, .int 0, .int 0, .int 0, .int 0, .ref wa, .ref wb, .ref wc, .ref wd])), (wa, .inl (kwa, 10, .inl (fun _ => 0))), (wb, .inl (kwb, 10, .inl (fun _ => 0))), (wc, .inl (kwc, 10, .inl (fun _ => 0))), (wd, .inl (kwd, 10, .inl (fun _ => (-1))))] H := hP
  have hD : va_D A [(hv, .inr (8, [.null, .int 0, .int 0, .int 0, .int 0, .ref va, .ref vb, .ref vc, .ref vd])), (va, .inl (kva, 10, .inl g_1)), (vb, .inl (kvb, 10, .inl g_2)), (vc, .inl (kvc, 10, .inl g_3)), (vd, .inl (kvd, 10, .inl (va_cpy (fun _ => (-1)) (fun _ => (-1)) (Int32.toNatClampNeg 0) (Int32.toNatClampNeg 0) (Int32.toNatClampNeg 10)))), (hn, .inr (8, [.null, .int 0, .int 0, .int 0, .int 0, .ref wa, .ref wb, .ref wc, .ref wd])), (wa, .inl (kwa, 10, .inl (fun _ => 0))), (wb, .inl (kwb, 10, .inl (fun _ => 0))), (wc, .inl (kwc, 10, .inl (fun _ => 0))), (wd, .inl (kwd, 10, .inl (fun _ => (-1))))] := hD
  generalize (va_cpy (fun _ => (-1)) (fun _ => (-1)) (Int32.toNatClampNeg 0) (Int32.toNatClampNeg 0) (Int32.toNatClampNeg 10) : Nat → Int32) = g_4 at hP hD
  refine W.widen (k := 0) (n := 0) (Nat.le_of_ble_eq_true rfl) (Nat.le_of_ble_eq_true rfl) ?_
  have hP9 := hP.sub (ws' := [(hn, .inr (8, [.null, .int 0, .int 0, .int 0, .int 0, .ref wa, .ref wb, .ref wc, .ref wd]))]) [5] rfl
  have hD9 := hD.sub (ws' := [(hn, .inr (8, [.null, .int 0, .int 0, .int 0, .int 0, .ref wa, .ref wb, .ref wc, .ref wd]))]) [5] (by decide) rfl
  have hK9 := hK.sub (tys' := []) [] rfl
  exact W.vret hx hb hr (fun t9 ht9 hW9 => ⟨⟨(), rfl, trivial, ⟨by rw [ht9]; exact hP9, va_K.moved hW9.alike hK9, hD9⟩⟩, hS.F ht9⟩) hS.2.2 dX10_become_100
theorem dX11_image_0 : decode cX11_image 0 = .ok (.iload_n 1, 1) := by decide +kernel
theorem dX11_image_1 : decode cX11_image 1 = .ok (.ifCond .lt 8, 3) := by decide +kernel
theorem dX11_image_9 : decode cX11_image 9 = .ok (.iconst (-1), 1) := by decide +kernel
theorem dX11_image_10 : decode cX11_image 10 = .ok (.ireturn, 1) := by decide +kernel
theorem dX11_image_4 : decode cX11_image 4 = .ok (.iload_n 1, 1) := by decide +kernel
theorem dX11_image_5 : decode cX11_image 5 = .ok (.iconst 4, 1) := by decide +kernel
theorem dX11_image_6 : decode cX11_image 6 = .ok (.if_icmp .lt 5, 3) := by decide +kernel
theorem dX11_image_11 : decode cX11_image 11 = .ok (.aload_n 0, 1) := by decide +kernel
theorem dX11_image_12 : decode cX11_image 12 = .ok (.getfield 36, 3) := by decide +kernel
theorem dX11_image_15 : decode cX11_image 15 = .ok (.iload_n 1, 1) := by decide +kernel
theorem dX11_image_16 : decode cX11_image 16 = .ok (.aaload, 1) := by decide +kernel
theorem dX11_image_17 : decode cX11_image 17 = .ok (.ifnonnull 16, 3) := by decide +kernel
theorem dX11_image_20 : decode cX11_image 20 = .ok (.aload_n 0, 1) := by decide +kernel
theorem dX11_image_21 : decode cX11_image 21 = .ok (.getfield 36, 3) := by decide +kernel
theorem dX11_image_24 : decode cX11_image 24 = .ok (.iload_n 1, 1) := by decide +kernel
theorem dX11_image_25 : decode cX11_image 25 = .ok (.new 29, 3) := by decide +kernel
theorem dX11_image_28 : decode cX11_image 28 = .ok (.dup, 1) := by decide +kernel
theorem dX11_image_29 : decode cX11_image 29 = .ok (.invokespecial 31, 3) := by decide +kernel
theorem dX11_image_32 : decode cX11_image 32 = .ok (.aastore, 1) := by decide +kernel
theorem dX11_image_33 : decode cX11_image 33 = .ok (.aload_n 0, 1) := by decide +kernel
theorem dX11_image_34 : decode cX11_image 34 = .ok (.getfield 36, 3) := by decide +kernel
theorem dX11_image_37 : decode cX11_image 37 = .ok (.iload_n 1, 1) := by decide +kernel
theorem dX11_image_38 : decode cX11_image 38 = .ok (.aaload, 1) := by decide +kernel
theorem dX11_image_39 : decode cX11_image 39 = .ok (.aload_n 0, 1) := by decide +kernel
theorem dX11_image_40 : decode cX11_image 40 = .ok (.getfield 32, 3) := by decide +kernel
theorem dX11_image_43 : decode cX11_image 43 = .ok (.invokevirtual 336, 3) := by decide +kernel
theorem qq_5_139 : Cond.code yX10_become cX10_become 2 none ∈ TB := mk_tb (ti_5 (List.mem_of_getElem? (i := 139) rfl)) rfl
theorem qq_5_136 : Cond.methodLink "WrongHole" 336 yX10_become ∈ TB := mk_tb (ti_5 (List.mem_of_getElem? (i := 136) rfl)) rfl
theorem qq_5_137 : Cond.instanceMethod yX10_become ∈ TB := mk_tb (ti_5 (List.mem_of_getElem? (i := 137) rfl)) rfl
theorem qq_5_138 : Cond.selects "WrongHole$Worn" yX10_become yX10_become ∈ TB := mk_tb (ti_5 (List.mem_of_getElem? (i := 138) rfl)) rfl
theorem dX11_image_46 : decode cX11_image 46 = .ok (.aload_n 0, 1) := by decide +kernel
theorem dX11_image_47 : decode cX11_image 47 = .ok (.getfield 32, 3) := by decide +kernel
theorem dX11_image_50 : decode cX11_image 50 = .ok (.getfield 96, 3) := by decide +kernel
theorem dX11_image_53 : decode cX11_image 53 = .ok (.ireturn, 1) := by decide +kernel
set_option maxHeartbeats 4000000 in
set_option maxRecDepth 100000 in
theorem c_x_image (l : Launch) (D : va_G) (ad : Nat → Nat) (sz : Nat) (x0 : Nat) (ht : Nat) (hrr : Nat) (hru : Nat) (hn : Nat) (him : Nat) (hp : Nat) (hac : Nat) (hfo : Nat) (hwd : Nat) (wa : Nat) (wb : Nat) (wc : Nat) (wd : Nat) (kwa : ClassId) (kwb : ClassId) (kwc : ClassId) (kwd : ClassId) (khim : ClassId) (a1 : Int32)  : Met l yX11_image (Cond.code yX11_image cX11_image 2 (some .int) :: TB) (RM 3 5 49) (va_Pc [.ref x0, .int a1] (PRE D ad [(x0, .inr (9, [.ref ht, .ref hrr, .ref hru, .int 0, .ref hn, .ref him, .ref hp, .ref hac, .ref hfo, .ref hwd, .null, .null])), (hn, .inr (8, [.null, .int 0, .int 0, .int 0, .int 0, .ref wa, .ref wb, .ref wc, .ref wd])), (wa, .inl (kwa, 10, .inl (fun _ => 0))), (wb, .inl (kwb, 10, .inl (fun _ => 0))), (wc, .inl (kwc, 10, .inl (fun _ => 0))), (wd, .inl (kwd, 10, .inl (fun _ => (-1)))), (him, .inl (khim, 4, .inr (.inr (.inr (.inr (fun _ => none))))))] [(kwa, .int), (kwb, .int), (kwc, .int), (kwd, .int), (khim, .object "WrongHole$Worn")] sz)) (va_Qi (S := Unit) (fun r _ => r = (r_image a1)) (fun _ t => True) (va_A [(x0, .inr (9, [.ref ht, .ref hrr, .ref hru, .int 0, .ref hn, .ref him, .ref hp, .ref hac, .ref hfo, .ref hwd, .null, .null])), (hn, .inr (8, [.null, .int 0, .int 0, .int 0, .int 0, .ref wa, .ref wb, .ref wc, .ref wd])), (wa, .inl (kwa, 10, .inl (fun _ => 0))), (wb, .inl (kwb, 10, .inl (fun _ => 0))), (wc, .inl (kwc, 10, .inl (fun _ => 0))), (wd, .inl (kwd, 10, .inl (fun _ => (-1)))), (him, .inl (khim, 4, .inr (.inr (.inr (.inr (fun _ => none))))))] sz)) 5 49 (va_A [(x0, .inr (9, [.ref ht, .ref hrr, .ref hru, .int 0, .ref hn, .ref him, .ref hp, .ref hac, .ref hfo, .ref hwd, .null, .null])), (hn, .inr (8, [.null, .int 0, .int 0, .int 0, .int 0, .ref wa, .ref wb, .ref wc, .ref wd])), (wa, .inl (kwa, 10, .inl (fun _ => 0))), (wb, .inl (kwb, 10, .inl (fun _ => 0))), (wc, .inl (kwc, 10, .inl (fun _ => 0))), (wd, .inl (kwd, 10, .inl (fun _ => (-1)))), (him, .inl (khim, 4, .inr (.inr (.inr (.inr (fun _ => none))))))] sz) := by
  refine MET (y := yX11_image) (cc := cX11_image) (maxL := 2) (ret := (some .int)) (d := 3) (mc := 5) (ms := 49) (D := D) (ad := ad) (ws := [(x0, .inr (9, [.ref ht, .ref hrr, .ref hru, .int 0, .ref hn, .ref him, .ref hp, .ref hac, .ref hfo, .ref hwd, .null, .null])), (hn, .inr (8, [.null, .int 0, .int 0, .int 0, .int 0, .ref wa, .ref wb, .ref wc, .ref wd])), (wa, .inl (kwa, 10, .inl (fun _ => 0))), (wb, .inl (kwb, 10, .inl (fun _ => 0))), (wc, .inl (kwc, 10, .inl (fun _ => 0))), (wd, .inl (kwd, 10, .inl (fun _ => (-1)))), (him, .inl (khim, 4, .inr (.inr (.inr (.inr (fun _ => none))))))]) (tys := [(kwa, .int), (kwb, .int), (kwc, .int), (kwd, .int), (khim, .object "WrongHole$Worn")]) (sz := sz) (av := [.ref x0, .int a1]) (Qc := fun A => va_Qi (S := Unit) (fun r _ => r = (r_image a1)) (fun _ t => True) A) (fr := fun A => A) (by decide) (Nat.le_of_ble_eq_true rfl) ?_
  intro p e s m below meth c ls A H hHe hx hb hr hml hown hts hlocks hnm hP hK hD hA hS hN hl
  have hown : s.vm.findClass "WrongHole" = some m.cls := hown
  have hT : ∀ w ∈ TB, w.before ([.ref x0, .int a1] : List Value).toArray s = true := fun w h => hts w (List.mem_cons_of_mem _ h)
  have hl : lv_has ls 2 [(0, .ref x0), (1, .int a1)] := hl
  have hP : va_P D vwCl [(x0, .inr (9, [.ref ht, .ref hrr, .ref hru, .int 0, .ref hn, .ref him, .ref hp, .ref hac, .ref hfo, .ref hwd, .null, .null])), (hn, .inr (8, [.null, .int 0, .int 0, .int 0, .int 0, .ref wa, .ref wb, .ref wc, .ref wd])), (wa, .inl (kwa, 10, .inl (fun _ => 0))), (wb, .inl (kwb, 10, .inl (fun _ => 0))), (wc, .inl (kwc, 10, .inl (fun _ => 0))), (wd, .inl (kwd, 10, .inl (fun _ => (-1)))), (him, .inl (khim, 4, .inr (.inr (.inr (.inr (fun _ => none))))))] H := hP
  refine lv_iload_n hx hb dX11_image_0 rfl (lv_at hl 1 rfl) ?_
  refine lv_if_lt (tgt := 9) hx hb dX11_image_1 (by decide) (fun c_1 => ?_) (fun c_1 => ?_)
  · refine lv_iconst (v := (-1)) hx hb dX11_image_9 (by decide) ?_
    refine W.widen (k := 5) (n := 49) (Nat.le_of_ble_eq_true rfl) (Nat.le_of_ble_eq_true rfl) ?_
    exact W.iret (v := (-1)) hx hb hr (fun t9 ht9 hW9 => ⟨⟨_, (), rfl, (by (try simp only [x10, x4, lt10, lt4, le10] at c_1); simp [r_image, c_1]), trivial⟩, hS.F ht9⟩) hS.2.2 dX11_image_10
  · refine lv_iload_n hx hb dX11_image_4 rfl (lv_at hl 1 rfl) ?_
    refine lv_iconst (v := 4) hx hb dX11_image_5 (by decide) ?_
    refine lv_icmp_lt (tgt := 11) hx hb dX11_image_6 (by decide) (fun c_2 => ?_) (fun c_2 => ?_)
    · refine lv_aload_n hx hb dX11_image_11 rfl (lv_at hl 0 rfl) ?_
      refine va_get (D := D) (ci := 9) (v := .ref him) (C := "WrongHole") (T := TX11) (N := 12) hx hb hts (iq_RX11 _) hown hK hP 0 rfl rfl 5 (by decide) (hT _ qq_1_207) (fun _ h9 => h9) rfl dX11_image_12 ?_
      refine lv_iload_n hx hb dX11_image_15 rfl (lv_at hl 1 rfl) ?_
      refine va_aldq hx hb hK hP 6 4 rfl rfl (vi_l (M := 4) rfl c_1 c_2) dX11_image_16 ?_
      refine tc_v .null rfl ?_
      refine lv_ifnonnullN hx hb dX11_image_17 ?_
      refine lv_aload_n hx hb dX11_image_20 rfl (lv_at hl 0 rfl) ?_
      refine va_get (D := D) (ci := 9) (v := .ref him) (C := "WrongHole") (T := TX11) (N := 12) hx hb hts (iq_RX11 _) hown hK hP 0 rfl rfl 5 (by decide) (hT _ qq_1_207) (fun _ h9 => h9) rfl dX11_image_21 ?_
      refine lv_iload_n hx hb dX11_image_24 rfl (lv_at hl 1 rfl) ?_
      refine va_new (ci := 8) (fs := [.null, .int 0, .int 0, .int 0, .int 0, .null, .null, .null, .null]) (C := "WrongHole$Worn") (T := TX10) (N := 9) hx hb hts (iq_RX10 _) tyX10 tyX10_ok hown (hT _ qq_1_89) (hT _ qq_1_90) (hT _ qq_1_4) hK hP hD hS hA rfl (fv_RX10) (Nat.le_of_ble_eq_true rfl) (Nat.le_of_ble_eq_true rfl) dX11_image_25 (fun q_3 H hP hD hS => ?_)
      have hP : va_P D vwCl [(x0, .inr (9, [.ref ht, .ref hrr, .ref hru, .int 0, .ref hn, .ref him, .ref hp, .ref hac, .ref hfo, .ref hwd, .null, .null])), (hn, .inr (8, [.null, .int 0, .int 0, .int 0, .int 0, .ref wa, .ref wb, .ref wc, .ref wd])), (wa, .inl (kwa, 10, .inl (fun _ => 0))), (wb, .inl (kwb, 10, .inl (fun _ => 0))), (wc, .inl (kwc, 10, .inl (fun _ => 0))), (wd, .inl (kwd, 10, .inl (fun _ => (-1)))), (him, .inl (khim, 4, .inr (.inr (.inr (.inr (fun _ => none)))))), (q_3, .inr (8, [.null, .int 0, .int 0, .int 0, .int 0, .null, .null, .null, .null]))] H := hP
      have hD : va_D A [(x0, .inr (9, [.ref ht, .ref hrr, .ref hru, .int 0, .ref hn, .ref him, .ref hp, .ref hac, .ref hfo, .ref hwd, .null, .null])), (hn, .inr (8, [.null, .int 0, .int 0, .int 0, .int 0, .ref wa, .ref wb, .ref wc, .ref wd])), (wa, .inl (kwa, 10, .inl (fun _ => 0))), (wb, .inl (kwb, 10, .inl (fun _ => 0))), (wc, .inl (kwc, 10, .inl (fun _ => 0))), (wd, .inl (kwd, 10, .inl (fun _ => (-1)))), (him, .inl (khim, 4, .inr (.inr (.inr (.inr (fun _ => none)))))), (q_3, .inr (8, [.null, .int 0, .int 0, .int 0, .int 0, .null, .null, .null, .null]))] := hD
      refine W.widen (k := 1) (n := 9) (Nat.le_of_ble_eq_true rfl) (Nat.le_of_ble_eq_true rfl) ?_
      refine lv_dup hx hb dX11_image_28 rfl ?_
      have hPc := hP.sub (ws' := [(q_3, .inr (8, [.null, .int 0, .int 0, .int 0, .int 0, .null, .null, .null, .null]))]) [7] rfl
      have hDc := hD.sub (ws' := [(q_3, .inr (8, [.null, .int 0, .int 0, .int 0, .int 0, .null, .null, .null, .null]))]) [7] (by decide) rfl
      have hKc := hK.sub (tys' := []) [] rfl
      have hFc := va_free (wc := [(q_3, .inr (8, [.null, .int 0, .int 0, .int 0, .int 0, .null, .null, .null, .null]))]) hD hS hA [7] rfl
      refine va_callv (va_runI (As := []) (rest := [.ref q_3, .int a1, .ref him]) ⟨hx, hb, hml, hown, hts⟩ (c_worn_init l D ad H.size q_3) ⟨callB_of 0 hts (gd_C qq_1_93) rfl rfl rfl (hT _ qq_1_4) (hT _ qq_1_91) (by decide +kernel) (rm_R rfl rfl), rfl, (hT _ qq_1_92)⟩ (pr_S hPc hKc hDc hN) rfl rfl hl.1 rfl (lv_room (Nat.le_of_ble_eq_true rfl)) dX11_image_29 ⟨Nat.le_of_ble_eq_true rfl, Nat.le_of_ble_eq_true rfl⟩) hS (fun q _ h => hFc q h) hFc (fun u_4 t_7 H1 locs ht9 hvm hw_5 hB_6 hz1 hk1 hS => ?_)
      obtain ⟨q_8, q_9, q_10, q_11, k_12, k_13, k_14, k_15, hP1, hK1, hD1⟩ := hB_6
      rw [ht9] at hP1
      have hK1 := va_K.moved hvm.symm hK1
      obtain ⟨hP, hD⟩ := va_join (wr := [(x0, .inr (9, [.ref ht, .ref hrr, .ref hru, .int 0, .ref hn, .ref him, .ref hp, .ref hac, .ref hfo, .ref hwd, .null, .null])), (hn, .inr (8, [.null, .int 0, .int 0, .int 0, .int 0, .ref wa, .ref wb, .ref wc, .ref wd])), (wa, .inl (kwa, 10, .inl (fun _ => 0))), (wb, .inl (kwb, 10, .inl (fun _ => 0))), (wc, .inl (kwc, 10, .inl (fun _ => 0))), (wd, .inl (kwd, 10, .inl (fun _ => (-1)))), (him, .inl (khim, 4, .inr (.inr (.inr (.inr (fun _ => none))))))]) (w1 := [(q_3, .inr (8, [.null, .int 0, .int 0, .int 0, .int 0, .ref q_8, .ref q_9, .ref q_10, .ref q_11])), (q_8, .inl (k_12, 10, .inl (fun _ => 0))), (q_9, .inl (k_13, 10, .inl (fun _ => 0))), (q_10, .inl (k_14, 10, .inl (fun _ => 0))), (q_11, .inl (k_15, 10, .inl (fun _ => (-1))))]) hP hD [7] [0, 1, 2, 3, 4, 5, 6] rfl rfl (by decide) (by decide) hk1 hFc hP1 hD1
      have hK := (hK.sub (tys' := [(kwa, .int), (kwb, .int), (kwc, .int), (kwd, .int), (khim, .object "WrongHole$Worn")]) [0, 1, 2, 3, 4] rfl).app hK1
      have hK : va_K D vwCl [(kwa, .int), (kwb, .int), (kwc, .int), (kwd, .int), (khim, .object "WrongHole$Worn"), (k_12, .int), (k_13, .int), (k_14, .int), (k_15, .int)] s := hK
      generalize H1 = H at hP hS ⊢
      have hP : va_P D vwCl [(x0, .inr (9, [.ref ht, .ref hrr, .ref hru, .int 0, .ref hn, .ref him, .ref hp, .ref hac, .ref hfo, .ref hwd, .null, .null])), (hn, .inr (8, [.null, .int 0, .int 0, .int 0, .int 0, .ref wa, .ref wb, .ref wc, .ref wd])), (wa, .inl (kwa, 10, .inl (fun _ => 0))), (wb, .inl (kwb, 10, .inl (fun _ => 0))), (wc, .inl (kwc, 10, .inl (fun _ => 0))), (wd, .inl (kwd, 10, .inl (fun _ => (-1)))), (him, .inl (khim, 4, .inr (.inr (.inr (.inr (fun _ => none)))))), (q_3, .inr (8, [.null, .int 0, .int 0, .int 0, .int 0, .ref q_8, .ref q_9, .ref q_10, .ref q_11])), (q_8, .inl (k_12, 10, .inl (fun _ => 0))), (q_9, .inl (k_13, 10, .inl (fun _ => 0))), (q_10, .inl (k_14, 10, .inl (fun _ => 0))), (q_11, .inl (k_15, 10, .inl (fun _ => (-1))))] H := hP
      have hD : va_D A [(x0, .inr (9, [.ref ht, .ref hrr, .ref hru, .int 0, .ref hn, .ref him, .ref hp, .ref hac, .ref hfo, .ref hwd, .null, .null])), (hn, .inr (8, [.null, .int 0, .int 0, .int 0, .int 0, .ref wa, .ref wb, .ref wc, .ref wd])), (wa, .inl (kwa, 10, .inl (fun _ => 0))), (wb, .inl (kwb, 10, .inl (fun _ => 0))), (wc, .inl (kwc, 10, .inl (fun _ => 0))), (wd, .inl (kwd, 10, .inl (fun _ => (-1)))), (him, .inl (khim, 4, .inr (.inr (.inr (.inr (fun _ => none)))))), (q_3, .inr (8, [.null, .int 0, .int 0, .int 0, .int 0, .ref q_8, .ref q_9, .ref q_10, .ref q_11])), (q_8, .inl (k_12, 10, .inl (fun _ => 0))), (q_9, .inl (k_13, 10, .inl (fun _ => 0))), (q_10, .inl (k_14, 10, .inl (fun _ => 0))), (q_11, .inl (k_15, 10, .inl (fun _ => (-1))))] := hD
      refine W.widen (k := 5) (n := 49) (Nat.le_of_ble_eq_true rfl) (Nat.le_of_ble_eq_true rfl) ?_
      refine va_astq hx hb hK hP hD hS 6 4 7 8 rfl rfl rfl rfl (vi_l (M := 4) rfl c_1 c_2) dX11_image_32 (fun H locs hP hD hS => ?_)
      have hP : va_P D vwCl [(x0, .inr (9, [.ref ht, .ref hrr, .ref hru, .int 0, .ref hn, .ref him, .ref hp, .ref hac, .ref hfo, .ref hwd, .null, .null])), (hn, .inr (8, [.null, .int 0, .int 0, .int 0, .int 0, .ref wa, .ref wb, .ref wc, .ref wd])), (wa, .inl (kwa, 10, .inl (fun _ => 0))), (wb, .inl (kwb, 10, .inl (fun _ => 0))), (wc, .inl (kwc, 10, .inl (fun _ => 0))), (wd, .inl (kwd, 10, .inl (fun _ => (-1)))), (him, .inl (khim, 4, .inr (.inr (.inr (.inr (va_up (fun _ => none) (Int32.toNatClampNeg a1) (some q_3))))))), (q_3, .inr (8, [.null, .int 0, .int 0, .int 0, .int 0, .ref q_8, .ref q_9, .ref q_10, .ref q_11])), (q_8, .inl (k_12, 10, .inl (fun _ => 0))), (q_9, .inl (k_13, 10, .inl (fun _ => 0))), (q_10, .inl (k_14, 10, .inl (fun _ => 0))), (q_11, .inl (k_15, 10, .inl (fun _ => (-1))))] H := hP
      have hD : va_D A [(x0, .inr (9, [.ref ht, .ref hrr, .ref hru, .int 0, .ref hn, .ref him, .ref hp, .ref hac, .ref hfo, .ref hwd, .null, .null])), (hn, .inr (8, [.null, .int 0, .int 0, .int 0, .int 0, .ref wa, .ref wb, .ref wc, .ref wd])), (wa, .inl (kwa, 10, .inl (fun _ => 0))), (wb, .inl (kwb, 10, .inl (fun _ => 0))), (wc, .inl (kwc, 10, .inl (fun _ => 0))), (wd, .inl (kwd, 10, .inl (fun _ => (-1)))), (him, .inl (khim, 4, .inr (.inr (.inr (.inr (va_up (fun _ => none) (Int32.toNatClampNeg a1) (some q_3))))))), (q_3, .inr (8, [.null, .int 0, .int 0, .int 0, .int 0, .ref q_8, .ref q_9, .ref q_10, .ref q_11])), (q_8, .inl (k_12, 10, .inl (fun _ => 0))), (q_9, .inl (k_13, 10, .inl (fun _ => 0))), (q_10, .inl (k_14, 10, .inl (fun _ => 0))), (q_11, .inl (k_15, 10, .inl (fun _ => (-1))))] := hD
      refine lv_aload_n hx hb dX11_image_33 rfl (lv_at hl 0 rfl) ?_
      refine va_get (D := D) (ci := 9) (v := .ref him) (C := "WrongHole") (T := TX11) (N := 12) hx hb hts (iq_RX11 _) hown hK hP 0 rfl rfl 5 (by decide) (hT _ qq_1_207) (fun _ h9 => h9) rfl dX11_image_34 ?_
      refine lv_iload_n hx hb dX11_image_37 rfl (lv_at hl 1 rfl) ?_
      refine va_aldq hx hb hK hP 6 4 rfl rfl (vi_l (M := 4) rfl c_1 c_2) dX11_image_38 ?_
      refine tc_v (.ref q_3) (by rw [va_up_self]; rfl) ?_
      refine lv_aload_n hx hb dX11_image_39 rfl (lv_at hl 0 rfl) ?_
      refine va_get (D := D) (ci := 9) (v := .ref hn) (C := "WrongHole") (T := TX11) (N := 12) hx hb hts (iq_RX11 _) hown hK hP 0 rfl rfl 4 (by decide) (hT _ qq_1_206) (fun _ h9 => h9) rfl dX11_image_40 ?_
      have hPc := hP.sub (ws' := [(q_3, .inr (8, [.null, .int 0, .int 0, .int 0, .int 0, .ref q_8, .ref q_9, .ref q_10, .ref q_11])), (q_8, .inl (k_12, 10, .inl (fun _ => 0))), (q_9, .inl (k_13, 10, .inl (fun _ => 0))), (q_10, .inl (k_14, 10, .inl (fun _ => 0))), (q_11, .inl (k_15, 10, .inl (fun _ => (-1)))), (hn, .inr (8, [.null, .int 0, .int 0, .int 0, .int 0, .ref wa, .ref wb, .ref wc, .ref wd])), (wa, .inl (kwa, 10, .inl (fun _ => 0))), (wb, .inl (kwb, 10, .inl (fun _ => 0))), (wc, .inl (kwc, 10, .inl (fun _ => 0))), (wd, .inl (kwd, 10, .inl (fun _ => (-1))))]) [7, 8, 9, 10, 11, 1, 2, 3, 4, 5] rfl
      have hDc := hD.sub (ws' := [(q_3, .inr (8, [.null, .int 0, .int 0, .int 0, .int 0, .ref q_8, .ref q_9, .ref q_10, .ref q_11])), (q_8, .inl (k_12, 10, .inl (fun _ => 0))), (q_9, .inl (k_13, 10, .inl (fun _ => 0))), (q_10, .inl (k_14, 10, .inl (fun _ => 0))), (q_11, .inl (k_15, 10, .inl (fun _ => (-1)))), (hn, .inr (8, [.null, .int 0, .int 0, .int 0, .int 0, .ref wa, .ref wb, .ref wc, .ref wd])), (wa, .inl (kwa, 10, .inl (fun _ => 0))), (wb, .inl (kwb, 10, .inl (fun _ => 0))), (wc, .inl (kwc, 10, .inl (fun _ => 0))), (wd, .inl (kwd, 10, .inl (fun _ => (-1))))]) [7, 8, 9, 10, 11, 1, 2, 3, 4, 5] (by decide) rfl
      have hKc := hK.sub (tys' := [(k_12, .int), (k_13, .int), (k_14, .int), (k_15, .int), (kwa, .int), (kwb, .int), (kwc, .int), (kwd, .int)]) [5, 6, 7, 8, 0, 1, 2, 3] rfl
      have hFc := va_free (wc := [(q_3, .inr (8, [.null, .int 0, .int 0, .int 0, .int 0, .ref q_8, .ref q_9, .ref q_10, .ref q_11])), (q_8, .inl (k_12, 10, .inl (fun _ => 0))), (q_9, .inl (k_13, 10, .inl (fun _ => 0))), (q_10, .inl (k_14, 10, .inl (fun _ => 0))), (q_11, .inl (k_15, 10, .inl (fun _ => (-1)))), (hn, .inr (8, [.null, .int 0, .int 0, .int 0, .int 0, .ref wa, .ref wb, .ref wc, .ref wd])), (wa, .inl (kwa, 10, .inl (fun _ => 0))), (wb, .inl (kwb, 10, .inl (fun _ => 0))), (wc, .inl (kwc, 10, .inl (fun _ => 0))), (wd, .inl (kwd, 10, .inl (fun _ => (-1))))]) hD hS hA [7, 8, 9, 10, 11, 1, 2, 3, 4, 5] rfl
      refine va_callv (va_runV (As := [.ref hn]) (rest := []) ⟨hx, hb, hml, hown, hts⟩ (c_become l D ad H.size q_3 q_8 q_9 q_10 q_11 k_12 k_13 k_14 k_15 hn wa wb wc wd kwa kwb kwc kwd) ⟨callB_of 1 hts (gd_C qq_5_139) rfl rfl rfl (hT _ qq_1_4) (hT _ qq_5_136) (by decide +kernel) (rm_R rfl rfl), (hT _ qq_5_137), (hT _ qq_5_138)⟩ (pr_V hPc hKc hDc hN (ci := 8) (q0 := 0) rfl rfl) rfl rfl hl.1 rfl (lv_room (Nat.le_of_ble_eq_true rfl)) dX11_image_43 ⟨Nat.le_of_ble_eq_true rfl, Nat.le_of_ble_eq_true rfl⟩) hS (fun q _ h => hFc q h) hFc (fun u_16 t_19 H1 locs ht9 hvm hw_17 hB_18 hz1 hk1 hS => ?_)
      obtain ⟨hP1, hK1, hD1⟩ := hB_18
      rw [ht9] at hP1
      have hK1 := va_K.moved hvm.symm hK1
      obtain ⟨hP, hD⟩ := va_join (wr := [(x0, .inr (9, [.ref ht, .ref hrr, .ref hru, .int 0, .ref hn, .ref him, .ref hp, .ref hac, .ref hfo, .ref hwd, .null, .null])), (him, .inl (khim, 4, .inr (.inr (.inr (.inr (va_up (fun _ => none) (Int32.toNatClampNeg a1) (some q_3)))))))]) (w1 := [(hn, .inr (8, [.null, .int 0, .int 0, .int 0, .int 0, .ref wa, .ref wb, .ref wc, .ref wd]))]) hP hD [7, 8, 9, 10, 11, 1, 2, 3, 4, 5] [0, 6] rfl rfl (by decide) (by decide) hk1 hFc hP1 hD1
      have hK := (hK.sub (tys' := [(kwa, .int), (kwb, .int), (kwc, .int), (kwd, .int), (khim, .object "WrongHole$Worn"), (k_12, .int), (k_13, .int), (k_14, .int), (k_15, .int)]) [0, 1, 2, 3, 4, 5, 6, 7, 8] rfl).app hK1
      have hK : va_K D vwCl [(kwa, .int), (kwb, .int), (kwc, .int), (kwd, .int), (khim, .object "WrongHole$Worn"), (k_12, .int), (k_13, .int), (k_14, .int), (k_15, .int)] s := hK
      generalize H1 = H at hP hS ⊢
      have hP : va_P D vwCl [(x0, .inr (9, [.ref ht, .ref hrr, .ref hru, .int 0, .ref hn, .ref him, .ref hp, .ref hac, .ref hfo, .ref hwd, .null, .null])), (him, .inl (khim, 4, .inr (.inr (.inr (.inr (va_up (fun _ => none) (Int32.toNatClampNeg a1) (some q_3))))))), (hn, .inr (8, [.null, .int 0, .int 0, .int 0, .int 0, .ref wa, .ref wb, .ref wc, .ref wd]))] H := hP
      have hD : va_D A [(x0, .inr (9, [.ref ht, .ref hrr, .ref hru, .int 0, .ref hn, .ref him, .ref hp, .ref hac, .ref hfo, .ref hwd, .null, .null])), (him, .inl (khim, 4, .inr (.inr (.inr (.inr (va_up (fun _ => none) (Int32.toNatClampNeg a1) (some q_3))))))), (hn, .inr (8, [.null, .int 0, .int 0, .int 0, .int 0, .ref wa, .ref wb, .ref wc, .ref wd]))] := hD
      refine lv_aload_n hx hb dX11_image_46 rfl (lv_at hl 0 rfl) ?_
      refine va_get (D := D) (ci := 9) (v := .ref hn) (C := "WrongHole") (T := TX11) (N := 12) hx hb hts (iq_RX11 _) hown hK hP 0 rfl rfl 4 (by decide) (hT _ qq_1_206) (fun _ h9 => h9) rfl dX11_image_47 ?_
      refine va_getN (D := D) (ci := 8) (v := .int 0) (C := "WrongHole$Worn") (T := TX10) (N := 9) hx hb hts (iq_RX10 _) hown hK hP 2 rfl rfl 2 (by decide) (hN.f nq_1_103) (fun _ h9 => h9) rfl dX11_image_50 ?_
      refine W.widen (k := 5) (n := 49) (Nat.le_of_ble_eq_true rfl) (Nat.le_of_ble_eq_true rfl) ?_
      exact W.iret (v := 0) hx hb hr (fun t9 ht9 hW9 => ⟨⟨_, (), rfl, (by (try simp only [x10, x4, lt10, lt4, le10] at c_1 c_2); simp [r_image, c_1, c_2]), trivial⟩, hS.F ht9⟩) hS.2.2 dX11_image_53
    · refine lv_iconst (v := (-1)) hx hb dX11_image_9 (by decide) ?_
      refine W.widen (k := 5) (n := 49) (Nat.le_of_ble_eq_true rfl) (Nat.le_of_ble_eq_true rfl) ?_
      exact W.iret (v := (-1)) hx hb hr (fun t9 ht9 hW9 => ⟨⟨_, (), rfl, (by (try simp only [x10, x4, lt10, lt4, le10] at c_1 c_2); simp [r_image, c_1, c_2]), trivial⟩, hS.F ht9⟩) hS.2.2 dX11_image_10
theorem dX11_back_0 : decode cX11_back 0 = .ok (.iload_n 1, 1) := by decide +kernel
theorem dX11_back_1 : decode cX11_back 1 = .ok (.ifCond .lt 17, 3) := by decide +kernel
theorem dX11_back_18 : decode cX11_back 18 = .ok (.iconst (-1), 1) := by decide +kernel
theorem dX11_back_19 : decode cX11_back 19 = .ok (.ireturn, 1) := by decide +kernel
theorem dX11_back_4 : decode cX11_back 4 = .ok (.iload_n 1, 1) := by decide +kernel
theorem dX11_back_5 : decode cX11_back 5 = .ok (.iconst 4, 1) := by decide +kernel
theorem dX11_back_6 : decode cX11_back 6 = .ok (.if_icmp .ge 12, 3) := by decide +kernel
theorem dX11_back_9 : decode cX11_back 9 = .ok (.aload_n 0, 1) := by decide +kernel
theorem dX11_back_10 : decode cX11_back 10 = .ok (.getfield 36, 3) := by decide +kernel
theorem dX11_back_13 : decode cX11_back 13 = .ok (.iload_n 1, 1) := by decide +kernel
theorem dX11_back_14 : decode cX11_back 14 = .ok (.aaload, 1) := by decide +kernel
theorem dX11_back_15 : decode cX11_back 15 = .ok (.ifnonnull 5, 3) := by decide +kernel
set_option maxHeartbeats 4000000 in
set_option maxRecDepth 100000 in
theorem c_x_back (l : Launch) (D : va_G) (ad : Nat → Nat) (sz : Nat) (x0 : Nat) (ht : Nat) (hrr : Nat) (hru : Nat) (hn : Nat) (him : Nat) (hp : Nat) (hac : Nat) (hfo : Nat) (hwd : Nat) (khim : ClassId) (a1 : Int32)  : Met l yX11_back (Cond.code yX11_back cX11_back 2 (some .int) :: TB) (RM 1 0 0) (va_Pc [.ref x0, .int a1] (PRE D ad [(x0, .inr (9, [.ref ht, .ref hrr, .ref hru, .int 0, .ref hn, .ref him, .ref hp, .ref hac, .ref hfo, .ref hwd, .null, .null])), (him, .inl (khim, 4, .inr (.inr (.inr (.inr (fun _ => none))))))] [(khim, .object "WrongHole$Worn")] sz)) (k2_QcV (.int (-1))) 0 0 (fun _ => False) := by
  refine MET (y := yX11_back) (cc := cX11_back) (maxL := 2) (ret := (some .int)) (d := 1) (mc := 0) (ms := 0) (D := D) (ad := ad) (ws := [(x0, .inr (9, [.ref ht, .ref hrr, .ref hru, .int 0, .ref hn, .ref him, .ref hp, .ref hac, .ref hfo, .ref hwd, .null, .null])), (him, .inl (khim, 4, .inr (.inr (.inr (.inr (fun _ => none))))))]) (tys := [(khim, .object "WrongHole$Worn")]) (sz := sz) (av := [.ref x0, .int a1]) (Qc := fun A => k2_QcV (.int (-1))) (fr := fun A => (fun _ => False)) (by decide) (Nat.le_of_ble_eq_true rfl) ?_
  intro p e s m below meth c ls A H hHe hx hb hr hml hown hts hlocks hnm hP hK hD hA hS hN hl
  have hown : s.vm.findClass "WrongHole" = some m.cls := hown
  have hT : ∀ w ∈ TB, w.before ([.ref x0, .int a1] : List Value).toArray s = true := fun w h => hts w (List.mem_cons_of_mem _ h)
  have hl : lv_has ls 2 [(0, .ref x0), (1, .int a1)] := hl
  have hP : va_P D vwCl [(x0, .inr (9, [.ref ht, .ref hrr, .ref hru, .int 0, .ref hn, .ref him, .ref hp, .ref hac, .ref hfo, .ref hwd, .null, .null])), (him, .inl (khim, 4, .inr (.inr (.inr (.inr (fun _ => none))))))] H := hP
  refine lv_iload_n hx hb dX11_back_0 rfl (lv_at hl 1 rfl) ?_
  refine lv_if_lt (tgt := 18) hx hb dX11_back_1 (by decide) (fun c_1 => ?_) (fun c_1 => ?_)
  · refine lv_iconst (v := (-1)) hx hb dX11_back_18 (by decide) ?_
    exact W.iret (v := (-1)) hx hb hr (fun t9 ht9 hW9 => ⟨rfl, ht9.trans hHe⟩) (fun _ h9 => absurd h9 List.not_mem_nil) dX11_back_19
  · refine lv_iload_n hx hb dX11_back_4 rfl (lv_at hl 1 rfl) ?_
    refine lv_iconst (v := 4) hx hb dX11_back_5 (by decide) ?_
    refine lv_icmp_ge (tgt := 18) hx hb dX11_back_6 (by decide) (fun c_2 => ?_) (fun c_2 => ?_)
    · refine lv_iconst (v := (-1)) hx hb dX11_back_18 (by decide) ?_
      exact W.iret (v := (-1)) hx hb hr (fun t9 ht9 hW9 => ⟨rfl, ht9.trans hHe⟩) (fun _ h9 => absurd h9 List.not_mem_nil) dX11_back_19
    · refine lv_aload_n hx hb dX11_back_9 rfl (lv_at hl 0 rfl) ?_
      refine va_get (D := D) (ci := 9) (v := .ref him) (C := "WrongHole") (T := TX11) (N := 12) hx hb hts (iq_RX11 _) hown hK hP 0 rfl rfl 5 (by decide) (hT _ qq_1_207) (fun _ h9 => h9) rfl dX11_back_10 ?_
      refine lv_iload_n hx hb dX11_back_13 rfl (lv_at hl 1 rfl) ?_
      refine va_aldq hx hb hK hP 1 0 rfl rfl (vi_n (M := 4) rfl c_1 c_2) dX11_back_14 ?_
      refine tc_v .null rfl ?_
      refine lv_ifnonnullN hx hb dX11_back_15 ?_
      refine lv_iconst (v := (-1)) hx hb dX11_back_18 (by decide) ?_
      exact W.iret (v := (-1)) hx hb hr (fun t9 ht9 hW9 => ⟨rfl, ht9.trans hHe⟩) (fun _ h9 => absurd h9 List.not_mem_nil) dX11_back_19
