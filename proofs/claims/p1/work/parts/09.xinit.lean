theorem dJ7_fill_53178_0 : decode cJ7_fill_53178 0 = .ok (.iconst 0, 1) := by decide +kernel
theorem dJ7_fill_53178_1 : decode cJ7_fill_53178 1 = .ok (.istore_n 2, 1) := by decide +kernel
theorem dJ7_fill_53178_2 : decode cJ7_fill_53178 2 = .ok (.aload_n 0, 1) := by decide +kernel
theorem dJ7_fill_53178_3 : decode cJ7_fill_53178 3 = .ok (.arraylength, 1) := by decide +kernel
theorem dJ7_fill_53178_4 : decode cJ7_fill_53178 4 = .ok (.istore_n 3, 1) := by decide +kernel
theorem dJ7_fill_53178_5 : decode cJ7_fill_53178 5 = .ok (.iload_n 2, 1) := by decide +kernel
theorem dJ7_fill_53178_6 : decode cJ7_fill_53178 6 = .ok (.iload_n 3, 1) := by decide +kernel
theorem dJ7_fill_53178_7 : decode cJ7_fill_53178 7 = .ok (.if_icmp .ge 13, 3) := by decide +kernel
theorem dJ7_fill_53178_10 : decode cJ7_fill_53178 10 = .ok (.aload_n 0, 1) := by decide +kernel
theorem dJ7_fill_53178_11 : decode cJ7_fill_53178 11 = .ok (.iload_n 2, 1) := by decide +kernel
theorem dJ7_fill_53178_12 : decode cJ7_fill_53178 12 = .ok (.iload_n 1, 1) := by decide +kernel
theorem dJ7_fill_53178_13 : decode cJ7_fill_53178 13 = .ok (.iastore, 1) := by decide +kernel
theorem dJ7_fill_53178_14 : decode cJ7_fill_53178 14 = .ok (.iinc 2 1, 3) := by decide +kernel
theorem dJ7_fill_53178_17 : decode cJ7_fill_53178 17 = .ok (.goto (-12), 3) := by decide +kernel
theorem dJ7_fill_53178_20 : decode cJ7_fill_53178 20 = .ok (.return_, 1) := by decide +kernel
set_option maxHeartbeats 4000000 in
set_option maxRecDepth 100000 in
theorem c_fill_10 (l : Launch) (D : va_G) (ad : Nat → Nat) (sz : Nat) (ra : Nat) (kA : ClassId) (f : Nat → Int32) (v : Int32)  : Met l yJ7_fill_53178 (Cond.code yJ7_fill_53178 cJ7_fill_53178 4 none :: TB) (RM 0 0 0) (va_Pc [.ref ra, .int v] (PRE D ad [(ra, .inl (kA, 10, .inl f))] [(kA, .int)] sz)) (va_Qv (S := Unit) (fun _ => True) (fun _ t => va_P D vwCl [(ra, .inl (kA, 10, .inl (fun _ => v)))] t.heap ∧ va_K D vwCl [(kA, .int)] t ∧ va_D (va_A [(ra, .inl (kA, 10, .inl f))] sz) [(ra, .inl (kA, 10, .inl (fun _ => v)))]) (va_A [(ra, .inl (kA, 10, .inl f))] sz)) 0 0 (va_A [(ra, .inl (kA, 10, .inl f))] sz) := by
  refine MET (y := yJ7_fill_53178) (cc := cJ7_fill_53178) (maxL := 4) (ret := none) (d := 0) (mc := 0) (ms := 0) (D := D) (ad := ad) (ws := [(ra, .inl (kA, 10, .inl f))]) (tys := [(kA, .int)]) (sz := sz) (av := [.ref ra, .int v]) (Qc := fun A => va_Qv (S := Unit) (fun _ => True) (fun _ t => va_P D vwCl [(ra, .inl (kA, 10, .inl (fun _ => v)))] t.heap ∧ va_K D vwCl [(kA, .int)] t ∧ va_D A [(ra, .inl (kA, 10, .inl (fun _ => v)))]) A) (fr := fun A => A) (by decide) (Nat.le_of_ble_eq_true rfl) ?_
  intro p e s m below meth c ls A H hHe hx hb hr hml hown hts hlocks hnm hP hK hD hA hS hN hl
  have hown : s.vm.findClass "java/util/Arrays" = some m.cls := hown
  have hT : ∀ w ∈ TB, w.before ([.ref ra, .int v] : List Value).toArray s = true := fun w h => hts w (List.mem_cons_of_mem _ h)
  have hl : lv_has ls 4 [(0, .ref ra), (1, .int v)] := hl
  have hP : va_P D vwCl [(ra, .inl (kA, 10, .inl f))] H := hP
  refine lv_iconst (v := 0) hx hb dJ7_fill_53178_0 (by decide) ?_
  refine lv_istore_n (lv' := [(2, .int 0), (0, .ref ra), (1, .int v)]) hx hb dJ7_fill_53178_1 rfl hl (by decide) rfl (fun ls hl => ?_)
  refine lv_aload_n hx hb dJ7_fill_53178_2 rfl (lv_at hl 1 rfl) ?_
  refine va_alen (v := 10) hx hb hK hP 0 0 rfl rfl rfl dJ7_fill_53178_3 ?_
  refine lv_istore_n (lv' := [(3, .int 10), (2, .int 0), (0, .ref ra), (1, .int v)]) hx hb dJ7_fill_53178_4 rfl hl (by decide) rfl (fun ls hl => ?_)
  refine lv_iload_n hx hb dJ7_fill_53178_5 rfl (lv_at hl 1 rfl) ?_
  refine lv_iload_n hx hb dJ7_fill_53178_6 rfl (lv_at hl 0 rfl) ?_
  refine lv_icmp_ge (tgt := 20) hx hb dJ7_fill_53178_7 (by decide) (fun c_1 => absurd c_1 (by decide)) (fun _ => ?_)
  refine lv_aload_n hx hb dJ7_fill_53178_10 rfl (lv_at hl 2 rfl) ?_
  refine lv_iload_n hx hb dJ7_fill_53178_11 rfl (lv_at hl 1 rfl) ?_
  refine lv_iload_n hx hb dJ7_fill_53178_12 rfl (lv_at hl 3 rfl) ?_
  refine va_iast hx hb hK hP hD hS 0 0 rfl rfl (vi_c rfl) dJ7_fill_53178_13 (fun H locs hP hD hS => ?_)
  have hP : va_P D vwCl [(ra, .inl (kA, 10, .inl (upd f 0 v)))] H := hP
  have hD : va_D A [(ra, .inl (kA, 10, .inl (upd f 0 v)))] := hD
  refine lv_iinc (v := 1) (lv' := [(2, .int 1), (3, .int 10), (0, .ref ra), (1, .int v)]) hx hb dJ7_fill_53178_14 hl (k := 1) rfl (by decide) (by decide) rfl (fun ls hl => ?_)
  refine lv_goto (tgt := 5) hx hb dJ7_fill_53178_17 (by decide) ?_
  refine lv_iload_n hx hb dJ7_fill_53178_5 rfl (lv_at hl 0 rfl) ?_
  refine lv_iload_n hx hb dJ7_fill_53178_6 rfl (lv_at hl 1 rfl) ?_
  refine lv_icmp_ge (tgt := 20) hx hb dJ7_fill_53178_7 (by decide) (fun c_2 => absurd c_2 (by decide)) (fun _ => ?_)
  refine lv_aload_n hx hb dJ7_fill_53178_10 rfl (lv_at hl 2 rfl) ?_
  refine lv_iload_n hx hb dJ7_fill_53178_11 rfl (lv_at hl 0 rfl) ?_
  refine lv_iload_n hx hb dJ7_fill_53178_12 rfl (lv_at hl 3 rfl) ?_
  refine va_iast hx hb hK hP hD hS 0 0 rfl rfl (vi_c rfl) dJ7_fill_53178_13 (fun H locs hP hD hS => ?_)
  have hP : va_P D vwCl [(ra, .inl (kA, 10, .inl (upd (upd f 0 v) 1 v)))] H := hP
  have hD : va_D A [(ra, .inl (kA, 10, .inl (upd (upd f 0 v) 1 v)))] := hD
  refine lv_iinc (v := 2) (lv' := [(2, .int 2), (3, .int 10), (0, .ref ra), (1, .int v)]) hx hb dJ7_fill_53178_14 hl (k := 0) rfl (by decide) (by decide) rfl (fun ls hl => ?_)
  refine lv_goto (tgt := 5) hx hb dJ7_fill_53178_17 (by decide) ?_
  refine lv_iload_n hx hb dJ7_fill_53178_5 rfl (lv_at hl 0 rfl) ?_
  refine lv_iload_n hx hb dJ7_fill_53178_6 rfl (lv_at hl 1 rfl) ?_
  refine lv_icmp_ge (tgt := 20) hx hb dJ7_fill_53178_7 (by decide) (fun c_3 => absurd c_3 (by decide)) (fun _ => ?_)
  refine lv_aload_n hx hb dJ7_fill_53178_10 rfl (lv_at hl 2 rfl) ?_
  refine lv_iload_n hx hb dJ7_fill_53178_11 rfl (lv_at hl 0 rfl) ?_
  refine lv_iload_n hx hb dJ7_fill_53178_12 rfl (lv_at hl 3 rfl) ?_
  refine va_iast hx hb hK hP hD hS 0 0 rfl rfl (vi_c rfl) dJ7_fill_53178_13 (fun H locs hP hD hS => ?_)
  have hP : va_P D vwCl [(ra, .inl (kA, 10, .inl (upd (upd (upd f 0 v) 1 v) 2 v)))] H := hP
  have hD : va_D A [(ra, .inl (kA, 10, .inl (upd (upd (upd f 0 v) 1 v) 2 v)))] := hD
  refine lv_iinc (v := 3) (lv' := [(2, .int 3), (3, .int 10), (0, .ref ra), (1, .int v)]) hx hb dJ7_fill_53178_14 hl (k := 0) rfl (by decide) (by decide) rfl (fun ls hl => ?_)
  refine lv_goto (tgt := 5) hx hb dJ7_fill_53178_17 (by decide) ?_
  refine lv_iload_n hx hb dJ7_fill_53178_5 rfl (lv_at hl 0 rfl) ?_
  refine lv_iload_n hx hb dJ7_fill_53178_6 rfl (lv_at hl 1 rfl) ?_
  refine lv_icmp_ge (tgt := 20) hx hb dJ7_fill_53178_7 (by decide) (fun c_4 => absurd c_4 (by decide)) (fun _ => ?_)
  refine lv_aload_n hx hb dJ7_fill_53178_10 rfl (lv_at hl 2 rfl) ?_
  refine lv_iload_n hx hb dJ7_fill_53178_11 rfl (lv_at hl 0 rfl) ?_
  refine lv_iload_n hx hb dJ7_fill_53178_12 rfl (lv_at hl 3 rfl) ?_
  refine va_iast hx hb hK hP hD hS 0 0 rfl rfl (vi_c rfl) dJ7_fill_53178_13 (fun H locs hP hD hS => ?_)
  have hP : va_P D vwCl [(ra, .inl (kA, 10, .inl (upd (upd (upd (upd f 0 v) 1 v) 2 v) 3 v)))] H := hP
  have hD : va_D A [(ra, .inl (kA, 10, .inl (upd (upd (upd (upd f 0 v) 1 v) 2 v) 3 v)))] := hD
  refine lv_iinc (v := 4) (lv' := [(2, .int 4), (3, .int 10), (0, .ref ra), (1, .int v)]) hx hb dJ7_fill_53178_14 hl (k := 0) rfl (by decide) (by decide) rfl (fun ls hl => ?_)
  refine lv_goto (tgt := 5) hx hb dJ7_fill_53178_17 (by decide) ?_
  refine lv_iload_n hx hb dJ7_fill_53178_5 rfl (lv_at hl 0 rfl) ?_
  refine lv_iload_n hx hb dJ7_fill_53178_6 rfl (lv_at hl 1 rfl) ?_
  refine lv_icmp_ge (tgt := 20) hx hb dJ7_fill_53178_7 (by decide) (fun c_5 => absurd c_5 (by decide)) (fun _ => ?_)
  refine lv_aload_n hx hb dJ7_fill_53178_10 rfl (lv_at hl 2 rfl) ?_
  refine lv_iload_n hx hb dJ7_fill_53178_11 rfl (lv_at hl 0 rfl) ?_
  refine lv_iload_n hx hb dJ7_fill_53178_12 rfl (lv_at hl 3 rfl) ?_
  refine va_iast hx hb hK hP hD hS 0 0 rfl rfl (vi_c rfl) dJ7_fill_53178_13 (fun H locs hP hD hS => ?_)
  have hP : va_P D vwCl [(ra, .inl (kA, 10, .inl (upd (upd (upd (upd (upd f 0 v) 1 v) 2 v) 3 v) 4 v)))] H := hP
  have hD : va_D A [(ra, .inl (kA, 10, .inl (upd (upd (upd (upd (upd f 0 v) 1 v) 2 v) 3 v) 4 v)))] := hD
  refine lv_iinc (v := 5) (lv' := [(2, .int 5), (3, .int 10), (0, .ref ra), (1, .int v)]) hx hb dJ7_fill_53178_14 hl (k := 0) rfl (by decide) (by decide) rfl (fun ls hl => ?_)
  refine lv_goto (tgt := 5) hx hb dJ7_fill_53178_17 (by decide) ?_
  refine lv_iload_n hx hb dJ7_fill_53178_5 rfl (lv_at hl 0 rfl) ?_
  refine lv_iload_n hx hb dJ7_fill_53178_6 rfl (lv_at hl 1 rfl) ?_
  refine lv_icmp_ge (tgt := 20) hx hb dJ7_fill_53178_7 (by decide) (fun c_6 => absurd c_6 (by decide)) (fun _ => ?_)
  refine lv_aload_n hx hb dJ7_fill_53178_10 rfl (lv_at hl 2 rfl) ?_
  refine lv_iload_n hx hb dJ7_fill_53178_11 rfl (lv_at hl 0 rfl) ?_
  refine lv_iload_n hx hb dJ7_fill_53178_12 rfl (lv_at hl 3 rfl) ?_
  refine va_iast hx hb hK hP hD hS 0 0 rfl rfl (vi_c rfl) dJ7_fill_53178_13 (fun H locs hP hD hS => ?_)
  have hP : va_P D vwCl [(ra, .inl (kA, 10, .inl (upd (upd (upd (upd (upd (upd f 0 v) 1 v) 2 v) 3 v) 4 v) 5 v)))] H := hP
  have hD : va_D A [(ra, .inl (kA, 10, .inl (upd (upd (upd (upd (upd (upd f 0 v) 1 v) 2 v) 3 v) 4 v) 5 v)))] := hD
  refine lv_iinc (v := 6) (lv' := [(2, .int 6), (3, .int 10), (0, .ref ra), (1, .int v)]) hx hb dJ7_fill_53178_14 hl (k := 0) rfl (by decide) (by decide) rfl (fun ls hl => ?_)
  refine lv_goto (tgt := 5) hx hb dJ7_fill_53178_17 (by decide) ?_
  refine lv_iload_n hx hb dJ7_fill_53178_5 rfl (lv_at hl 0 rfl) ?_
  refine lv_iload_n hx hb dJ7_fill_53178_6 rfl (lv_at hl 1 rfl) ?_
  refine lv_icmp_ge (tgt := 20) hx hb dJ7_fill_53178_7 (by decide) (fun c_7 => absurd c_7 (by decide)) (fun _ => ?_)
  refine lv_aload_n hx hb dJ7_fill_53178_10 rfl (lv_at hl 2 rfl) ?_
  refine lv_iload_n hx hb dJ7_fill_53178_11 rfl (lv_at hl 0 rfl) ?_
  refine lv_iload_n hx hb dJ7_fill_53178_12 rfl (lv_at hl 3 rfl) ?_
  refine va_iast hx hb hK hP hD hS 0 0 rfl rfl (vi_c rfl) dJ7_fill_53178_13 (fun H locs hP hD hS => ?_)
  have hP : va_P D vwCl [(ra, .inl (kA, 10, .inl (upd (upd (upd (upd (upd (upd (upd f 0 v) 1 v) 2 v) 3 v) 4 v) 5 v) 6 v)))] H := hP
  have hD : va_D A [(ra, .inl (kA, 10, .inl (upd (upd (upd (upd (upd (upd (upd f 0 v) 1 v) 2 v) 3 v) 4 v) 5 v) 6 v)))] := hD
  refine lv_iinc (v := 7) (lv' := [(2, .int 7), (3, .int 10), (0, .ref ra), (1, .int v)]) hx hb dJ7_fill_53178_14 hl (k := 0) rfl (by decide) (by decide) rfl (fun ls hl => ?_)
  refine lv_goto (tgt := 5) hx hb dJ7_fill_53178_17 (by decide) ?_
  refine lv_iload_n hx hb dJ7_fill_53178_5 rfl (lv_at hl 0 rfl) ?_
  refine lv_iload_n hx hb dJ7_fill_53178_6 rfl (lv_at hl 1 rfl) ?_
  refine lv_icmp_ge (tgt := 20) hx hb dJ7_fill_53178_7 (by decide) (fun c_8 => absurd c_8 (by decide)) (fun _ => ?_)
  refine lv_aload_n hx hb dJ7_fill_53178_10 rfl (lv_at hl 2 rfl) ?_
  refine lv_iload_n hx hb dJ7_fill_53178_11 rfl (lv_at hl 0 rfl) ?_
  refine lv_iload_n hx hb dJ7_fill_53178_12 rfl (lv_at hl 3 rfl) ?_
  refine va_iast hx hb hK hP hD hS 0 0 rfl rfl (vi_c rfl) dJ7_fill_53178_13 (fun H locs hP hD hS => ?_)
  have hP : va_P D vwCl [(ra, .inl (kA, 10, .inl (upd (upd (upd (upd (upd (upd (upd (upd f 0 v) 1 v) 2 v) 3 v) 4 v) 5 v) 6 v) 7 v)))] H := hP
  have hD : va_D A [(ra, .inl (kA, 10, .inl (upd (upd (upd (upd (upd (upd (upd (upd f 0 v) 1 v) 2 v) 3 v) 4 v) 5 v) 6 v) 7 v)))] := hD
  refine lv_iinc (v := 8) (lv' := [(2, .int 8), (3, .int 10), (0, .ref ra), (1, .int v)]) hx hb dJ7_fill_53178_14 hl (k := 0) rfl (by decide) (by decide) rfl (fun ls hl => ?_)
  refine lv_goto (tgt := 5) hx hb dJ7_fill_53178_17 (by decide) ?_
  refine lv_iload_n hx hb dJ7_fill_53178_5 rfl (lv_at hl 0 rfl) ?_
  refine lv_iload_n hx hb dJ7_fill_53178_6 rfl (lv_at hl 1 rfl) ?_
  refine lv_icmp_ge (tgt := 20) hx hb dJ7_fill_53178_7 (by decide) (fun c_9 => absurd c_9 (by decide)) (fun _ => ?_)
  refine lv_aload_n hx hb dJ7_fill_53178_10 rfl (lv_at hl 2 rfl) ?_
  refine lv_iload_n hx hb dJ7_fill_53178_11 rfl (lv_at hl 0 rfl) ?_
  refine lv_iload_n hx hb dJ7_fill_53178_12 rfl (lv_at hl 3 rfl) ?_
  refine va_iast hx hb hK hP hD hS 0 0 rfl rfl (vi_c rfl) dJ7_fill_53178_13 (fun H locs hP hD hS => ?_)
  have hP : va_P D vwCl [(ra, .inl (kA, 10, .inl (upd (upd (upd (upd (upd (upd (upd (upd (upd f 0 v) 1 v) 2 v) 3 v) 4 v) 5 v) 6 v) 7 v) 8 v)))] H := hP
  have hD : va_D A [(ra, .inl (kA, 10, .inl (upd (upd (upd (upd (upd (upd (upd (upd (upd f 0 v) 1 v) 2 v) 3 v) 4 v) 5 v) 6 v) 7 v) 8 v)))] := hD
  refine lv_iinc (v := 9) (lv' := [(2, .int 9), (3, .int 10), (0, .ref ra), (1, .int v)]) hx hb dJ7_fill_53178_14 hl (k := 0) rfl (by decide) (by decide) rfl (fun ls hl => ?_)
  refine lv_goto (tgt := 5) hx hb dJ7_fill_53178_17 (by decide) ?_
  refine lv_iload_n hx hb dJ7_fill_53178_5 rfl (lv_at hl 0 rfl) ?_
  refine lv_iload_n hx hb dJ7_fill_53178_6 rfl (lv_at hl 1 rfl) ?_
  refine lv_icmp_ge (tgt := 20) hx hb dJ7_fill_53178_7 (by decide) (fun c_10 => absurd c_10 (by decide)) (fun _ => ?_)
  refine lv_aload_n hx hb dJ7_fill_53178_10 rfl (lv_at hl 2 rfl) ?_
  refine lv_iload_n hx hb dJ7_fill_53178_11 rfl (lv_at hl 0 rfl) ?_
  refine lv_iload_n hx hb dJ7_fill_53178_12 rfl (lv_at hl 3 rfl) ?_
  refine va_iast hx hb hK hP hD hS 0 0 rfl rfl (vi_c rfl) dJ7_fill_53178_13 (fun H locs hP hD hS => ?_)
  have hP : va_P D vwCl [(ra, .inl (kA, 10, .inl (upd (upd (upd (upd (upd (upd (upd (upd (upd (upd f 0 v) 1 v) 2 v) 3 v) 4 v) 5 v) 6 v) 7 v) 8 v) 9 v)))] H := hP
  have hD : va_D A [(ra, .inl (kA, 10, .inl (upd (upd (upd (upd (upd (upd (upd (upd (upd (upd f 0 v) 1 v) 2 v) 3 v) 4 v) 5 v) 6 v) 7 v) 8 v) 9 v)))] := hD
  refine lv_iinc (v := 10) (lv' := [(2, .int 10), (3, .int 10), (0, .ref ra), (1, .int v)]) hx hb dJ7_fill_53178_14 hl (k := 0) rfl (by decide) (by decide) rfl (fun ls hl => ?_)
  refine lv_goto (tgt := 5) hx hb dJ7_fill_53178_17 (by decide) ?_
  refine lv_iload_n hx hb dJ7_fill_53178_5 rfl (lv_at hl 0 rfl) ?_
  refine lv_iload_n hx hb dJ7_fill_53178_6 rfl (lv_at hl 1 rfl) ?_
  refine lv_icmp_ge (tgt := 20) hx hb dJ7_fill_53178_7 (by decide) (fun _ => ?_) (fun c_11 => absurd (by decide) c_11)
  refine W.widen (k := 0) (n := 0) (Nat.le_of_ble_eq_true rfl) (Nat.le_of_ble_eq_true rfl) ?_
  have hP := ar_P hP 0 rfl (g := (fun _ => v)) (fun j hj => by match j, hj with | 0, _ => rfl | 1, _ => rfl | 2, _ => rfl | 3, _ => rfl | 4, _ => rfl | 5, _ => rfl | 6, _ => rfl | 7, _ => rfl | 8, _ => rfl | 9, _ => rfl | k9 + 10, h9 => exact absurd h9 (by omega))
  have hD : va_D A [(ra, .inl (kA, 10, .inl (fun _ => v)))] := hD.set (p := 0) rfl
  have hP : va_P D vwCl [(ra, .inl (kA, 10, .inl (fun _ => v)))] H := hP
  have hP9 := hP.sub (ws' := [(ra, .inl (kA, 10, .inl (fun _ => v)))]) [0] rfl
  have hD9 := hD.sub (ws' := [(ra, .inl (kA, 10, .inl (fun _ => v)))]) [0] (by decide) rfl
  have hK9 := hK.sub (tys' := [(kA, .int)]) [0] rfl
  exact W.vret hx hb hr (fun t9 ht9 hW9 => ⟨⟨(), rfl, trivial, ⟨by rw [ht9]; exact hP9, va_K.moved hW9.alike hK9, hD9⟩⟩, hS.F ht9⟩) hS.2.2 dJ7_fill_53178_20
set_option maxHeartbeats 4000000 in
set_option maxRecDepth 100000 in
theorem c_fill_8 (l : Launch) (D : va_G) (ad : Nat → Nat) (sz : Nat) (ra : Nat) (kA : ClassId) (f : Nat → Int32) (v : Int32)  : Met l yJ7_fill_53178 (Cond.code yJ7_fill_53178 cJ7_fill_53178 4 none :: TB) (RM 0 0 0) (va_Pc [.ref ra, .int v] (PRE D ad [(ra, .inl (kA, 8, .inl f))] [(kA, .int)] sz)) (va_Qv (S := Unit) (fun _ => True) (fun _ t => va_P D vwCl [(ra, .inl (kA, 8, .inl (fun _ => v)))] t.heap ∧ va_K D vwCl [(kA, .int)] t ∧ va_D (va_A [(ra, .inl (kA, 8, .inl f))] sz) [(ra, .inl (kA, 8, .inl (fun _ => v)))]) (va_A [(ra, .inl (kA, 8, .inl f))] sz)) 0 0 (va_A [(ra, .inl (kA, 8, .inl f))] sz) := by
  refine MET (y := yJ7_fill_53178) (cc := cJ7_fill_53178) (maxL := 4) (ret := none) (d := 0) (mc := 0) (ms := 0) (D := D) (ad := ad) (ws := [(ra, .inl (kA, 8, .inl f))]) (tys := [(kA, .int)]) (sz := sz) (av := [.ref ra, .int v]) (Qc := fun A => va_Qv (S := Unit) (fun _ => True) (fun _ t => va_P D vwCl [(ra, .inl (kA, 8, .inl (fun _ => v)))] t.heap ∧ va_K D vwCl [(kA, .int)] t ∧ va_D A [(ra, .inl (kA, 8, .inl (fun _ => v)))]) A) (fr := fun A => A) (by decide) (Nat.le_of_ble_eq_true rfl) ?_
  intro p e s m below meth c ls A H hHe hx hb hr hml hown hts hlocks hnm hP hK hD hA hS hN hl
  have hown : s.vm.findClass "java/util/Arrays" = some m.cls := hown
  have hT : ∀ w ∈ TB, w.before ([.ref ra, .int v] : List Value).toArray s = true := fun w h => hts w (List.mem_cons_of_mem _ h)
  have hl : lv_has ls 4 [(0, .ref ra), (1, .int v)] := hl
  have hP : va_P D vwCl [(ra, .inl (kA, 8, .inl f))] H := hP
  refine lv_iconst (v := 0) hx hb dJ7_fill_53178_0 (by decide) ?_
  refine lv_istore_n (lv' := [(2, .int 0), (0, .ref ra), (1, .int v)]) hx hb dJ7_fill_53178_1 rfl hl (by decide) rfl (fun ls hl => ?_)
  refine lv_aload_n hx hb dJ7_fill_53178_2 rfl (lv_at hl 1 rfl) ?_
  refine va_alen (v := 8) hx hb hK hP 0 0 rfl rfl rfl dJ7_fill_53178_3 ?_
  refine lv_istore_n (lv' := [(3, .int 8), (2, .int 0), (0, .ref ra), (1, .int v)]) hx hb dJ7_fill_53178_4 rfl hl (by decide) rfl (fun ls hl => ?_)
  refine lv_iload_n hx hb dJ7_fill_53178_5 rfl (lv_at hl 1 rfl) ?_
  refine lv_iload_n hx hb dJ7_fill_53178_6 rfl (lv_at hl 0 rfl) ?_
  refine lv_icmp_ge (tgt := 20) hx hb dJ7_fill_53178_7 (by decide) (fun c_1 => absurd c_1 (by decide)) (fun _ => ?_)
  refine lv_aload_n hx hb dJ7_fill_53178_10 rfl (lv_at hl 2 rfl) ?_
  refine lv_iload_n hx hb dJ7_fill_53178_11 rfl (lv_at hl 1 rfl) ?_
  refine lv_iload_n hx hb dJ7_fill_53178_12 rfl (lv_at hl 3 rfl) ?_
  refine va_iast hx hb hK hP hD hS 0 0 rfl rfl (vi_c rfl) dJ7_fill_53178_13 (fun H locs hP hD hS => ?_)
  have hP : va_P D vwCl [(ra, .inl (kA, 8, .inl (upd f 0 v)))] H := hP
  have hD : va_D A [(ra, .inl (kA, 8, .inl (upd f 0 v)))] := hD
  refine lv_iinc (v := 1) (lv' := [(2, .int 1), (3, .int 8), (0, .ref ra), (1, .int v)]) hx hb dJ7_fill_53178_14 hl (k := 1) rfl (by decide) (by decide) rfl (fun ls hl => ?_)
  refine lv_goto (tgt := 5) hx hb dJ7_fill_53178_17 (by decide) ?_
  refine lv_iload_n hx hb dJ7_fill_53178_5 rfl (lv_at hl 0 rfl) ?_
  refine lv_iload_n hx hb dJ7_fill_53178_6 rfl (lv_at hl 1 rfl) ?_
  refine lv_icmp_ge (tgt := 20) hx hb dJ7_fill_53178_7 (by decide) (fun c_2 => absurd c_2 (by decide)) (fun _ => ?_)
  refine lv_aload_n hx hb dJ7_fill_53178_10 rfl (lv_at hl 2 rfl) ?_
  refine lv_iload_n hx hb dJ7_fill_53178_11 rfl (lv_at hl 0 rfl) ?_
  refine lv_iload_n hx hb dJ7_fill_53178_12 rfl (lv_at hl 3 rfl) ?_
  refine va_iast hx hb hK hP hD hS 0 0 rfl rfl (vi_c rfl) dJ7_fill_53178_13 (fun H locs hP hD hS => ?_)
  have hP : va_P D vwCl [(ra, .inl (kA, 8, .inl (upd (upd f 0 v) 1 v)))] H := hP
  have hD : va_D A [(ra, .inl (kA, 8, .inl (upd (upd f 0 v) 1 v)))] := hD
  refine lv_iinc (v := 2) (lv' := [(2, .int 2), (3, .int 8), (0, .ref ra), (1, .int v)]) hx hb dJ7_fill_53178_14 hl (k := 0) rfl (by decide) (by decide) rfl (fun ls hl => ?_)
  refine lv_goto (tgt := 5) hx hb dJ7_fill_53178_17 (by decide) ?_
  refine lv_iload_n hx hb dJ7_fill_53178_5 rfl (lv_at hl 0 rfl) ?_
  refine lv_iload_n hx hb dJ7_fill_53178_6 rfl (lv_at hl 1 rfl) ?_
  refine lv_icmp_ge (tgt := 20) hx hb dJ7_fill_53178_7 (by decide) (fun c_3 => absurd c_3 (by decide)) (fun _ => ?_)
  refine lv_aload_n hx hb dJ7_fill_53178_10 rfl (lv_at hl 2 rfl) ?_
  refine lv_iload_n hx hb dJ7_fill_53178_11 rfl (lv_at hl 0 rfl) ?_
  refine lv_iload_n hx hb dJ7_fill_53178_12 rfl (lv_at hl 3 rfl) ?_
  refine va_iast hx hb hK hP hD hS 0 0 rfl rfl (vi_c rfl) dJ7_fill_53178_13 (fun H locs hP hD hS => ?_)
  have hP : va_P D vwCl [(ra, .inl (kA, 8, .inl (upd (upd (upd f 0 v) 1 v) 2 v)))] H := hP
  have hD : va_D A [(ra, .inl (kA, 8, .inl (upd (upd (upd f 0 v) 1 v) 2 v)))] := hD
  refine lv_iinc (v := 3) (lv' := [(2, .int 3), (3, .int 8), (0, .ref ra), (1, .int v)]) hx hb dJ7_fill_53178_14 hl (k := 0) rfl (by decide) (by decide) rfl (fun ls hl => ?_)
  refine lv_goto (tgt := 5) hx hb dJ7_fill_53178_17 (by decide) ?_
  refine lv_iload_n hx hb dJ7_fill_53178_5 rfl (lv_at hl 0 rfl) ?_
  refine lv_iload_n hx hb dJ7_fill_53178_6 rfl (lv_at hl 1 rfl) ?_
  refine lv_icmp_ge (tgt := 20) hx hb dJ7_fill_53178_7 (by decide) (fun c_4 => absurd c_4 (by decide)) (fun _ => ?_)
  refine lv_aload_n hx hb dJ7_fill_53178_10 rfl (lv_at hl 2 rfl) ?_
  refine lv_iload_n hx hb dJ7_fill_53178_11 rfl (lv_at hl 0 rfl) ?_
  refine lv_iload_n hx hb dJ7_fill_53178_12 rfl (lv_at hl 3 rfl) ?_
  refine va_iast hx hb hK hP hD hS 0 0 rfl rfl (vi_c rfl) dJ7_fill_53178_13 (fun H locs hP hD hS => ?_)
  have hP : va_P D vwCl [(ra, .inl (kA, 8, .inl (upd (upd (upd (upd f 0 v) 1 v) 2 v) 3 v)))] H := hP
  have hD : va_D A [(ra, .inl (kA, 8, .inl (upd (upd (upd (upd f 0 v) 1 v) 2 v) 3 v)))] := hD
  refine lv_iinc (v := 4) (lv' := [(2, .int 4), (3, .int 8), (0, .ref ra), (1, .int v)]) hx hb dJ7_fill_53178_14 hl (k := 0) rfl (by decide) (by decide) rfl (fun ls hl => ?_)
  refine lv_goto (tgt := 5) hx hb dJ7_fill_53178_17 (by decide) ?_
  refine lv_iload_n hx hb dJ7_fill_53178_5 rfl (lv_at hl 0 rfl) ?_
  refine lv_iload_n hx hb dJ7_fill_53178_6 rfl (lv_at hl 1 rfl) ?_
  refine lv_icmp_ge (tgt := 20) hx hb dJ7_fill_53178_7 (by decide) (fun c_5 => absurd c_5 (by decide)) (fun _ => ?_)
  refine lv_aload_n hx hb dJ7_fill_53178_10 rfl (lv_at hl 2 rfl) ?_
  refine lv_iload_n hx hb dJ7_fill_53178_11 rfl (lv_at hl 0 rfl) ?_
  refine lv_iload_n hx hb dJ7_fill_53178_12 rfl (lv_at hl 3 rfl) ?_
  refine va_iast hx hb hK hP hD hS 0 0 rfl rfl (vi_c rfl) dJ7_fill_53178_13 (fun H locs hP hD hS => ?_)
  have hP : va_P D vwCl [(ra, .inl (kA, 8, .inl (upd (upd (upd (upd (upd f 0 v) 1 v) 2 v) 3 v) 4 v)))] H := hP
  have hD : va_D A [(ra, .inl (kA, 8, .inl (upd (upd (upd (upd (upd f 0 v) 1 v) 2 v) 3 v) 4 v)))] := hD
  refine lv_iinc (v := 5) (lv' := [(2, .int 5), (3, .int 8), (0, .ref ra), (1, .int v)]) hx hb dJ7_fill_53178_14 hl (k := 0) rfl (by decide) (by decide) rfl (fun ls hl => ?_)
  refine lv_goto (tgt := 5) hx hb dJ7_fill_53178_17 (by decide) ?_
  refine lv_iload_n hx hb dJ7_fill_53178_5 rfl (lv_at hl 0 rfl) ?_
  refine lv_iload_n hx hb dJ7_fill_53178_6 rfl (lv_at hl 1 rfl) ?_
  refine lv_icmp_ge (tgt := 20) hx hb dJ7_fill_53178_7 (by decide) (fun c_6 => absurd c_6 (by decide)) (fun _ => ?_)
  refine lv_aload_n hx hb dJ7_fill_53178_10 rfl (lv_at hl 2 rfl) ?_
  refine lv_iload_n hx hb dJ7_fill_53178_11 rfl (lv_at hl 0 rfl) ?_
  refine lv_iload_n hx hb dJ7_fill_53178_12 rfl (lv_at hl 3 rfl) ?_
  refine va_iast hx hb hK hP hD hS 0 0 rfl rfl (vi_c rfl) dJ7_fill_53178_13 (fun H locs hP hD hS => ?_)
  have hP : va_P D vwCl [(ra, .inl (kA, 8, .inl (upd (upd (upd (upd (upd (upd f 0 v) 1 v) 2 v) 3 v) 4 v) 5 v)))] H := hP
  have hD : va_D A [(ra, .inl (kA, 8, .inl (upd (upd (upd (upd (upd (upd f 0 v) 1 v) 2 v) 3 v) 4 v) 5 v)))] := hD
  refine lv_iinc (v := 6) (lv' := [(2, .int 6), (3, .int 8), (0, .ref ra), (1, .int v)]) hx hb dJ7_fill_53178_14 hl (k := 0) rfl (by decide) (by decide) rfl (fun ls hl => ?_)
  refine lv_goto (tgt := 5) hx hb dJ7_fill_53178_17 (by decide) ?_
  refine lv_iload_n hx hb dJ7_fill_53178_5 rfl (lv_at hl 0 rfl) ?_
  refine lv_iload_n hx hb dJ7_fill_53178_6 rfl (lv_at hl 1 rfl) ?_
  refine lv_icmp_ge (tgt := 20) hx hb dJ7_fill_53178_7 (by decide) (fun c_7 => absurd c_7 (by decide)) (fun _ => ?_)
  refine lv_aload_n hx hb dJ7_fill_53178_10 rfl (lv_at hl 2 rfl) ?_
  refine lv_iload_n hx hb dJ7_fill_53178_11 rfl (lv_at hl 0 rfl) ?_
  refine lv_iload_n hx hb dJ7_fill_53178_12 rfl (lv_at hl 3 rfl) ?_
  refine va_iast hx hb hK hP hD hS 0 0 rfl rfl (vi_c rfl) dJ7_fill_53178_13 (fun H locs hP hD hS => ?_)
  have hP : va_P D vwCl [(ra, .inl (kA, 8, .inl (upd (upd (upd (upd (upd (upd (upd f 0 v) 1 v) 2 v) 3 v) 4 v) 5 v) 6 v)))] H := hP
  have hD : va_D A [(ra, .inl (kA, 8, .inl (upd (upd (upd (upd (upd (upd (upd f 0 v) 1 v) 2 v) 3 v) 4 v) 5 v) 6 v)))] := hD
  refine lv_iinc (v := 7) (lv' := [(2, .int 7), (3, .int 8), (0, .ref ra), (1, .int v)]) hx hb dJ7_fill_53178_14 hl (k := 0) rfl (by decide) (by decide) rfl (fun ls hl => ?_)
  refine lv_goto (tgt := 5) hx hb dJ7_fill_53178_17 (by decide) ?_
  refine lv_iload_n hx hb dJ7_fill_53178_5 rfl (lv_at hl 0 rfl) ?_
  refine lv_iload_n hx hb dJ7_fill_53178_6 rfl (lv_at hl 1 rfl) ?_
  refine lv_icmp_ge (tgt := 20) hx hb dJ7_fill_53178_7 (by decide) (fun c_8 => absurd c_8 (by decide)) (fun _ => ?_)
  refine lv_aload_n hx hb dJ7_fill_53178_10 rfl (lv_at hl 2 rfl) ?_
  refine lv_iload_n hx hb dJ7_fill_53178_11 rfl (lv_at hl 0 rfl) ?_
  refine lv_iload_n hx hb dJ7_fill_53178_12 rfl (lv_at hl 3 rfl) ?_
  refine va_iast hx hb hK hP hD hS 0 0 rfl rfl (vi_c rfl) dJ7_fill_53178_13 (fun H locs hP hD hS => ?_)
  have hP : va_P D vwCl [(ra, .inl (kA, 8, .inl (upd (upd (upd (upd (upd (upd (upd (upd f 0 v) 1 v) 2 v) 3 v) 4 v) 5 v) 6 v) 7 v)))] H := hP
  have hD : va_D A [(ra, .inl (kA, 8, .inl (upd (upd (upd (upd (upd (upd (upd (upd f 0 v) 1 v) 2 v) 3 v) 4 v) 5 v) 6 v) 7 v)))] := hD
  refine lv_iinc (v := 8) (lv' := [(2, .int 8), (3, .int 8), (0, .ref ra), (1, .int v)]) hx hb dJ7_fill_53178_14 hl (k := 0) rfl (by decide) (by decide) rfl (fun ls hl => ?_)
  refine lv_goto (tgt := 5) hx hb dJ7_fill_53178_17 (by decide) ?_
  refine lv_iload_n hx hb dJ7_fill_53178_5 rfl (lv_at hl 0 rfl) ?_
  refine lv_iload_n hx hb dJ7_fill_53178_6 rfl (lv_at hl 1 rfl) ?_
  refine lv_icmp_ge (tgt := 20) hx hb dJ7_fill_53178_7 (by decide) (fun _ => ?_) (fun c_9 => absurd (by decide) c_9)
  refine W.widen (k := 0) (n := 0) (Nat.le_of_ble_eq_true rfl) (Nat.le_of_ble_eq_true rfl) ?_
  have hP := ar_P hP 0 rfl (g := (fun _ => v)) (fun j hj => by match j, hj with | 0, _ => rfl | 1, _ => rfl | 2, _ => rfl | 3, _ => rfl | 4, _ => rfl | 5, _ => rfl | 6, _ => rfl | 7, _ => rfl | k9 + 8, h9 => exact absurd h9 (by omega))
  have hD : va_D A [(ra, .inl (kA, 8, .inl (fun _ => v)))] := hD.set (p := 0) rfl
  have hP : va_P D vwCl [(ra, .inl (kA, 8, .inl (fun _ => v)))] H := hP
  have hP9 := hP.sub (ws' := [(ra, .inl (kA, 8, .inl (fun _ => v)))]) [0] rfl
  have hD9 := hD.sub (ws' := [(ra, .inl (kA, 8, .inl (fun _ => v)))]) [0] (by decide) rfl
  have hK9 := hK.sub (tys' := [(kA, .int)]) [0] rfl
  exact W.vret hx hb hr (fun t9 ht9 hW9 => ⟨⟨(), rfl, trivial, ⟨by rw [ht9]; exact hP9, va_K.moved hW9.alike hK9, hD9⟩⟩, hS.F ht9⟩) hS.2.2 dJ7_fill_53178_20
theorem dX10_init_0 : decode cX10_init 0 = .ok (.aload_n 0, 1) := by decide +kernel
theorem dX10_init_1 : decode cX10_init 1 = .ok (.invokespecial 3, 3) := by decide +kernel
theorem qq_1_94 : Cond.methodLink "WrongHole$Worn" 3 (⟨"java/lang/Object", "<init>", "()V"⟩ : MethodName) ∈ TB := mk_tb (ti_1 (List.mem_of_getElem? (i := 94) rfl)) rfl
theorem qq_1_28 : Cond.instanceMethod (⟨"java/lang/Object", "<init>", "()V"⟩ : MethodName) ∈ TB := mk_tb (ti_1 (List.mem_of_getElem? (i := 28) rfl)) rfl
theorem qq_1_29 : Cond.code ({ cls := "java/lang/Object", name := "<init>", desc := "()V" } : Jvm.MethodName) object_method_1_code (1 : Nat) (Option.none : Option Jvm.ClassFile.FieldType) ∈ TB := mk_tb (ti_1 (List.mem_of_getElem? (i := 29) rfl)) rfl
theorem dX10_init_4 : decode cX10_init 4 = .ok (.aload_n 0, 1) := by decide +kernel
theorem dX10_init_5 : decode cX10_init 5 = .ok (.bipush 10, 2) := by decide +kernel
theorem dX10_init_7 : decode cX10_init 7 = .ok (.newarray .int, 2) := by decide +kernel
theorem qq_1_86 : Cond.arrayClass Jvm.ClassFile.FieldType.int ∈ TB := mk_tb (ti_1 (List.mem_of_getElem? (i := 86) rfl)) rfl
theorem dX10_init_9 : decode cX10_init 9 = .ok (.putfield 9, 3) := by decide +kernel
theorem qq_1_108 : Cond.fieldLink "WrongHole$Worn" 9 "WrongHole$Worn" "creaseSorts" "[I" ∈ TB := mk_tb (ti_1 (List.mem_of_getElem? (i := 108) rfl)) rfl
theorem iq_RX10 (cd : Cond) : ∀ w ∈ u_ws RX10 TX10 9, w ∈ cd :: TB := by
  intro w hw
  obtain ⟨k, hk, rfl⟩ := List.mem_map.mp hw
  have hk := List.mem_range.mp hk
  refine List.mem_cons_of_mem _ ?_
  match k, hk with
  | 0, _ => exact mk_tb (ti_1 (List.mem_of_getElem? (i := 116) rfl)) rfl
  | 1, _ => exact mk_tb (ti_1 (List.mem_of_getElem? (i := 118) rfl)) rfl
  | 2, _ => exact mk_tb (ti_1 (List.mem_of_getElem? (i := 120) rfl)) rfl
  | 3, _ => exact mk_tb (ti_1 (List.mem_of_getElem? (i := 122) rfl)) rfl
  | 4, _ => exact mk_tb (ti_1 (List.mem_of_getElem? (i := 124) rfl)) rfl
  | 5, _ => exact mk_tb (ti_1 (List.mem_of_getElem? (i := 126) rfl)) rfl
  | 6, _ => exact mk_tb (ti_1 (List.mem_of_getElem? (i := 128) rfl)) rfl
  | 7, _ => exact mk_tb (ti_1 (List.mem_of_getElem? (i := 130) rfl)) rfl
  | 8, _ => exact mk_tb (ti_1 (List.mem_of_getElem? (i := 132) rfl)) rfl
  | n + 9, h => exact absurd h (by omega)
theorem dX10_init_12 : decode cX10_init 12 = .ok (.aload_n 0, 1) := by decide +kernel
theorem dX10_init_13 : decode cX10_init 13 = .ok (.bipush 10, 2) := by decide +kernel
theorem dX10_init_15 : decode cX10_init 15 = .ok (.newarray .int, 2) := by decide +kernel
theorem dX10_init_17 : decode cX10_init 17 = .ok (.putfield 15, 3) := by decide +kernel
theorem qq_1_110 : Cond.fieldLink "WrongHole$Worn" 15 "WrongHole$Worn" "creaseButtons" "[I" ∈ TB := mk_tb (ti_1 (List.mem_of_getElem? (i := 110) rfl)) rfl
theorem dX10_init_20 : decode cX10_init 20 = .ok (.aload_n 0, 1) := by decide +kernel
theorem dX10_init_21 : decode cX10_init 21 = .ok (.bipush 10, 2) := by decide +kernel
theorem dX10_init_23 : decode cX10_init 23 = .ok (.newarray .int, 2) := by decide +kernel
theorem dX10_init_25 : decode cX10_init 25 = .ok (.putfield 18, 3) := by decide +kernel
theorem qq_1_112 : Cond.fieldLink "WrongHole$Worn" 18 "WrongHole$Worn" "creaseHoles" "[I" ∈ TB := mk_tb (ti_1 (List.mem_of_getElem? (i := 112) rfl)) rfl
theorem dX10_init_28 : decode cX10_init 28 = .ok (.aload_n 0, 1) := by decide +kernel
theorem dX10_init_29 : decode cX10_init 29 = .ok (.bipush 10, 2) := by decide +kernel
theorem dX10_init_31 : decode cX10_init 31 = .ok (.newarray .int, 2) := by decide +kernel
theorem dX10_init_33 : decode cX10_init 33 = .ok (.putfield 21, 3) := by decide +kernel
theorem qq_1_114 : Cond.fieldLink "WrongHole$Worn" 21 "WrongHole$Worn" "seats" "[I" ∈ TB := mk_tb (ti_1 (List.mem_of_getElem? (i := 114) rfl)) rfl
theorem dX10_init_36 : decode cX10_init 36 = .ok (.aload_n 0, 1) := by decide +kernel
theorem dX10_init_37 : decode cX10_init 37 = .ok (.getfield 21, 3) := by decide +kernel
theorem dX10_init_40 : decode cX10_init 40 = .ok (.iconst (-1), 1) := by decide +kernel
theorem dX10_init_41 : decode cX10_init 41 = .ok (.invokestatic 24, 3) := by decide +kernel
theorem qq_1_97 : Cond.code yJ7_fill_53178 cJ7_fill_53178 4 none ∈ TB := mk_tb (ti_1 (List.mem_of_getElem? (i := 97) rfl)) rfl
theorem qq_1_5 : Cond.initialized "java/util/Arrays" ∈ TB := mk_tb (ti_1 (List.mem_of_getElem? (i := 5) rfl)) rfl
theorem qq_1_95 : Cond.methodLink "WrongHole$Worn" 24 yJ7_fill_53178 ∈ TB := mk_tb (ti_1 (List.mem_of_getElem? (i := 95) rfl)) rfl
theorem qq_1_96 : Cond.static yJ7_fill_53178 ∈ TB := mk_tb (ti_1 (List.mem_of_getElem? (i := 96) rfl)) rfl
theorem dX10_init_44 : decode cX10_init 44 = .ok (.return_, 1) := by decide +kernel
set_option maxHeartbeats 4000000 in
set_option maxRecDepth 100000 in
theorem c_worn_init (l : Launch) (D : va_G) (ad : Nat → Nat) (sz : Nat) (hn : Nat)  : Met l yX10_init (Cond.code yX10_init cX10_init 1 none :: TB) (RM 2 4 40) (va_Pc [.ref hn] (PRE D ad [(hn, .inr (8, [.null, .int 0, .int 0, .int 0, .int 0, .null, .null, .null, .null]))] [] sz)) (va_Qv (S := Unit) (fun _ => True) (fun _ t => ∃ (wa : Nat), ∃ (wb : Nat), ∃ (wc : Nat), ∃ (wd : Nat), ∃ (kwa : ClassId), ∃ (kwb : ClassId), ∃ (kwc : ClassId), ∃ (kwd : ClassId), va_P D vwCl [(hn, .inr (8, [.null, .int 0, .int 0, .int 0, .int 0, .ref wa, .ref wb, .ref wc, .ref wd])), (wa, .inl (kwa, 10, .inl (fun _ => 0))), (wb, .inl (kwb, 10, .inl (fun _ => 0))), (wc, .inl (kwc, 10, .inl (fun _ => 0))), (wd, .inl (kwd, 10, .inl (fun _ => (-1))))] t.heap ∧ va_K D vwCl [(kwa, .int), (kwb, .int), (kwc, .int), (kwd, .int)] t ∧ va_D (va_A [(hn, .inr (8, [.null, .int 0, .int 0, .int 0, .int 0, .null, .null, .null, .null]))] sz) [(hn, .inr (8, [.null, .int 0, .int 0, .int 0, .int 0, .ref wa, .ref wb, .ref wc, .ref wd])), (wa, .inl (kwa, 10, .inl (fun _ => 0))), (wb, .inl (kwb, 10, .inl (fun _ => 0))), (wc, .inl (kwc, 10, .inl (fun _ => 0))), (wd, .inl (kwd, 10, .inl (fun _ => (-1))))]) (va_A [(hn, .inr (8, [.null, .int 0, .int 0, .int 0, .int 0, .null, .null, .null, .null]))] sz)) 4 40 (va_A [(hn, .inr (8, [.null, .int 0, .int 0, .int 0, .int 0, .null, .null, .null, .null]))] sz) := by
  refine MET (y := yX10_init) (cc := cX10_init) (maxL := 1) (ret := none) (d := 2) (mc := 4) (ms := 40) (D := D) (ad := ad) (ws := [(hn, .inr (8, [.null, .int 0, .int 0, .int 0, .int 0, .null, .null, .null, .null]))]) (tys := []) (sz := sz) (av := [.ref hn]) (Qc := fun A => va_Qv (S := Unit) (fun _ => True) (fun _ t => ∃ (wa : Nat), ∃ (wb : Nat), ∃ (wc : Nat), ∃ (wd : Nat), ∃ (kwa : ClassId), ∃ (kwb : ClassId), ∃ (kwc : ClassId), ∃ (kwd : ClassId), va_P D vwCl [(hn, .inr (8, [.null, .int 0, .int 0, .int 0, .int 0, .ref wa, .ref wb, .ref wc, .ref wd])), (wa, .inl (kwa, 10, .inl (fun _ => 0))), (wb, .inl (kwb, 10, .inl (fun _ => 0))), (wc, .inl (kwc, 10, .inl (fun _ => 0))), (wd, .inl (kwd, 10, .inl (fun _ => (-1))))] t.heap ∧ va_K D vwCl [(kwa, .int), (kwb, .int), (kwc, .int), (kwd, .int)] t ∧ va_D A [(hn, .inr (8, [.null, .int 0, .int 0, .int 0, .int 0, .ref wa, .ref wb, .ref wc, .ref wd])), (wa, .inl (kwa, 10, .inl (fun _ => 0))), (wb, .inl (kwb, 10, .inl (fun _ => 0))), (wc, .inl (kwc, 10, .inl (fun _ => 0))), (wd, .inl (kwd, 10, .inl (fun _ => (-1))))]) A) (fr := fun A => A) (by decide) (Nat.le_of_ble_eq_true rfl) ?_
  intro p e s m below meth c ls A H hHe hx hb hr hml hown hts hlocks hnm hP hK hD hA hS hN hl
  have hown : s.vm.findClass "WrongHole$Worn" = some m.cls := hown
  have hT : ∀ w ∈ TB, w.before ([.ref hn] : List Value).toArray s = true := fun w h => hts w (List.mem_cons_of_mem _ h)
  have hl : lv_has ls 1 [(0, .ref hn)] := hl
  have hP : va_P D vwCl [(hn, .inr (8, [.null, .int 0, .int 0, .int 0, .int 0, .null, .null, .null, .null]))] H := hP
  refine lv_aload_n hx hb dX10_init_0 rfl (lv_at hl 0 rfl) ?_
  refine W.objInit hx hb hown (hT _ qq_1_94) (hT _ qq_1_28) (hT _ qq_1_29) rfl (by rw [hml]; exact hl.1) rfl dX10_init_1 (Nat.le_of_ble_eq_true rfl) (Nat.le_of_ble_eq_true rfl) ?_
  refine W.eq (g2 := F0 m 4 ls []) rfl ?_
  refine lv_aload_n hx hb dX10_init_4 rfl (lv_at hl 0 rfl) ?_
  refine lv_bipush (v := 10) hx hb dX10_init_5 (by decide) ?_
  refine va_newa (atype := .int) hx hb (hT _ qq_1_86) rfl hK hP hD hS hA (a0 := (10, .inl (fun _ => 0))) (fun _ => rfl) (by decide) (by decide) (Nat.le_of_ble_eq_true rfl) (Nat.le_of_ble_eq_true rfl) (Nat.le_of_ble_eq_true rfl) dX10_init_7 (fun q_1 k_2 H hK hP hD hS => ?_)
  have hK : va_K D vwCl [(k_2, .int)] s := hK
  have hP : va_P D vwCl [(hn, .inr (8, [.null, .int 0, .int 0, .int 0, .int 0, .null, .null, .null, .null])), (q_1, .inl (k_2, 10, .inl (fun _ => 0)))] H := hP
  have hD : va_D A [(hn, .inr (8, [.null, .int 0, .int 0, .int 0, .int 0, .null, .null, .null, .null])), (q_1, .inl (k_2, 10, .inl (fun _ => 0)))] := hD
  refine W.widen (k := 1) (n := 10) (Nat.le_of_ble_eq_true rfl) (Nat.le_of_ble_eq_true rfl) ?_
  refine va_putF (D := D) (ci := 8) (v := .ref q_1) (ty := .array .int) (C := "WrongHole$Worn") (T := TX10) (N := 9) hx hb hts (iq_RX10 _) tyX10 tyX10_ok nmX10 hown hK hP hD hS 0 rfl rfl 5 (by decide) (hT _ qq_1_108) (fun _ h9 => h9) rfl hnm rfl (by decide +kernel) rfl rfl (Nat.le_of_ble_eq_true rfl) dX10_init_9 (fun H locs hP hD hS => ?_)
  have hP : va_P D vwCl [(hn, .inr (8, [.null, .int 0, .int 0, .int 0, .int 0, .ref q_1, .null, .null, .null])), (q_1, .inl (k_2, 10, .inl (fun _ => 0)))] H := hP
  have hD : va_D A [(hn, .inr (8, [.null, .int 0, .int 0, .int 0, .int 0, .ref q_1, .null, .null, .null])), (q_1, .inl (k_2, 10, .inl (fun _ => 0)))] := hD
  refine lv_aload_n hx hb dX10_init_12 rfl (lv_at hl 0 rfl) ?_
  refine lv_bipush (v := 10) hx hb dX10_init_13 (by decide) ?_
  refine va_newa (atype := .int) hx hb (hT _ qq_1_86) rfl hK hP hD hS hA (a0 := (10, .inl (fun _ => 0))) (fun _ => rfl) (by decide) (by decide) (Nat.le_of_ble_eq_true rfl) (Nat.le_of_ble_eq_true rfl) (Nat.le_of_ble_eq_true rfl) dX10_init_15 (fun q_3 k_4 H hK hP hD hS => ?_)
  have hK : va_K D vwCl [(k_2, .int), (k_4, .int)] s := hK
  have hP : va_P D vwCl [(hn, .inr (8, [.null, .int 0, .int 0, .int 0, .int 0, .ref q_1, .null, .null, .null])), (q_1, .inl (k_2, 10, .inl (fun _ => 0))), (q_3, .inl (k_4, 10, .inl (fun _ => 0)))] H := hP
  have hD : va_D A [(hn, .inr (8, [.null, .int 0, .int 0, .int 0, .int 0, .ref q_1, .null, .null, .null])), (q_1, .inl (k_2, 10, .inl (fun _ => 0))), (q_3, .inl (k_4, 10, .inl (fun _ => 0)))] := hD
  refine W.widen (k := 2) (n := 20) (Nat.le_of_ble_eq_true rfl) (Nat.le_of_ble_eq_true rfl) ?_
  refine va_putF (D := D) (ci := 8) (v := .ref q_3) (ty := .array .int) (C := "WrongHole$Worn") (T := TX10) (N := 9) hx hb hts (iq_RX10 _) tyX10 tyX10_ok nmX10 hown hK hP hD hS 0 rfl rfl 6 (by decide) (hT _ qq_1_110) (fun _ h9 => h9) rfl hnm rfl (by decide +kernel) rfl rfl (Nat.le_of_ble_eq_true rfl) dX10_init_17 (fun H locs hP hD hS => ?_)
  have hP : va_P D vwCl [(hn, .inr (8, [.null, .int 0, .int 0, .int 0, .int 0, .ref q_1, .ref q_3, .null, .null])), (q_1, .inl (k_2, 10, .inl (fun _ => 0))), (q_3, .inl (k_4, 10, .inl (fun _ => 0)))] H := hP
  have hD : va_D A [(hn, .inr (8, [.null, .int 0, .int 0, .int 0, .int 0, .ref q_1, .ref q_3, .null, .null])), (q_1, .inl (k_2, 10, .inl (fun _ => 0))), (q_3, .inl (k_4, 10, .inl (fun _ => 0)))] := hD
  refine lv_aload_n hx hb dX10_init_20 rfl (lv_at hl 0 rfl) ?_
  refine lv_bipush (v := 10) hx hb dX10_init_21 (by decide) ?_
  refine va_newa (atype := .int) hx hb (hT _ qq_1_86) rfl hK hP hD hS hA (a0 := (10, .inl (fun _ => 0))) (fun _ => rfl) (by decide) (by decide) (Nat.le_of_ble_eq_true rfl) (Nat.le_of_ble_eq_true rfl) (Nat.le_of_ble_eq_true rfl) dX10_init_23 (fun q_5 k_6 H hK hP hD hS => ?_)
  have hK : va_K D vwCl [(k_2, .int), (k_4, .int), (k_6, .int)] s := hK
  have hP : va_P D vwCl [(hn, .inr (8, [.null, .int 0, .int 0, .int 0, .int 0, .ref q_1, .ref q_3, .null, .null])), (q_1, .inl (k_2, 10, .inl (fun _ => 0))), (q_3, .inl (k_4, 10, .inl (fun _ => 0))), (q_5, .inl (k_6, 10, .inl (fun _ => 0)))] H := hP
  have hD : va_D A [(hn, .inr (8, [.null, .int 0, .int 0, .int 0, .int 0, .ref q_1, .ref q_3, .null, .null])), (q_1, .inl (k_2, 10, .inl (fun _ => 0))), (q_3, .inl (k_4, 10, .inl (fun _ => 0))), (q_5, .inl (k_6, 10, .inl (fun _ => 0)))] := hD
  refine W.widen (k := 3) (n := 30) (Nat.le_of_ble_eq_true rfl) (Nat.le_of_ble_eq_true rfl) ?_
  refine va_putF (D := D) (ci := 8) (v := .ref q_5) (ty := .array .int) (C := "WrongHole$Worn") (T := TX10) (N := 9) hx hb hts (iq_RX10 _) tyX10 tyX10_ok nmX10 hown hK hP hD hS 0 rfl rfl 7 (by decide) (hT _ qq_1_112) (fun _ h9 => h9) rfl hnm rfl (by decide +kernel) rfl rfl (Nat.le_of_ble_eq_true rfl) dX10_init_25 (fun H locs hP hD hS => ?_)
  have hP : va_P D vwCl [(hn, .inr (8, [.null, .int 0, .int 0, .int 0, .int 0, .ref q_1, .ref q_3, .ref q_5, .null])), (q_1, .inl (k_2, 10, .inl (fun _ => 0))), (q_3, .inl (k_4, 10, .inl (fun _ => 0))), (q_5, .inl (k_6, 10, .inl (fun _ => 0)))] H := hP
  have hD : va_D A [(hn, .inr (8, [.null, .int 0, .int 0, .int 0, .int 0, .ref q_1, .ref q_3, .ref q_5, .null])), (q_1, .inl (k_2, 10, .inl (fun _ => 0))), (q_3, .inl (k_4, 10, .inl (fun _ => 0))), (q_5, .inl (k_6, 10, .inl (fun _ => 0)))] := hD
  refine lv_aload_n hx hb dX10_init_28 rfl (lv_at hl 0 rfl) ?_
  refine lv_bipush (v := 10) hx hb dX10_init_29 (by decide) ?_
  refine va_newa (atype := .int) hx hb (hT _ qq_1_86) rfl hK hP hD hS hA (a0 := (10, .inl (fun _ => 0))) (fun _ => rfl) (by decide) (by decide) (Nat.le_of_ble_eq_true rfl) (Nat.le_of_ble_eq_true rfl) (Nat.le_of_ble_eq_true rfl) dX10_init_31 (fun q_7 k_8 H hK hP hD hS => ?_)
  have hK : va_K D vwCl [(k_2, .int), (k_4, .int), (k_6, .int), (k_8, .int)] s := hK
  have hP : va_P D vwCl [(hn, .inr (8, [.null, .int 0, .int 0, .int 0, .int 0, .ref q_1, .ref q_3, .ref q_5, .null])), (q_1, .inl (k_2, 10, .inl (fun _ => 0))), (q_3, .inl (k_4, 10, .inl (fun _ => 0))), (q_5, .inl (k_6, 10, .inl (fun _ => 0))), (q_7, .inl (k_8, 10, .inl (fun _ => 0)))] H := hP
  have hD : va_D A [(hn, .inr (8, [.null, .int 0, .int 0, .int 0, .int 0, .ref q_1, .ref q_3, .ref q_5, .null])), (q_1, .inl (k_2, 10, .inl (fun _ => 0))), (q_3, .inl (k_4, 10, .inl (fun _ => 0))), (q_5, .inl (k_6, 10, .inl (fun _ => 0))), (q_7, .inl (k_8, 10, .inl (fun _ => 0)))] := hD
  refine W.widen (k := 4) (n := 40) (Nat.le_of_ble_eq_true rfl) (Nat.le_of_ble_eq_true rfl) ?_
  refine va_putF (D := D) (ci := 8) (v := .ref q_7) (ty := .array .int) (C := "WrongHole$Worn") (T := TX10) (N := 9) hx hb hts (iq_RX10 _) tyX10 tyX10_ok nmX10 hown hK hP hD hS 0 rfl rfl 8 (by decide) (hT _ qq_1_114) (fun _ h9 => h9) rfl hnm rfl (by decide +kernel) rfl rfl (Nat.le_of_ble_eq_true rfl) dX10_init_33 (fun H locs hP hD hS => ?_)
  have hP : va_P D vwCl [(hn, .inr (8, [.null, .int 0, .int 0, .int 0, .int 0, .ref q_1, .ref q_3, .ref q_5, .ref q_7])), (q_1, .inl (k_2, 10, .inl (fun _ => 0))), (q_3, .inl (k_4, 10, .inl (fun _ => 0))), (q_5, .inl (k_6, 10, .inl (fun _ => 0))), (q_7, .inl (k_8, 10, .inl (fun _ => 0)))] H := hP
  have hD : va_D A [(hn, .inr (8, [.null, .int 0, .int 0, .int 0, .int 0, .ref q_1, .ref q_3, .ref q_5, .ref q_7])), (q_1, .inl (k_2, 10, .inl (fun _ => 0))), (q_3, .inl (k_4, 10, .inl (fun _ => 0))), (q_5, .inl (k_6, 10, .inl (fun _ => 0))), (q_7, .inl (k_8, 10, .inl (fun _ => 0)))] := hD
  refine lv_aload_n hx hb dX10_init_36 rfl (lv_at hl 0 rfl) ?_
  refine va_get (D := D) (ci := 8) (v := .ref q_7) (C := "WrongHole$Worn") (T := TX10) (N := 9) hx hb hts (iq_RX10 _) hown hK hP 0 rfl rfl 8 (by decide) (hT _ qq_1_114) (fun _ h9 => h9) rfl dX10_init_37 ?_
  refine lv_iconst (v := (-1)) hx hb dX10_init_40 (by decide) ?_
  have hPc := hP.sub (ws' := [(q_7, .inl (k_8, 10, .inl (fun _ => 0)))]) [4] rfl
  have hDc := hD.sub (ws' := [(q_7, .inl (k_8, 10, .inl (fun _ => 0)))]) [4] (by decide) rfl
  have hKc := hK.sub (tys' := [(k_8, .int)]) [3] rfl
  have hFc := va_free (wc := [(q_7, .inl (k_8, 10, .inl (fun _ => 0)))]) hD hS hA [4] rfl
  refine va_callv (va_runS (As := [.ref q_7, .int (-1)]) (rest := []) ⟨hx, hb, hml, hown, hts⟩ (c_fill_10 l D ad H.size q_7 k_8 (fun _ => 0) (-1)) ⟨callB_of 2 hts (gd_C qq_1_97) rfl rfl rfl (hT _ qq_1_5) (hT _ qq_1_95) (by decide +kernel) (rm_R rfl rfl), (hT _ qq_1_96)⟩ (pr_S hPc hKc hDc hN) rfl rfl hl.1 rfl (lv_room (Nat.le_of_ble_eq_true rfl)) dX10_init_41 ⟨Nat.le_of_ble_eq_true rfl, Nat.le_of_ble_eq_true rfl⟩) hS (fun q _ h => hFc q h) hFc (fun u_9 t_12 H1 locs ht9 hvm hw_10 hB_11 hz1 hk1 hS => ?_)
  obtain ⟨hP1, hK1, hD1⟩ := hB_11
  rw [ht9] at hP1
  have hK1 := va_K.moved hvm.symm hK1
  obtain ⟨hP, hD⟩ := va_join (wr := [(hn, .inr (8, [.null, .int 0, .int 0, .int 0, .int 0, .ref q_1, .ref q_3, .ref q_5, .ref q_7])), (q_1, .inl (k_2, 10, .inl (fun _ => 0))), (q_3, .inl (k_4, 10, .inl (fun _ => 0))), (q_5, .inl (k_6, 10, .inl (fun _ => 0)))]) (w1 := [(q_7, .inl (k_8, 10, .inl (fun _ => (-1))))]) hP hD [4] [0, 1, 2, 3] rfl rfl (by decide) (by decide) hk1 hFc hP1 hD1
  have hK := (hK.sub (tys' := [(k_2, .int), (k_4, .int), (k_6, .int)]) [0, 1, 2] rfl).app hK1
  have hK : va_K D vwCl [(k_2, .int), (k_4, .int), (k_6, .int), (k_8, .int)] s := hK
  generalize H1 = H at hP hS ⊢
  have hP : va_P D vwCl [(hn, .inr (8, [.null, .int 0, .int 0, .int 0, .int 0, .ref q_1, .ref q_3, .ref q_5, .ref q_7])), (q_1, .inl (k_2, 10, .inl (fun _ => 0))), (q_3, .inl (k_4, 10, .inl (fun _ => 0))), (q_5, .inl (k_6, 10, .inl (fun _ => 0))), (q_7, .inl (k_8, 10, .inl (fun _ => (-1))))] H := hP
  have hD : va_D A [(hn, .inr (8, [.null, .int 0, .int 0, .int 0, .int 0, .ref q_1, .ref q_3, .ref q_5, .ref q_7])), (q_1, .inl (k_2, 10, .inl (fun _ => 0))), (q_3, .inl (k_4, 10, .inl (fun _ => 0))), (q_5, .inl (k_6, 10, .inl (fun _ => 0))), (q_7, .inl (k_8, 10, .inl (fun _ => (-1))))] := hD
  refine W.widen (k := 4) (n := 40) (Nat.le_of_ble_eq_true rfl) (Nat.le_of_ble_eq_true rfl) ?_
  have hP9 := hP.sub (ws' := [(hn, .inr (8, [.null, .int 0, .int 0, .int 0, .int 0, .ref q_1, .ref q_3, .ref q_5, .ref q_7])), (q_1, .inl (k_2, 10, .inl (fun _ => 0))), (q_3, .inl (k_4, 10, .inl (fun _ => 0))), (q_5, .inl (k_6, 10, .inl (fun _ => 0))), (q_7, .inl (k_8, 10, .inl (fun _ => (-1))))]) [0, 1, 2, 3, 4] rfl
  have hD9 := hD.sub (ws' := [(hn, .inr (8, [.null, .int 0, .int 0, .int 0, .int 0, .ref q_1, .ref q_3, .ref q_5, .ref q_7])), (q_1, .inl (k_2, 10, .inl (fun _ => 0))), (q_3, .inl (k_4, 10, .inl (fun _ => 0))), (q_5, .inl (k_6, 10, .inl (fun _ => 0))), (q_7, .inl (k_8, 10, .inl (fun _ => (-1))))]) [0, 1, 2, 3, 4] (by decide) rfl
  have hK9 := hK.sub (tys' := [(k_2, .int), (k_4, .int), (k_6, .int), (k_8, .int)]) [0, 1, 2, 3] rfl
  exact W.vret hx hb hr (fun t9 ht9 hW9 => ⟨⟨(), rfl, trivial, ⟨q_1, q_3, q_5, q_7, k_2, k_4, k_6, k_8, by rw [ht9]; exact hP9, va_K.moved hW9.alike hK9, hD9⟩⟩, hS.F ht9⟩) hS.2.2 dX10_init_44
theorem dX9_init_0 : decode cX9_init 0 = .ok (.aload_n 0, 1) := by decide +kernel
theorem dX9_init_1 : decode cX9_init 1 = .ok (.invokespecial 3, 3) := by decide +kernel
theorem qq_1_35 : Cond.methodLink "WrongHole$Text" 3 (⟨"java/lang/Object", "<init>", "()V"⟩ : MethodName) ∈ TB := mk_tb (ti_1 (List.mem_of_getElem? (i := 35) rfl)) rfl
theorem dX9_init_4 : decode cX9_init 4 = .ok (.aload_n 0, 1) := by decide +kernel
theorem dX9_init_5 : decode cX9_init 5 = .ok (.sipush 400, 3) := by decide +kernel
theorem dX9_init_8 : decode cX9_init 8 = .ok (.newarray .char, 2) := by decide +kernel
theorem qq_1_66 : Cond.arrayClass Jvm.ClassFile.FieldType.char ∈ TB := mk_tb (ti_1 (List.mem_of_getElem? (i := 66) rfl)) rfl
theorem dX9_init_10 : decode cX9_init 10 = .ok (.putfield 11, 3) := by decide +kernel
theorem dX9_init_13 : decode cX9_init 13 = .ok (.return_, 1) := by decide +kernel
set_option maxHeartbeats 4000000 in
set_option maxRecDepth 100000 in
theorem c_text_init (l : Launch) (D : va_G) (ad : Nat → Nat) (sz : Nat) (ht : Nat)  : Met l yX9_init (Cond.code yX9_init cX9_init 1 none :: TB) (RM 1 1 400) (va_Pc [.ref ht] (PRE D ad [(ht, .inr (7, [.null, .int 0, .int 0, .int 0, .int 0, .int 0, .int 0, .int 0]))] [] sz)) (va_Qv (S := Unit) (fun _ => True) (fun _ t => ∃ (hs : Nat), ∃ (khs : ClassId), va_P D vwCl [(ht, .inr (7, [.ref hs, .int 0, .int 0, .int 0, .int 0, .int 0, .int 0, .int 0])), (hs, .inl (khs, 400, .inl (fun _ => 0)))] t.heap ∧ va_K D vwCl [(khs, .char)] t ∧ va_D (va_A [(ht, .inr (7, [.null, .int 0, .int 0, .int 0, .int 0, .int 0, .int 0, .int 0]))] sz) [(ht, .inr (7, [.ref hs, .int 0, .int 0, .int 0, .int 0, .int 0, .int 0, .int 0])), (hs, .inl (khs, 400, .inl (fun _ => 0)))]) (va_A [(ht, .inr (7, [.null, .int 0, .int 0, .int 0, .int 0, .int 0, .int 0, .int 0]))] sz)) 1 400 (va_A [(ht, .inr (7, [.null, .int 0, .int 0, .int 0, .int 0, .int 0, .int 0, .int 0]))] sz) := by
  refine MET (y := yX9_init) (cc := cX9_init) (maxL := 1) (ret := none) (d := 1) (mc := 1) (ms := 400) (D := D) (ad := ad) (ws := [(ht, .inr (7, [.null, .int 0, .int 0, .int 0, .int 0, .int 0, .int 0, .int 0]))]) (tys := []) (sz := sz) (av := [.ref ht]) (Qc := fun A => va_Qv (S := Unit) (fun _ => True) (fun _ t => ∃ (hs : Nat), ∃ (khs : ClassId), va_P D vwCl [(ht, .inr (7, [.ref hs, .int 0, .int 0, .int 0, .int 0, .int 0, .int 0, .int 0])), (hs, .inl (khs, 400, .inl (fun _ => 0)))] t.heap ∧ va_K D vwCl [(khs, .char)] t ∧ va_D A [(ht, .inr (7, [.ref hs, .int 0, .int 0, .int 0, .int 0, .int 0, .int 0, .int 0])), (hs, .inl (khs, 400, .inl (fun _ => 0)))]) A) (fr := fun A => A) (by decide) (Nat.le_of_ble_eq_true rfl) ?_
  intro p e s m below meth c ls A H hHe hx hb hr hml hown hts hlocks hnm hP hK hD hA hS hN hl
  have hown : s.vm.findClass "WrongHole$Text" = some m.cls := hown
  have hT : ∀ w ∈ TB, w.before ([.ref ht] : List Value).toArray s = true := fun w h => hts w (List.mem_cons_of_mem _ h)
  have hl : lv_has ls 1 [(0, .ref ht)] := hl
  have hP : va_P D vwCl [(ht, .inr (7, [.null, .int 0, .int 0, .int 0, .int 0, .int 0, .int 0, .int 0]))] H := hP
  refine lv_aload_n hx hb dX9_init_0 rfl (lv_at hl 0 rfl) ?_
  refine W.objInit hx hb hown (hT _ qq_1_35) (hT _ qq_1_28) (hT _ qq_1_29) rfl (by rw [hml]; exact hl.1) rfl dX9_init_1 (Nat.le_of_ble_eq_true rfl) (Nat.le_of_ble_eq_true rfl) ?_
  refine W.eq (g2 := F0 m 4 ls []) rfl ?_
  refine lv_aload_n hx hb dX9_init_4 rfl (lv_at hl 0 rfl) ?_
  refine lv_sipush (v := 400) hx hb dX9_init_5 (by decide) ?_
  refine va_newa (atype := .char) hx hb (hT _ qq_1_66) rfl hK hP hD hS hA (a0 := (400, .inl (fun _ => 0))) (fun _ => rfl) (by decide) (by decide) (Nat.le_of_ble_eq_true rfl) (Nat.le_of_ble_eq_true rfl) (Nat.le_of_ble_eq_true rfl) dX9_init_8 (fun q_1 k_2 H hK hP hD hS => ?_)
  have hK : va_K D vwCl [(k_2, .char)] s := hK
  have hP : va_P D vwCl [(ht, .inr (7, [.null, .int 0, .int 0, .int 0, .int 0, .int 0, .int 0, .int 0])), (q_1, .inl (k_2, 400, .inl (fun _ => 0)))] H := hP
  have hD : va_D A [(ht, .inr (7, [.null, .int 0, .int 0, .int 0, .int 0, .int 0, .int 0, .int 0])), (q_1, .inl (k_2, 400, .inl (fun _ => 0)))] := hD
  refine W.widen (k := 1) (n := 400) (Nat.le_of_ble_eq_true rfl) (Nat.le_of_ble_eq_true rfl) ?_
  refine va_putF (D := D) (ci := 7) (v := .ref q_1) (ty := .array .char) (C := "WrongHole$Text") (T := TX9) (N := 8) hx hb hts (iq_RX9 _) tyX9 tyX9_ok nmX9 hown hK hP hD hS 0 rfl rfl 0 (by decide) (hT _ qq_1_36) (fun _ h9 => h9) rfl hnm rfl (by decide +kernel) rfl rfl (Nat.le_of_ble_eq_true rfl) dX9_init_10 (fun H locs hP hD hS => ?_)
  have hP : va_P D vwCl [(ht, .inr (7, [.ref q_1, .int 0, .int 0, .int 0, .int 0, .int 0, .int 0, .int 0])), (q_1, .inl (k_2, 400, .inl (fun _ => 0)))] H := hP
  have hD : va_D A [(ht, .inr (7, [.ref q_1, .int 0, .int 0, .int 0, .int 0, .int 0, .int 0, .int 0])), (q_1, .inl (k_2, 400, .inl (fun _ => 0)))] := hD
  refine W.widen (k := 1) (n := 400) (Nat.le_of_ble_eq_true rfl) (Nat.le_of_ble_eq_true rfl) ?_
  have hP9 := hP.sub (ws' := [(ht, .inr (7, [.ref q_1, .int 0, .int 0, .int 0, .int 0, .int 0, .int 0, .int 0])), (q_1, .inl (k_2, 400, .inl (fun _ => 0)))]) [0, 1] rfl
  have hD9 := hD.sub (ws' := [(ht, .inr (7, [.ref q_1, .int 0, .int 0, .int 0, .int 0, .int 0, .int 0, .int 0])), (q_1, .inl (k_2, 400, .inl (fun _ => 0)))]) [0, 1] (by decide) rfl
  have hK9 := hK.sub (tys' := [(k_2, .char)]) [0] rfl
  exact W.vret hx hb hr (fun t9 ht9 hW9 => ⟨⟨(), rfl, trivial, ⟨q_1, k_2, by rw [ht9]; exact hP9, va_K.moved hW9.alike hK9, hD9⟩⟩, hS.F ht9⟩) hS.2.2 dX9_init_13
theorem dX8_init_0 : decode cX8_init 0 = .ok (.aload_n 0, 1) := by decide +kernel
theorem dX8_init_1 : decode cX8_init 1 = .ok (.invokespecial 3, 3) := by decide +kernel
theorem qq_1_72 : Cond.methodLink "WrongHole$RuleReader" 3 (⟨"java/lang/Object", "<init>", "()V"⟩ : MethodName) ∈ TB := mk_tb (ti_1 (List.mem_of_getElem? (i := 72) rfl)) rfl
theorem dX8_init_4 : decode cX8_init 4 = .ok (.aload_n 0, 1) := by decide +kernel
theorem dX8_init_5 : decode cX8_init 5 = .ok (.sipush 400, 3) := by decide +kernel
theorem dX8_init_8 : decode cX8_init 8 = .ok (.newarray .int, 2) := by decide +kernel
theorem dX8_init_10 : decode cX8_init 10 = .ok (.putfield 11, 3) := by decide +kernel
theorem qq_1_73 : Cond.fieldLink "WrongHole$RuleReader" 11 "WrongHole$RuleReader" "code" "[I" ∈ TB := mk_tb (ti_1 (List.mem_of_getElem? (i := 73) rfl)) rfl
theorem iq_RX8 (cd : Cond) : ∀ w ∈ u_ws RX8 TX8 4, w ∈ cd :: TB := by
  intro w hw
  obtain ⟨k, hk, rfl⟩ := List.mem_map.mp hw
  have hk := List.mem_range.mp hk
  refine List.mem_cons_of_mem _ ?_
  match k, hk with
  | 0, _ => exact mk_tb (ti_1 (List.mem_of_getElem? (i := 77) rfl)) rfl
  | 1, _ => exact mk_tb (ti_1 (List.mem_of_getElem? (i := 79) rfl)) rfl
  | 2, _ => exact mk_tb (ti_1 (List.mem_of_getElem? (i := 81) rfl)) rfl
  | 3, _ => exact mk_tb (ti_1 (List.mem_of_getElem? (i := 83) rfl)) rfl
  | n + 4, h => exact absurd h (by omega)
theorem dX8_init_13 : decode cX8_init 13 = .ok (.aload_n 0, 1) := by decide +kernel
theorem dX8_init_14 : decode cX8_init 14 = .ok (.bipush 25, 2) := by decide +kernel
theorem dX8_init_16 : decode cX8_init 16 = .ok (.newarray .int, 2) := by decide +kernel
theorem dX8_init_18 : decode cX8_init 18 = .ok (.putfield 17, 3) := by decide +kernel
theorem qq_1_74 : Cond.fieldLink "WrongHole$RuleReader" 17 "WrongHole$RuleReader" "bounds" "[I" ∈ TB := mk_tb (ti_1 (List.mem_of_getElem? (i := 74) rfl)) rfl
theorem dX8_init_21 : decode cX8_init 21 = .ok (.return_, 1) := by decide +kernel
set_option maxHeartbeats 4000000 in
set_option maxRecDepth 100000 in
theorem c_rr_init (l : Launch) (D : va_G) (ad : Nat → Nat) (sz : Nat) (h0 : Nat)  : Met l yX8_init (Cond.code yX8_init cX8_init 1 none :: TB) (RM 1 2 425) (va_Pc [.ref h0] (PRE D ad [(h0, .inr (6, [.null, .null, .int 0, .int 0]))] [] sz)) (va_Qv (S := Unit) (fun _ => True) (fun _ t => ∃ (p1 : Nat), ∃ (p2 : Nat), ∃ (kp1 : ClassId), ∃ (kp2 : ClassId), va_P D vwCl [(h0, .inr (6, [.ref p1, .ref p2, .int 0, .int 0])), (p1, .inl (kp1, 400, .inl (fun _ => 0))), (p2, .inl (kp2, 25, .inl (fun _ => 0)))] t.heap ∧ va_K D vwCl [(kp1, .int), (kp2, .int)] t ∧ va_D (va_A [(h0, .inr (6, [.null, .null, .int 0, .int 0]))] sz) [(h0, .inr (6, [.ref p1, .ref p2, .int 0, .int 0])), (p1, .inl (kp1, 400, .inl (fun _ => 0))), (p2, .inl (kp2, 25, .inl (fun _ => 0)))]) (va_A [(h0, .inr (6, [.null, .null, .int 0, .int 0]))] sz)) 2 425 (va_A [(h0, .inr (6, [.null, .null, .int 0, .int 0]))] sz) := by
  refine MET (y := yX8_init) (cc := cX8_init) (maxL := 1) (ret := none) (d := 1) (mc := 2) (ms := 425) (D := D) (ad := ad) (ws := [(h0, .inr (6, [.null, .null, .int 0, .int 0]))]) (tys := []) (sz := sz) (av := [.ref h0]) (Qc := fun A => va_Qv (S := Unit) (fun _ => True) (fun _ t => ∃ (p1 : Nat), ∃ (p2 : Nat), ∃ (kp1 : ClassId), ∃ (kp2 : ClassId), va_P D vwCl [(h0, .inr (6, [.ref p1, .ref p2, .int 0, .int 0])), (p1, .inl (kp1, 400, .inl (fun _ => 0))), (p2, .inl (kp2, 25, .inl (fun _ => 0)))] t.heap ∧ va_K D vwCl [(kp1, .int), (kp2, .int)] t ∧ va_D A [(h0, .inr (6, [.ref p1, .ref p2, .int 0, .int 0])), (p1, .inl (kp1, 400, .inl (fun _ => 0))), (p2, .inl (kp2, 25, .inl (fun _ => 0)))]) A) (fr := fun A => A) (by decide) (Nat.le_of_ble_eq_true rfl) ?_
  intro p e s m below meth c ls A H hHe hx hb hr hml hown hts hlocks hnm hP hK hD hA hS hN hl
  have hown : s.vm.findClass "WrongHole$RuleReader" = some m.cls := hown
  have hT : ∀ w ∈ TB, w.before ([.ref h0] : List Value).toArray s = true := fun w h => hts w (List.mem_cons_of_mem _ h)
  have hl : lv_has ls 1 [(0, .ref h0)] := hl
  have hP : va_P D vwCl [(h0, .inr (6, [.null, .null, .int 0, .int 0]))] H := hP
  refine lv_aload_n hx hb dX8_init_0 rfl (lv_at hl 0 rfl) ?_
  refine W.objInit hx hb hown (hT _ qq_1_72) (hT _ qq_1_28) (hT _ qq_1_29) rfl (by rw [hml]; exact hl.1) rfl dX8_init_1 (Nat.le_of_ble_eq_true rfl) (Nat.le_of_ble_eq_true rfl) ?_
  refine W.eq (g2 := F0 m 4 ls []) rfl ?_
  refine lv_aload_n hx hb dX8_init_4 rfl (lv_at hl 0 rfl) ?_
  refine lv_sipush (v := 400) hx hb dX8_init_5 (by decide) ?_
  refine va_newa (atype := .int) hx hb (hT _ qq_1_86) rfl hK hP hD hS hA (a0 := (400, .inl (fun _ => 0))) (fun _ => rfl) (by decide) (by decide) (Nat.le_of_ble_eq_true rfl) (Nat.le_of_ble_eq_true rfl) (Nat.le_of_ble_eq_true rfl) dX8_init_8 (fun q_1 k_2 H hK hP hD hS => ?_)
  have hK : va_K D vwCl [(k_2, .int)] s := hK
  have hP : va_P D vwCl [(h0, .inr (6, [.null, .null, .int 0, .int 0])), (q_1, .inl (k_2, 400, .inl (fun _ => 0)))] H := hP
  have hD : va_D A [(h0, .inr (6, [.null, .null, .int 0, .int 0])), (q_1, .inl (k_2, 400, .inl (fun _ => 0)))] := hD
  refine W.widen (k := 1) (n := 400) (Nat.le_of_ble_eq_true rfl) (Nat.le_of_ble_eq_true rfl) ?_
  refine va_putF (D := D) (ci := 6) (v := .ref q_1) (ty := .array .int) (C := "WrongHole$RuleReader") (T := TX8) (N := 4) hx hb hts (iq_RX8 _) tyX8 tyX8_ok nmX8 hown hK hP hD hS 0 rfl rfl 0 (by decide) (hT _ qq_1_73) (fun _ h9 => h9) rfl hnm rfl (by decide +kernel) rfl rfl (Nat.le_of_ble_eq_true rfl) dX8_init_10 (fun H locs hP hD hS => ?_)
  have hP : va_P D vwCl [(h0, .inr (6, [.ref q_1, .null, .int 0, .int 0])), (q_1, .inl (k_2, 400, .inl (fun _ => 0)))] H := hP
  have hD : va_D A [(h0, .inr (6, [.ref q_1, .null, .int 0, .int 0])), (q_1, .inl (k_2, 400, .inl (fun _ => 0)))] := hD
  refine lv_aload_n hx hb dX8_init_13 rfl (lv_at hl 0 rfl) ?_
  refine lv_bipush (v := 25) hx hb dX8_init_14 (by decide) ?_
  refine va_newa (atype := .int) hx hb (hT _ qq_1_86) rfl hK hP hD hS hA (a0 := (25, .inl (fun _ => 0))) (fun _ => rfl) (by decide) (by decide) (Nat.le_of_ble_eq_true rfl) (Nat.le_of_ble_eq_true rfl) (Nat.le_of_ble_eq_true rfl) dX8_init_16 (fun q_3 k_4 H hK hP hD hS => ?_)
  have hK : va_K D vwCl [(k_2, .int), (k_4, .int)] s := hK
  have hP : va_P D vwCl [(h0, .inr (6, [.ref q_1, .null, .int 0, .int 0])), (q_1, .inl (k_2, 400, .inl (fun _ => 0))), (q_3, .inl (k_4, 25, .inl (fun _ => 0)))] H := hP
  have hD : va_D A [(h0, .inr (6, [.ref q_1, .null, .int 0, .int 0])), (q_1, .inl (k_2, 400, .inl (fun _ => 0))), (q_3, .inl (k_4, 25, .inl (fun _ => 0)))] := hD
  refine W.widen (k := 2) (n := 425) (Nat.le_of_ble_eq_true rfl) (Nat.le_of_ble_eq_true rfl) ?_
  refine va_putF (D := D) (ci := 6) (v := .ref q_3) (ty := .array .int) (C := "WrongHole$RuleReader") (T := TX8) (N := 4) hx hb hts (iq_RX8 _) tyX8 tyX8_ok nmX8 hown hK hP hD hS 0 rfl rfl 1 (by decide) (hT _ qq_1_74) (fun _ h9 => h9) rfl hnm rfl (by decide +kernel) rfl rfl (Nat.le_of_ble_eq_true rfl) dX8_init_18 (fun H locs hP hD hS => ?_)
  have hP : va_P D vwCl [(h0, .inr (6, [.ref q_1, .ref q_3, .int 0, .int 0])), (q_1, .inl (k_2, 400, .inl (fun _ => 0))), (q_3, .inl (k_4, 25, .inl (fun _ => 0)))] H := hP
  have hD : va_D A [(h0, .inr (6, [.ref q_1, .ref q_3, .int 0, .int 0])), (q_1, .inl (k_2, 400, .inl (fun _ => 0))), (q_3, .inl (k_4, 25, .inl (fun _ => 0)))] := hD
  refine W.widen (k := 2) (n := 425) (Nat.le_of_ble_eq_true rfl) (Nat.le_of_ble_eq_true rfl) ?_
  have hP9 := hP.sub (ws' := [(h0, .inr (6, [.ref q_1, .ref q_3, .int 0, .int 0])), (q_1, .inl (k_2, 400, .inl (fun _ => 0))), (q_3, .inl (k_4, 25, .inl (fun _ => 0)))]) [0, 1, 2] rfl
  have hD9 := hD.sub (ws' := [(h0, .inr (6, [.ref q_1, .ref q_3, .int 0, .int 0])), (q_1, .inl (k_2, 400, .inl (fun _ => 0))), (q_3, .inl (k_4, 25, .inl (fun _ => 0)))]) [0, 1, 2] (by decide) rfl
  have hK9 := hK.sub (tys' := [(k_2, .int), (k_4, .int)]) [0, 1] rfl
  exact W.vret hx hb hr (fun t9 ht9 hW9 => ⟨⟨(), rfl, trivial, ⟨q_1, q_3, k_2, k_4, by rw [ht9]; exact hP9, va_K.moved hW9.alike hK9, hD9⟩⟩, hS.F ht9⟩) hS.2.2 dX8_init_21
theorem dX4_init_0 : decode cX4_init 0 = .ok (.aload_n 0, 1) := by decide +kernel
theorem dX4_init_1 : decode cX4_init 1 = .ok (.invokespecial 1, 3) := by decide +kernel
theorem qq_1_141 : Cond.methodLink "WrongHole$Past" 1 (⟨"java/lang/Object", "<init>", "()V"⟩ : MethodName) ∈ TB := mk_tb (ti_1 (List.mem_of_getElem? (i := 141) rfl)) rfl
theorem dX4_init_4 : decode cX4_init 4 = .ok (.aload_n 0, 1) := by decide +kernel
theorem dX4_init_5 : decode cX4_init 5 = .ok (.bipush 20, 2) := by decide +kernel
theorem dX4_init_7 : decode cX4_init 7 = .ok (.newarray .int, 2) := by decide +kernel
theorem dX4_init_9 : decode cX4_init 9 = .ok (.putfield 9, 3) := by decide +kernel
theorem qq_1_142 : Cond.fieldLink "WrongHole$Past" 9 "WrongHole$Past" "keys" "[I" ∈ TB := mk_tb (ti_1 (List.mem_of_getElem? (i := 142) rfl)) rfl
theorem iq_RX4 (cd : Cond) : ∀ w ∈ u_ws RX4 TX4 4, w ∈ cd :: TB := by
  intro w hw
  obtain ⟨k, hk, rfl⟩ := List.mem_map.mp hw
  have hk := List.mem_range.mp hk
  refine List.mem_cons_of_mem _ ?_
  match k, hk with
  | 0, _ => exact mk_tb (ti_1 (List.mem_of_getElem? (i := 147) rfl)) rfl
  | 1, _ => exact mk_tb (ti_1 (List.mem_of_getElem? (i := 149) rfl)) rfl
  | 2, _ => exact mk_tb (ti_1 (List.mem_of_getElem? (i := 151) rfl)) rfl
  | 3, _ => exact mk_tb (ti_1 (List.mem_of_getElem? (i := 153) rfl)) rfl
  | n + 4, h => exact absurd h (by omega)
theorem dX4_init_12 : decode cX4_init 12 = .ok (.aload_n 0, 1) := by decide +kernel
theorem dX4_init_13 : decode cX4_init 13 = .ok (.bipush 20, 2) := by decide +kernel
theorem dX4_init_15 : decode cX4_init 15 = .ok (.newarray .int, 2) := by decide +kernel
theorem dX4_init_17 : decode cX4_init 17 = .ok (.putfield 13, 3) := by decide +kernel
theorem qq_1_143 : Cond.fieldLink "WrongHole$Past" 13 "WrongHole$Past" "clocks" "[I" ∈ TB := mk_tb (ti_1 (List.mem_of_getElem? (i := 143) rfl)) rfl
theorem dX4_init_20 : decode cX4_init 20 = .ok (.return_, 1) := by decide +kernel
set_option maxHeartbeats 4000000 in
set_option maxRecDepth 100000 in
theorem c_past_init (l : Launch) (D : va_G) (ad : Nat → Nat) (sz : Nat) (h0 : Nat)  : Met l yX4_init (Cond.code yX4_init cX4_init 1 none :: TB) (RM 1 2 40) (va_Pc [.ref h0] (PRE D ad [(h0, .inr (3, [.null, .null, .int 0, .int 0]))] [] sz)) (va_Qv (S := Unit) (fun _ => True) (fun _ t => ∃ (p1 : Nat), ∃ (p2 : Nat), ∃ (kp1 : ClassId), ∃ (kp2 : ClassId), va_P D vwCl [(h0, .inr (3, [.ref p1, .ref p2, .int 0, .int 0])), (p1, .inl (kp1, 20, .inl (fun _ => 0))), (p2, .inl (kp2, 20, .inl (fun _ => 0)))] t.heap ∧ va_K D vwCl [(kp1, .int), (kp2, .int)] t ∧ va_D (va_A [(h0, .inr (3, [.null, .null, .int 0, .int 0]))] sz) [(h0, .inr (3, [.ref p1, .ref p2, .int 0, .int 0])), (p1, .inl (kp1, 20, .inl (fun _ => 0))), (p2, .inl (kp2, 20, .inl (fun _ => 0)))]) (va_A [(h0, .inr (3, [.null, .null, .int 0, .int 0]))] sz)) 2 40 (va_A [(h0, .inr (3, [.null, .null, .int 0, .int 0]))] sz) := by
  refine MET (y := yX4_init) (cc := cX4_init) (maxL := 1) (ret := none) (d := 1) (mc := 2) (ms := 40) (D := D) (ad := ad) (ws := [(h0, .inr (3, [.null, .null, .int 0, .int 0]))]) (tys := []) (sz := sz) (av := [.ref h0]) (Qc := fun A => va_Qv (S := Unit) (fun _ => True) (fun _ t => ∃ (p1 : Nat), ∃ (p2 : Nat), ∃ (kp1 : ClassId), ∃ (kp2 : ClassId), va_P D vwCl [(h0, .inr (3, [.ref p1, .ref p2, .int 0, .int 0])), (p1, .inl (kp1, 20, .inl (fun _ => 0))), (p2, .inl (kp2, 20, .inl (fun _ => 0)))] t.heap ∧ va_K D vwCl [(kp1, .int), (kp2, .int)] t ∧ va_D A [(h0, .inr (3, [.ref p1, .ref p2, .int 0, .int 0])), (p1, .inl (kp1, 20, .inl (fun _ => 0))), (p2, .inl (kp2, 20, .inl (fun _ => 0)))]) A) (fr := fun A => A) (by decide) (Nat.le_of_ble_eq_true rfl) ?_
  intro p e s m below meth c ls A H hHe hx hb hr hml hown hts hlocks hnm hP hK hD hA hS hN hl
  have hown : s.vm.findClass "WrongHole$Past" = some m.cls := hown
  have hT : ∀ w ∈ TB, w.before ([.ref h0] : List Value).toArray s = true := fun w h => hts w (List.mem_cons_of_mem _ h)
  have hl : lv_has ls 1 [(0, .ref h0)] := hl
  have hP : va_P D vwCl [(h0, .inr (3, [.null, .null, .int 0, .int 0]))] H := hP
  refine lv_aload_n hx hb dX4_init_0 rfl (lv_at hl 0 rfl) ?_
  refine W.objInit hx hb hown (hT _ qq_1_141) (hT _ qq_1_28) (hT _ qq_1_29) rfl (by rw [hml]; exact hl.1) rfl dX4_init_1 (Nat.le_of_ble_eq_true rfl) (Nat.le_of_ble_eq_true rfl) ?_
  refine W.eq (g2 := F0 m 4 ls []) rfl ?_
  refine lv_aload_n hx hb dX4_init_4 rfl (lv_at hl 0 rfl) ?_
  refine lv_bipush (v := 20) hx hb dX4_init_5 (by decide) ?_
  refine va_newa (atype := .int) hx hb (hT _ qq_1_86) rfl hK hP hD hS hA (a0 := (20, .inl (fun _ => 0))) (fun _ => rfl) (by decide) (by decide) (Nat.le_of_ble_eq_true rfl) (Nat.le_of_ble_eq_true rfl) (Nat.le_of_ble_eq_true rfl) dX4_init_7 (fun q_1 k_2 H hK hP hD hS => ?_)
  have hK : va_K D vwCl [(k_2, .int)] s := hK
  have hP : va_P D vwCl [(h0, .inr (3, [.null, .null, .int 0, .int 0])), (q_1, .inl (k_2, 20, .inl (fun _ => 0)))] H := hP
  have hD : va_D A [(h0, .inr (3, [.null, .null, .int 0, .int 0])), (q_1, .inl (k_2, 20, .inl (fun _ => 0)))] := hD
  refine W.widen (k := 1) (n := 20) (Nat.le_of_ble_eq_true rfl) (Nat.le_of_ble_eq_true rfl) ?_
  refine va_putF (D := D) (ci := 3) (v := .ref q_1) (ty := .array .int) (C := "WrongHole$Past") (T := TX4) (N := 4) hx hb hts (iq_RX4 _) tyX4 tyX4_ok nmX4 hown hK hP hD hS 0 rfl rfl 0 (by decide) (hT _ qq_1_142) (fun _ h9 => h9) rfl hnm rfl (by decide +kernel) rfl rfl (Nat.le_of_ble_eq_true rfl) dX4_init_9 (fun H locs hP hD hS => ?_)
  have hP : va_P D vwCl [(h0, .inr (3, [.ref q_1, .null, .int 0, .int 0])), (q_1, .inl (k_2, 20, .inl (fun _ => 0)))] H := hP
  have hD : va_D A [(h0, .inr (3, [.ref q_1, .null, .int 0, .int 0])), (q_1, .inl (k_2, 20, .inl (fun _ => 0)))] := hD
  refine lv_aload_n hx hb dX4_init_12 rfl (lv_at hl 0 rfl) ?_
  refine lv_bipush (v := 20) hx hb dX4_init_13 (by decide) ?_
  refine va_newa (atype := .int) hx hb (hT _ qq_1_86) rfl hK hP hD hS hA (a0 := (20, .inl (fun _ => 0))) (fun _ => rfl) (by decide) (by decide) (Nat.le_of_ble_eq_true rfl) (Nat.le_of_ble_eq_true rfl) (Nat.le_of_ble_eq_true rfl) dX4_init_15 (fun q_3 k_4 H hK hP hD hS => ?_)
  have hK : va_K D vwCl [(k_2, .int), (k_4, .int)] s := hK
  have hP : va_P D vwCl [(h0, .inr (3, [.ref q_1, .null, .int 0, .int 0])), (q_1, .inl (k_2, 20, .inl (fun _ => 0))), (q_3, .inl (k_4, 20, .inl (fun _ => 0)))] H := hP
  have hD : va_D A [(h0, .inr (3, [.ref q_1, .null, .int 0, .int 0])), (q_1, .inl (k_2, 20, .inl (fun _ => 0))), (q_3, .inl (k_4, 20, .inl (fun _ => 0)))] := hD
  refine W.widen (k := 2) (n := 40) (Nat.le_of_ble_eq_true rfl) (Nat.le_of_ble_eq_true rfl) ?_
  refine va_putF (D := D) (ci := 3) (v := .ref q_3) (ty := .array .int) (C := "WrongHole$Past") (T := TX4) (N := 4) hx hb hts (iq_RX4 _) tyX4 tyX4_ok nmX4 hown hK hP hD hS 0 rfl rfl 1 (by decide) (hT _ qq_1_143) (fun _ h9 => h9) rfl hnm rfl (by decide +kernel) rfl rfl (Nat.le_of_ble_eq_true rfl) dX4_init_17 (fun H locs hP hD hS => ?_)
  have hP : va_P D vwCl [(h0, .inr (3, [.ref q_1, .ref q_3, .int 0, .int 0])), (q_1, .inl (k_2, 20, .inl (fun _ => 0))), (q_3, .inl (k_4, 20, .inl (fun _ => 0)))] H := hP
  have hD : va_D A [(h0, .inr (3, [.ref q_1, .ref q_3, .int 0, .int 0])), (q_1, .inl (k_2, 20, .inl (fun _ => 0))), (q_3, .inl (k_4, 20, .inl (fun _ => 0)))] := hD
  refine W.widen (k := 2) (n := 40) (Nat.le_of_ble_eq_true rfl) (Nat.le_of_ble_eq_true rfl) ?_
  have hP9 := hP.sub (ws' := [(h0, .inr (3, [.ref q_1, .ref q_3, .int 0, .int 0])), (q_1, .inl (k_2, 20, .inl (fun _ => 0))), (q_3, .inl (k_4, 20, .inl (fun _ => 0)))]) [0, 1, 2] rfl
  have hD9 := hD.sub (ws' := [(h0, .inr (3, [.ref q_1, .ref q_3, .int 0, .int 0])), (q_1, .inl (k_2, 20, .inl (fun _ => 0))), (q_3, .inl (k_4, 20, .inl (fun _ => 0)))]) [0, 1, 2] (by decide) rfl
  have hK9 := hK.sub (tys' := [(k_2, .int), (k_4, .int)]) [0, 1] rfl
  exact W.vret hx hb hr (fun t9 ht9 hW9 => ⟨⟨(), rfl, trivial, ⟨q_1, q_3, k_2, k_4, by rw [ht9]; exact hP9, va_K.moved hW9.alike hK9, hD9⟩⟩, hS.F ht9⟩) hS.2.2 dX4_init_20
theorem dX0_init_0 : decode cX0_init 0 = .ok (.aload_n 0, 1) := by decide +kernel
theorem dX0_init_1 : decode cX0_init 1 = .ok (.invokespecial 1, 3) := by decide +kernel
theorem qq_1_161 : Cond.methodLink "WrongHole$Acts" 1 (⟨"java/lang/Object", "<init>", "()V"⟩ : MethodName) ∈ TB := mk_tb (ti_1 (List.mem_of_getElem? (i := 161) rfl)) rfl
theorem dX0_init_4 : decode cX0_init 4 = .ok (.aload_n 0, 1) := by decide +kernel
theorem dX0_init_5 : decode cX0_init 5 = .ok (.bipush 8, 2) := by decide +kernel
theorem dX0_init_7 : decode cX0_init 7 = .ok (.newarray .int, 2) := by decide +kernel
theorem dX0_init_9 : decode cX0_init 9 = .ok (.putfield 7, 3) := by decide +kernel
theorem qq_1_162 : Cond.fieldLink "WrongHole$Acts" 7 "WrongHole$Acts" "spots" "[I" ∈ TB := mk_tb (ti_1 (List.mem_of_getElem? (i := 162) rfl)) rfl
theorem iq_RX0 (cd : Cond) : ∀ w ∈ u_ws RX0 TX0 3, w ∈ cd :: TB := by
  intro w hw
  obtain ⟨k, hk, rfl⟩ := List.mem_map.mp hw
  have hk := List.mem_range.mp hk
  refine List.mem_cons_of_mem _ ?_
  match k, hk with
  | 0, _ => exact mk_tb (ti_1 (List.mem_of_getElem? (i := 170) rfl)) rfl
  | 1, _ => exact mk_tb (ti_1 (List.mem_of_getElem? (i := 172) rfl)) rfl
  | 2, _ => exact mk_tb (ti_1 (List.mem_of_getElem? (i := 174) rfl)) rfl
  | n + 3, h => exact absurd h (by omega)
theorem dX0_init_12 : decode cX0_init 12 = .ok (.aload_n 0, 1) := by decide +kernel
theorem dX0_init_13 : decode cX0_init 13 = .ok (.bipush 72, 2) := by decide +kernel
theorem dX0_init_15 : decode cX0_init 15 = .ok (.newarray .int, 2) := by decide +kernel
theorem dX0_init_17 : decode cX0_init 17 = .ok (.putfield 13, 3) := by decide +kernel
theorem qq_1_164 : Cond.fieldLink "WrongHole$Acts" 13 "WrongHole$Acts" "codes" "[I" ∈ TB := mk_tb (ti_1 (List.mem_of_getElem? (i := 164) rfl)) rfl
theorem dX0_init_20 : decode cX0_init 20 = .ok (.return_, 1) := by decide +kernel
set_option maxHeartbeats 4000000 in
set_option maxRecDepth 100000 in
theorem c_acts_init (l : Launch) (D : va_G) (ad : Nat → Nat) (sz : Nat) (h0 : Nat)  : Met l yX0_init (Cond.code yX0_init cX0_init 1 none :: TB) (RM 1 2 80) (va_Pc [.ref h0] (PRE D ad [(h0, .inr (0, [.null, .null, .int 0]))] [] sz)) (va_Qv (S := Unit) (fun _ => True) (fun _ t => ∃ (p1 : Nat), ∃ (p2 : Nat), ∃ (kp1 : ClassId), ∃ (kp2 : ClassId), va_P D vwCl [(h0, .inr (0, [.ref p1, .ref p2, .int 0])), (p1, .inl (kp1, 8, .inl (fun _ => 0))), (p2, .inl (kp2, 72, .inl (fun _ => 0)))] t.heap ∧ va_K D vwCl [(kp1, .int), (kp2, .int)] t ∧ va_D (va_A [(h0, .inr (0, [.null, .null, .int 0]))] sz) [(h0, .inr (0, [.ref p1, .ref p2, .int 0])), (p1, .inl (kp1, 8, .inl (fun _ => 0))), (p2, .inl (kp2, 72, .inl (fun _ => 0)))]) (va_A [(h0, .inr (0, [.null, .null, .int 0]))] sz)) 2 80 (va_A [(h0, .inr (0, [.null, .null, .int 0]))] sz) := by
  refine MET (y := yX0_init) (cc := cX0_init) (maxL := 1) (ret := none) (d := 1) (mc := 2) (ms := 80) (D := D) (ad := ad) (ws := [(h0, .inr (0, [.null, .null, .int 0]))]) (tys := []) (sz := sz) (av := [.ref h0]) (Qc := fun A => va_Qv (S := Unit) (fun _ => True) (fun _ t => ∃ (p1 : Nat), ∃ (p2 : Nat), ∃ (kp1 : ClassId), ∃ (kp2 : ClassId), va_P D vwCl [(h0, .inr (0, [.ref p1, .ref p2, .int 0])), (p1, .inl (kp1, 8, .inl (fun _ => 0))), (p2, .inl (kp2, 72, .inl (fun _ => 0)))] t.heap ∧ va_K D vwCl [(kp1, .int), (kp2, .int)] t ∧ va_D A [(h0, .inr (0, [.ref p1, .ref p2, .int 0])), (p1, .inl (kp1, 8, .inl (fun _ => 0))), (p2, .inl (kp2, 72, .inl (fun _ => 0)))]) A) (fr := fun A => A) (by decide) (Nat.le_of_ble_eq_true rfl) ?_
  intro p e s m below meth c ls A H hHe hx hb hr hml hown hts hlocks hnm hP hK hD hA hS hN hl
  have hown : s.vm.findClass "WrongHole$Acts" = some m.cls := hown
  have hT : ∀ w ∈ TB, w.before ([.ref h0] : List Value).toArray s = true := fun w h => hts w (List.mem_cons_of_mem _ h)
  have hl : lv_has ls 1 [(0, .ref h0)] := hl
  have hP : va_P D vwCl [(h0, .inr (0, [.null, .null, .int 0]))] H := hP
  refine lv_aload_n hx hb dX0_init_0 rfl (lv_at hl 0 rfl) ?_
  refine W.objInit hx hb hown (hT _ qq_1_161) (hT _ qq_1_28) (hT _ qq_1_29) rfl (by rw [hml]; exact hl.1) rfl dX0_init_1 (Nat.le_of_ble_eq_true rfl) (Nat.le_of_ble_eq_true rfl) ?_
  refine W.eq (g2 := F0 m 4 ls []) rfl ?_
  refine lv_aload_n hx hb dX0_init_4 rfl (lv_at hl 0 rfl) ?_
  refine lv_bipush (v := 8) hx hb dX0_init_5 (by decide) ?_
  refine va_newa (atype := .int) hx hb (hT _ qq_1_86) rfl hK hP hD hS hA (a0 := (8, .inl (fun _ => 0))) (fun _ => rfl) (by decide) (by decide) (Nat.le_of_ble_eq_true rfl) (Nat.le_of_ble_eq_true rfl) (Nat.le_of_ble_eq_true rfl) dX0_init_7 (fun q_1 k_2 H hK hP hD hS => ?_)
  have hK : va_K D vwCl [(k_2, .int)] s := hK
  have hP : va_P D vwCl [(h0, .inr (0, [.null, .null, .int 0])), (q_1, .inl (k_2, 8, .inl (fun _ => 0)))] H := hP
  have hD : va_D A [(h0, .inr (0, [.null, .null, .int 0])), (q_1, .inl (k_2, 8, .inl (fun _ => 0)))] := hD
  refine W.widen (k := 1) (n := 8) (Nat.le_of_ble_eq_true rfl) (Nat.le_of_ble_eq_true rfl) ?_
  refine va_putF (D := D) (ci := 0) (v := .ref q_1) (ty := .array .int) (C := "WrongHole$Acts") (T := TX0) (N := 3) hx hb hts (iq_RX0 _) tyX0 tyX0_ok nmX0 hown hK hP hD hS 0 rfl rfl 0 (by decide) (hT _ qq_1_162) (fun _ h9 => h9) rfl hnm rfl (by decide +kernel) rfl rfl (Nat.le_of_ble_eq_true rfl) dX0_init_9 (fun H locs hP hD hS => ?_)
  have hP : va_P D vwCl [(h0, .inr (0, [.ref q_1, .null, .int 0])), (q_1, .inl (k_2, 8, .inl (fun _ => 0)))] H := hP
  have hD : va_D A [(h0, .inr (0, [.ref q_1, .null, .int 0])), (q_1, .inl (k_2, 8, .inl (fun _ => 0)))] := hD
  refine lv_aload_n hx hb dX0_init_12 rfl (lv_at hl 0 rfl) ?_
  refine lv_bipush (v := 72) hx hb dX0_init_13 (by decide) ?_
  refine va_newa (atype := .int) hx hb (hT _ qq_1_86) rfl hK hP hD hS hA (a0 := (72, .inl (fun _ => 0))) (fun _ => rfl) (by decide) (by decide) (Nat.le_of_ble_eq_true rfl) (Nat.le_of_ble_eq_true rfl) (Nat.le_of_ble_eq_true rfl) dX0_init_15 (fun q_3 k_4 H hK hP hD hS => ?_)
  have hK : va_K D vwCl [(k_2, .int), (k_4, .int)] s := hK
  have hP : va_P D vwCl [(h0, .inr (0, [.ref q_1, .null, .int 0])), (q_1, .inl (k_2, 8, .inl (fun _ => 0))), (q_3, .inl (k_4, 72, .inl (fun _ => 0)))] H := hP
  have hD : va_D A [(h0, .inr (0, [.ref q_1, .null, .int 0])), (q_1, .inl (k_2, 8, .inl (fun _ => 0))), (q_3, .inl (k_4, 72, .inl (fun _ => 0)))] := hD
  refine W.widen (k := 2) (n := 80) (Nat.le_of_ble_eq_true rfl) (Nat.le_of_ble_eq_true rfl) ?_
  refine va_putF (D := D) (ci := 0) (v := .ref q_3) (ty := .array .int) (C := "WrongHole$Acts") (T := TX0) (N := 3) hx hb hts (iq_RX0 _) tyX0 tyX0_ok nmX0 hown hK hP hD hS 0 rfl rfl 1 (by decide) (hT _ qq_1_164) (fun _ h9 => h9) rfl hnm rfl (by decide +kernel) rfl rfl (Nat.le_of_ble_eq_true rfl) dX0_init_17 (fun H locs hP hD hS => ?_)
  have hP : va_P D vwCl [(h0, .inr (0, [.ref q_1, .ref q_3, .int 0])), (q_1, .inl (k_2, 8, .inl (fun _ => 0))), (q_3, .inl (k_4, 72, .inl (fun _ => 0)))] H := hP
  have hD : va_D A [(h0, .inr (0, [.ref q_1, .ref q_3, .int 0])), (q_1, .inl (k_2, 8, .inl (fun _ => 0))), (q_3, .inl (k_4, 72, .inl (fun _ => 0)))] := hD
  refine W.widen (k := 2) (n := 80) (Nat.le_of_ble_eq_true rfl) (Nat.le_of_ble_eq_true rfl) ?_
  have hP9 := hP.sub (ws' := [(h0, .inr (0, [.ref q_1, .ref q_3, .int 0])), (q_1, .inl (k_2, 8, .inl (fun _ => 0))), (q_3, .inl (k_4, 72, .inl (fun _ => 0)))]) [0, 1, 2] rfl
  have hD9 := hD.sub (ws' := [(h0, .inr (0, [.ref q_1, .ref q_3, .int 0])), (q_1, .inl (k_2, 8, .inl (fun _ => 0))), (q_3, .inl (k_4, 72, .inl (fun _ => 0)))]) [0, 1, 2] (by decide) rfl
  have hK9 := hK.sub (tys' := [(k_2, .int), (k_4, .int)]) [0, 1] rfl
  exact W.vret hx hb hr (fun t9 ht9 hW9 => ⟨⟨(), rfl, trivial, ⟨q_1, q_3, k_2, k_4, by rw [ht9]; exact hP9, va_K.moved hW9.alike hK9, hD9⟩⟩, hS.F ht9⟩) hS.2.2 dX0_init_20
theorem dX1_init_0 : decode cX1_init 0 = .ok (.aload_n 0, 1) := by decide +kernel
theorem dX1_init_1 : decode cX1_init 1 = .ok (.invokespecial 1, 3) := by decide +kernel
theorem qq_1_182 : Cond.methodLink "WrongHole$Folds" 1 (⟨"java/lang/Object", "<init>", "()V"⟩ : MethodName) ∈ TB := mk_tb (ti_1 (List.mem_of_getElem? (i := 182) rfl)) rfl
theorem dX1_init_4 : decode cX1_init 4 = .ok (.aload_n 0, 1) := by decide +kernel
theorem dX1_init_5 : decode cX1_init 5 = .ok (.bipush 8, 2) := by decide +kernel
theorem dX1_init_7 : decode cX1_init 7 = .ok (.newarray .int, 2) := by decide +kernel
theorem dX1_init_9 : decode cX1_init 9 = .ok (.putfield 7, 3) := by decide +kernel
theorem qq_1_183 : Cond.fieldLink "WrongHole$Folds" 7 "WrongHole$Folds" "possible" "[I" ∈ TB := mk_tb (ti_1 (List.mem_of_getElem? (i := 183) rfl)) rfl
theorem iq_RX1 (cd : Cond) : ∀ w ∈ u_ws RX1 TX1 6, w ∈ cd :: TB := by
  intro w hw
  obtain ⟨k, hk, rfl⟩ := List.mem_map.mp hw
  have hk := List.mem_range.mp hk
  refine List.mem_cons_of_mem _ ?_
  match k, hk with
  | 0, _ => exact mk_tb (ti_1 (List.mem_of_getElem? (i := 189) rfl)) rfl
  | 1, _ => exact mk_tb (ti_1 (List.mem_of_getElem? (i := 191) rfl)) rfl
  | 2, _ => exact mk_tb (ti_1 (List.mem_of_getElem? (i := 193) rfl)) rfl
  | 3, _ => exact mk_tb (ti_1 (List.mem_of_getElem? (i := 195) rfl)) rfl
  | 4, _ => exact mk_tb (ti_1 (List.mem_of_getElem? (i := 197) rfl)) rfl
  | 5, _ => exact mk_tb (ti_1 (List.mem_of_getElem? (i := 199) rfl)) rfl
  | n + 6, h => exact absurd h (by omega)
theorem dX1_init_12 : decode cX1_init 12 = .ok (.aload_n 0, 1) := by decide +kernel
theorem dX1_init_13 : decode cX1_init 13 = .ok (.bipush 81, 2) := by decide +kernel
theorem dX1_init_15 : decode cX1_init 15 = .ok (.newarray .int, 2) := by decide +kernel
theorem dX1_init_17 : decode cX1_init 17 = .ok (.putfield 13, 3) := by decide +kernel
theorem qq_1_184 : Cond.fieldLink "WrongHole$Folds" 13 "WrongHole$Folds" "tallies" "[I" ∈ TB := mk_tb (ti_1 (List.mem_of_getElem? (i := 184) rfl)) rfl
theorem dX1_init_20 : decode cX1_init 20 = .ok (.return_, 1) := by decide +kernel
set_option maxHeartbeats 4000000 in
set_option maxRecDepth 100000 in
theorem c_folds_init (l : Launch) (D : va_G) (ad : Nat → Nat) (sz : Nat) (h0 : Nat)  : Met l yX1_init (Cond.code yX1_init cX1_init 1 none :: TB) (RM 1 2 89) (va_Pc [.ref h0] (PRE D ad [(h0, .inr (1, [.null, .null, .int 0, .int 0, .int 0, .int 0]))] [] sz)) (va_Qv (S := Unit) (fun _ => True) (fun _ t => ∃ (p1 : Nat), ∃ (p2 : Nat), ∃ (kp1 : ClassId), ∃ (kp2 : ClassId), va_P D vwCl [(h0, .inr (1, [.ref p1, .ref p2, .int 0, .int 0, .int 0, .int 0])), (p1, .inl (kp1, 8, .inl (fun _ => 0))), (p2, .inl (kp2, 81, .inl (fun _ => 0)))] t.heap ∧ va_K D vwCl [(kp1, .int), (kp2, .int)] t ∧ va_D (va_A [(h0, .inr (1, [.null, .null, .int 0, .int 0, .int 0, .int 0]))] sz) [(h0, .inr (1, [.ref p1, .ref p2, .int 0, .int 0, .int 0, .int 0])), (p1, .inl (kp1, 8, .inl (fun _ => 0))), (p2, .inl (kp2, 81, .inl (fun _ => 0)))]) (va_A [(h0, .inr (1, [.null, .null, .int 0, .int 0, .int 0, .int 0]))] sz)) 2 89 (va_A [(h0, .inr (1, [.null, .null, .int 0, .int 0, .int 0, .int 0]))] sz) := by
  refine MET (y := yX1_init) (cc := cX1_init) (maxL := 1) (ret := none) (d := 1) (mc := 2) (ms := 89) (D := D) (ad := ad) (ws := [(h0, .inr (1, [.null, .null, .int 0, .int 0, .int 0, .int 0]))]) (tys := []) (sz := sz) (av := [.ref h0]) (Qc := fun A => va_Qv (S := Unit) (fun _ => True) (fun _ t => ∃ (p1 : Nat), ∃ (p2 : Nat), ∃ (kp1 : ClassId), ∃ (kp2 : ClassId), va_P D vwCl [(h0, .inr (1, [.ref p1, .ref p2, .int 0, .int 0, .int 0, .int 0])), (p1, .inl (kp1, 8, .inl (fun _ => 0))), (p2, .inl (kp2, 81, .inl (fun _ => 0)))] t.heap ∧ va_K D vwCl [(kp1, .int), (kp2, .int)] t ∧ va_D A [(h0, .inr (1, [.ref p1, .ref p2, .int 0, .int 0, .int 0, .int 0])), (p1, .inl (kp1, 8, .inl (fun _ => 0))), (p2, .inl (kp2, 81, .inl (fun _ => 0)))]) A) (fr := fun A => A) (by decide) (Nat.le_of_ble_eq_true rfl) ?_
  intro p e s m below meth c ls A H hHe hx hb hr hml hown hts hlocks hnm hP hK hD hA hS hN hl
  have hown : s.vm.findClass "WrongHole$Folds" = some m.cls := hown
  have hT : ∀ w ∈ TB, w.before ([.ref h0] : List Value).toArray s = true := fun w h => hts w (List.mem_cons_of_mem _ h)
  have hl : lv_has ls 1 [(0, .ref h0)] := hl
  have hP : va_P D vwCl [(h0, .inr (1, [.null, .null, .int 0, .int 0, .int 0, .int 0]))] H := hP
  refine lv_aload_n hx hb dX1_init_0 rfl (lv_at hl 0 rfl) ?_
  refine W.objInit hx hb hown (hT _ qq_1_182) (hT _ qq_1_28) (hT _ qq_1_29) rfl (by rw [hml]; exact hl.1) rfl dX1_init_1 (Nat.le_of_ble_eq_true rfl) (Nat.le_of_ble_eq_true rfl) ?_
  refine W.eq (g2 := F0 m 4 ls []) rfl ?_
  refine lv_aload_n hx hb dX1_init_4 rfl (lv_at hl 0 rfl) ?_
  refine lv_bipush (v := 8) hx hb dX1_init_5 (by decide) ?_
  refine va_newa (atype := .int) hx hb (hT _ qq_1_86) rfl hK hP hD hS hA (a0 := (8, .inl (fun _ => 0))) (fun _ => rfl) (by decide) (by decide) (Nat.le_of_ble_eq_true rfl) (Nat.le_of_ble_eq_true rfl) (Nat.le_of_ble_eq_true rfl) dX1_init_7 (fun q_1 k_2 H hK hP hD hS => ?_)
  have hK : va_K D vwCl [(k_2, .int)] s := hK
  have hP : va_P D vwCl [(h0, .inr (1, [.null, .null, .int 0, .int 0, .int 0, .int 0])), (q_1, .inl (k_2, 8, .inl (fun _ => 0)))] H := hP
  have hD : va_D A [(h0, .inr (1, [.null, .null, .int 0, .int 0, .int 0, .int 0])), (q_1, .inl (k_2, 8, .inl (fun _ => 0)))] := hD
  refine W.widen (k := 1) (n := 8) (Nat.le_of_ble_eq_true rfl) (Nat.le_of_ble_eq_true rfl) ?_
  refine va_putF (D := D) (ci := 1) (v := .ref q_1) (ty := .array .int) (C := "WrongHole$Folds") (T := TX1) (N := 6) hx hb hts (iq_RX1 _) tyX1 tyX1_ok nmX1 hown hK hP hD hS 0 rfl rfl 0 (by decide) (hT _ qq_1_183) (fun _ h9 => h9) rfl hnm rfl (by decide +kernel) rfl rfl (Nat.le_of_ble_eq_true rfl) dX1_init_9 (fun H locs hP hD hS => ?_)
  have hP : va_P D vwCl [(h0, .inr (1, [.ref q_1, .null, .int 0, .int 0, .int 0, .int 0])), (q_1, .inl (k_2, 8, .inl (fun _ => 0)))] H := hP
  have hD : va_D A [(h0, .inr (1, [.ref q_1, .null, .int 0, .int 0, .int 0, .int 0])), (q_1, .inl (k_2, 8, .inl (fun _ => 0)))] := hD
  refine lv_aload_n hx hb dX1_init_12 rfl (lv_at hl 0 rfl) ?_
  refine lv_bipush (v := 81) hx hb dX1_init_13 (by decide) ?_
  refine va_newa (atype := .int) hx hb (hT _ qq_1_86) rfl hK hP hD hS hA (a0 := (81, .inl (fun _ => 0))) (fun _ => rfl) (by decide) (by decide) (Nat.le_of_ble_eq_true rfl) (Nat.le_of_ble_eq_true rfl) (Nat.le_of_ble_eq_true rfl) dX1_init_15 (fun q_3 k_4 H hK hP hD hS => ?_)
  have hK : va_K D vwCl [(k_2, .int), (k_4, .int)] s := hK
  have hP : va_P D vwCl [(h0, .inr (1, [.ref q_1, .null, .int 0, .int 0, .int 0, .int 0])), (q_1, .inl (k_2, 8, .inl (fun _ => 0))), (q_3, .inl (k_4, 81, .inl (fun _ => 0)))] H := hP
  have hD : va_D A [(h0, .inr (1, [.ref q_1, .null, .int 0, .int 0, .int 0, .int 0])), (q_1, .inl (k_2, 8, .inl (fun _ => 0))), (q_3, .inl (k_4, 81, .inl (fun _ => 0)))] := hD
  refine W.widen (k := 2) (n := 89) (Nat.le_of_ble_eq_true rfl) (Nat.le_of_ble_eq_true rfl) ?_
  refine va_putF (D := D) (ci := 1) (v := .ref q_3) (ty := .array .int) (C := "WrongHole$Folds") (T := TX1) (N := 6) hx hb hts (iq_RX1 _) tyX1 tyX1_ok nmX1 hown hK hP hD hS 0 rfl rfl 1 (by decide) (hT _ qq_1_184) (fun _ h9 => h9) rfl hnm rfl (by decide +kernel) rfl rfl (Nat.le_of_ble_eq_true rfl) dX1_init_17 (fun H locs hP hD hS => ?_)
  have hP : va_P D vwCl [(h0, .inr (1, [.ref q_1, .ref q_3, .int 0, .int 0, .int 0, .int 0])), (q_1, .inl (k_2, 8, .inl (fun _ => 0))), (q_3, .inl (k_4, 81, .inl (fun _ => 0)))] H := hP
  have hD : va_D A [(h0, .inr (1, [.ref q_1, .ref q_3, .int 0, .int 0, .int 0, .int 0])), (q_1, .inl (k_2, 8, .inl (fun _ => 0))), (q_3, .inl (k_4, 81, .inl (fun _ => 0)))] := hD
  refine W.widen (k := 2) (n := 89) (Nat.le_of_ble_eq_true rfl) (Nat.le_of_ble_eq_true rfl) ?_
  have hP9 := hP.sub (ws' := [(h0, .inr (1, [.ref q_1, .ref q_3, .int 0, .int 0, .int 0, .int 0])), (q_1, .inl (k_2, 8, .inl (fun _ => 0))), (q_3, .inl (k_4, 81, .inl (fun _ => 0)))]) [0, 1, 2] rfl
  have hD9 := hD.sub (ws' := [(h0, .inr (1, [.ref q_1, .ref q_3, .int 0, .int 0, .int 0, .int 0])), (q_1, .inl (k_2, 8, .inl (fun _ => 0))), (q_3, .inl (k_4, 81, .inl (fun _ => 0)))]) [0, 1, 2] (by decide) rfl
  have hK9 := hK.sub (tys' := [(k_2, .int), (k_4, .int)]) [0, 1] rfl
  exact W.vret hx hb hr (fun t9 ht9 hW9 => ⟨⟨(), rfl, trivial, ⟨q_1, q_3, k_2, k_4, by rw [ht9]; exact hP9, va_K.moved hW9.alike hK9, hD9⟩⟩, hS.F ht9⟩) hS.2.2 dX1_init_20
theorem dX11_init_0 : decode cX11_init 0 = .ok (.aload_n 0, 1) := by decide +kernel
theorem dX11_init_1 : decode cX11_init 1 = .ok (.invokespecial 1, 3) := by decide +kernel
theorem qq_1_27 : Cond.methodLink "WrongHole" 1 (⟨"java/lang/Object", "<init>", "()V"⟩ : MethodName) ∈ TB := mk_tb (ti_1 (List.mem_of_getElem? (i := 27) rfl)) rfl
theorem dX11_init_4 : decode cX11_init 4 = .ok (.aload_n 0, 1) := by decide +kernel
theorem dX11_init_5 : decode cX11_init 5 = .ok (.new 7, 3) := by decide +kernel
theorem qq_1_30 : Cond.classLink "WrongHole" 7 "WrongHole$Text" ∈ TB := mk_tb (ti_1 (List.mem_of_getElem? (i := 30) rfl)) rfl
theorem qq_1_31 : Cond.instantiable "WrongHole$Text" 8 ∈ TB := mk_tb (ti_1 (List.mem_of_getElem? (i := 31) rfl)) rfl
theorem fv_RX9 : ∀ j, j < 8 → defaultValue (tyX9 j) = vp_V [.null, .int 0, .int 0, .int 0, .int 0, .int 0, .int 0, .int 0] j := by
  intro j hj
  match j, hj with
  | 0, _ => rfl
  | 1, _ => rfl
  | 2, _ => rfl
  | 3, _ => rfl
  | 4, _ => rfl
  | 5, _ => rfl
  | 6, _ => rfl
  | 7, _ => rfl
  | n + 8, h => exact absurd h (by omega)
theorem dX11_init_8 : decode cX11_init 8 = .ok (.dup, 1) := by decide +kernel
theorem dX11_init_9 : decode cX11_init 9 = .ok (.invokespecial 9, 3) := by decide +kernel
theorem qq_1_34 : Cond.code yX9_init cX9_init 1 none ∈ TB := mk_tb (ti_1 (List.mem_of_getElem? (i := 34) rfl)) rfl
theorem qq_1_32 : Cond.methodLink "WrongHole" 9 yX9_init ∈ TB := mk_tb (ti_1 (List.mem_of_getElem? (i := 32) rfl)) rfl
theorem qq_1_33 : Cond.instanceMethod yX9_init ∈ TB := mk_tb (ti_1 (List.mem_of_getElem? (i := 33) rfl)) rfl
theorem dX11_init_12 : decode cX11_init 12 = .ok (.putfield 10, 3) := by decide +kernel
theorem dX11_init_15 : decode cX11_init 15 = .ok (.aload_n 0, 1) := by decide +kernel
theorem dX11_init_16 : decode cX11_init 16 = .ok (.new 16, 3) := by decide +kernel
theorem qq_1_67 : Cond.classLink "WrongHole" 16 "WrongHole$RuleReader" ∈ TB := mk_tb (ti_1 (List.mem_of_getElem? (i := 67) rfl)) rfl
theorem qq_1_68 : Cond.instantiable "WrongHole$RuleReader" 4 ∈ TB := mk_tb (ti_1 (List.mem_of_getElem? (i := 68) rfl)) rfl
theorem qq_1_3 : Cond.initialized "WrongHole$RuleReader" ∈ TB := mk_tb (ti_1 (List.mem_of_getElem? (i := 3) rfl)) rfl
theorem fv_RX8 : ∀ j, j < 4 → defaultValue (tyX8 j) = vp_V [.null, .null, .int 0, .int 0] j := by
  intro j hj
  match j, hj with
  | 0, _ => rfl
  | 1, _ => rfl
  | 2, _ => rfl
  | 3, _ => rfl
  | n + 4, h => exact absurd h (by omega)
theorem dX11_init_19 : decode cX11_init 19 = .ok (.dup, 1) := by decide +kernel
theorem dX11_init_20 : decode cX11_init 20 = .ok (.invokespecial 18, 3) := by decide +kernel
theorem qq_1_71 : Cond.code yX8_init cX8_init 1 none ∈ TB := mk_tb (ti_1 (List.mem_of_getElem? (i := 71) rfl)) rfl
theorem qq_1_69 : Cond.methodLink "WrongHole" 18 yX8_init ∈ TB := mk_tb (ti_1 (List.mem_of_getElem? (i := 69) rfl)) rfl
theorem qq_1_70 : Cond.instanceMethod yX8_init ∈ TB := mk_tb (ti_1 (List.mem_of_getElem? (i := 70) rfl)) rfl
theorem dX11_init_23 : decode cX11_init 23 = .ok (.putfield 19, 3) := by decide +kernel
theorem qq_1_203 : Cond.fieldLink "WrongHole" 19 "WrongHole" "ruleReader" "LWrongHole$RuleReader;" ∈ TB := mk_tb (ti_1 (List.mem_of_getElem? (i := 203) rfl)) rfl
theorem dX11_init_26 : decode cX11_init 26 = .ok (.aload_n 0, 1) := by decide +kernel
theorem dX11_init_27 : decode cX11_init 27 = .ok (.bipush 6, 2) := by decide +kernel
theorem dX11_init_29 : decode cX11_init 29 = .ok (.anewarray 23, 3) := by decide +kernel
theorem qq_1_87 : Cond.classLink "WrongHole" 23 "WrongHole$Rule" ∈ TB := mk_tb (ti_1 (List.mem_of_getElem? (i := 87) rfl)) rfl
theorem dX11_init_32 : decode cX11_init 32 = .ok (.putfield 25, 3) := by decide +kernel
theorem qq_1_204 : Cond.fieldLink "WrongHole" 25 "WrongHole" "rules" "[LWrongHole$Rule;" ∈ TB := mk_tb (ti_1 (List.mem_of_getElem? (i := 204) rfl)) rfl
theorem dX11_init_35 : decode cX11_init 35 = .ok (.aload_n 0, 1) := by decide +kernel
theorem dX11_init_36 : decode cX11_init 36 = .ok (.new 29, 3) := by decide +kernel
theorem qq_1_89 : Cond.classLink "WrongHole" 29 "WrongHole$Worn" ∈ TB := mk_tb (ti_1 (List.mem_of_getElem? (i := 89) rfl)) rfl
theorem qq_1_90 : Cond.instantiable "WrongHole$Worn" 9 ∈ TB := mk_tb (ti_1 (List.mem_of_getElem? (i := 90) rfl)) rfl
theorem qq_1_4 : Cond.initialized "WrongHole$Worn" ∈ TB := mk_tb (ti_1 (List.mem_of_getElem? (i := 4) rfl)) rfl
theorem fv_RX10 : ∀ j, j < 9 → defaultValue (tyX10 j) = vp_V [.null, .int 0, .int 0, .int 0, .int 0, .null, .null, .null, .null] j := by
  intro j hj
  match j, hj with
  | 0, _ => rfl
  | 1, _ => rfl
  | 2, _ => rfl
  | 3, _ => rfl
  | 4, _ => rfl
  | 5, _ => rfl
  | 6, _ => rfl
  | 7, _ => rfl
  | 8, _ => rfl
  | n + 9, h => exact absurd h (by omega)
theorem dX11_init_39 : decode cX11_init 39 = .ok (.dup, 1) := by decide +kernel
theorem dX11_init_40 : decode cX11_init 40 = .ok (.invokespecial 31, 3) := by decide +kernel
theorem qq_1_93 : Cond.code yX10_init cX10_init 1 none ∈ TB := mk_tb (ti_1 (List.mem_of_getElem? (i := 93) rfl)) rfl
theorem qq_1_91 : Cond.methodLink "WrongHole" 31 yX10_init ∈ TB := mk_tb (ti_1 (List.mem_of_getElem? (i := 91) rfl)) rfl
theorem qq_1_92 : Cond.instanceMethod yX10_init ∈ TB := mk_tb (ti_1 (List.mem_of_getElem? (i := 92) rfl)) rfl
theorem dX11_init_43 : decode cX11_init 43 = .ok (.putfield 32, 3) := by decide +kernel
theorem qq_1_206 : Cond.fieldLink "WrongHole" 32 "WrongHole" "now" "LWrongHole$Worn;" ∈ TB := mk_tb (ti_1 (List.mem_of_getElem? (i := 206) rfl)) rfl
theorem dX11_init_46 : decode cX11_init 46 = .ok (.aload_n 0, 1) := by decide +kernel
theorem dX11_init_47 : decode cX11_init 47 = .ok (.iconst 4, 1) := by decide +kernel
theorem dX11_init_48 : decode cX11_init 48 = .ok (.anewarray 29, 3) := by decide +kernel
theorem dX11_init_51 : decode cX11_init 51 = .ok (.putfield 36, 3) := by decide +kernel
theorem qq_1_207 : Cond.fieldLink "WrongHole" 36 "WrongHole" "images" "[LWrongHole$Worn;" ∈ TB := mk_tb (ti_1 (List.mem_of_getElem? (i := 207) rfl)) rfl
theorem dX11_init_54 : decode cX11_init 54 = .ok (.aload_n 0, 1) := by decide +kernel
theorem dX11_init_55 : decode cX11_init 55 = .ok (.new 40, 3) := by decide +kernel
theorem qq_1_136 : Cond.classLink "WrongHole" 40 "WrongHole$Past" ∈ TB := mk_tb (ti_1 (List.mem_of_getElem? (i := 136) rfl)) rfl
theorem qq_1_137 : Cond.instantiable "WrongHole$Past" 4 ∈ TB := mk_tb (ti_1 (List.mem_of_getElem? (i := 137) rfl)) rfl
theorem qq_1_6 : Cond.initialized "WrongHole$Past" ∈ TB := mk_tb (ti_1 (List.mem_of_getElem? (i := 6) rfl)) rfl
theorem fv_RX4 : ∀ j, j < 4 → defaultValue (tyX4 j) = vp_V [.null, .null, .int 0, .int 0] j := by
  intro j hj
  match j, hj with
  | 0, _ => rfl
  | 1, _ => rfl
  | 2, _ => rfl
  | 3, _ => rfl
  | n + 4, h => exact absurd h (by omega)
theorem dX11_init_58 : decode cX11_init 58 = .ok (.dup, 1) := by decide +kernel
theorem dX11_init_59 : decode cX11_init 59 = .ok (.invokespecial 42, 3) := by decide +kernel
theorem qq_1_140 : Cond.code yX4_init cX4_init 1 none ∈ TB := mk_tb (ti_1 (List.mem_of_getElem? (i := 140) rfl)) rfl
theorem nq_1_138 : Cond.methodLinkNest "WrongHole" 42 yX4_init "WrongHole" ∈ NW := mk_nw (ti_1 (List.mem_of_getElem? (i := 138) rfl)) rfl
theorem qq_1_139 : Cond.instanceMethod yX4_init ∈ TB := mk_tb (ti_1 (List.mem_of_getElem? (i := 139) rfl)) rfl
theorem dX11_init_62 : decode cX11_init 62 = .ok (.putfield 43, 3) := by decide +kernel
theorem qq_1_208 : Cond.fieldLink "WrongHole" 43 "WrongHole" "past" "LWrongHole$Past;" ∈ TB := mk_tb (ti_1 (List.mem_of_getElem? (i := 208) rfl)) rfl
theorem dX11_init_65 : decode cX11_init 65 = .ok (.aload_n 0, 1) := by decide +kernel
theorem dX11_init_66 : decode cX11_init 66 = .ok (.new 47, 3) := by decide +kernel
theorem qq_1_156 : Cond.classLink "WrongHole" 47 "WrongHole$Acts" ∈ TB := mk_tb (ti_1 (List.mem_of_getElem? (i := 156) rfl)) rfl
theorem qq_1_157 : Cond.instantiable "WrongHole$Acts" 3 ∈ TB := mk_tb (ti_1 (List.mem_of_getElem? (i := 157) rfl)) rfl
theorem qq_1_7 : Cond.initialized "WrongHole$Acts" ∈ TB := mk_tb (ti_1 (List.mem_of_getElem? (i := 7) rfl)) rfl
theorem fv_RX0 : ∀ j, j < 3 → defaultValue (tyX0 j) = vp_V [.null, .null, .int 0] j := by
  intro j hj
  match j, hj with
  | 0, _ => rfl
  | 1, _ => rfl
  | 2, _ => rfl
  | n + 3, h => exact absurd h (by omega)
theorem dX11_init_69 : decode cX11_init 69 = .ok (.dup, 1) := by decide +kernel
theorem dX11_init_70 : decode cX11_init 70 = .ok (.invokespecial 49, 3) := by decide +kernel
theorem qq_1_160 : Cond.code yX0_init cX0_init 1 none ∈ TB := mk_tb (ti_1 (List.mem_of_getElem? (i := 160) rfl)) rfl
theorem qq_1_158 : Cond.methodLink "WrongHole" 49 yX0_init ∈ TB := mk_tb (ti_1 (List.mem_of_getElem? (i := 158) rfl)) rfl
theorem qq_1_159 : Cond.instanceMethod yX0_init ∈ TB := mk_tb (ti_1 (List.mem_of_getElem? (i := 159) rfl)) rfl
theorem dX11_init_73 : decode cX11_init 73 = .ok (.putfield 50, 3) := by decide +kernel
theorem qq_1_209 : Cond.fieldLink "WrongHole" 50 "WrongHole" "acts" "LWrongHole$Acts;" ∈ TB := mk_tb (ti_1 (List.mem_of_getElem? (i := 209) rfl)) rfl
theorem dX11_init_76 : decode cX11_init 76 = .ok (.aload_n 0, 1) := by decide +kernel
theorem dX11_init_77 : decode cX11_init 77 = .ok (.new 54, 3) := by decide +kernel
theorem qq_1_177 : Cond.classLink "WrongHole" 54 "WrongHole$Folds" ∈ TB := mk_tb (ti_1 (List.mem_of_getElem? (i := 177) rfl)) rfl
theorem qq_1_178 : Cond.instantiable "WrongHole$Folds" 6 ∈ TB := mk_tb (ti_1 (List.mem_of_getElem? (i := 178) rfl)) rfl
theorem qq_1_8 : Cond.initialized "WrongHole$Folds" ∈ TB := mk_tb (ti_1 (List.mem_of_getElem? (i := 8) rfl)) rfl
theorem fv_RX1 : ∀ j, j < 6 → defaultValue (tyX1 j) = vp_V [.null, .null, .int 0, .int 0, .int 0, .int 0] j := by
  intro j hj
  match j, hj with
  | 0, _ => rfl
  | 1, _ => rfl
  | 2, _ => rfl
  | 3, _ => rfl
  | 4, _ => rfl
  | 5, _ => rfl
  | n + 6, h => exact absurd h (by omega)
theorem dX11_init_80 : decode cX11_init 80 = .ok (.dup, 1) := by decide +kernel
theorem dX11_init_81 : decode cX11_init 81 = .ok (.invokespecial 56, 3) := by decide +kernel
theorem qq_1_181 : Cond.code yX1_init cX1_init 1 none ∈ TB := mk_tb (ti_1 (List.mem_of_getElem? (i := 181) rfl)) rfl
theorem qq_1_179 : Cond.methodLink "WrongHole" 56 yX1_init ∈ TB := mk_tb (ti_1 (List.mem_of_getElem? (i := 179) rfl)) rfl
theorem qq_1_180 : Cond.instanceMethod yX1_init ∈ TB := mk_tb (ti_1 (List.mem_of_getElem? (i := 180) rfl)) rfl
theorem dX11_init_84 : decode cX11_init 84 = .ok (.putfield 57, 3) := by decide +kernel
theorem qq_1_210 : Cond.fieldLink "WrongHole" 57 "WrongHole" "folds" "LWrongHole$Folds;" ∈ TB := mk_tb (ti_1 (List.mem_of_getElem? (i := 210) rfl)) rfl
theorem dX11_init_87 : decode cX11_init 87 = .ok (.aload_n 0, 1) := by decide +kernel
theorem dX11_init_88 : decode cX11_init 88 = .ok (.bipush 12, 2) := by decide +kernel
theorem dX11_init_90 : decode cX11_init 90 = .ok (.newarray .int, 2) := by decide +kernel
theorem dX11_init_92 : decode cX11_init 92 = .ok (.putfield 61, 3) := by decide +kernel
theorem qq_1_211 : Cond.fieldLink "WrongHole" 61 "WrongHole" "words" "[I" ∈ TB := mk_tb (ti_1 (List.mem_of_getElem? (i := 211) rfl)) rfl
theorem dX11_init_95 : decode cX11_init 95 = .ok (.return_, 1) := by decide +kernel
set_option maxHeartbeats 4000000 in
set_option maxRecDepth 100000 in
theorem c_x_init (l : Launch) (D : va_G) (ad : Nat → Nat) (sz : Nat) (x0 : Nat)  : Met l yX11_init (Cond.code yX11_init cX11_init 1 none :: TB) (RM 3 25 1130) (va_Pc [.ref x0] (PRE D ad [(x0, .inr (9, [.null, .null, .null, .int 0, .null, .null, .null, .null, .null, .null, .null, .null]))] [] sz)) (va_Qv (S := Unit) (fun _ => True) (fun _ t => ∃ (ht : Nat), ∃ (hs : Nat), ∃ (hrr : Nat), ∃ (rr1 : Nat), ∃ (rr2 : Nat), ∃ (hru : Nat), ∃ (hn : Nat), ∃ (wa : Nat), ∃ (wb : Nat), ∃ (wc : Nat), ∃ (wd : Nat), ∃ (him : Nat), ∃ (hp : Nat), ∃ (pa1 : Nat), ∃ (pa2 : Nat), ∃ (hac : Nat), ∃ (ac1 : Nat), ∃ (ac2 : Nat), ∃ (hfo : Nat), ∃ (fo1 : Nat), ∃ (fo2 : Nat), ∃ (hwd : Nat), ∃ (khs : ClassId), ∃ (krr1 : ClassId), ∃ (krr2 : ClassId), ∃ (khru : ClassId), ∃ (kwa : ClassId), ∃ (kwb : ClassId), ∃ (kwc : ClassId), ∃ (kwd : ClassId), ∃ (khim : ClassId), ∃ (kpa1 : ClassId), ∃ (kpa2 : ClassId), ∃ (kac1 : ClassId), ∃ (kac2 : ClassId), ∃ (kfo1 : ClassId), ∃ (kfo2 : ClassId), ∃ (khwd : ClassId), va_P D vwCl [(x0, .inr (9, [.ref ht, .ref hrr, .ref hru, .int 0, .ref hn, .ref him, .ref hp, .ref hac, .ref hfo, .ref hwd, .null, .null])), (ht, .inr (7, [.ref hs, .int 0, .int 0, .int 0, .int 0, .int 0, .int 0, .int 0])), (hs, .inl (khs, 400, .inl (fun _ => 0))), (hrr, .inr (6, [.ref rr1, .ref rr2, .int 0, .int 0])), (rr1, .inl (krr1, 400, .inl (fun _ => 0))), (rr2, .inl (krr2, 25, .inl (fun _ => 0))), (hru, .inl (khru, 6, .inr (.inr (.inr (.inr (fun _ => none)))))), (hn, .inr (8, [.null, .int 0, .int 0, .int 0, .int 0, .ref wa, .ref wb, .ref wc, .ref wd])), (wa, .inl (kwa, 10, .inl (fun _ => 0))), (wb, .inl (kwb, 10, .inl (fun _ => 0))), (wc, .inl (kwc, 10, .inl (fun _ => 0))), (wd, .inl (kwd, 10, .inl (fun _ => (-1)))), (him, .inl (khim, 4, .inr (.inr (.inr (.inr (fun _ => none)))))), (hp, .inr (3, [.ref pa1, .ref pa2, .int 0, .int 0])), (pa1, .inl (kpa1, 20, .inl (fun _ => 0))), (pa2, .inl (kpa2, 20, .inl (fun _ => 0))), (hac, .inr (0, [.ref ac1, .ref ac2, .int 0])), (ac1, .inl (kac1, 8, .inl (fun _ => 0))), (ac2, .inl (kac2, 72, .inl (fun _ => 0))), (hfo, .inr (1, [.ref fo1, .ref fo2, .int 0, .int 0, .int 0, .int 0])), (fo1, .inl (kfo1, 8, .inl (fun _ => 0))), (fo2, .inl (kfo2, 81, .inl (fun _ => 0))), (hwd, .inl (khwd, 12, .inl (fun _ => 0)))] t.heap ∧ va_K D vwCl [(khs, .char), (krr1, .int), (krr2, .int), (khru, .object "WrongHole$Rule"), (kwa, .int), (kwb, .int), (kwc, .int), (kwd, .int), (khim, .object "WrongHole$Worn"), (kpa1, .int), (kpa2, .int), (kac1, .int), (kac2, .int), (kfo1, .int), (kfo2, .int), (khwd, .int)] t ∧ va_D (va_A [(x0, .inr (9, [.null, .null, .null, .int 0, .null, .null, .null, .null, .null, .null, .null, .null]))] sz) [(x0, .inr (9, [.ref ht, .ref hrr, .ref hru, .int 0, .ref hn, .ref him, .ref hp, .ref hac, .ref hfo, .ref hwd, .null, .null])), (ht, .inr (7, [.ref hs, .int 0, .int 0, .int 0, .int 0, .int 0, .int 0, .int 0])), (hs, .inl (khs, 400, .inl (fun _ => 0))), (hrr, .inr (6, [.ref rr1, .ref rr2, .int 0, .int 0])), (rr1, .inl (krr1, 400, .inl (fun _ => 0))), (rr2, .inl (krr2, 25, .inl (fun _ => 0))), (hru, .inl (khru, 6, .inr (.inr (.inr (.inr (fun _ => none)))))), (hn, .inr (8, [.null, .int 0, .int 0, .int 0, .int 0, .ref wa, .ref wb, .ref wc, .ref wd])), (wa, .inl (kwa, 10, .inl (fun _ => 0))), (wb, .inl (kwb, 10, .inl (fun _ => 0))), (wc, .inl (kwc, 10, .inl (fun _ => 0))), (wd, .inl (kwd, 10, .inl (fun _ => (-1)))), (him, .inl (khim, 4, .inr (.inr (.inr (.inr (fun _ => none)))))), (hp, .inr (3, [.ref pa1, .ref pa2, .int 0, .int 0])), (pa1, .inl (kpa1, 20, .inl (fun _ => 0))), (pa2, .inl (kpa2, 20, .inl (fun _ => 0))), (hac, .inr (0, [.ref ac1, .ref ac2, .int 0])), (ac1, .inl (kac1, 8, .inl (fun _ => 0))), (ac2, .inl (kac2, 72, .inl (fun _ => 0))), (hfo, .inr (1, [.ref fo1, .ref fo2, .int 0, .int 0, .int 0, .int 0])), (fo1, .inl (kfo1, 8, .inl (fun _ => 0))), (fo2, .inl (kfo2, 81, .inl (fun _ => 0))), (hwd, .inl (khwd, 12, .inl (fun _ => 0)))]) (va_A [(x0, .inr (9, [.null, .null, .null, .int 0, .null, .null, .null, .null, .null, .null, .null, .null]))] sz)) 25 1130 (va_A [(x0, .inr (9, [.null, .null, .null, .int 0, .null, .null, .null, .null, .null, .null, .null, .null]))] sz) := by
  refine MET (y := yX11_init) (cc := cX11_init) (maxL := 1) (ret := none) (d := 3) (mc := 25) (ms := 1130) (D := D) (ad := ad) (ws := [(x0, .inr (9, [.null, .null, .null, .int 0, .null, .null, .null, .null, .null, .null, .null, .null]))]) (tys := []) (sz := sz) (av := [.ref x0]) (Qc := fun A => va_Qv (S := Unit) (fun _ => True) (fun _ t => ∃ (ht : Nat), ∃ (hs : Nat), ∃ (hrr : Nat), ∃ (rr1 : Nat), ∃ (rr2 : Nat), ∃ (hru : Nat), ∃ (hn : Nat), ∃ (wa : Nat), ∃ (wb : Nat), ∃ (wc : Nat), ∃ (wd : Nat), ∃ (him : Nat), ∃ (hp : Nat), ∃ (pa1 : Nat), ∃ (pa2 : Nat), ∃ (hac : Nat), ∃ (ac1 : Nat), ∃ (ac2 : Nat), ∃ (hfo : Nat), ∃ (fo1 : Nat), ∃ (fo2 : Nat), ∃ (hwd : Nat), ∃ (khs : ClassId), ∃ (krr1 : ClassId), ∃ (krr2 : ClassId), ∃ (khru : ClassId), ∃ (kwa : ClassId), ∃ (kwb : ClassId), ∃ (kwc : ClassId), ∃ (kwd : ClassId), ∃ (khim : ClassId), ∃ (kpa1 : ClassId), ∃ (kpa2 : ClassId), ∃ (kac1 : ClassId), ∃ (kac2 : ClassId), ∃ (kfo1 : ClassId), ∃ (kfo2 : ClassId), ∃ (khwd : ClassId), va_P D vwCl [(x0, .inr (9, [.ref ht, .ref hrr, .ref hru, .int 0, .ref hn, .ref him, .ref hp, .ref hac, .ref hfo, .ref hwd, .null, .null])), (ht, .inr (7, [.ref hs, .int 0, .int 0, .int 0, .int 0, .int 0, .int 0, .int 0])), (hs, .inl (khs, 400, .inl (fun _ => 0))), (hrr, .inr (6, [.ref rr1, .ref rr2, .int 0, .int 0])), (rr1, .inl (krr1, 400, .inl (fun _ => 0))), (rr2, .inl (krr2, 25, .inl (fun _ => 0))), (hru, .inl (khru, 6, .inr (.inr (.inr (.inr (fun _ => none)))))), (hn, .inr (8, [.null, .int 0, .int 0, .int 0, .int 0, .ref wa, .ref wb, .ref wc, .ref wd])), (wa, .inl (kwa, 10, .inl (fun _ => 0))), (wb, .inl (kwb, 10, .inl (fun _ => 0))), (wc, .inl (kwc, 10, .inl (fun _ => 0))), (wd, .inl (kwd, 10, .inl (fun _ => (-1)))), (him, .inl (khim, 4, .inr (.inr (.inr (.inr (fun _ => none)))))), (hp, .inr (3, [.ref pa1, .ref pa2, .int 0, .int 0])), (pa1, .inl (kpa1, 20, .inl (fun _ => 0))), (pa2, .inl (kpa2, 20, .inl (fun _ => 0))), (hac, .inr (0, [.ref ac1, .ref ac2, .int 0])), (ac1, .inl (kac1, 8, .inl (fun _ => 0))), (ac2, .inl (kac2, 72, .inl (fun _ => 0))), (hfo, .inr (1, [.ref fo1, .ref fo2, .int 0, .int 0, .int 0, .int 0])), (fo1, .inl (kfo1, 8, .inl (fun _ => 0))), (fo2, .inl (kfo2, 81, .inl (fun _ => 0))), (hwd, .inl (khwd, 12, .inl (fun _ => 0)))] t.heap ∧ va_K D vwCl [(khs, .char), (krr1, .int), (krr2, .int), (khru, .object "WrongHole$Rule"), (kwa, .int), (kwb, .int), (kwc, .int), (kwd, .int), (khim, .object "WrongHole$Worn"), (kpa1, .int), (kpa2, .int), (kac1, .int), (kac2, .int), (kfo1, .int), (kfo2, .int), (khwd, .int)] t ∧ va_D A [(x0, .inr (9, [.ref ht, .ref hrr, .ref hru, .int 0, .ref hn, .ref him, .ref hp, .ref hac, .ref hfo, .ref hwd, .null, .null])), (ht, .inr (7, [.ref hs, .int 0, .int 0, .int 0, .int 0, .int 0, .int 0, .int 0])), (hs, .inl (khs, 400, .inl (fun _ => 0))), (hrr, .inr (6, [.ref rr1, .ref rr2, .int 0, .int 0])), (rr1, .inl (krr1, 400, .inl (fun _ => 0))), (rr2, .inl (krr2, 25, .inl (fun _ => 0))), (hru, .inl (khru, 6, .inr (.inr (.inr (.inr (fun _ => none)))))), (hn, .inr (8, [.null, .int 0, .int 0, .int 0, .int 0, .ref wa, .ref wb, .ref wc, .ref wd])), (wa, .inl (kwa, 10, .inl (fun _ => 0))), (wb, .inl (kwb, 10, .inl (fun _ => 0))), (wc, .inl (kwc, 10, .inl (fun _ => 0))), (wd, .inl (kwd, 10, .inl (fun _ => (-1)))), (him, .inl (khim, 4, .inr (.inr (.inr (.inr (fun _ => none)))))), (hp, .inr (3, [.ref pa1, .ref pa2, .int 0, .int 0])), (pa1, .inl (kpa1, 20, .inl (fun _ => 0))), (pa2, .inl (kpa2, 20, .inl (fun _ => 0))), (hac, .inr (0, [.ref ac1, .ref ac2, .int 0])), (ac1, .inl (kac1, 8, .inl (fun _ => 0))), (ac2, .inl (kac2, 72, .inl (fun _ => 0))), (hfo, .inr (1, [.ref fo1, .ref fo2, .int 0, .int 0, .int 0, .int 0])), (fo1, .inl (kfo1, 8, .inl (fun _ => 0))), (fo2, .inl (kfo2, 81, .inl (fun _ => 0))), (hwd, .inl (khwd, 12, .inl (fun _ => 0)))]) A) (fr := fun A => A) (by decide) (Nat.le_of_ble_eq_true rfl) ?_
  intro p e s m below meth c ls A H hHe hx hb hr hml hown hts hlocks hnm hP hK hD hA hS hN hl
  have hown : s.vm.findClass "WrongHole" = some m.cls := hown
  have hT : ∀ w ∈ TB, w.before ([.ref x0] : List Value).toArray s = true := fun w h => hts w (List.mem_cons_of_mem _ h)
  have hl : lv_has ls 1 [(0, .ref x0)] := hl
  have hP : va_P D vwCl [(x0, .inr (9, [.null, .null, .null, .int 0, .null, .null, .null, .null, .null, .null, .null, .null]))] H := hP
  refine lv_aload_n hx hb dX11_init_0 rfl (lv_at hl 0 rfl) ?_
  refine W.objInit hx hb hown (hT _ qq_1_27) (hT _ qq_1_28) (hT _ qq_1_29) rfl (by rw [hml]; exact hl.1) rfl dX11_init_1 (Nat.le_of_ble_eq_true rfl) (Nat.le_of_ble_eq_true rfl) ?_
  refine W.eq (g2 := F0 m 4 ls []) rfl ?_
  refine lv_aload_n hx hb dX11_init_4 rfl (lv_at hl 0 rfl) ?_
  refine va_new (ci := 7) (fs := [.null, .int 0, .int 0, .int 0, .int 0, .int 0, .int 0, .int 0]) (C := "WrongHole$Text") (T := TX9) (N := 8) hx hb hts (iq_RX9 _) tyX9 tyX9_ok hown (hT _ qq_1_30) (hT _ qq_1_31) (hT _ qq_1_2) hK hP hD hS hA rfl (fv_RX9) (Nat.le_of_ble_eq_true rfl) (Nat.le_of_ble_eq_true rfl) dX11_init_5 (fun q_1 H hP hD hS => ?_)
  have hP : va_P D vwCl [(x0, .inr (9, [.null, .null, .null, .int 0, .null, .null, .null, .null, .null, .null, .null, .null])), (q_1, .inr (7, [.null, .int 0, .int 0, .int 0, .int 0, .int 0, .int 0, .int 0]))] H := hP
  have hD : va_D A [(x0, .inr (9, [.null, .null, .null, .int 0, .null, .null, .null, .null, .null, .null, .null, .null])), (q_1, .inr (7, [.null, .int 0, .int 0, .int 0, .int 0, .int 0, .int 0, .int 0]))] := hD
  refine W.widen (k := 1) (n := 8) (Nat.le_of_ble_eq_true rfl) (Nat.le_of_ble_eq_true rfl) ?_
  refine lv_dup hx hb dX11_init_8 rfl ?_
  have hPc := hP.sub (ws' := [(q_1, .inr (7, [.null, .int 0, .int 0, .int 0, .int 0, .int 0, .int 0, .int 0]))]) [1] rfl
  have hDc := hD.sub (ws' := [(q_1, .inr (7, [.null, .int 0, .int 0, .int 0, .int 0, .int 0, .int 0, .int 0]))]) [1] (by decide) rfl
  have hKc := hK.sub (tys' := []) [] rfl
  have hFc := va_free (wc := [(q_1, .inr (7, [.null, .int 0, .int 0, .int 0, .int 0, .int 0, .int 0, .int 0]))]) hD hS hA [1] rfl
  refine va_callv (va_runI (As := []) (rest := [.ref q_1, .ref x0]) ⟨hx, hb, hml, hown, hts⟩ (c_text_init l D ad H.size q_1) ⟨callB_of 0 hts (gd_C qq_1_34) rfl rfl rfl (hT _ qq_1_2) (hT _ qq_1_32) (by decide +kernel) (rm_R rfl rfl), rfl, (hT _ qq_1_33)⟩ (pr_S hPc hKc hDc hN) rfl rfl hl.1 rfl (lv_room (Nat.le_of_ble_eq_true rfl)) dX11_init_9 ⟨Nat.le_of_ble_eq_true rfl, Nat.le_of_ble_eq_true rfl⟩) hS (fun q _ h => hFc q h) hFc (fun u_2 t_5 H1 locs ht9 hvm hw_3 hB_4 hz1 hk1 hS => ?_)
  obtain ⟨q_6, k_7, hP1, hK1, hD1⟩ := hB_4
  rw [ht9] at hP1
  have hK1 := va_K.moved hvm.symm hK1
  obtain ⟨hP, hD⟩ := va_join (wr := [(x0, .inr (9, [.null, .null, .null, .int 0, .null, .null, .null, .null, .null, .null, .null, .null]))]) (w1 := [(q_1, .inr (7, [.ref q_6, .int 0, .int 0, .int 0, .int 0, .int 0, .int 0, .int 0])), (q_6, .inl (k_7, 400, .inl (fun _ => 0)))]) hP hD [1] [0] rfl rfl (by decide) (by decide) hk1 hFc hP1 hD1
  have hK := (hK.sub (tys' := []) [] rfl).app hK1
  have hK : va_K D vwCl [(k_7, .char)] s := hK
  generalize H1 = H at hP hS ⊢
  have hP : va_P D vwCl [(x0, .inr (9, [.null, .null, .null, .int 0, .null, .null, .null, .null, .null, .null, .null, .null])), (q_1, .inr (7, [.ref q_6, .int 0, .int 0, .int 0, .int 0, .int 0, .int 0, .int 0])), (q_6, .inl (k_7, 400, .inl (fun _ => 0)))] H := hP
  have hD : va_D A [(x0, .inr (9, [.null, .null, .null, .int 0, .null, .null, .null, .null, .null, .null, .null, .null])), (q_1, .inr (7, [.ref q_6, .int 0, .int 0, .int 0, .int 0, .int 0, .int 0, .int 0])), (q_6, .inl (k_7, 400, .inl (fun _ => 0)))] := hD
  refine W.widen (k := 2) (n := 408) (Nat.le_of_ble_eq_true rfl) (Nat.le_of_ble_eq_true rfl) ?_
  refine va_putF (D := D) (ci := 9) (v := .ref q_1) (ty := .object "WrongHole$Text") (C := "WrongHole") (T := TX11) (N := 12) hx hb hts (iq_RX11 _) tyX11 tyX11_ok nmX11 hown hK hP hD hS 0 rfl rfl 0 (by decide) (hT _ qq_1_202) (fun _ h9 => h9) rfl hnm rfl (by decide +kernel) rfl rfl (Nat.le_of_ble_eq_true rfl) dX11_init_12 (fun H locs hP hD hS => ?_)
  have hP : va_P D vwCl [(x0, .inr (9, [.ref q_1, .null, .null, .int 0, .null, .null, .null, .null, .null, .null, .null, .null])), (q_1, .inr (7, [.ref q_6, .int 0, .int 0, .int 0, .int 0, .int 0, .int 0, .int 0])), (q_6, .inl (k_7, 400, .inl (fun _ => 0)))] H := hP
  have hD : va_D A [(x0, .inr (9, [.ref q_1, .null, .null, .int 0, .null, .null, .null, .null, .null, .null, .null, .null])), (q_1, .inr (7, [.ref q_6, .int 0, .int 0, .int 0, .int 0, .int 0, .int 0, .int 0])), (q_6, .inl (k_7, 400, .inl (fun _ => 0)))] := hD
  refine lv_aload_n hx hb dX11_init_15 rfl (lv_at hl 0 rfl) ?_
  refine va_new (ci := 6) (fs := [.null, .null, .int 0, .int 0]) (C := "WrongHole$RuleReader") (T := TX8) (N := 4) hx hb hts (iq_RX8 _) tyX8 tyX8_ok hown (hT _ qq_1_67) (hT _ qq_1_68) (hT _ qq_1_3) hK hP hD hS hA rfl (fv_RX8) (Nat.le_of_ble_eq_true rfl) (Nat.le_of_ble_eq_true rfl) dX11_init_16 (fun q_8 H hP hD hS => ?_)
  have hP : va_P D vwCl [(x0, .inr (9, [.ref q_1, .null, .null, .int 0, .null, .null, .null, .null, .null, .null, .null, .null])), (q_1, .inr (7, [.ref q_6, .int 0, .int 0, .int 0, .int 0, .int 0, .int 0, .int 0])), (q_6, .inl (k_7, 400, .inl (fun _ => 0))), (q_8, .inr (6, [.null, .null, .int 0, .int 0]))] H := hP
  have hD : va_D A [(x0, .inr (9, [.ref q_1, .null, .null, .int 0, .null, .null, .null, .null, .null, .null, .null, .null])), (q_1, .inr (7, [.ref q_6, .int 0, .int 0, .int 0, .int 0, .int 0, .int 0, .int 0])), (q_6, .inl (k_7, 400, .inl (fun _ => 0))), (q_8, .inr (6, [.null, .null, .int 0, .int 0]))] := hD
  refine W.widen (k := 3) (n := 412) (Nat.le_of_ble_eq_true rfl) (Nat.le_of_ble_eq_true rfl) ?_
  refine lv_dup hx hb dX11_init_19 rfl ?_
  have hPc := hP.sub (ws' := [(q_8, .inr (6, [.null, .null, .int 0, .int 0]))]) [3] rfl
  have hDc := hD.sub (ws' := [(q_8, .inr (6, [.null, .null, .int 0, .int 0]))]) [3] (by decide) rfl
  have hKc := hK.sub (tys' := []) [] rfl
  have hFc := va_free (wc := [(q_8, .inr (6, [.null, .null, .int 0, .int 0]))]) hD hS hA [3] rfl
  refine va_callv (va_runI (As := []) (rest := [.ref q_8, .ref x0]) ⟨hx, hb, hml, hown, hts⟩ (c_rr_init l D ad H.size q_8) ⟨callB_of 0 hts (gd_C qq_1_71) rfl rfl rfl (hT _ qq_1_3) (hT _ qq_1_69) (by decide +kernel) (rm_R rfl rfl), rfl, (hT _ qq_1_70)⟩ (pr_S hPc hKc hDc hN) rfl rfl hl.1 rfl (lv_room (Nat.le_of_ble_eq_true rfl)) dX11_init_20 ⟨Nat.le_of_ble_eq_true rfl, Nat.le_of_ble_eq_true rfl⟩) hS (fun q _ h => hFc q h) hFc (fun u_9 t_12 H1 locs ht9 hvm hw_10 hB_11 hz1 hk1 hS => ?_)
  obtain ⟨q_13, q_14, k_15, k_16, hP1, hK1, hD1⟩ := hB_11
  rw [ht9] at hP1
  have hK1 := va_K.moved hvm.symm hK1
  obtain ⟨hP, hD⟩ := va_join (wr := [(x0, .inr (9, [.ref q_1, .null, .null, .int 0, .null, .null, .null, .null, .null, .null, .null, .null])), (q_1, .inr (7, [.ref q_6, .int 0, .int 0, .int 0, .int 0, .int 0, .int 0, .int 0])), (q_6, .inl (k_7, 400, .inl (fun _ => 0)))]) (w1 := [(q_8, .inr (6, [.ref q_13, .ref q_14, .int 0, .int 0])), (q_13, .inl (k_15, 400, .inl (fun _ => 0))), (q_14, .inl (k_16, 25, .inl (fun _ => 0)))]) hP hD [3] [0, 1, 2] rfl rfl (by decide) (by decide) hk1 hFc hP1 hD1
  have hK := (hK.sub (tys' := [(k_7, .char)]) [0] rfl).app hK1
  have hK : va_K D vwCl [(k_7, .char), (k_15, .int), (k_16, .int)] s := hK
  generalize H1 = H at hP hS ⊢
  have hP : va_P D vwCl [(x0, .inr (9, [.ref q_1, .null, .null, .int 0, .null, .null, .null, .null, .null, .null, .null, .null])), (q_1, .inr (7, [.ref q_6, .int 0, .int 0, .int 0, .int 0, .int 0, .int 0, .int 0])), (q_6, .inl (k_7, 400, .inl (fun _ => 0))), (q_8, .inr (6, [.ref q_13, .ref q_14, .int 0, .int 0])), (q_13, .inl (k_15, 400, .inl (fun _ => 0))), (q_14, .inl (k_16, 25, .inl (fun _ => 0)))] H := hP
  have hD : va_D A [(x0, .inr (9, [.ref q_1, .null, .null, .int 0, .null, .null, .null, .null, .null, .null, .null, .null])), (q_1, .inr (7, [.ref q_6, .int 0, .int 0, .int 0, .int 0, .int 0, .int 0, .int 0])), (q_6, .inl (k_7, 400, .inl (fun _ => 0))), (q_8, .inr (6, [.ref q_13, .ref q_14, .int 0, .int 0])), (q_13, .inl (k_15, 400, .inl (fun _ => 0))), (q_14, .inl (k_16, 25, .inl (fun _ => 0)))] := hD
  refine W.widen (k := 5) (n := 837) (Nat.le_of_ble_eq_true rfl) (Nat.le_of_ble_eq_true rfl) ?_
  refine va_putF (D := D) (ci := 9) (v := .ref q_8) (ty := .object "WrongHole$RuleReader") (C := "WrongHole") (T := TX11) (N := 12) hx hb hts (iq_RX11 _) tyX11 tyX11_ok nmX11 hown hK hP hD hS 0 rfl rfl 1 (by decide) (hT _ qq_1_203) (fun _ h9 => h9) rfl hnm rfl (by decide +kernel) rfl rfl (Nat.le_of_ble_eq_true rfl) dX11_init_23 (fun H locs hP hD hS => ?_)
  have hP : va_P D vwCl [(x0, .inr (9, [.ref q_1, .ref q_8, .null, .int 0, .null, .null, .null, .null, .null, .null, .null, .null])), (q_1, .inr (7, [.ref q_6, .int 0, .int 0, .int 0, .int 0, .int 0, .int 0, .int 0])), (q_6, .inl (k_7, 400, .inl (fun _ => 0))), (q_8, .inr (6, [.ref q_13, .ref q_14, .int 0, .int 0])), (q_13, .inl (k_15, 400, .inl (fun _ => 0))), (q_14, .inl (k_16, 25, .inl (fun _ => 0)))] H := hP
  have hD : va_D A [(x0, .inr (9, [.ref q_1, .ref q_8, .null, .int 0, .null, .null, .null, .null, .null, .null, .null, .null])), (q_1, .inr (7, [.ref q_6, .int 0, .int 0, .int 0, .int 0, .int 0, .int 0, .int 0])), (q_6, .inl (k_7, 400, .inl (fun _ => 0))), (q_8, .inr (6, [.ref q_13, .ref q_14, .int 0, .int 0])), (q_13, .inl (k_15, 400, .inl (fun _ => 0))), (q_14, .inl (k_16, 25, .inl (fun _ => 0)))] := hD
  refine lv_aload_n hx hb dX11_init_26 rfl (lv_at hl 0 rfl) ?_
  refine lv_bipush (v := 6) hx hb dX11_init_27 (by decide) ?_
  refine va_newq hx hb hown (hT _ qq_1_87) hN.2.2.2.1 hK hP hD hS hA (n := 6) (N' := 6) (by decide) (by decide) (Nat.le_of_ble_eq_true rfl) (Nat.le_of_ble_eq_true rfl) (Nat.le_of_ble_eq_true rfl) dX11_init_29 (fun q_17 k_18 H hK hP hD hS => ?_)
  have hK : va_K D vwCl [(k_7, .char), (k_15, .int), (k_16, .int), (k_18, .object "WrongHole$Rule")] s := hK
  have hP : va_P D vwCl [(x0, .inr (9, [.ref q_1, .ref q_8, .null, .int 0, .null, .null, .null, .null, .null, .null, .null, .null])), (q_1, .inr (7, [.ref q_6, .int 0, .int 0, .int 0, .int 0, .int 0, .int 0, .int 0])), (q_6, .inl (k_7, 400, .inl (fun _ => 0))), (q_8, .inr (6, [.ref q_13, .ref q_14, .int 0, .int 0])), (q_13, .inl (k_15, 400, .inl (fun _ => 0))), (q_14, .inl (k_16, 25, .inl (fun _ => 0))), (q_17, .inl (k_18, 6, .inr (.inr (.inr (.inr (fun _ => none))))))] H := hP
  have hD : va_D A [(x0, .inr (9, [.ref q_1, .ref q_8, .null, .int 0, .null, .null, .null, .null, .null, .null, .null, .null])), (q_1, .inr (7, [.ref q_6, .int 0, .int 0, .int 0, .int 0, .int 0, .int 0, .int 0])), (q_6, .inl (k_7, 400, .inl (fun _ => 0))), (q_8, .inr (6, [.ref q_13, .ref q_14, .int 0, .int 0])), (q_13, .inl (k_15, 400, .inl (fun _ => 0))), (q_14, .inl (k_16, 25, .inl (fun _ => 0))), (q_17, .inl (k_18, 6, .inr (.inr (.inr (.inr (fun _ => none))))))] := hD
  refine W.widen (k := 6) (n := 843) (Nat.le_of_ble_eq_true rfl) (Nat.le_of_ble_eq_true rfl) ?_
  refine va_putF (D := D) (ci := 9) (v := .ref q_17) (ty := .array (.object "WrongHole$Rule")) (C := "WrongHole") (T := TX11) (N := 12) hx hb hts (iq_RX11 _) tyX11 tyX11_ok nmX11 hown hK hP hD hS 0 rfl rfl 2 (by decide) (hT _ qq_1_204) (fun _ h9 => h9) rfl hnm rfl (by decide +kernel) rfl rfl (Nat.le_of_ble_eq_true rfl) dX11_init_32 (fun H locs hP hD hS => ?_)
  have hP : va_P D vwCl [(x0, .inr (9, [.ref q_1, .ref q_8, .ref q_17, .int 0, .null, .null, .null, .null, .null, .null, .null, .null])), (q_1, .inr (7, [.ref q_6, .int 0, .int 0, .int 0, .int 0, .int 0, .int 0, .int 0])), (q_6, .inl (k_7, 400, .inl (fun _ => 0))), (q_8, .inr (6, [.ref q_13, .ref q_14, .int 0, .int 0])), (q_13, .inl (k_15, 400, .inl (fun _ => 0))), (q_14, .inl (k_16, 25, .inl (fun _ => 0))), (q_17, .inl (k_18, 6, .inr (.inr (.inr (.inr (fun _ => none))))))] H := hP
  have hD : va_D A [(x0, .inr (9, [.ref q_1, .ref q_8, .ref q_17, .int 0, .null, .null, .null, .null, .null, .null, .null, .null])), (q_1, .inr (7, [.ref q_6, .int 0, .int 0, .int 0, .int 0, .int 0, .int 0, .int 0])), (q_6, .inl (k_7, 400, .inl (fun _ => 0))), (q_8, .inr (6, [.ref q_13, .ref q_14, .int 0, .int 0])), (q_13, .inl (k_15, 400, .inl (fun _ => 0))), (q_14, .inl (k_16, 25, .inl (fun _ => 0))), (q_17, .inl (k_18, 6, .inr (.inr (.inr (.inr (fun _ => none))))))] := hD
  refine lv_aload_n hx hb dX11_init_35 rfl (lv_at hl 0 rfl) ?_
  refine va_new (ci := 8) (fs := [.null, .int 0, .int 0, .int 0, .int 0, .null, .null, .null, .null]) (C := "WrongHole$Worn") (T := TX10) (N := 9) hx hb hts (iq_RX10 _) tyX10 tyX10_ok hown (hT _ qq_1_89) (hT _ qq_1_90) (hT _ qq_1_4) hK hP hD hS hA rfl (fv_RX10) (Nat.le_of_ble_eq_true rfl) (Nat.le_of_ble_eq_true rfl) dX11_init_36 (fun q_19 H hP hD hS => ?_)
  have hP : va_P D vwCl [(x0, .inr (9, [.ref q_1, .ref q_8, .ref q_17, .int 0, .null, .null, .null, .null, .null, .null, .null, .null])), (q_1, .inr (7, [.ref q_6, .int 0, .int 0, .int 0, .int 0, .int 0, .int 0, .int 0])), (q_6, .inl (k_7, 400, .inl (fun _ => 0))), (q_8, .inr (6, [.ref q_13, .ref q_14, .int 0, .int 0])), (q_13, .inl (k_15, 400, .inl (fun _ => 0))), (q_14, .inl (k_16, 25, .inl (fun _ => 0))), (q_17, .inl (k_18, 6, .inr (.inr (.inr (.inr (fun _ => none)))))), (q_19, .inr (8, [.null, .int 0, .int 0, .int 0, .int 0, .null, .null, .null, .null]))] H := hP
  have hD : va_D A [(x0, .inr (9, [.ref q_1, .ref q_8, .ref q_17, .int 0, .null, .null, .null, .null, .null, .null, .null, .null])), (q_1, .inr (7, [.ref q_6, .int 0, .int 0, .int 0, .int 0, .int 0, .int 0, .int 0])), (q_6, .inl (k_7, 400, .inl (fun _ => 0))), (q_8, .inr (6, [.ref q_13, .ref q_14, .int 0, .int 0])), (q_13, .inl (k_15, 400, .inl (fun _ => 0))), (q_14, .inl (k_16, 25, .inl (fun _ => 0))), (q_17, .inl (k_18, 6, .inr (.inr (.inr (.inr (fun _ => none)))))), (q_19, .inr (8, [.null, .int 0, .int 0, .int 0, .int 0, .null, .null, .null, .null]))] := hD
  refine W.widen (k := 7) (n := 852) (Nat.le_of_ble_eq_true rfl) (Nat.le_of_ble_eq_true rfl) ?_
  refine lv_dup hx hb dX11_init_39 rfl ?_
  have hPc := hP.sub (ws' := [(q_19, .inr (8, [.null, .int 0, .int 0, .int 0, .int 0, .null, .null, .null, .null]))]) [7] rfl
  have hDc := hD.sub (ws' := [(q_19, .inr (8, [.null, .int 0, .int 0, .int 0, .int 0, .null, .null, .null, .null]))]) [7] (by decide) rfl
  have hKc := hK.sub (tys' := []) [] rfl
  have hFc := va_free (wc := [(q_19, .inr (8, [.null, .int 0, .int 0, .int 0, .int 0, .null, .null, .null, .null]))]) hD hS hA [7] rfl
  refine va_callv (va_runI (As := []) (rest := [.ref q_19, .ref x0]) ⟨hx, hb, hml, hown, hts⟩ (c_worn_init l D ad H.size q_19) ⟨callB_of 0 hts (gd_C qq_1_93) rfl rfl rfl (hT _ qq_1_4) (hT _ qq_1_91) (by decide +kernel) (rm_R rfl rfl), rfl, (hT _ qq_1_92)⟩ (pr_S hPc hKc hDc hN) rfl rfl hl.1 rfl (lv_room (Nat.le_of_ble_eq_true rfl)) dX11_init_40 ⟨Nat.le_of_ble_eq_true rfl, Nat.le_of_ble_eq_true rfl⟩) hS (fun q _ h => hFc q h) hFc (fun u_20 t_23 H1 locs ht9 hvm hw_21 hB_22 hz1 hk1 hS => ?_)
  obtain ⟨q_24, q_25, q_26, q_27, k_28, k_29, k_30, k_31, hP1, hK1, hD1⟩ := hB_22
  rw [ht9] at hP1
  have hK1 := va_K.moved hvm.symm hK1
  obtain ⟨hP, hD⟩ := va_join (wr := [(x0, .inr (9, [.ref q_1, .ref q_8, .ref q_17, .int 0, .null, .null, .null, .null, .null, .null, .null, .null])), (q_1, .inr (7, [.ref q_6, .int 0, .int 0, .int 0, .int 0, .int 0, .int 0, .int 0])), (q_6, .inl (k_7, 400, .inl (fun _ => 0))), (q_8, .inr (6, [.ref q_13, .ref q_14, .int 0, .int 0])), (q_13, .inl (k_15, 400, .inl (fun _ => 0))), (q_14, .inl (k_16, 25, .inl (fun _ => 0))), (q_17, .inl (k_18, 6, .inr (.inr (.inr (.inr (fun _ => none))))))]) (w1 := [(q_19, .inr (8, [.null, .int 0, .int 0, .int 0, .int 0, .ref q_24, .ref q_25, .ref q_26, .ref q_27])), (q_24, .inl (k_28, 10, .inl (fun _ => 0))), (q_25, .inl (k_29, 10, .inl (fun _ => 0))), (q_26, .inl (k_30, 10, .inl (fun _ => 0))), (q_27, .inl (k_31, 10, .inl (fun _ => (-1))))]) hP hD [7] [0, 1, 2, 3, 4, 5, 6] rfl rfl (by decide) (by decide) hk1 hFc hP1 hD1
  have hK := (hK.sub (tys' := [(k_7, .char), (k_15, .int), (k_16, .int), (k_18, .object "WrongHole$Rule")]) [0, 1, 2, 3] rfl).app hK1
  have hK : va_K D vwCl [(k_7, .char), (k_15, .int), (k_16, .int), (k_18, .object "WrongHole$Rule"), (k_28, .int), (k_29, .int), (k_30, .int), (k_31, .int)] s := hK
  generalize H1 = H at hP hS ⊢
  have hP : va_P D vwCl [(x0, .inr (9, [.ref q_1, .ref q_8, .ref q_17, .int 0, .null, .null, .null, .null, .null, .null, .null, .null])), (q_1, .inr (7, [.ref q_6, .int 0, .int 0, .int 0, .int 0, .int 0, .int 0, .int 0])), (q_6, .inl (k_7, 400, .inl (fun _ => 0))), (q_8, .inr (6, [.ref q_13, .ref q_14, .int 0, .int 0])), (q_13, .inl (k_15, 400, .inl (fun _ => 0))), (q_14, .inl (k_16, 25, .inl (fun _ => 0))), (q_17, .inl (k_18, 6, .inr (.inr (.inr (.inr (fun _ => none)))))), (q_19, .inr (8, [.null, .int 0, .int 0, .int 0, .int 0, .ref q_24, .ref q_25, .ref q_26, .ref q_27])), (q_24, .inl (k_28, 10, .inl (fun _ => 0))), (q_25, .inl (k_29, 10, .inl (fun _ => 0))), (q_26, .inl (k_30, 10, .inl (fun _ => 0))), (q_27, .inl (k_31, 10, .inl (fun _ => (-1))))] H := hP
  have hD : va_D A [(x0, .inr (9, [.ref q_1, .ref q_8, .ref q_17, .int 0, .null, .null, .null, .null, .null, .null, .null, .null])), (q_1, .inr (7, [.ref q_6, .int 0, .int 0, .int 0, .int 0, .int 0, .int 0, .int 0])), (q_6, .inl (k_7, 400, .inl (fun _ => 0))), (q_8, .inr (6, [.ref q_13, .ref q_14, .int 0, .int 0])), (q_13, .inl (k_15, 400, .inl (fun _ => 0))), (q_14, .inl (k_16, 25, .inl (fun _ => 0))), (q_17, .inl (k_18, 6, .inr (.inr (.inr (.inr (fun _ => none)))))), (q_19, .inr (8, [.null, .int 0, .int 0, .int 0, .int 0, .ref q_24, .ref q_25, .ref q_26, .ref q_27])), (q_24, .inl (k_28, 10, .inl (fun _ => 0))), (q_25, .inl (k_29, 10, .inl (fun _ => 0))), (q_26, .inl (k_30, 10, .inl (fun _ => 0))), (q_27, .inl (k_31, 10, .inl (fun _ => (-1))))] := hD
  refine W.widen (k := 11) (n := 892) (Nat.le_of_ble_eq_true rfl) (Nat.le_of_ble_eq_true rfl) ?_
  refine va_putF (D := D) (ci := 9) (v := .ref q_19) (ty := .object "WrongHole$Worn") (C := "WrongHole") (T := TX11) (N := 12) hx hb hts (iq_RX11 _) tyX11 tyX11_ok nmX11 hown hK hP hD hS 0 rfl rfl 4 (by decide) (hT _ qq_1_206) (fun _ h9 => h9) rfl hnm rfl (by decide +kernel) rfl rfl (Nat.le_of_ble_eq_true rfl) dX11_init_43 (fun H locs hP hD hS => ?_)
  have hP : va_P D vwCl [(x0, .inr (9, [.ref q_1, .ref q_8, .ref q_17, .int 0, .ref q_19, .null, .null, .null, .null, .null, .null, .null])), (q_1, .inr (7, [.ref q_6, .int 0, .int 0, .int 0, .int 0, .int 0, .int 0, .int 0])), (q_6, .inl (k_7, 400, .inl (fun _ => 0))), (q_8, .inr (6, [.ref q_13, .ref q_14, .int 0, .int 0])), (q_13, .inl (k_15, 400, .inl (fun _ => 0))), (q_14, .inl (k_16, 25, .inl (fun _ => 0))), (q_17, .inl (k_18, 6, .inr (.inr (.inr (.inr (fun _ => none)))))), (q_19, .inr (8, [.null, .int 0, .int 0, .int 0, .int 0, .ref q_24, .ref q_25, .ref q_26, .ref q_27])), (q_24, .inl (k_28, 10, .inl (fun _ => 0))), (q_25, .inl (k_29, 10, .inl (fun _ => 0))), (q_26, .inl (k_30, 10, .inl (fun _ => 0))), (q_27, .inl (k_31, 10, .inl (fun _ => (-1))))] H := hP
  have hD : va_D A [(x0, .inr (9, [.ref q_1, .ref q_8, .ref q_17, .int 0, .ref q_19, .null, .null, .null, .null, .null, .null, .null])), (q_1, .inr (7, [.ref q_6, .int 0, .int 0, .int 0, .int 0, .int 0, .int 0, .int 0])), (q_6, .inl (k_7, 400, .inl (fun _ => 0))), (q_8, .inr (6, [.ref q_13, .ref q_14, .int 0, .int 0])), (q_13, .inl (k_15, 400, .inl (fun _ => 0))), (q_14, .inl (k_16, 25, .inl (fun _ => 0))), (q_17, .inl (k_18, 6, .inr (.inr (.inr (.inr (fun _ => none)))))), (q_19, .inr (8, [.null, .int 0, .int 0, .int 0, .int 0, .ref q_24, .ref q_25, .ref q_26, .ref q_27])), (q_24, .inl (k_28, 10, .inl (fun _ => 0))), (q_25, .inl (k_29, 10, .inl (fun _ => 0))), (q_26, .inl (k_30, 10, .inl (fun _ => 0))), (q_27, .inl (k_31, 10, .inl (fun _ => (-1))))] := hD
  refine lv_aload_n hx hb dX11_init_46 rfl (lv_at hl 0 rfl) ?_
  refine lv_iconst (v := 4) hx hb dX11_init_47 (by decide) ?_
  refine va_newq hx hb hown (hT _ qq_1_89) hN.2.2.2.2 hK hP hD hS hA (n := 4) (N' := 4) (by decide) (by decide) (Nat.le_of_ble_eq_true rfl) (Nat.le_of_ble_eq_true rfl) (Nat.le_of_ble_eq_true rfl) dX11_init_48 (fun q_32 k_33 H hK hP hD hS => ?_)
  have hK : va_K D vwCl [(k_7, .char), (k_15, .int), (k_16, .int), (k_18, .object "WrongHole$Rule"), (k_28, .int), (k_29, .int), (k_30, .int), (k_31, .int), (k_33, .object "WrongHole$Worn")] s := hK
  have hP : va_P D vwCl [(x0, .inr (9, [.ref q_1, .ref q_8, .ref q_17, .int 0, .ref q_19, .null, .null, .null, .null, .null, .null, .null])), (q_1, .inr (7, [.ref q_6, .int 0, .int 0, .int 0, .int 0, .int 0, .int 0, .int 0])), (q_6, .inl (k_7, 400, .inl (fun _ => 0))), (q_8, .inr (6, [.ref q_13, .ref q_14, .int 0, .int 0])), (q_13, .inl (k_15, 400, .inl (fun _ => 0))), (q_14, .inl (k_16, 25, .inl (fun _ => 0))), (q_17, .inl (k_18, 6, .inr (.inr (.inr (.inr (fun _ => none)))))), (q_19, .inr (8, [.null, .int 0, .int 0, .int 0, .int 0, .ref q_24, .ref q_25, .ref q_26, .ref q_27])), (q_24, .inl (k_28, 10, .inl (fun _ => 0))), (q_25, .inl (k_29, 10, .inl (fun _ => 0))), (q_26, .inl (k_30, 10, .inl (fun _ => 0))), (q_27, .inl (k_31, 10, .inl (fun _ => (-1)))), (q_32, .inl (k_33, 4, .inr (.inr (.inr (.inr (fun _ => none))))))] H := hP
  have hD : va_D A [(x0, .inr (9, [.ref q_1, .ref q_8, .ref q_17, .int 0, .ref q_19, .null, .null, .null, .null, .null, .null, .null])), (q_1, .inr (7, [.ref q_6, .int 0, .int 0, .int 0, .int 0, .int 0, .int 0, .int 0])), (q_6, .inl (k_7, 400, .inl (fun _ => 0))), (q_8, .inr (6, [.ref q_13, .ref q_14, .int 0, .int 0])), (q_13, .inl (k_15, 400, .inl (fun _ => 0))), (q_14, .inl (k_16, 25, .inl (fun _ => 0))), (q_17, .inl (k_18, 6, .inr (.inr (.inr (.inr (fun _ => none)))))), (q_19, .inr (8, [.null, .int 0, .int 0, .int 0, .int 0, .ref q_24, .ref q_25, .ref q_26, .ref q_27])), (q_24, .inl (k_28, 10, .inl (fun _ => 0))), (q_25, .inl (k_29, 10, .inl (fun _ => 0))), (q_26, .inl (k_30, 10, .inl (fun _ => 0))), (q_27, .inl (k_31, 10, .inl (fun _ => (-1)))), (q_32, .inl (k_33, 4, .inr (.inr (.inr (.inr (fun _ => none))))))] := hD
  refine W.widen (k := 12) (n := 896) (Nat.le_of_ble_eq_true rfl) (Nat.le_of_ble_eq_true rfl) ?_
  refine va_putF (D := D) (ci := 9) (v := .ref q_32) (ty := .array (.object "WrongHole$Worn")) (C := "WrongHole") (T := TX11) (N := 12) hx hb hts (iq_RX11 _) tyX11 tyX11_ok nmX11 hown hK hP hD hS 0 rfl rfl 5 (by decide) (hT _ qq_1_207) (fun _ h9 => h9) rfl hnm rfl (by decide +kernel) rfl rfl (Nat.le_of_ble_eq_true rfl) dX11_init_51 (fun H locs hP hD hS => ?_)
  have hP : va_P D vwCl [(x0, .inr (9, [.ref q_1, .ref q_8, .ref q_17, .int 0, .ref q_19, .ref q_32, .null, .null, .null, .null, .null, .null])), (q_1, .inr (7, [.ref q_6, .int 0, .int 0, .int 0, .int 0, .int 0, .int 0, .int 0])), (q_6, .inl (k_7, 400, .inl (fun _ => 0))), (q_8, .inr (6, [.ref q_13, .ref q_14, .int 0, .int 0])), (q_13, .inl (k_15, 400, .inl (fun _ => 0))), (q_14, .inl (k_16, 25, .inl (fun _ => 0))), (q_17, .inl (k_18, 6, .inr (.inr (.inr (.inr (fun _ => none)))))), (q_19, .inr (8, [.null, .int 0, .int 0, .int 0, .int 0, .ref q_24, .ref q_25, .ref q_26, .ref q_27])), (q_24, .inl (k_28, 10, .inl (fun _ => 0))), (q_25, .inl (k_29, 10, .inl (fun _ => 0))), (q_26, .inl (k_30, 10, .inl (fun _ => 0))), (q_27, .inl (k_31, 10, .inl (fun _ => (-1)))), (q_32, .inl (k_33, 4, .inr (.inr (.inr (.inr (fun _ => none))))))] H := hP
  have hD : va_D A [(x0, .inr (9, [.ref q_1, .ref q_8, .ref q_17, .int 0, .ref q_19, .ref q_32, .null, .null, .null, .null, .null, .null])), (q_1, .inr (7, [.ref q_6, .int 0, .int 0, .int 0, .int 0, .int 0, .int 0, .int 0])), (q_6, .inl (k_7, 400, .inl (fun _ => 0))), (q_8, .inr (6, [.ref q_13, .ref q_14, .int 0, .int 0])), (q_13, .inl (k_15, 400, .inl (fun _ => 0))), (q_14, .inl (k_16, 25, .inl (fun _ => 0))), (q_17, .inl (k_18, 6, .inr (.inr (.inr (.inr (fun _ => none)))))), (q_19, .inr (8, [.null, .int 0, .int 0, .int 0, .int 0, .ref q_24, .ref q_25, .ref q_26, .ref q_27])), (q_24, .inl (k_28, 10, .inl (fun _ => 0))), (q_25, .inl (k_29, 10, .inl (fun _ => 0))), (q_26, .inl (k_30, 10, .inl (fun _ => 0))), (q_27, .inl (k_31, 10, .inl (fun _ => (-1)))), (q_32, .inl (k_33, 4, .inr (.inr (.inr (.inr (fun _ => none))))))] := hD
  refine lv_aload_n hx hb dX11_init_54 rfl (lv_at hl 0 rfl) ?_
  refine va_new (ci := 3) (fs := [.null, .null, .int 0, .int 0]) (C := "WrongHole$Past") (T := TX4) (N := 4) hx hb hts (iq_RX4 _) tyX4 tyX4_ok hown (hT _ qq_1_136) (hT _ qq_1_137) (hT _ qq_1_6) hK hP hD hS hA rfl (fv_RX4) (Nat.le_of_ble_eq_true rfl) (Nat.le_of_ble_eq_true rfl) dX11_init_55 (fun q_34 H hP hD hS => ?_)
  have hP : va_P D vwCl [(x0, .inr (9, [.ref q_1, .ref q_8, .ref q_17, .int 0, .ref q_19, .ref q_32, .null, .null, .null, .null, .null, .null])), (q_1, .inr (7, [.ref q_6, .int 0, .int 0, .int 0, .int 0, .int 0, .int 0, .int 0])), (q_6, .inl (k_7, 400, .inl (fun _ => 0))), (q_8, .inr (6, [.ref q_13, .ref q_14, .int 0, .int 0])), (q_13, .inl (k_15, 400, .inl (fun _ => 0))), (q_14, .inl (k_16, 25, .inl (fun _ => 0))), (q_17, .inl (k_18, 6, .inr (.inr (.inr (.inr (fun _ => none)))))), (q_19, .inr (8, [.null, .int 0, .int 0, .int 0, .int 0, .ref q_24, .ref q_25, .ref q_26, .ref q_27])), (q_24, .inl (k_28, 10, .inl (fun _ => 0))), (q_25, .inl (k_29, 10, .inl (fun _ => 0))), (q_26, .inl (k_30, 10, .inl (fun _ => 0))), (q_27, .inl (k_31, 10, .inl (fun _ => (-1)))), (q_32, .inl (k_33, 4, .inr (.inr (.inr (.inr (fun _ => none)))))), (q_34, .inr (3, [.null, .null, .int 0, .int 0]))] H := hP
  have hD : va_D A [(x0, .inr (9, [.ref q_1, .ref q_8, .ref q_17, .int 0, .ref q_19, .ref q_32, .null, .null, .null, .null, .null, .null])), (q_1, .inr (7, [.ref q_6, .int 0, .int 0, .int 0, .int 0, .int 0, .int 0, .int 0])), (q_6, .inl (k_7, 400, .inl (fun _ => 0))), (q_8, .inr (6, [.ref q_13, .ref q_14, .int 0, .int 0])), (q_13, .inl (k_15, 400, .inl (fun _ => 0))), (q_14, .inl (k_16, 25, .inl (fun _ => 0))), (q_17, .inl (k_18, 6, .inr (.inr (.inr (.inr (fun _ => none)))))), (q_19, .inr (8, [.null, .int 0, .int 0, .int 0, .int 0, .ref q_24, .ref q_25, .ref q_26, .ref q_27])), (q_24, .inl (k_28, 10, .inl (fun _ => 0))), (q_25, .inl (k_29, 10, .inl (fun _ => 0))), (q_26, .inl (k_30, 10, .inl (fun _ => 0))), (q_27, .inl (k_31, 10, .inl (fun _ => (-1)))), (q_32, .inl (k_33, 4, .inr (.inr (.inr (.inr (fun _ => none)))))), (q_34, .inr (3, [.null, .null, .int 0, .int 0]))] := hD
  refine W.widen (k := 13) (n := 900) (Nat.le_of_ble_eq_true rfl) (Nat.le_of_ble_eq_true rfl) ?_
  refine lv_dup hx hb dX11_init_58 rfl ?_
  have hPc := hP.sub (ws' := [(q_34, .inr (3, [.null, .null, .int 0, .int 0]))]) [13] rfl
  have hDc := hD.sub (ws' := [(q_34, .inr (3, [.null, .null, .int 0, .int 0]))]) [13] (by decide) rfl
  have hKc := hK.sub (tys' := []) [] rfl
  have hFc := va_free (wc := [(q_34, .inr (3, [.null, .null, .int 0, .int 0]))]) hD hS hA [13] rfl
  refine va_callv (va_runIN (As := []) (rest := [.ref q_34, .ref x0]) ⟨hx, hb, hml, hown, hts⟩ (c_past_init l D ad H.size q_34) ⟨va_cnB 0 hts (gd_C qq_1_140) rfl rfl rfl (hN.1 _ nq_1_138) (hT _ qq_1_6) (by decide +kernel) (rm_R rfl rfl), rfl, (hT _ qq_1_139)⟩ (pr_S hPc hKc hDc hN) rfl rfl hl.1 rfl (lv_room (Nat.le_of_ble_eq_true rfl)) dX11_init_59 ⟨Nat.le_of_ble_eq_true rfl, Nat.le_of_ble_eq_true rfl⟩) hS (fun q _ h => hFc q h) hFc (fun u_35 t_38 H1 locs ht9 hvm hw_36 hB_37 hz1 hk1 hS => ?_)
  obtain ⟨q_39, q_40, k_41, k_42, hP1, hK1, hD1⟩ := hB_37
  rw [ht9] at hP1
  have hK1 := va_K.moved hvm.symm hK1
  obtain ⟨hP, hD⟩ := va_join (wr := [(x0, .inr (9, [.ref q_1, .ref q_8, .ref q_17, .int 0, .ref q_19, .ref q_32, .null, .null, .null, .null, .null, .null])), (q_1, .inr (7, [.ref q_6, .int 0, .int 0, .int 0, .int 0, .int 0, .int 0, .int 0])), (q_6, .inl (k_7, 400, .inl (fun _ => 0))), (q_8, .inr (6, [.ref q_13, .ref q_14, .int 0, .int 0])), (q_13, .inl (k_15, 400, .inl (fun _ => 0))), (q_14, .inl (k_16, 25, .inl (fun _ => 0))), (q_17, .inl (k_18, 6, .inr (.inr (.inr (.inr (fun _ => none)))))), (q_19, .inr (8, [.null, .int 0, .int 0, .int 0, .int 0, .ref q_24, .ref q_25, .ref q_26, .ref q_27])), (q_24, .inl (k_28, 10, .inl (fun _ => 0))), (q_25, .inl (k_29, 10, .inl (fun _ => 0))), (q_26, .inl (k_30, 10, .inl (fun _ => 0))), (q_27, .inl (k_31, 10, .inl (fun _ => (-1)))), (q_32, .inl (k_33, 4, .inr (.inr (.inr (.inr (fun _ => none))))))]) (w1 := [(q_34, .inr (3, [.ref q_39, .ref q_40, .int 0, .int 0])), (q_39, .inl (k_41, 20, .inl (fun _ => 0))), (q_40, .inl (k_42, 20, .inl (fun _ => 0)))]) hP hD [13] [0, 1, 2, 3, 4, 5, 6, 7, 8, 9, 10, 11, 12] rfl rfl (by decide) (by decide) hk1 hFc hP1 hD1
  have hK := (hK.sub (tys' := [(k_7, .char), (k_15, .int), (k_16, .int), (k_18, .object "WrongHole$Rule"), (k_28, .int), (k_29, .int), (k_30, .int), (k_31, .int), (k_33, .object "WrongHole$Worn")]) [0, 1, 2, 3, 4, 5, 6, 7, 8] rfl).app hK1
  have hK : va_K D vwCl [(k_7, .char), (k_15, .int), (k_16, .int), (k_18, .object "WrongHole$Rule"), (k_28, .int), (k_29, .int), (k_30, .int), (k_31, .int), (k_33, .object "WrongHole$Worn"), (k_41, .int), (k_42, .int)] s := hK
  generalize H1 = H at hP hS ⊢
  have hP : va_P D vwCl [(x0, .inr (9, [.ref q_1, .ref q_8, .ref q_17, .int 0, .ref q_19, .ref q_32, .null, .null, .null, .null, .null, .null])), (q_1, .inr (7, [.ref q_6, .int 0, .int 0, .int 0, .int 0, .int 0, .int 0, .int 0])), (q_6, .inl (k_7, 400, .inl (fun _ => 0))), (q_8, .inr (6, [.ref q_13, .ref q_14, .int 0, .int 0])), (q_13, .inl (k_15, 400, .inl (fun _ => 0))), (q_14, .inl (k_16, 25, .inl (fun _ => 0))), (q_17, .inl (k_18, 6, .inr (.inr (.inr (.inr (fun _ => none)))))), (q_19, .inr (8, [.null, .int 0, .int 0, .int 0, .int 0, .ref q_24, .ref q_25, .ref q_26, .ref q_27])), (q_24, .inl (k_28, 10, .inl (fun _ => 0))), (q_25, .inl (k_29, 10, .inl (fun _ => 0))), (q_26, .inl (k_30, 10, .inl (fun _ => 0))), (q_27, .inl (k_31, 10, .inl (fun _ => (-1)))), (q_32, .inl (k_33, 4, .inr (.inr (.inr (.inr (fun _ => none)))))), (q_34, .inr (3, [.ref q_39, .ref q_40, .int 0, .int 0])), (q_39, .inl (k_41, 20, .inl (fun _ => 0))), (q_40, .inl (k_42, 20, .inl (fun _ => 0)))] H := hP
  have hD : va_D A [(x0, .inr (9, [.ref q_1, .ref q_8, .ref q_17, .int 0, .ref q_19, .ref q_32, .null, .null, .null, .null, .null, .null])), (q_1, .inr (7, [.ref q_6, .int 0, .int 0, .int 0, .int 0, .int 0, .int 0, .int 0])), (q_6, .inl (k_7, 400, .inl (fun _ => 0))), (q_8, .inr (6, [.ref q_13, .ref q_14, .int 0, .int 0])), (q_13, .inl (k_15, 400, .inl (fun _ => 0))), (q_14, .inl (k_16, 25, .inl (fun _ => 0))), (q_17, .inl (k_18, 6, .inr (.inr (.inr (.inr (fun _ => none)))))), (q_19, .inr (8, [.null, .int 0, .int 0, .int 0, .int 0, .ref q_24, .ref q_25, .ref q_26, .ref q_27])), (q_24, .inl (k_28, 10, .inl (fun _ => 0))), (q_25, .inl (k_29, 10, .inl (fun _ => 0))), (q_26, .inl (k_30, 10, .inl (fun _ => 0))), (q_27, .inl (k_31, 10, .inl (fun _ => (-1)))), (q_32, .inl (k_33, 4, .inr (.inr (.inr (.inr (fun _ => none)))))), (q_34, .inr (3, [.ref q_39, .ref q_40, .int 0, .int 0])), (q_39, .inl (k_41, 20, .inl (fun _ => 0))), (q_40, .inl (k_42, 20, .inl (fun _ => 0)))] := hD
  refine W.widen (k := 15) (n := 940) (Nat.le_of_ble_eq_true rfl) (Nat.le_of_ble_eq_true rfl) ?_
  refine va_putF (D := D) (ci := 9) (v := .ref q_34) (ty := .object "WrongHole$Past") (C := "WrongHole") (T := TX11) (N := 12) hx hb hts (iq_RX11 _) tyX11 tyX11_ok nmX11 hown hK hP hD hS 0 rfl rfl 6 (by decide) (hT _ qq_1_208) (fun _ h9 => h9) rfl hnm rfl (by decide +kernel) rfl rfl (Nat.le_of_ble_eq_true rfl) dX11_init_62 (fun H locs hP hD hS => ?_)
  have hP : va_P D vwCl [(x0, .inr (9, [.ref q_1, .ref q_8, .ref q_17, .int 0, .ref q_19, .ref q_32, .ref q_34, .null, .null, .null, .null, .null])), (q_1, .inr (7, [.ref q_6, .int 0, .int 0, .int 0, .int 0, .int 0, .int 0, .int 0])), (q_6, .inl (k_7, 400, .inl (fun _ => 0))), (q_8, .inr (6, [.ref q_13, .ref q_14, .int 0, .int 0])), (q_13, .inl (k_15, 400, .inl (fun _ => 0))), (q_14, .inl (k_16, 25, .inl (fun _ => 0))), (q_17, .inl (k_18, 6, .inr (.inr (.inr (.inr (fun _ => none)))))), (q_19, .inr (8, [.null, .int 0, .int 0, .int 0, .int 0, .ref q_24, .ref q_25, .ref q_26, .ref q_27])), (q_24, .inl (k_28, 10, .inl (fun _ => 0))), (q_25, .inl (k_29, 10, .inl (fun _ => 0))), (q_26, .inl (k_30, 10, .inl (fun _ => 0))), (q_27, .inl (k_31, 10, .inl (fun _ => (-1)))), (q_32, .inl (k_33, 4, .inr (.inr (.inr (.inr (fun _ => none)))))), (q_34, .inr (3, [.ref q_39, .ref q_40, .int 0, .int 0])), (q_39, .inl (k_41, 20, .inl (fun _ => 0))), (q_40, .inl (k_42, 20, .inl (fun _ => 0)))] H := hP
  have hD : va_D A [(x0, .inr (9, [.ref q_1, .ref q_8, .ref q_17, .int 0, .ref q_19, .ref q_32, .ref q_34, .null, .null, .null, .null, .null])), (q_1, .inr (7, [.ref q_6, .int 0, .int 0, .int 0, .int 0, .int 0, .int 0, .int 0])), (q_6, .inl (k_7, 400, .inl (fun _ => 0))), (q_8, .inr (6, [.ref q_13, .ref q_14, .int 0, .int 0])), (q_13, .inl (k_15, 400, .inl (fun _ => 0))), (q_14, .inl (k_16, 25, .inl (fun _ => 0))), (q_17, .inl (k_18, 6, .inr (.inr (.inr (.inr (fun _ => none)))))), (q_19, .inr (8, [.null, .int 0, .int 0, .int 0, .int 0, .ref q_24, .ref q_25, .ref q_26, .ref q_27])), (q_24, .inl (k_28, 10, .inl (fun _ => 0))), (q_25, .inl (k_29, 10, .inl (fun _ => 0))), (q_26, .inl (k_30, 10, .inl (fun _ => 0))), (q_27, .inl (k_31, 10, .inl (fun _ => (-1)))), (q_32, .inl (k_33, 4, .inr (.inr (.inr (.inr (fun _ => none)))))), (q_34, .inr (3, [.ref q_39, .ref q_40, .int 0, .int 0])), (q_39, .inl (k_41, 20, .inl (fun _ => 0))), (q_40, .inl (k_42, 20, .inl (fun _ => 0)))] := hD
  refine lv_aload_n hx hb dX11_init_65 rfl (lv_at hl 0 rfl) ?_
  refine va_new (ci := 0) (fs := [.null, .null, .int 0]) (C := "WrongHole$Acts") (T := TX0) (N := 3) hx hb hts (iq_RX0 _) tyX0 tyX0_ok hown (hT _ qq_1_156) (hT _ qq_1_157) (hT _ qq_1_7) hK hP hD hS hA rfl (fv_RX0) (Nat.le_of_ble_eq_true rfl) (Nat.le_of_ble_eq_true rfl) dX11_init_66 (fun q_43 H hP hD hS => ?_)
  have hP : va_P D vwCl [(x0, .inr (9, [.ref q_1, .ref q_8, .ref q_17, .int 0, .ref q_19, .ref q_32, .ref q_34, .null, .null, .null, .null, .null])), (q_1, .inr (7, [.ref q_6, .int 0, .int 0, .int 0, .int 0, .int 0, .int 0, .int 0])), (q_6, .inl (k_7, 400, .inl (fun _ => 0))), (q_8, .inr (6, [.ref q_13, .ref q_14, .int 0, .int 0])), (q_13, .inl (k_15, 400, .inl (fun _ => 0))), (q_14, .inl (k_16, 25, .inl (fun _ => 0))), (q_17, .inl (k_18, 6, .inr (.inr (.inr (.inr (fun _ => none)))))), (q_19, .inr (8, [.null, .int 0, .int 0, .int 0, .int 0, .ref q_24, .ref q_25, .ref q_26, .ref q_27])), (q_24, .inl (k_28, 10, .inl (fun _ => 0))), (q_25, .inl (k_29, 10, .inl (fun _ => 0))), (q_26, .inl (k_30, 10, .inl (fun _ => 0))), (q_27, .inl (k_31, 10, .inl (fun _ => (-1)))), (q_32, .inl (k_33, 4, .inr (.inr (.inr (.inr (fun _ => none)))))), (q_34, .inr (3, [.ref q_39, .ref q_40, .int 0, .int 0])), (q_39, .inl (k_41, 20, .inl (fun _ => 0))), (q_40, .inl (k_42, 20, .inl (fun _ => 0))), (q_43, .inr (0, [.null, .null, .int 0]))] H := hP
  have hD : va_D A [(x0, .inr (9, [.ref q_1, .ref q_8, .ref q_17, .int 0, .ref q_19, .ref q_32, .ref q_34, .null, .null, .null, .null, .null])), (q_1, .inr (7, [.ref q_6, .int 0, .int 0, .int 0, .int 0, .int 0, .int 0, .int 0])), (q_6, .inl (k_7, 400, .inl (fun _ => 0))), (q_8, .inr (6, [.ref q_13, .ref q_14, .int 0, .int 0])), (q_13, .inl (k_15, 400, .inl (fun _ => 0))), (q_14, .inl (k_16, 25, .inl (fun _ => 0))), (q_17, .inl (k_18, 6, .inr (.inr (.inr (.inr (fun _ => none)))))), (q_19, .inr (8, [.null, .int 0, .int 0, .int 0, .int 0, .ref q_24, .ref q_25, .ref q_26, .ref q_27])), (q_24, .inl (k_28, 10, .inl (fun _ => 0))), (q_25, .inl (k_29, 10, .inl (fun _ => 0))), (q_26, .inl (k_30, 10, .inl (fun _ => 0))), (q_27, .inl (k_31, 10, .inl (fun _ => (-1)))), (q_32, .inl (k_33, 4, .inr (.inr (.inr (.inr (fun _ => none)))))), (q_34, .inr (3, [.ref q_39, .ref q_40, .int 0, .int 0])), (q_39, .inl (k_41, 20, .inl (fun _ => 0))), (q_40, .inl (k_42, 20, .inl (fun _ => 0))), (q_43, .inr (0, [.null, .null, .int 0]))] := hD
  refine W.widen (k := 16) (n := 943) (Nat.le_of_ble_eq_true rfl) (Nat.le_of_ble_eq_true rfl) ?_
  refine lv_dup hx hb dX11_init_69 rfl ?_
  have hPc := hP.sub (ws' := [(q_43, .inr (0, [.null, .null, .int 0]))]) [16] rfl
  have hDc := hD.sub (ws' := [(q_43, .inr (0, [.null, .null, .int 0]))]) [16] (by decide) rfl
  have hKc := hK.sub (tys' := []) [] rfl
  have hFc := va_free (wc := [(q_43, .inr (0, [.null, .null, .int 0]))]) hD hS hA [16] rfl
  refine va_callv (va_runI (As := []) (rest := [.ref q_43, .ref x0]) ⟨hx, hb, hml, hown, hts⟩ (c_acts_init l D ad H.size q_43) ⟨callB_of 0 hts (gd_C qq_1_160) rfl rfl rfl (hT _ qq_1_7) (hT _ qq_1_158) (by decide +kernel) (rm_R rfl rfl), rfl, (hT _ qq_1_159)⟩ (pr_S hPc hKc hDc hN) rfl rfl hl.1 rfl (lv_room (Nat.le_of_ble_eq_true rfl)) dX11_init_70 ⟨Nat.le_of_ble_eq_true rfl, Nat.le_of_ble_eq_true rfl⟩) hS (fun q _ h => hFc q h) hFc (fun u_44 t_47 H1 locs ht9 hvm hw_45 hB_46 hz1 hk1 hS => ?_)
  obtain ⟨q_48, q_49, k_50, k_51, hP1, hK1, hD1⟩ := hB_46
  rw [ht9] at hP1
  have hK1 := va_K.moved hvm.symm hK1
  obtain ⟨hP, hD⟩ := va_join (wr := [(x0, .inr (9, [.ref q_1, .ref q_8, .ref q_17, .int 0, .ref q_19, .ref q_32, .ref q_34, .null, .null, .null, .null, .null])), (q_1, .inr (7, [.ref q_6, .int 0, .int 0, .int 0, .int 0, .int 0, .int 0, .int 0])), (q_6, .inl (k_7, 400, .inl (fun _ => 0))), (q_8, .inr (6, [.ref q_13, .ref q_14, .int 0, .int 0])), (q_13, .inl (k_15, 400, .inl (fun _ => 0))), (q_14, .inl (k_16, 25, .inl (fun _ => 0))), (q_17, .inl (k_18, 6, .inr (.inr (.inr (.inr (fun _ => none)))))), (q_19, .inr (8, [.null, .int 0, .int 0, .int 0, .int 0, .ref q_24, .ref q_25, .ref q_26, .ref q_27])), (q_24, .inl (k_28, 10, .inl (fun _ => 0))), (q_25, .inl (k_29, 10, .inl (fun _ => 0))), (q_26, .inl (k_30, 10, .inl (fun _ => 0))), (q_27, .inl (k_31, 10, .inl (fun _ => (-1)))), (q_32, .inl (k_33, 4, .inr (.inr (.inr (.inr (fun _ => none)))))), (q_34, .inr (3, [.ref q_39, .ref q_40, .int 0, .int 0])), (q_39, .inl (k_41, 20, .inl (fun _ => 0))), (q_40, .inl (k_42, 20, .inl (fun _ => 0)))]) (w1 := [(q_43, .inr (0, [.ref q_48, .ref q_49, .int 0])), (q_48, .inl (k_50, 8, .inl (fun _ => 0))), (q_49, .inl (k_51, 72, .inl (fun _ => 0)))]) hP hD [16] [0, 1, 2, 3, 4, 5, 6, 7, 8, 9, 10, 11, 12, 13, 14, 15] rfl rfl (by decide) (by decide) hk1 hFc hP1 hD1
  have hK := (hK.sub (tys' := [(k_7, .char), (k_15, .int), (k_16, .int), (k_18, .object "WrongHole$Rule"), (k_28, .int), (k_29, .int), (k_30, .int), (k_31, .int), (k_33, .object "WrongHole$Worn"), (k_41, .int), (k_42, .int)]) [0, 1, 2, 3, 4, 5, 6, 7, 8, 9, 10] rfl).app hK1
  have hK : va_K D vwCl [(k_7, .char), (k_15, .int), (k_16, .int), (k_18, .object "WrongHole$Rule"), (k_28, .int), (k_29, .int), (k_30, .int), (k_31, .int), (k_33, .object "WrongHole$Worn"), (k_41, .int), (k_42, .int), (k_50, .int), (k_51, .int)] s := hK
  generalize H1 = H at hP hS ⊢
  have hP : va_P D vwCl [(x0, .inr (9, [.ref q_1, .ref q_8, .ref q_17, .int 0, .ref q_19, .ref q_32, .ref q_34, .null, .null, .null, .null, .null])), (q_1, .inr (7, [.ref q_6, .int 0, .int 0, .int 0, .int 0, .int 0, .int 0, .int 0])), (q_6, .inl (k_7, 400, .inl (fun _ => 0))), (q_8, .inr (6, [.ref q_13, .ref q_14, .int 0, .int 0])), (q_13, .inl (k_15, 400, .inl (fun _ => 0))), (q_14, .inl (k_16, 25, .inl (fun _ => 0))), (q_17, .inl (k_18, 6, .inr (.inr (.inr (.inr (fun _ => none)))))), (q_19, .inr (8, [.null, .int 0, .int 0, .int 0, .int 0, .ref q_24, .ref q_25, .ref q_26, .ref q_27])), (q_24, .inl (k_28, 10, .inl (fun _ => 0))), (q_25, .inl (k_29, 10, .inl (fun _ => 0))), (q_26, .inl (k_30, 10, .inl (fun _ => 0))), (q_27, .inl (k_31, 10, .inl (fun _ => (-1)))), (q_32, .inl (k_33, 4, .inr (.inr (.inr (.inr (fun _ => none)))))), (q_34, .inr (3, [.ref q_39, .ref q_40, .int 0, .int 0])), (q_39, .inl (k_41, 20, .inl (fun _ => 0))), (q_40, .inl (k_42, 20, .inl (fun _ => 0))), (q_43, .inr (0, [.ref q_48, .ref q_49, .int 0])), (q_48, .inl (k_50, 8, .inl (fun _ => 0))), (q_49, .inl (k_51, 72, .inl (fun _ => 0)))] H := hP
  have hD : va_D A [(x0, .inr (9, [.ref q_1, .ref q_8, .ref q_17, .int 0, .ref q_19, .ref q_32, .ref q_34, .null, .null, .null, .null, .null])), (q_1, .inr (7, [.ref q_6, .int 0, .int 0, .int 0, .int 0, .int 0, .int 0, .int 0])), (q_6, .inl (k_7, 400, .inl (fun _ => 0))), (q_8, .inr (6, [.ref q_13, .ref q_14, .int 0, .int 0])), (q_13, .inl (k_15, 400, .inl (fun _ => 0))), (q_14, .inl (k_16, 25, .inl (fun _ => 0))), (q_17, .inl (k_18, 6, .inr (.inr (.inr (.inr (fun _ => none)))))), (q_19, .inr (8, [.null, .int 0, .int 0, .int 0, .int 0, .ref q_24, .ref q_25, .ref q_26, .ref q_27])), (q_24, .inl (k_28, 10, .inl (fun _ => 0))), (q_25, .inl (k_29, 10, .inl (fun _ => 0))), (q_26, .inl (k_30, 10, .inl (fun _ => 0))), (q_27, .inl (k_31, 10, .inl (fun _ => (-1)))), (q_32, .inl (k_33, 4, .inr (.inr (.inr (.inr (fun _ => none)))))), (q_34, .inr (3, [.ref q_39, .ref q_40, .int 0, .int 0])), (q_39, .inl (k_41, 20, .inl (fun _ => 0))), (q_40, .inl (k_42, 20, .inl (fun _ => 0))), (q_43, .inr (0, [.ref q_48, .ref q_49, .int 0])), (q_48, .inl (k_50, 8, .inl (fun _ => 0))), (q_49, .inl (k_51, 72, .inl (fun _ => 0)))] := hD
  refine W.widen (k := 18) (n := 1023) (Nat.le_of_ble_eq_true rfl) (Nat.le_of_ble_eq_true rfl) ?_
  refine va_putF (D := D) (ci := 9) (v := .ref q_43) (ty := .object "WrongHole$Acts") (C := "WrongHole") (T := TX11) (N := 12) hx hb hts (iq_RX11 _) tyX11 tyX11_ok nmX11 hown hK hP hD hS 0 rfl rfl 7 (by decide) (hT _ qq_1_209) (fun _ h9 => h9) rfl hnm rfl (by decide +kernel) rfl rfl (Nat.le_of_ble_eq_true rfl) dX11_init_73 (fun H locs hP hD hS => ?_)
  have hP : va_P D vwCl [(x0, .inr (9, [.ref q_1, .ref q_8, .ref q_17, .int 0, .ref q_19, .ref q_32, .ref q_34, .ref q_43, .null, .null, .null, .null])), (q_1, .inr (7, [.ref q_6, .int 0, .int 0, .int 0, .int 0, .int 0, .int 0, .int 0])), (q_6, .inl (k_7, 400, .inl (fun _ => 0))), (q_8, .inr (6, [.ref q_13, .ref q_14, .int 0, .int 0])), (q_13, .inl (k_15, 400, .inl (fun _ => 0))), (q_14, .inl (k_16, 25, .inl (fun _ => 0))), (q_17, .inl (k_18, 6, .inr (.inr (.inr (.inr (fun _ => none)))))), (q_19, .inr (8, [.null, .int 0, .int 0, .int 0, .int 0, .ref q_24, .ref q_25, .ref q_26, .ref q_27])), (q_24, .inl (k_28, 10, .inl (fun _ => 0))), (q_25, .inl (k_29, 10, .inl (fun _ => 0))), (q_26, .inl (k_30, 10, .inl (fun _ => 0))), (q_27, .inl (k_31, 10, .inl (fun _ => (-1)))), (q_32, .inl (k_33, 4, .inr (.inr (.inr (.inr (fun _ => none)))))), (q_34, .inr (3, [.ref q_39, .ref q_40, .int 0, .int 0])), (q_39, .inl (k_41, 20, .inl (fun _ => 0))), (q_40, .inl (k_42, 20, .inl (fun _ => 0))), (q_43, .inr (0, [.ref q_48, .ref q_49, .int 0])), (q_48, .inl (k_50, 8, .inl (fun _ => 0))), (q_49, .inl (k_51, 72, .inl (fun _ => 0)))] H := hP
  have hD : va_D A [(x0, .inr (9, [.ref q_1, .ref q_8, .ref q_17, .int 0, .ref q_19, .ref q_32, .ref q_34, .ref q_43, .null, .null, .null, .null])), (q_1, .inr (7, [.ref q_6, .int 0, .int 0, .int 0, .int 0, .int 0, .int 0, .int 0])), (q_6, .inl (k_7, 400, .inl (fun _ => 0))), (q_8, .inr (6, [.ref q_13, .ref q_14, .int 0, .int 0])), (q_13, .inl (k_15, 400, .inl (fun _ => 0))), (q_14, .inl (k_16, 25, .inl (fun _ => 0))), (q_17, .inl (k_18, 6, .inr (.inr (.inr (.inr (fun _ => none)))))), (q_19, .inr (8, [.null, .int 0, .int 0, .int 0, .int 0, .ref q_24, .ref q_25, .ref q_26, .ref q_27])), (q_24, .inl (k_28, 10, .inl (fun _ => 0))), (q_25, .inl (k_29, 10, .inl (fun _ => 0))), (q_26, .inl (k_30, 10, .inl (fun _ => 0))), (q_27, .inl (k_31, 10, .inl (fun _ => (-1)))), (q_32, .inl (k_33, 4, .inr (.inr (.inr (.inr (fun _ => none)))))), (q_34, .inr (3, [.ref q_39, .ref q_40, .int 0, .int 0])), (q_39, .inl (k_41, 20, .inl (fun _ => 0))), (q_40, .inl (k_42, 20, .inl (fun _ => 0))), (q_43, .inr (0, [.ref q_48, .ref q_49, .int 0])), (q_48, .inl (k_50, 8, .inl (fun _ => 0))), (q_49, .inl (k_51, 72, .inl (fun _ => 0)))] := hD
  refine lv_aload_n hx hb dX11_init_76 rfl (lv_at hl 0 rfl) ?_
  refine va_new (ci := 1) (fs := [.null, .null, .int 0, .int 0, .int 0, .int 0]) (C := "WrongHole$Folds") (T := TX1) (N := 6) hx hb hts (iq_RX1 _) tyX1 tyX1_ok hown (hT _ qq_1_177) (hT _ qq_1_178) (hT _ qq_1_8) hK hP hD hS hA rfl (fv_RX1) (Nat.le_of_ble_eq_true rfl) (Nat.le_of_ble_eq_true rfl) dX11_init_77 (fun q_52 H hP hD hS => ?_)
  have hP : va_P D vwCl [(x0, .inr (9, [.ref q_1, .ref q_8, .ref q_17, .int 0, .ref q_19, .ref q_32, .ref q_34, .ref q_43, .null, .null, .null, .null])), (q_1, .inr (7, [.ref q_6, .int 0, .int 0, .int 0, .int 0, .int 0, .int 0, .int 0])), (q_6, .inl (k_7, 400, .inl (fun _ => 0))), (q_8, .inr (6, [.ref q_13, .ref q_14, .int 0, .int 0])), (q_13, .inl (k_15, 400, .inl (fun _ => 0))), (q_14, .inl (k_16, 25, .inl (fun _ => 0))), (q_17, .inl (k_18, 6, .inr (.inr (.inr (.inr (fun _ => none)))))), (q_19, .inr (8, [.null, .int 0, .int 0, .int 0, .int 0, .ref q_24, .ref q_25, .ref q_26, .ref q_27])), (q_24, .inl (k_28, 10, .inl (fun _ => 0))), (q_25, .inl (k_29, 10, .inl (fun _ => 0))), (q_26, .inl (k_30, 10, .inl (fun _ => 0))), (q_27, .inl (k_31, 10, .inl (fun _ => (-1)))), (q_32, .inl (k_33, 4, .inr (.inr (.inr (.inr (fun _ => none)))))), (q_34, .inr (3, [.ref q_39, .ref q_40, .int 0, .int 0])), (q_39, .inl (k_41, 20, .inl (fun _ => 0))), (q_40, .inl (k_42, 20, .inl (fun _ => 0))), (q_43, .inr (0, [.ref q_48, .ref q_49, .int 0])), (q_48, .inl (k_50, 8, .inl (fun _ => 0))), (q_49, .inl (k_51, 72, .inl (fun _ => 0))), (q_52, .inr (1, [.null, .null, .int 0, .int 0, .int 0, .int 0]))] H := hP
  have hD : va_D A [(x0, .inr (9, [.ref q_1, .ref q_8, .ref q_17, .int 0, .ref q_19, .ref q_32, .ref q_34, .ref q_43, .null, .null, .null, .null])), (q_1, .inr (7, [.ref q_6, .int 0, .int 0, .int 0, .int 0, .int 0, .int 0, .int 0])), (q_6, .inl (k_7, 400, .inl (fun _ => 0))), (q_8, .inr (6, [.ref q_13, .ref q_14, .int 0, .int 0])), (q_13, .inl (k_15, 400, .inl (fun _ => 0))), (q_14, .inl (k_16, 25, .inl (fun _ => 0))), (q_17, .inl (k_18, 6, .inr (.inr (.inr (.inr (fun _ => none)))))), (q_19, .inr (8, [.null, .int 0, .int 0, .int 0, .int 0, .ref q_24, .ref q_25, .ref q_26, .ref q_27])), (q_24, .inl (k_28, 10, .inl (fun _ => 0))), (q_25, .inl (k_29, 10, .inl (fun _ => 0))), (q_26, .inl (k_30, 10, .inl (fun _ => 0))), (q_27, .inl (k_31, 10, .inl (fun _ => (-1)))), (q_32, .inl (k_33, 4, .inr (.inr (.inr (.inr (fun _ => none)))))), (q_34, .inr (3, [.ref q_39, .ref q_40, .int 0, .int 0])), (q_39, .inl (k_41, 20, .inl (fun _ => 0))), (q_40, .inl (k_42, 20, .inl (fun _ => 0))), (q_43, .inr (0, [.ref q_48, .ref q_49, .int 0])), (q_48, .inl (k_50, 8, .inl (fun _ => 0))), (q_49, .inl (k_51, 72, .inl (fun _ => 0))), (q_52, .inr (1, [.null, .null, .int 0, .int 0, .int 0, .int 0]))] := hD
  refine W.widen (k := 19) (n := 1029) (Nat.le_of_ble_eq_true rfl) (Nat.le_of_ble_eq_true rfl) ?_
  refine lv_dup hx hb dX11_init_80 rfl ?_
  have hPc := hP.sub (ws' := [(q_52, .inr (1, [.null, .null, .int 0, .int 0, .int 0, .int 0]))]) [19] rfl
  have hDc := hD.sub (ws' := [(q_52, .inr (1, [.null, .null, .int 0, .int 0, .int 0, .int 0]))]) [19] (by decide) rfl
  have hKc := hK.sub (tys' := []) [] rfl
  have hFc := va_free (wc := [(q_52, .inr (1, [.null, .null, .int 0, .int 0, .int 0, .int 0]))]) hD hS hA [19] rfl
  refine va_callv (va_runI (As := []) (rest := [.ref q_52, .ref x0]) ⟨hx, hb, hml, hown, hts⟩ (c_folds_init l D ad H.size q_52) ⟨callB_of 0 hts (gd_C qq_1_181) rfl rfl rfl (hT _ qq_1_8) (hT _ qq_1_179) (by decide +kernel) (rm_R rfl rfl), rfl, (hT _ qq_1_180)⟩ (pr_S hPc hKc hDc hN) rfl rfl hl.1 rfl (lv_room (Nat.le_of_ble_eq_true rfl)) dX11_init_81 ⟨Nat.le_of_ble_eq_true rfl, Nat.le_of_ble_eq_true rfl⟩) hS (fun q _ h => hFc q h) hFc (fun u_53 t_56 H1 locs ht9 hvm hw_54 hB_55 hz1 hk1 hS => ?_)
  obtain ⟨q_57, q_58, k_59, k_60, hP1, hK1, hD1⟩ := hB_55
  rw [ht9] at hP1
  have hK1 := va_K.moved hvm.symm hK1
  obtain ⟨hP, hD⟩ := va_join (wr := [(x0, .inr (9, [.ref q_1, .ref q_8, .ref q_17, .int 0, .ref q_19, .ref q_32, .ref q_34, .ref q_43, .null, .null, .null, .null])), (q_1, .inr (7, [.ref q_6, .int 0, .int 0, .int 0, .int 0, .int 0, .int 0, .int 0])), (q_6, .inl (k_7, 400, .inl (fun _ => 0))), (q_8, .inr (6, [.ref q_13, .ref q_14, .int 0, .int 0])), (q_13, .inl (k_15, 400, .inl (fun _ => 0))), (q_14, .inl (k_16, 25, .inl (fun _ => 0))), (q_17, .inl (k_18, 6, .inr (.inr (.inr (.inr (fun _ => none)))))), (q_19, .inr (8, [.null, .int 0, .int 0, .int 0, .int 0, .ref q_24, .ref q_25, .ref q_26, .ref q_27])), (q_24, .inl (k_28, 10, .inl (fun _ => 0))), (q_25, .inl (k_29, 10, .inl (fun _ => 0))), (q_26, .inl (k_30, 10, .inl (fun _ => 0))), (q_27, .inl (k_31, 10, .inl (fun _ => (-1)))), (q_32, .inl (k_33, 4, .inr (.inr (.inr (.inr (fun _ => none)))))), (q_34, .inr (3, [.ref q_39, .ref q_40, .int 0, .int 0])), (q_39, .inl (k_41, 20, .inl (fun _ => 0))), (q_40, .inl (k_42, 20, .inl (fun _ => 0))), (q_43, .inr (0, [.ref q_48, .ref q_49, .int 0])), (q_48, .inl (k_50, 8, .inl (fun _ => 0))), (q_49, .inl (k_51, 72, .inl (fun _ => 0)))]) (w1 := [(q_52, .inr (1, [.ref q_57, .ref q_58, .int 0, .int 0, .int 0, .int 0])), (q_57, .inl (k_59, 8, .inl (fun _ => 0))), (q_58, .inl (k_60, 81, .inl (fun _ => 0)))]) hP hD [19] [0, 1, 2, 3, 4, 5, 6, 7, 8, 9, 10, 11, 12, 13, 14, 15, 16, 17, 18] rfl rfl (by decide) (by decide) hk1 hFc hP1 hD1
  have hK := (hK.sub (tys' := [(k_7, .char), (k_15, .int), (k_16, .int), (k_18, .object "WrongHole$Rule"), (k_28, .int), (k_29, .int), (k_30, .int), (k_31, .int), (k_33, .object "WrongHole$Worn"), (k_41, .int), (k_42, .int), (k_50, .int), (k_51, .int)]) [0, 1, 2, 3, 4, 5, 6, 7, 8, 9, 10, 11, 12] rfl).app hK1
  have hK : va_K D vwCl [(k_7, .char), (k_15, .int), (k_16, .int), (k_18, .object "WrongHole$Rule"), (k_28, .int), (k_29, .int), (k_30, .int), (k_31, .int), (k_33, .object "WrongHole$Worn"), (k_41, .int), (k_42, .int), (k_50, .int), (k_51, .int), (k_59, .int), (k_60, .int)] s := hK
  generalize H1 = H at hP hS ⊢
  have hP : va_P D vwCl [(x0, .inr (9, [.ref q_1, .ref q_8, .ref q_17, .int 0, .ref q_19, .ref q_32, .ref q_34, .ref q_43, .null, .null, .null, .null])), (q_1, .inr (7, [.ref q_6, .int 0, .int 0, .int 0, .int 0, .int 0, .int 0, .int 0])), (q_6, .inl (k_7, 400, .inl (fun _ => 0))), (q_8, .inr (6, [.ref q_13, .ref q_14, .int 0, .int 0])), (q_13, .inl (k_15, 400, .inl (fun _ => 0))), (q_14, .inl (k_16, 25, .inl (fun _ => 0))), (q_17, .inl (k_18, 6, .inr (.inr (.inr (.inr (fun _ => none)))))), (q_19, .inr (8, [.null, .int 0, .int 0, .int 0, .int 0, .ref q_24, .ref q_25, .ref q_26, .ref q_27])), (q_24, .inl (k_28, 10, .inl (fun _ => 0))), (q_25, .inl (k_29, 10, .inl (fun _ => 0))), (q_26, .inl (k_30, 10, .inl (fun _ => 0))), (q_27, .inl (k_31, 10, .inl (fun _ => (-1)))), (q_32, .inl (k_33, 4, .inr (.inr (.inr (.inr (fun _ => none)))))), (q_34, .inr (3, [.ref q_39, .ref q_40, .int 0, .int 0])), (q_39, .inl (k_41, 20, .inl (fun _ => 0))), (q_40, .inl (k_42, 20, .inl (fun _ => 0))), (q_43, .inr (0, [.ref q_48, .ref q_49, .int 0])), (q_48, .inl (k_50, 8, .inl (fun _ => 0))), (q_49, .inl (k_51, 72, .inl (fun _ => 0))), (q_52, .inr (1, [.ref q_57, .ref q_58, .int 0, .int 0, .int 0, .int 0])), (q_57, .inl (k_59, 8, .inl (fun _ => 0))), (q_58, .inl (k_60, 81, .inl (fun _ => 0)))] H := hP
  have hD : va_D A [(x0, .inr (9, [.ref q_1, .ref q_8, .ref q_17, .int 0, .ref q_19, .ref q_32, .ref q_34, .ref q_43, .null, .null, .null, .null])), (q_1, .inr (7, [.ref q_6, .int 0, .int 0, .int 0, .int 0, .int 0, .int 0, .int 0])), (q_6, .inl (k_7, 400, .inl (fun _ => 0))), (q_8, .inr (6, [.ref q_13, .ref q_14, .int 0, .int 0])), (q_13, .inl (k_15, 400, .inl (fun _ => 0))), (q_14, .inl (k_16, 25, .inl (fun _ => 0))), (q_17, .inl (k_18, 6, .inr (.inr (.inr (.inr (fun _ => none)))))), (q_19, .inr (8, [.null, .int 0, .int 0, .int 0, .int 0, .ref q_24, .ref q_25, .ref q_26, .ref q_27])), (q_24, .inl (k_28, 10, .inl (fun _ => 0))), (q_25, .inl (k_29, 10, .inl (fun _ => 0))), (q_26, .inl (k_30, 10, .inl (fun _ => 0))), (q_27, .inl (k_31, 10, .inl (fun _ => (-1)))), (q_32, .inl (k_33, 4, .inr (.inr (.inr (.inr (fun _ => none)))))), (q_34, .inr (3, [.ref q_39, .ref q_40, .int 0, .int 0])), (q_39, .inl (k_41, 20, .inl (fun _ => 0))), (q_40, .inl (k_42, 20, .inl (fun _ => 0))), (q_43, .inr (0, [.ref q_48, .ref q_49, .int 0])), (q_48, .inl (k_50, 8, .inl (fun _ => 0))), (q_49, .inl (k_51, 72, .inl (fun _ => 0))), (q_52, .inr (1, [.ref q_57, .ref q_58, .int 0, .int 0, .int 0, .int 0])), (q_57, .inl (k_59, 8, .inl (fun _ => 0))), (q_58, .inl (k_60, 81, .inl (fun _ => 0)))] := hD
  refine W.widen (k := 21) (n := 1118) (Nat.le_of_ble_eq_true rfl) (Nat.le_of_ble_eq_true rfl) ?_
  refine va_putF (D := D) (ci := 9) (v := .ref q_52) (ty := .object "WrongHole$Folds") (C := "WrongHole") (T := TX11) (N := 12) hx hb hts (iq_RX11 _) tyX11 tyX11_ok nmX11 hown hK hP hD hS 0 rfl rfl 8 (by decide) (hT _ qq_1_210) (fun _ h9 => h9) rfl hnm rfl (by decide +kernel) rfl rfl (Nat.le_of_ble_eq_true rfl) dX11_init_84 (fun H locs hP hD hS => ?_)
  have hP : va_P D vwCl [(x0, .inr (9, [.ref q_1, .ref q_8, .ref q_17, .int 0, .ref q_19, .ref q_32, .ref q_34, .ref q_43, .ref q_52, .null, .null, .null])), (q_1, .inr (7, [.ref q_6, .int 0, .int 0, .int 0, .int 0, .int 0, .int 0, .int 0])), (q_6, .inl (k_7, 400, .inl (fun _ => 0))), (q_8, .inr (6, [.ref q_13, .ref q_14, .int 0, .int 0])), (q_13, .inl (k_15, 400, .inl (fun _ => 0))), (q_14, .inl (k_16, 25, .inl (fun _ => 0))), (q_17, .inl (k_18, 6, .inr (.inr (.inr (.inr (fun _ => none)))))), (q_19, .inr (8, [.null, .int 0, .int 0, .int 0, .int 0, .ref q_24, .ref q_25, .ref q_26, .ref q_27])), (q_24, .inl (k_28, 10, .inl (fun _ => 0))), (q_25, .inl (k_29, 10, .inl (fun _ => 0))), (q_26, .inl (k_30, 10, .inl (fun _ => 0))), (q_27, .inl (k_31, 10, .inl (fun _ => (-1)))), (q_32, .inl (k_33, 4, .inr (.inr (.inr (.inr (fun _ => none)))))), (q_34, .inr (3, [.ref q_39, .ref q_40, .int 0, .int 0])), (q_39, .inl (k_41, 20, .inl (fun _ => 0))), (q_40, .inl (k_42, 20, .inl (fun _ => 0))), (q_43, .inr (0, [.ref q_48, .ref q_49, .int 0])), (q_48, .inl (k_50, 8, .inl (fun _ => 0))), (q_49, .inl (k_51, 72, .inl (fun _ => 0))), (q_52, .inr (1, [.ref q_57, .ref q_58, .int 0, .int 0, .int 0, .int 0])), (q_57, .inl (k_59, 8, .inl (fun _ => 0))), (q_58, .inl (k_60, 81, .inl (fun _ => 0)))] H := hP
  have hD : va_D A [(x0, .inr (9, [.ref q_1, .ref q_8, .ref q_17, .int 0, .ref q_19, .ref q_32, .ref q_34, .ref q_43, .ref q_52, .null, .null, .null])), (q_1, .inr (7, [.ref q_6, .int 0, .int 0, .int 0, .int 0, .int 0, .int 0, .int 0])), (q_6, .inl (k_7, 400, .inl (fun _ => 0))), (q_8, .inr (6, [.ref q_13, .ref q_14, .int 0, .int 0])), (q_13, .inl (k_15, 400, .inl (fun _ => 0))), (q_14, .inl (k_16, 25, .inl (fun _ => 0))), (q_17, .inl (k_18, 6, .inr (.inr (.inr (.inr (fun _ => none)))))), (q_19, .inr (8, [.null, .int 0, .int 0, .int 0, .int 0, .ref q_24, .ref q_25, .ref q_26, .ref q_27])), (q_24, .inl (k_28, 10, .inl (fun _ => 0))), (q_25, .inl (k_29, 10, .inl (fun _ => 0))), (q_26, .inl (k_30, 10, .inl (fun _ => 0))), (q_27, .inl (k_31, 10, .inl (fun _ => (-1)))), (q_32, .inl (k_33, 4, .inr (.inr (.inr (.inr (fun _ => none)))))), (q_34, .inr (3, [.ref q_39, .ref q_40, .int 0, .int 0])), (q_39, .inl (k_41, 20, .inl (fun _ => 0))), (q_40, .inl (k_42, 20, .inl (fun _ => 0))), (q_43, .inr (0, [.ref q_48, .ref q_49, .int 0])), (q_48, .inl (k_50, 8, .inl (fun _ => 0))), (q_49, .inl (k_51, 72, .inl (fun _ => 0))), (q_52, .inr (1, [.ref q_57, .ref q_58, .int 0, .int 0, .int 0, .int 0])), (q_57, .inl (k_59, 8, .inl (fun _ => 0))), (q_58, .inl (k_60, 81, .inl (fun _ => 0)))] := hD
  refine lv_aload_n hx hb dX11_init_87 rfl (lv_at hl 0 rfl) ?_
  refine lv_bipush (v := 12) hx hb dX11_init_88 (by decide) ?_
  refine va_newa (atype := .int) hx hb (hT _ qq_1_86) rfl hK hP hD hS hA (a0 := (12, .inl (fun _ => 0))) (fun _ => rfl) (by decide) (by decide) (Nat.le_of_ble_eq_true rfl) (Nat.le_of_ble_eq_true rfl) (Nat.le_of_ble_eq_true rfl) dX11_init_90 (fun q_61 k_62 H hK hP hD hS => ?_)
  have hK : va_K D vwCl [(k_7, .char), (k_15, .int), (k_16, .int), (k_18, .object "WrongHole$Rule"), (k_28, .int), (k_29, .int), (k_30, .int), (k_31, .int), (k_33, .object "WrongHole$Worn"), (k_41, .int), (k_42, .int), (k_50, .int), (k_51, .int), (k_59, .int), (k_60, .int), (k_62, .int)] s := hK
  have hP : va_P D vwCl [(x0, .inr (9, [.ref q_1, .ref q_8, .ref q_17, .int 0, .ref q_19, .ref q_32, .ref q_34, .ref q_43, .ref q_52, .null, .null, .null])), (q_1, .inr (7, [.ref q_6, .int 0, .int 0, .int 0, .int 0, .int 0, .int 0, .int 0])), (q_6, .inl (k_7, 400, .inl (fun _ => 0))), (q_8, .inr (6, [.ref q_13, .ref q_14, .int 0, .int 0])), (q_13, .inl (k_15, 400, .inl (fun _ => 0))), (q_14, .inl (k_16, 25, .inl (fun _ => 0))), (q_17, .inl (k_18, 6, .inr (.inr (.inr (.inr (fun _ => none)))))), (q_19, .inr (8, [.null, .int 0, .int 0, .int 0, .int 0, .ref q_24, .ref q_25, .ref q_26, .ref q_27])), (q_24, .inl (k_28, 10, .inl (fun _ => 0))), (q_25, .inl (k_29, 10, .inl (fun _ => 0))), (q_26, .inl (k_30, 10, .inl (fun _ => 0))), (q_27, .inl (k_31, 10, .inl (fun _ => (-1)))), (q_32, .inl (k_33, 4, .inr (.inr (.inr (.inr (fun _ => none)))))), (q_34, .inr (3, [.ref q_39, .ref q_40, .int 0, .int 0])), (q_39, .inl (k_41, 20, .inl (fun _ => 0))), (q_40, .inl (k_42, 20, .inl (fun _ => 0))), (q_43, .inr (0, [.ref q_48, .ref q_49, .int 0])), (q_48, .inl (k_50, 8, .inl (fun _ => 0))), (q_49, .inl (k_51, 72, .inl (fun _ => 0))), (q_52, .inr (1, [.ref q_57, .ref q_58, .int 0, .int 0, .int 0, .int 0])), (q_57, .inl (k_59, 8, .inl (fun _ => 0))), (q_58, .inl (k_60, 81, .inl (fun _ => 0))), (q_61, .inl (k_62, 12, .inl (fun _ => 0)))] H := hP
  have hD : va_D A [(x0, .inr (9, [.ref q_1, .ref q_8, .ref q_17, .int 0, .ref q_19, .ref q_32, .ref q_34, .ref q_43, .ref q_52, .null, .null, .null])), (q_1, .inr (7, [.ref q_6, .int 0, .int 0, .int 0, .int 0, .int 0, .int 0, .int 0])), (q_6, .inl (k_7, 400, .inl (fun _ => 0))), (q_8, .inr (6, [.ref q_13, .ref q_14, .int 0, .int 0])), (q_13, .inl (k_15, 400, .inl (fun _ => 0))), (q_14, .inl (k_16, 25, .inl (fun _ => 0))), (q_17, .inl (k_18, 6, .inr (.inr (.inr (.inr (fun _ => none)))))), (q_19, .inr (8, [.null, .int 0, .int 0, .int 0, .int 0, .ref q_24, .ref q_25, .ref q_26, .ref q_27])), (q_24, .inl (k_28, 10, .inl (fun _ => 0))), (q_25, .inl (k_29, 10, .inl (fun _ => 0))), (q_26, .inl (k_30, 10, .inl (fun _ => 0))), (q_27, .inl (k_31, 10, .inl (fun _ => (-1)))), (q_32, .inl (k_33, 4, .inr (.inr (.inr (.inr (fun _ => none)))))), (q_34, .inr (3, [.ref q_39, .ref q_40, .int 0, .int 0])), (q_39, .inl (k_41, 20, .inl (fun _ => 0))), (q_40, .inl (k_42, 20, .inl (fun _ => 0))), (q_43, .inr (0, [.ref q_48, .ref q_49, .int 0])), (q_48, .inl (k_50, 8, .inl (fun _ => 0))), (q_49, .inl (k_51, 72, .inl (fun _ => 0))), (q_52, .inr (1, [.ref q_57, .ref q_58, .int 0, .int 0, .int 0, .int 0])), (q_57, .inl (k_59, 8, .inl (fun _ => 0))), (q_58, .inl (k_60, 81, .inl (fun _ => 0))), (q_61, .inl (k_62, 12, .inl (fun _ => 0)))] := hD
  refine W.widen (k := 22) (n := 1130) (Nat.le_of_ble_eq_true rfl) (Nat.le_of_ble_eq_true rfl) ?_
  refine va_putF (D := D) (ci := 9) (v := .ref q_61) (ty := .array .int) (C := "WrongHole") (T := TX11) (N := 12) hx hb hts (iq_RX11 _) tyX11 tyX11_ok nmX11 hown hK hP hD hS 0 rfl rfl 9 (by decide) (hT _ qq_1_211) (fun _ h9 => h9) rfl hnm rfl (by decide +kernel) rfl rfl (Nat.le_of_ble_eq_true rfl) dX11_init_92 (fun H locs hP hD hS => ?_)
  have hP : va_P D vwCl [(x0, .inr (9, [.ref q_1, .ref q_8, .ref q_17, .int 0, .ref q_19, .ref q_32, .ref q_34, .ref q_43, .ref q_52, .ref q_61, .null, .null])), (q_1, .inr (7, [.ref q_6, .int 0, .int 0, .int 0, .int 0, .int 0, .int 0, .int 0])), (q_6, .inl (k_7, 400, .inl (fun _ => 0))), (q_8, .inr (6, [.ref q_13, .ref q_14, .int 0, .int 0])), (q_13, .inl (k_15, 400, .inl (fun _ => 0))), (q_14, .inl (k_16, 25, .inl (fun _ => 0))), (q_17, .inl (k_18, 6, .inr (.inr (.inr (.inr (fun _ => none)))))), (q_19, .inr (8, [.null, .int 0, .int 0, .int 0, .int 0, .ref q_24, .ref q_25, .ref q_26, .ref q_27])), (q_24, .inl (k_28, 10, .inl (fun _ => 0))), (q_25, .inl (k_29, 10, .inl (fun _ => 0))), (q_26, .inl (k_30, 10, .inl (fun _ => 0))), (q_27, .inl (k_31, 10, .inl (fun _ => (-1)))), (q_32, .inl (k_33, 4, .inr (.inr (.inr (.inr (fun _ => none)))))), (q_34, .inr (3, [.ref q_39, .ref q_40, .int 0, .int 0])), (q_39, .inl (k_41, 20, .inl (fun _ => 0))), (q_40, .inl (k_42, 20, .inl (fun _ => 0))), (q_43, .inr (0, [.ref q_48, .ref q_49, .int 0])), (q_48, .inl (k_50, 8, .inl (fun _ => 0))), (q_49, .inl (k_51, 72, .inl (fun _ => 0))), (q_52, .inr (1, [.ref q_57, .ref q_58, .int 0, .int 0, .int 0, .int 0])), (q_57, .inl (k_59, 8, .inl (fun _ => 0))), (q_58, .inl (k_60, 81, .inl (fun _ => 0))), (q_61, .inl (k_62, 12, .inl (fun _ => 0)))] H := hP
  have hD : va_D A [(x0, .inr (9, [.ref q_1, .ref q_8, .ref q_17, .int 0, .ref q_19, .ref q_32, .ref q_34, .ref q_43, .ref q_52, .ref q_61, .null, .null])), (q_1, .inr (7, [.ref q_6, .int 0, .int 0, .int 0, .int 0, .int 0, .int 0, .int 0])), (q_6, .inl (k_7, 400, .inl (fun _ => 0))), (q_8, .inr (6, [.ref q_13, .ref q_14, .int 0, .int 0])), (q_13, .inl (k_15, 400, .inl (fun _ => 0))), (q_14, .inl (k_16, 25, .inl (fun _ => 0))), (q_17, .inl (k_18, 6, .inr (.inr (.inr (.inr (fun _ => none)))))), (q_19, .inr (8, [.null, .int 0, .int 0, .int 0, .int 0, .ref q_24, .ref q_25, .ref q_26, .ref q_27])), (q_24, .inl (k_28, 10, .inl (fun _ => 0))), (q_25, .inl (k_29, 10, .inl (fun _ => 0))), (q_26, .inl (k_30, 10, .inl (fun _ => 0))), (q_27, .inl (k_31, 10, .inl (fun _ => (-1)))), (q_32, .inl (k_33, 4, .inr (.inr (.inr (.inr (fun _ => none)))))), (q_34, .inr (3, [.ref q_39, .ref q_40, .int 0, .int 0])), (q_39, .inl (k_41, 20, .inl (fun _ => 0))), (q_40, .inl (k_42, 20, .inl (fun _ => 0))), (q_43, .inr (0, [.ref q_48, .ref q_49, .int 0])), (q_48, .inl (k_50, 8, .inl (fun _ => 0))), (q_49, .inl (k_51, 72, .inl (fun _ => 0))), (q_52, .inr (1, [.ref q_57, .ref q_58, .int 0, .int 0, .int 0, .int 0])), (q_57, .inl (k_59, 8, .inl (fun _ => 0))), (q_58, .inl (k_60, 81, .inl (fun _ => 0))), (q_61, .inl (k_62, 12, .inl (fun _ => 0)))] := hD
  refine W.widen (k := 25) (n := 1130) (Nat.le_of_ble_eq_true rfl) (Nat.le_of_ble_eq_true rfl) ?_
  have hP9 := hP.sub (ws' := [(x0, .inr (9, [.ref q_1, .ref q_8, .ref q_17, .int 0, .ref q_19, .ref q_32, .ref q_34, .ref q_43, .ref q_52, .ref q_61, .null, .null])), (q_1, .inr (7, [.ref q_6, .int 0, .int 0, .int 0, .int 0, .int 0, .int 0, .int 0])), (q_6, .inl (k_7, 400, .inl (fun _ => 0))), (q_8, .inr (6, [.ref q_13, .ref q_14, .int 0, .int 0])), (q_13, .inl (k_15, 400, .inl (fun _ => 0))), (q_14, .inl (k_16, 25, .inl (fun _ => 0))), (q_17, .inl (k_18, 6, .inr (.inr (.inr (.inr (fun _ => none)))))), (q_19, .inr (8, [.null, .int 0, .int 0, .int 0, .int 0, .ref q_24, .ref q_25, .ref q_26, .ref q_27])), (q_24, .inl (k_28, 10, .inl (fun _ => 0))), (q_25, .inl (k_29, 10, .inl (fun _ => 0))), (q_26, .inl (k_30, 10, .inl (fun _ => 0))), (q_27, .inl (k_31, 10, .inl (fun _ => (-1)))), (q_32, .inl (k_33, 4, .inr (.inr (.inr (.inr (fun _ => none)))))), (q_34, .inr (3, [.ref q_39, .ref q_40, .int 0, .int 0])), (q_39, .inl (k_41, 20, .inl (fun _ => 0))), (q_40, .inl (k_42, 20, .inl (fun _ => 0))), (q_43, .inr (0, [.ref q_48, .ref q_49, .int 0])), (q_48, .inl (k_50, 8, .inl (fun _ => 0))), (q_49, .inl (k_51, 72, .inl (fun _ => 0))), (q_52, .inr (1, [.ref q_57, .ref q_58, .int 0, .int 0, .int 0, .int 0])), (q_57, .inl (k_59, 8, .inl (fun _ => 0))), (q_58, .inl (k_60, 81, .inl (fun _ => 0))), (q_61, .inl (k_62, 12, .inl (fun _ => 0)))]) [0, 1, 2, 3, 4, 5, 6, 7, 8, 9, 10, 11, 12, 13, 14, 15, 16, 17, 18, 19, 20, 21, 22] rfl
  have hD9 := hD.sub (ws' := [(x0, .inr (9, [.ref q_1, .ref q_8, .ref q_17, .int 0, .ref q_19, .ref q_32, .ref q_34, .ref q_43, .ref q_52, .ref q_61, .null, .null])), (q_1, .inr (7, [.ref q_6, .int 0, .int 0, .int 0, .int 0, .int 0, .int 0, .int 0])), (q_6, .inl (k_7, 400, .inl (fun _ => 0))), (q_8, .inr (6, [.ref q_13, .ref q_14, .int 0, .int 0])), (q_13, .inl (k_15, 400, .inl (fun _ => 0))), (q_14, .inl (k_16, 25, .inl (fun _ => 0))), (q_17, .inl (k_18, 6, .inr (.inr (.inr (.inr (fun _ => none)))))), (q_19, .inr (8, [.null, .int 0, .int 0, .int 0, .int 0, .ref q_24, .ref q_25, .ref q_26, .ref q_27])), (q_24, .inl (k_28, 10, .inl (fun _ => 0))), (q_25, .inl (k_29, 10, .inl (fun _ => 0))), (q_26, .inl (k_30, 10, .inl (fun _ => 0))), (q_27, .inl (k_31, 10, .inl (fun _ => (-1)))), (q_32, .inl (k_33, 4, .inr (.inr (.inr (.inr (fun _ => none)))))), (q_34, .inr (3, [.ref q_39, .ref q_40, .int 0, .int 0])), (q_39, .inl (k_41, 20, .inl (fun _ => 0))), (q_40, .inl (k_42, 20, .inl (fun _ => 0))), (q_43, .inr (0, [.ref q_48, .ref q_49, .int 0])), (q_48, .inl (k_50, 8, .inl (fun _ => 0))), (q_49, .inl (k_51, 72, .inl (fun _ => 0))), (q_52, .inr (1, [.ref q_57, .ref q_58, .int 0, .int 0, .int 0, .int 0])), (q_57, .inl (k_59, 8, .inl (fun _ => 0))), (q_58, .inl (k_60, 81, .inl (fun _ => 0))), (q_61, .inl (k_62, 12, .inl (fun _ => 0)))]) [0, 1, 2, 3, 4, 5, 6, 7, 8, 9, 10, 11, 12, 13, 14, 15, 16, 17, 18, 19, 20, 21, 22] (by decide) rfl
  have hK9 := hK.sub (tys' := [(k_7, .char), (k_15, .int), (k_16, .int), (k_18, .object "WrongHole$Rule"), (k_28, .int), (k_29, .int), (k_30, .int), (k_31, .int), (k_33, .object "WrongHole$Worn"), (k_41, .int), (k_42, .int), (k_50, .int), (k_51, .int), (k_59, .int), (k_60, .int), (k_62, .int)]) [0, 1, 2, 3, 4, 5, 6, 7, 8, 9, 10, 11, 12, 13, 14, 15] rfl
  exact W.vret hx hb hr (fun t9 ht9 hW9 => ⟨⟨(), rfl, trivial, ⟨q_1, q_6, q_8, q_13, q_14, q_17, q_19, q_24, q_25, q_26, q_27, q_32, q_34, q_39, q_40, q_43, q_48, q_49, q_52, q_57, q_58, q_61, k_7, k_15, k_16, k_18, k_28, k_29, k_30, k_31, k_33, k_41, k_42, k_50, k_51, k_59, k_60, k_62, by rw [ht9]; exact hP9, va_K.moved hW9.alike hK9, hD9⟩⟩, hS.F ht9⟩) hS.2.2 dX11_init_95
