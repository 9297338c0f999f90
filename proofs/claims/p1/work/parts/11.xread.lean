theorem dX9_pass_0 : decode cX9_pass 0 = .ok (.aload_n 0, 1) := by decide +kernel
theorem dX9_pass_1 : decode cX9_pass 1 = .ok (.aload_n 0, 1) := by decide +kernel
theorem dX9_pass_2 : decode cX9_pass 2 = .ok (.getfield 22, 3) := by decide +kernel
theorem qq_1_43 : Cond.fieldLink "WrongHole$Text" 22 "WrongHole$Text" "behind" "I" ∈ TB := mk_tb (ti_1 (List.mem_of_getElem? (i := 43) rfl)) rfl
theorem dX9_pass_5 : decode cX9_pass 5 = .ok (.putfield 28, 3) := by decide +kernel
theorem qq_1_42 : Cond.fieldLink "WrongHole$Text" 28 "WrongHole$Text" "place" "I" ∈ TB := mk_tb (ti_1 (List.mem_of_getElem? (i := 42) rfl)) rfl
theorem dX9_pass_8 : decode cX9_pass 8 = .ok (.aload_n 0, 1) := by decide +kernel
theorem dX9_pass_9 : decode cX9_pass 9 = .ok (.getfield 22, 3) := by decide +kernel
theorem dX9_pass_12 : decode cX9_pass 12 = .ok (.istore_n 1, 1) := by decide +kernel
theorem dX9_pass_13 : decode cX9_pass 13 = .ok (.iload_n 1, 1) := by decide +kernel
theorem dX9_pass_14 : decode cX9_pass 14 = .ok (.aload_n 0, 1) := by decide +kernel
theorem dX9_pass_15 : decode cX9_pass 15 = .ok (.getfield 15, 3) := by decide +kernel
theorem dX9_pass_18 : decode cX9_pass 18 = .ok (.if_icmp .ge 30, 3) := by decide +kernel
theorem dX9_pass_48 : decode cX9_pass 48 = .ok (.aload_n 0, 1) := by decide +kernel
theorem dX9_pass_49 : decode cX9_pass 49 = .ok (.aload_n 0, 1) := by decide +kernel
theorem dX9_pass_50 : decode cX9_pass 50 = .ok (.getfield 28, 3) := by decide +kernel
theorem dX9_pass_53 : decode cX9_pass 53 = .ok (.putfield 22, 3) := by decide +kernel
theorem dX9_pass_56 : decode cX9_pass 56 = .ok (.aload_n 0, 1) := by decide +kernel
theorem dX9_pass_57 : decode cX9_pass 57 = .ok (.aload_n 0, 1) := by decide +kernel
theorem dX9_pass_58 : decode cX9_pass 58 = .ok (.getfield 28, 3) := by decide +kernel
theorem dX9_pass_61 : decode cX9_pass 61 = .ok (.aload_n 0, 1) := by decide +kernel
theorem dX9_pass_62 : decode cX9_pass 62 = .ok (.getfield 15, 3) := by decide +kernel
theorem dX9_pass_65 : decode cX9_pass 65 = .ok (.if_icmp .ge 15, 3) := by decide +kernel
theorem dX9_pass_80 : decode cX9_pass 80 = .ok (.iconst (-1), 1) := by decide +kernel
theorem dX9_pass_81 : decode cX9_pass 81 = .ok (.putfield 34, 3) := by decide +kernel
theorem qq_1_41 : Cond.fieldLink "WrongHole$Text" 34 "WrongHole$Text" "kind" "I" ∈ TB := mk_tb (ti_1 (List.mem_of_getElem? (i := 41) rfl)) rfl
theorem dX9_pass_84 : decode cX9_pass 84 = .ok (.aload_n 0, 1) := by decide +kernel
theorem dX9_pass_85 : decode cX9_pass 85 = .ok (.getfield 34, 3) := by decide +kernel
theorem dX9_pass_88 : decode cX9_pass 88 = .ok (.bipush 48, 2) := by decide +kernel
theorem dX9_pass_90 : decode cX9_pass 90 = .ok (.if_icmp .lt 26, 3) := by decide +kernel
theorem dX9_pass_116 : decode cX9_pass 116 = .ok (.aload_n 0, 1) := by decide +kernel
theorem dX9_pass_117 : decode cX9_pass 117 = .ok (.getfield 34, 3) := by decide +kernel
theorem dX9_pass_120 : decode cX9_pass 120 = .ok (.bipush 97, 2) := by decide +kernel
theorem dX9_pass_122 : decode cX9_pass 122 = .ok (.if_icmp .lt 26, 3) := by decide +kernel
theorem dX9_pass_148 : decode cX9_pass 148 = .ok (.aload_n 0, 1) := by decide +kernel
theorem dX9_pass_149 : decode cX9_pass 149 = .ok (.getfield 34, 3) := by decide +kernel
theorem dX9_pass_152 : decode cX9_pass 152 = .ok (.iconst (-1), 1) := by decide +kernel
theorem dX9_pass_153 : decode cX9_pass 153 = .ok (.if_icmp .eq 17, 3) := by decide +kernel
theorem dX9_pass_170 : decode cX9_pass 170 = .ok (.return_, 1) := by decide +kernel
set_option maxHeartbeats 4000000 in
set_option maxRecDepth 100000 in
theorem c_pass (l : Launch) (D : va_G) (ad : Nat → Nat) (sz : Nat) (ht : Nat) (hs : Nat)  : Met l yX9_pass (Cond.code yX9_pass cX9_pass 2 none :: TB) (RM 0 0 0) (va_Pc [.ref ht] (PRE D ad [(ht, .inr (7, [.ref hs, .int 0, .int 0, .int 0, .int 0, .int 0, .int 0, .int 0]))] [] sz)) (va_Qv (S := Unit) (fun _ => True) (fun _ t => va_P D vwCl [(ht, .inr (7, [.ref hs, .int 0, .int (-1), .int 0, .int 0, .int 0, .int 0, .int 0]))] t.heap ∧ va_K D vwCl [] t ∧ va_D (va_A [(ht, .inr (7, [.ref hs, .int 0, .int 0, .int 0, .int 0, .int 0, .int 0, .int 0]))] sz) [(ht, .inr (7, [.ref hs, .int 0, .int (-1), .int 0, .int 0, .int 0, .int 0, .int 0]))]) (va_A [(ht, .inr (7, [.ref hs, .int 0, .int 0, .int 0, .int 0, .int 0, .int 0, .int 0]))] sz)) 0 0 (va_A [(ht, .inr (7, [.ref hs, .int 0, .int 0, .int 0, .int 0, .int 0, .int 0, .int 0]))] sz) := by
  refine MET (y := yX9_pass) (cc := cX9_pass) (maxL := 2) (ret := none) (d := 0) (mc := 0) (ms := 0) (D := D) (ad := ad) (ws := [(ht, .inr (7, [.ref hs, .int 0, .int 0, .int 0, .int 0, .int 0, .int 0, .int 0]))]) (tys := []) (sz := sz) (av := [.ref ht]) (Qc := fun A => va_Qv (S := Unit) (fun _ => True) (fun _ t => va_P D vwCl [(ht, .inr (7, [.ref hs, .int 0, .int (-1), .int 0, .int 0, .int 0, .int 0, .int 0]))] t.heap ∧ va_K D vwCl [] t ∧ va_D A [(ht, .inr (7, [.ref hs, .int 0, .int (-1), .int 0, .int 0, .int 0, .int 0, .int 0]))]) A) (fr := fun A => A) (by decide) (Nat.le_of_ble_eq_true rfl) ?_
  intro p e s m below meth c ls A H hHe hx hb hr hml hown hts hlocks hnm hP hK hD hA hS hN hl
  have hown : s.vm.findClass "WrongHole$Text" = some m.cls := hown
  have hT : ∀ w ∈ TB, w.before ([.ref ht] : List Value).toArray s = true := fun w h => hts w (List.mem_cons_of_mem _ h)
  have hl : lv_has ls 2 [(0, .ref ht)] := hl
  have hP : va_P D vwCl [(ht, .inr (7, [.ref hs, .int 0, .int 0, .int 0, .int 0, .int 0, .int 0, .int 0]))] H := hP
  refine lv_aload_n hx hb dX9_pass_0 rfl (lv_at hl 0 rfl) ?_
  refine lv_aload_n hx hb dX9_pass_1 rfl (lv_at hl 0 rfl) ?_
  refine va_get (D := D) (ci := 7) (v := .int 0) (C := "WrongHole$Text") (T := TX9) (N := 8) hx hb hts (iq_RX9 _) hown hK hP 0 rfl rfl 4 (by decide) (hT _ qq_1_43) (fun _ h9 => h9) rfl dX9_pass_2 ?_
  refine va_put (D := D) (ci := 7) (v := .int 0) (ty := .int) (C := "WrongHole$Text") (T := TX9) (N := 8) hx hb hts (iq_RX9 _) tyX9 tyX9_ok nmX9 hown hK hP hD hS 0 rfl rfl 3 (by decide) (hT _ qq_1_42) (fun _ h9 => h9) rfl (by decide +kernel) rfl rfl (Nat.le_of_ble_eq_true rfl) dX9_pass_5 (fun H locs hP hD hS => ?_)
  have hP : va_P D vwCl [(ht, .inr (7, [.ref hs, .int 0, .int 0, .int 0, .int 0, .int 0, .int 0, .int 0]))] H := hP
  have hD : va_D A [(ht, .inr (7, [.ref hs, .int 0, .int 0, .int 0, .int 0, .int 0, .int 0, .int 0]))] := hD
  refine lv_aload_n hx hb dX9_pass_8 rfl (lv_at hl 0 rfl) ?_
  refine va_get (D := D) (ci := 7) (v := .int 0) (C := "WrongHole$Text") (T := TX9) (N := 8) hx hb hts (iq_RX9 _) hown hK hP 0 rfl rfl 4 (by decide) (hT _ qq_1_43) (fun _ h9 => h9) rfl dX9_pass_9 ?_
  refine lv_istore_n (lv' := [(1, .int 0), (0, .ref ht)]) hx hb dX9_pass_12 rfl hl (by decide) rfl (fun ls hl => ?_)
  refine lv_iload_n hx hb dX9_pass_13 rfl (lv_at hl 0 rfl) ?_
  refine lv_aload_n hx hb dX9_pass_14 rfl (lv_at hl 1 rfl) ?_
  refine va_get (D := D) (ci := 7) (v := .int 0) (C := "WrongHole$Text") (T := TX9) (N := 8) hx hb hts (iq_RX9 _) hown hK hP 0 rfl rfl 1 (by decide) (hT _ qq_1_37) (fun _ h9 => h9) rfl dX9_pass_15 ?_
  refine lv_icmp_ge (tgt := 48) hx hb dX9_pass_18 (by decide) (fun _ => ?_) (fun c_1 => absurd (by decide) c_1)
  refine lv_aload_n hx hb dX9_pass_48 rfl (lv_at hl 1 rfl) ?_
  refine lv_aload_n hx hb dX9_pass_49 rfl (lv_at hl 1 rfl) ?_
  refine va_get (D := D) (ci := 7) (v := .int 0) (C := "WrongHole$Text") (T := TX9) (N := 8) hx hb hts (iq_RX9 _) hown hK hP 0 rfl rfl 3 (by decide) (hT _ qq_1_42) (fun _ h9 => h9) rfl dX9_pass_50 ?_
  refine va_put (D := D) (ci := 7) (v := .int 0) (ty := .int) (C := "WrongHole$Text") (T := TX9) (N := 8) hx hb hts (iq_RX9 _) tyX9 tyX9_ok nmX9 hown hK hP hD hS 0 rfl rfl 4 (by decide) (hT _ qq_1_43) (fun _ h9 => h9) rfl (by decide +kernel) rfl rfl (Nat.le_of_ble_eq_true rfl) dX9_pass_53 (fun H locs hP hD hS => ?_)
  have hP : va_P D vwCl [(ht, .inr (7, [.ref hs, .int 0, .int 0, .int 0, .int 0, .int 0, .int 0, .int 0]))] H := hP
  have hD : va_D A [(ht, .inr (7, [.ref hs, .int 0, .int 0, .int 0, .int 0, .int 0, .int 0, .int 0]))] := hD
  refine lv_aload_n hx hb dX9_pass_56 rfl (lv_at hl 1 rfl) ?_
  refine lv_aload_n hx hb dX9_pass_57 rfl (lv_at hl 1 rfl) ?_
  refine va_get (D := D) (ci := 7) (v := .int 0) (C := "WrongHole$Text") (T := TX9) (N := 8) hx hb hts (iq_RX9 _) hown hK hP 0 rfl rfl 3 (by decide) (hT _ qq_1_42) (fun _ h9 => h9) rfl dX9_pass_58 ?_
  refine lv_aload_n hx hb dX9_pass_61 rfl (lv_at hl 1 rfl) ?_
  refine va_get (D := D) (ci := 7) (v := .int 0) (C := "WrongHole$Text") (T := TX9) (N := 8) hx hb hts (iq_RX9 _) hown hK hP 0 rfl rfl 1 (by decide) (hT _ qq_1_37) (fun _ h9 => h9) rfl dX9_pass_62 ?_
  refine lv_icmp_ge (tgt := 80) hx hb dX9_pass_65 (by decide) (fun _ => ?_) (fun c_2 => absurd (by decide) c_2)
  refine lv_iconst (v := (-1)) hx hb dX9_pass_80 (by decide) ?_
  refine va_put (D := D) (ci := 7) (v := .int (-1)) (ty := .int) (C := "WrongHole$Text") (T := TX9) (N := 8) hx hb hts (iq_RX9 _) tyX9 tyX9_ok nmX9 hown hK hP hD hS 0 rfl rfl 2 (by decide) (hT _ qq_1_41) (fun _ h9 => h9) rfl (by decide +kernel) rfl rfl (Nat.le_of_ble_eq_true rfl) dX9_pass_81 (fun H locs hP hD hS => ?_)
  have hP : va_P D vwCl [(ht, .inr (7, [.ref hs, .int 0, .int (-1), .int 0, .int 0, .int 0, .int 0, .int 0]))] H := hP
  have hD : va_D A [(ht, .inr (7, [.ref hs, .int 0, .int (-1), .int 0, .int 0, .int 0, .int 0, .int 0]))] := hD
  refine lv_aload_n hx hb dX9_pass_84 rfl (lv_at hl 1 rfl) ?_
  refine va_get (D := D) (ci := 7) (v := .int (-1)) (C := "WrongHole$Text") (T := TX9) (N := 8) hx hb hts (iq_RX9 _) hown hK hP 0 rfl rfl 2 (by decide) (hT _ qq_1_41) (fun _ h9 => h9) rfl dX9_pass_85 ?_
  refine lv_bipush (v := 48) hx hb dX9_pass_88 (by decide) ?_
  refine lv_icmp_lt (tgt := 116) hx hb dX9_pass_90 (by decide) (fun _ => ?_) (fun c_3 => absurd (by decide) c_3)
  refine lv_aload_n hx hb dX9_pass_116 rfl (lv_at hl 1 rfl) ?_
  refine va_get (D := D) (ci := 7) (v := .int (-1)) (C := "WrongHole$Text") (T := TX9) (N := 8) hx hb hts (iq_RX9 _) hown hK hP 0 rfl rfl 2 (by decide) (hT _ qq_1_41) (fun _ h9 => h9) rfl dX9_pass_117 ?_
  refine lv_bipush (v := 97) hx hb dX9_pass_120 (by decide) ?_
  refine lv_icmp_lt (tgt := 148) hx hb dX9_pass_122 (by decide) (fun _ => ?_) (fun c_4 => absurd (by decide) c_4)
  refine lv_aload_n hx hb dX9_pass_148 rfl (lv_at hl 1 rfl) ?_
  refine va_get (D := D) (ci := 7) (v := .int (-1)) (C := "WrongHole$Text") (T := TX9) (N := 8) hx hb hts (iq_RX9 _) hown hK hP 0 rfl rfl 2 (by decide) (hT _ qq_1_41) (fun _ h9 => h9) rfl dX9_pass_149 ?_
  refine lv_iconst (v := (-1)) hx hb dX9_pass_152 (by decide) ?_
  refine lv_icmp_eq (tgt := 170) hx hb dX9_pass_153 (by decide) (fun _ => ?_) (fun c_5 => absurd (by decide) c_5)
  refine W.widen (k := 0) (n := 0) (Nat.le_of_ble_eq_true rfl) (Nat.le_of_ble_eq_true rfl) ?_
  have hP9 := hP.sub (ws' := [(ht, .inr (7, [.ref hs, .int 0, .int (-1), .int 0, .int 0, .int 0, .int 0, .int 0]))]) [0] rfl
  have hD9 := hD.sub (ws' := [(ht, .inr (7, [.ref hs, .int 0, .int (-1), .int 0, .int 0, .int 0, .int 0, .int 0]))]) [0] (by decide) rfl
  have hK9 := hK.sub (tys' := []) [] rfl
  exact W.vret hx hb hr (fun t9 ht9 hW9 => ⟨⟨(), rfl, trivial, ⟨by rw [ht9]; exact hP9, va_K.moved hW9.alike hK9, hD9⟩⟩, hS.F ht9⟩) hS.2.2 dX9_pass_170
theorem dX9_restart_0 : decode cX9_restart 0 = .ok (.aload_n 0, 1) := by decide +kernel
theorem dX9_restart_1 : decode cX9_restart 1 = .ok (.iconst 0, 1) := by decide +kernel
theorem dX9_restart_2 : decode cX9_restart 2 = .ok (.putfield 19, 3) := by decide +kernel
theorem qq_1_47 : Cond.fieldLink "WrongHole$Text" 19 "WrongHole$Text" "fault" "I" ∈ TB := mk_tb (ti_1 (List.mem_of_getElem? (i := 47) rfl)) rfl
theorem dX9_restart_5 : decode cX9_restart 5 = .ok (.aload_n 0, 1) := by decide +kernel
theorem dX9_restart_6 : decode cX9_restart 6 = .ok (.iconst 0, 1) := by decide +kernel
theorem dX9_restart_7 : decode cX9_restart 7 = .ok (.putfield 22, 3) := by decide +kernel
theorem dX9_restart_10 : decode cX9_restart 10 = .ok (.aload_n 0, 1) := by decide +kernel
theorem dX9_restart_11 : decode cX9_restart 11 = .ok (.invokevirtual 25, 3) := by decide +kernel
theorem qq_2_131 : Cond.code yX9_pass cX9_pass 2 none ∈ TB := mk_tb (ti_2 (List.mem_of_getElem? (i := 131) rfl)) rfl
theorem qq_2_128 : Cond.methodLink "WrongHole$Text" 25 yX9_pass ∈ TB := mk_tb (ti_2 (List.mem_of_getElem? (i := 128) rfl)) rfl
theorem qq_2_129 : Cond.instanceMethod yX9_pass ∈ TB := mk_tb (ti_2 (List.mem_of_getElem? (i := 129) rfl)) rfl
theorem qq_2_130 : Cond.selects "WrongHole$Text" yX9_pass yX9_pass ∈ TB := mk_tb (ti_2 (List.mem_of_getElem? (i := 130) rfl)) rfl
theorem dX9_restart_14 : decode cX9_restart 14 = .ok (.return_, 1) := by decide +kernel
set_option maxHeartbeats 4000000 in
set_option maxRecDepth 100000 in
theorem c_restart (l : Launch) (D : va_G) (ad : Nat → Nat) (sz : Nat) (ht : Nat) (hs : Nat)  : Met l yX9_restart (Cond.code yX9_restart cX9_restart 1 none :: TB) (RM 1 0 0) (va_Pc [.ref ht] (PRE D ad [(ht, .inr (7, [.ref hs, .int 0, .int 0, .int 0, .int 0, .int 0, .int 0, .int 0]))] [] sz)) (va_Qv (S := Unit) (fun _ => True) (fun _ t => va_P D vwCl [(ht, .inr (7, [.ref hs, .int 0, .int (-1), .int 0, .int 0, .int 0, .int 0, .int 0]))] t.heap ∧ va_K D vwCl [] t ∧ va_D (va_A [(ht, .inr (7, [.ref hs, .int 0, .int 0, .int 0, .int 0, .int 0, .int 0, .int 0]))] sz) [(ht, .inr (7, [.ref hs, .int 0, .int (-1), .int 0, .int 0, .int 0, .int 0, .int 0]))]) (va_A [(ht, .inr (7, [.ref hs, .int 0, .int 0, .int 0, .int 0, .int 0, .int 0, .int 0]))] sz)) 0 0 (va_A [(ht, .inr (7, [.ref hs, .int 0, .int 0, .int 0, .int 0, .int 0, .int 0, .int 0]))] sz) := by
  refine MET (y := yX9_restart) (cc := cX9_restart) (maxL := 1) (ret := none) (d := 1) (mc := 0) (ms := 0) (D := D) (ad := ad) (ws := [(ht, .inr (7, [.ref hs, .int 0, .int 0, .int 0, .int 0, .int 0, .int 0, .int 0]))]) (tys := []) (sz := sz) (av := [.ref ht]) (Qc := fun A => va_Qv (S := Unit) (fun _ => True) (fun _ t => va_P D vwCl [(ht, .inr (7, [.ref hs, .int 0, .int (-1), .int 0, .int 0, .int 0, .int 0, .int 0]))] t.heap ∧ va_K D vwCl [] t ∧ va_D A [(ht, .inr (7, [.ref hs, .int 0, .int (-1), .int 0, .int 0, .int 0, .int 0, .int 0]))]) A) (fr := fun A => A) (by decide) (Nat.le_of_ble_eq_true rfl) ?_
  intro p e s m below meth c ls A H hHe hx hb hr hml hown hts hlocks hnm hP hK hD hA hS hN hl
  have hown : s.vm.findClass "WrongHole$Text" = some m.cls := hown
  have hT : ∀ w ∈ TB, w.before ([.ref ht] : List Value).toArray s = true := fun w h => hts w (List.mem_cons_of_mem _ h)
  have hl : lv_has ls 1 [(0, .ref ht)] := hl
  have hP : va_P D vwCl [(ht, .inr (7, [.ref hs, .int 0, .int 0, .int 0, .int 0, .int 0, .int 0, .int 0]))] H := hP
  refine lv_aload_n hx hb dX9_restart_0 rfl (lv_at hl 0 rfl) ?_
  refine lv_iconst (v := 0) hx hb dX9_restart_1 (by decide) ?_
  refine va_put (D := D) (ci := 7) (v := .int 0) (ty := .int) (C := "WrongHole$Text") (T := TX9) (N := 8) hx hb hts (iq_RX9 _) tyX9 tyX9_ok nmX9 hown hK hP hD hS 0 rfl rfl 7 (by decide) (hT _ qq_1_47) (fun _ h9 => h9) rfl (by decide +kernel) rfl rfl (Nat.le_of_ble_eq_true rfl) dX9_restart_2 (fun H locs hP hD hS => ?_)
  have hP : va_P D vwCl [(ht, .inr (7, [.ref hs, .int 0, .int 0, .int 0, .int 0, .int 0, .int 0, .int 0]))] H := hP
  have hD : va_D A [(ht, .inr (7, [.ref hs, .int 0, .int 0, .int 0, .int 0, .int 0, .int 0, .int 0]))] := hD
  refine lv_aload_n hx hb dX9_restart_5 rfl (lv_at hl 0 rfl) ?_
  refine lv_iconst (v := 0) hx hb dX9_restart_6 (by decide) ?_
  refine va_put (D := D) (ci := 7) (v := .int 0) (ty := .int) (C := "WrongHole$Text") (T := TX9) (N := 8) hx hb hts (iq_RX9 _) tyX9 tyX9_ok nmX9 hown hK hP hD hS 0 rfl rfl 4 (by decide) (hT _ qq_1_43) (fun _ h9 => h9) rfl (by decide +kernel) rfl rfl (Nat.le_of_ble_eq_true rfl) dX9_restart_7 (fun H locs hP hD hS => ?_)
  have hP : va_P D vwCl [(ht, .inr (7, [.ref hs, .int 0, .int 0, .int 0, .int 0, .int 0, .int 0, .int 0]))] H := hP
  have hD : va_D A [(ht, .inr (7, [.ref hs, .int 0, .int 0, .int 0, .int 0, .int 0, .int 0, .int 0]))] := hD
  refine lv_aload_n hx hb dX9_restart_10 rfl (lv_at hl 0 rfl) ?_
  have hPc := hP.sub (ws' := [(ht, .inr (7, [.ref hs, .int 0, .int 0, .int 0, .int 0, .int 0, .int 0, .int 0]))]) [0] rfl
  have hDc := hD.sub (ws' := [(ht, .inr (7, [.ref hs, .int 0, .int 0, .int 0, .int 0, .int 0, .int 0, .int 0]))]) [0] (by decide) rfl
  have hKc := hK.sub (tys' := []) [] rfl
  have hFc := va_free (wc := [(ht, .inr (7, [.ref hs, .int 0, .int 0, .int 0, .int 0, .int 0, .int 0, .int 0]))]) hD hS hA [0] rfl
  refine va_callv (va_runV (As := []) (rest := []) ⟨hx, hb, hml, hown, hts⟩ (c_pass l D ad H.size ht hs) ⟨callB_of 0 hts (gd_C qq_2_131) rfl rfl rfl (hT _ qq_1_2) (hT _ qq_2_128) (by decide +kernel) (rm_R rfl rfl), (hT _ qq_2_129), (hT _ qq_2_130)⟩ (pr_V hPc hKc hDc hN (ci := 7) (q0 := 0) rfl rfl) rfl rfl hl.1 rfl (lv_room (Nat.le_of_ble_eq_true rfl)) dX9_restart_11 ⟨Nat.le_of_ble_eq_true rfl, Nat.le_of_ble_eq_true rfl⟩) hS (fun q _ h => hFc q h) hFc (fun u_1 t_4 H1 locs ht9 hvm hw_2 hB_3 hz1 hk1 hS => ?_)
  obtain ⟨hP1, hK1, hD1⟩ := hB_3
  rw [ht9] at hP1
  have hK1 := va_K.moved hvm.symm hK1
  obtain ⟨hP, hD⟩ := va_join (wr := []) (w1 := [(ht, .inr (7, [.ref hs, .int 0, .int (-1), .int 0, .int 0, .int 0, .int 0, .int 0]))]) hP hD [0] [] rfl rfl (by decide) (by decide) hk1 hFc hP1 hD1
  have hK := (hK.sub (tys' := []) [] rfl).app hK1
  have hK : va_K D vwCl [] s := hK
  generalize H1 = H at hP hS ⊢
  have hP : va_P D vwCl [(ht, .inr (7, [.ref hs, .int 0, .int (-1), .int 0, .int 0, .int 0, .int 0, .int 0]))] H := hP
  have hD : va_D A [(ht, .inr (7, [.ref hs, .int 0, .int (-1), .int 0, .int 0, .int 0, .int 0, .int 0]))] := hD
  refine W.widen (k := 0) (n := 0) (Nat.le_of_ble_eq_true rfl) (Nat.le_of_ble_eq_true rfl) ?_
  have hP9 := hP.sub (ws' := [(ht, .inr (7, [.ref hs, .int 0, .int (-1), .int 0, .int 0, .int 0, .int 0, .int 0]))]) [0] rfl
  have hD9 := hD.sub (ws' := [(ht, .inr (7, [.ref hs, .int 0, .int (-1), .int 0, .int 0, .int 0, .int 0, .int 0]))]) [0] (by decide) rfl
  have hK9 := hK.sub (tys' := []) [] rfl
  exact W.vret hx hb hr (fun t9 ht9 hW9 => ⟨⟨(), rfl, trivial, ⟨by rw [ht9]; exact hP9, va_K.moved hW9.alike hK9, hD9⟩⟩, hS.F ht9⟩) hS.2.2 dX9_restart_14
theorem dX9_sound_0 : decode cX9_sound 0 = .ok (.aload_n 0, 1) := by decide +kernel
theorem dX9_sound_1 : decode cX9_sound 1 = .ok (.getfield 19, 3) := by decide +kernel
theorem dX9_sound_4 : decode cX9_sound 4 = .ok (.ifCond .ne 7, 3) := by decide +kernel
theorem dX9_sound_7 : decode cX9_sound 7 = .ok (.iconst 1, 1) := by decide +kernel
theorem dX9_sound_8 : decode cX9_sound 8 = .ok (.goto 4, 3) := by decide +kernel
theorem dX9_sound_12 : decode cX9_sound 12 = .ok (.ireturn, 1) := by decide +kernel
set_option maxHeartbeats 4000000 in
set_option maxRecDepth 100000 in
theorem c_sound_0 (l : Launch) (D : va_G) (ad : Nat → Nat) (sz : Nat) (ht : Nat) (hs : Nat)  : Met l yX9_sound (Cond.code yX9_sound cX9_sound 1 (some .boolean) :: TB) (RM 0 0 0) (va_Pc [.ref ht] (PRE D ad [(ht, .inr (7, [.ref hs, .int 0, .int (-1), .int 0, .int 0, .int 0, .int 0, .int 0]))] [] sz)) (k2_QcV (.int 1)) 0 0 (fun _ => False) := by
  refine MET (y := yX9_sound) (cc := cX9_sound) (maxL := 1) (ret := (some .boolean)) (d := 0) (mc := 0) (ms := 0) (D := D) (ad := ad) (ws := [(ht, .inr (7, [.ref hs, .int 0, .int (-1), .int 0, .int 0, .int 0, .int 0, .int 0]))]) (tys := []) (sz := sz) (av := [.ref ht]) (Qc := fun A => k2_QcV (.int 1)) (fr := fun A => (fun _ => False)) (by decide) (Nat.le_of_ble_eq_true rfl) ?_
  intro p e s m below meth c ls A H hHe hx hb hr hml hown hts hlocks hnm hP hK hD hA hS hN hl
  have hown : s.vm.findClass "WrongHole$Text" = some m.cls := hown
  have hT : ∀ w ∈ TB, w.before ([.ref ht] : List Value).toArray s = true := fun w h => hts w (List.mem_cons_of_mem _ h)
  have hl : lv_has ls 1 [(0, .ref ht)] := hl
  have hP : va_P D vwCl [(ht, .inr (7, [.ref hs, .int 0, .int (-1), .int 0, .int 0, .int 0, .int 0, .int 0]))] H := hP
  refine lv_aload_n hx hb dX9_sound_0 rfl (lv_at hl 0 rfl) ?_
  refine va_get (D := D) (ci := 7) (v := .int 0) (C := "WrongHole$Text") (T := TX9) (N := 8) hx hb hts (iq_RX9 _) hown hK hP 0 rfl rfl 7 (by decide) (hT _ qq_1_47) (fun _ h9 => h9) rfl dX9_sound_1 ?_
  refine lv_if_ne (tgt := 11) hx hb dX9_sound_4 (by decide) (fun c_1 => absurd (by decide) c_1) (fun _ => ?_)
  refine lv_iconst (v := 1) hx hb dX9_sound_7 (by decide) ?_
  refine lv_goto (tgt := 12) hx hb dX9_sound_8 (by decide) ?_
  exact W.zret (v := 1) (ty := .boolean) hx hb hr rfl (fun t9 ht9 hW9 => ⟨rfl, ht9.trans hHe⟩) (fun _ h9 => absurd h9 List.not_mem_nil) dX9_sound_12
theorem dX9_sound_11 : decode cX9_sound 11 = .ok (.iconst 0, 1) := by decide +kernel
set_option maxHeartbeats 4000000 in
set_option maxRecDepth 100000 in
theorem c_sound_1 (l : Launch) (D : va_G) (ad : Nat → Nat) (sz : Nat) (ht : Nat) (hs : Nat)  : Met l yX9_sound (Cond.code yX9_sound cX9_sound 1 (some .boolean) :: TB) (RM 0 0 0) (va_Pc [.ref ht] (PRE D ad [(ht, .inr (7, [.ref hs, .int 0, .int (-1), .int 0, .int 0, .int 0, .int 0, .int 1]))] [] sz)) (k2_QcV (.int 0)) 0 0 (fun _ => False) := by
  refine MET (y := yX9_sound) (cc := cX9_sound) (maxL := 1) (ret := (some .boolean)) (d := 0) (mc := 0) (ms := 0) (D := D) (ad := ad) (ws := [(ht, .inr (7, [.ref hs, .int 0, .int (-1), .int 0, .int 0, .int 0, .int 0, .int 1]))]) (tys := []) (sz := sz) (av := [.ref ht]) (Qc := fun A => k2_QcV (.int 0)) (fr := fun A => (fun _ => False)) (by decide) (Nat.le_of_ble_eq_true rfl) ?_
  intro p e s m below meth c ls A H hHe hx hb hr hml hown hts hlocks hnm hP hK hD hA hS hN hl
  have hown : s.vm.findClass "WrongHole$Text" = some m.cls := hown
  have hT : ∀ w ∈ TB, w.before ([.ref ht] : List Value).toArray s = true := fun w h => hts w (List.mem_cons_of_mem _ h)
  have hl : lv_has ls 1 [(0, .ref ht)] := hl
  have hP : va_P D vwCl [(ht, .inr (7, [.ref hs, .int 0, .int (-1), .int 0, .int 0, .int 0, .int 0, .int 1]))] H := hP
  refine lv_aload_n hx hb dX9_sound_0 rfl (lv_at hl 0 rfl) ?_
  refine va_get (D := D) (ci := 7) (v := .int 1) (C := "WrongHole$Text") (T := TX9) (N := 8) hx hb hts (iq_RX9 _) hown hK hP 0 rfl rfl 7 (by decide) (hT _ qq_1_47) (fun _ h9 => h9) rfl dX9_sound_1 ?_
  refine lv_if_ne (tgt := 11) hx hb dX9_sound_4 (by decide) (fun _ => ?_) (fun c_1 => absurd c_1 (by decide))
  refine lv_iconst (v := 0) hx hb dX9_sound_11 (by decide) ?_
  exact W.zret (v := 0) (ty := .boolean) hx hb hr rfl (fun t9 ht9 hW9 => ⟨rfl, ht9.trans hHe⟩) (fun _ h9 => absurd h9 List.not_mem_nil) dX9_sound_12
theorem dX9_whichWord_0 : decode cX9_whichWord 0 = .ok (.aload_n 0, 1) := by decide +kernel
theorem dX9_whichWord_1 : decode cX9_whichWord 1 = .ok (.getfield 34, 3) := by decide +kernel
theorem dX9_whichWord_4 : decode cX9_whichWord 4 = .ok (.sipush 257, 3) := by decide +kernel
theorem dX9_whichWord_7 : decode cX9_whichWord 7 = .ok (.if_icmp .eq 5, 3) := by decide +kernel
theorem dX9_whichWord_10 : decode cX9_whichWord 10 = .ok (.iconst (-1), 1) := by decide +kernel
theorem dX9_whichWord_11 : decode cX9_whichWord 11 = .ok (.ireturn, 1) := by decide +kernel
set_option maxHeartbeats 4000000 in
set_option maxRecDepth 100000 in
theorem c_whichWord (l : Launch) (D : va_G) (ad : Nat → Nat) (sz : Nat) (ht : Nat) (hs : Nat) (sr : Nat)  : Met l yX9_whichWord (Cond.code yX9_whichWord cX9_whichWord 6 (some .int) :: TB) (RM 0 0 0) (va_Pc [.ref ht, .ref sr] (PRE D ad [(ht, .inr (7, [.ref hs, .int 0, .int (-1), .int 0, .int 0, .int 0, .int 0, .int 0]))] [] sz)) (k2_QcV (.int (-1))) 0 0 (fun _ => False) := by
  refine MET (y := yX9_whichWord) (cc := cX9_whichWord) (maxL := 6) (ret := (some .int)) (d := 0) (mc := 0) (ms := 0) (D := D) (ad := ad) (ws := [(ht, .inr (7, [.ref hs, .int 0, .int (-1), .int 0, .int 0, .int 0, .int 0, .int 0]))]) (tys := []) (sz := sz) (av := [.ref ht, .ref sr]) (Qc := fun A => k2_QcV (.int (-1))) (fr := fun A => (fun _ => False)) (by decide) (Nat.le_of_ble_eq_true rfl) ?_
  intro p e s m below meth c ls A H hHe hx hb hr hml hown hts hlocks hnm hP hK hD hA hS hN hl
  have hown : s.vm.findClass "WrongHole$Text" = some m.cls := hown
  have hT : ∀ w ∈ TB, w.before ([.ref ht, .ref sr] : List Value).toArray s = true := fun w h => hts w (List.mem_cons_of_mem _ h)
  have hl : lv_has ls 6 [(0, .ref ht), (1, .ref sr)] := hl
  have hP : va_P D vwCl [(ht, .inr (7, [.ref hs, .int 0, .int (-1), .int 0, .int 0, .int 0, .int 0, .int 0]))] H := hP
  refine lv_aload_n hx hb dX9_whichWord_0 rfl (lv_at hl 0 rfl) ?_
  refine va_get (D := D) (ci := 7) (v := .int (-1)) (C := "WrongHole$Text") (T := TX9) (N := 8) hx hb hts (iq_RX9 _) hown hK hP 0 rfl rfl 2 (by decide) (hT _ qq_1_41) (fun _ h9 => h9) rfl dX9_whichWord_1 ?_
  refine lv_sipush (v := 257) hx hb dX9_whichWord_4 (by decide) ?_
  refine lv_icmp_eq (tgt := 12) hx hb dX9_whichWord_7 (by decide) (fun c_1 => absurd c_1 (by decide)) (fun _ => ?_)
  refine lv_iconst (v := (-1)) hx hb dX9_whichWord_10 (by decide) ?_
  exact W.iret (v := (-1)) hx hb hr (fun t9 ht9 hW9 => ⟨rfl, ht9.trans hHe⟩) (fun _ h9 => absurd h9 List.not_mem_nil) dX9_whichWord_11
theorem dX9_failHere_0 : decode cX9_failHere 0 = .ok (.aload_n 0, 1) := by decide +kernel
theorem dX9_failHere_1 : decode cX9_failHere 1 = .ok (.getfield 19, 3) := by decide +kernel
theorem dX9_failHere_4 : decode cX9_failHere 4 = .ok (.ifCond .ne 18, 3) := by decide +kernel
theorem dX9_failHere_7 : decode cX9_failHere 7 = .ok (.aload_n 0, 1) := by decide +kernel
theorem dX9_failHere_8 : decode cX9_failHere 8 = .ok (.iconst 1, 1) := by decide +kernel
theorem dX9_failHere_9 : decode cX9_failHere 9 = .ok (.bipush 8, 2) := by decide +kernel
theorem dX9_failHere_11 : decode cX9_failHere 11 = .ok (.aload_n 0, 1) := by decide +kernel
theorem dX9_failHere_12 : decode cX9_failHere 12 = .ok (.getfield 28, 3) := by decide +kernel
theorem dX9_failHere_15 : decode cX9_failHere 15 = .ok (.imul, 1) := by decide +kernel
theorem dX9_failHere_16 : decode cX9_failHere 16 = .ok (.iadd, 1) := by decide +kernel
theorem dX9_failHere_17 : decode cX9_failHere 17 = .ok (.iload_n 1, 1) := by decide +kernel
theorem dX9_failHere_18 : decode cX9_failHere 18 = .ok (.iadd, 1) := by decide +kernel
theorem dX9_failHere_19 : decode cX9_failHere 19 = .ok (.putfield 19, 3) := by decide +kernel
theorem dX9_failHere_22 : decode cX9_failHere 22 = .ok (.return_, 1) := by decide +kernel
set_option maxHeartbeats 4000000 in
set_option maxRecDepth 100000 in
theorem c_failHere (l : Launch) (D : va_G) (ad : Nat → Nat) (sz : Nat) (ht : Nat) (hs : Nat)  : Met l yX9_failHere (Cond.code yX9_failHere cX9_failHere 2 none :: TB) (RM 0 0 0) (va_Pc [.ref ht, .int 0] (PRE D ad [(ht, .inr (7, [.ref hs, .int 0, .int (-1), .int 0, .int 0, .int 0, .int 0, .int 0]))] [] sz)) (va_Qv (S := Unit) (fun _ => True) (fun _ t => va_P D vwCl [(ht, .inr (7, [.ref hs, .int 0, .int (-1), .int 0, .int 0, .int 0, .int 0, .int 1]))] t.heap ∧ va_K D vwCl [] t ∧ va_D (va_A [(ht, .inr (7, [.ref hs, .int 0, .int (-1), .int 0, .int 0, .int 0, .int 0, .int 0]))] sz) [(ht, .inr (7, [.ref hs, .int 0, .int (-1), .int 0, .int 0, .int 0, .int 0, .int 1]))]) (va_A [(ht, .inr (7, [.ref hs, .int 0, .int (-1), .int 0, .int 0, .int 0, .int 0, .int 0]))] sz)) 0 0 (va_A [(ht, .inr (7, [.ref hs, .int 0, .int (-1), .int 0, .int 0, .int 0, .int 0, .int 0]))] sz) := by
  refine MET (y := yX9_failHere) (cc := cX9_failHere) (maxL := 2) (ret := none) (d := 0) (mc := 0) (ms := 0) (D := D) (ad := ad) (ws := [(ht, .inr (7, [.ref hs, .int 0, .int (-1), .int 0, .int 0, .int 0, .int 0, .int 0]))]) (tys := []) (sz := sz) (av := [.ref ht, .int 0]) (Qc := fun A => va_Qv (S := Unit) (fun _ => True) (fun _ t => va_P D vwCl [(ht, .inr (7, [.ref hs, .int 0, .int (-1), .int 0, .int 0, .int 0, .int 0, .int 1]))] t.heap ∧ va_K D vwCl [] t ∧ va_D A [(ht, .inr (7, [.ref hs, .int 0, .int (-1), .int 0, .int 0, .int 0, .int 0, .int 1]))]) A) (fr := fun A => A) (by decide) (Nat.le_of_ble_eq_true rfl) ?_
  intro p e s m below meth c ls A H hHe hx hb hr hml hown hts hlocks hnm hP hK hD hA hS hN hl
  have hown : s.vm.findClass "WrongHole$Text" = some m.cls := hown
  have hT : ∀ w ∈ TB, w.before ([.ref ht, .int 0] : List Value).toArray s = true := fun w h => hts w (List.mem_cons_of_mem _ h)
  have hl : lv_has ls 2 [(0, .ref ht), (1, .int 0)] := hl
  have hP : va_P D vwCl [(ht, .inr (7, [.ref hs, .int 0, .int (-1), .int 0, .int 0, .int 0, .int 0, .int 0]))] H := hP
  refine lv_aload_n hx hb dX9_failHere_0 rfl (lv_at hl 0 rfl) ?_
  refine va_get (D := D) (ci := 7) (v := .int 0) (C := "WrongHole$Text") (T := TX9) (N := 8) hx hb hts (iq_RX9 _) hown hK hP 0 rfl rfl 7 (by decide) (hT _ qq_1_47) (fun _ h9 => h9) rfl dX9_failHere_1 ?_
  refine lv_if_ne (tgt := 22) hx hb dX9_failHere_4 (by decide) (fun c_1 => absurd (by decide) c_1) (fun _ => ?_)
  refine lv_aload_n hx hb dX9_failHere_7 rfl (lv_at hl 0 rfl) ?_
  refine lv_iconst (v := 1) hx hb dX9_failHere_8 (by decide) ?_
  refine lv_bipush (v := 8) hx hb dX9_failHere_9 (by decide) ?_
  refine lv_aload_n hx hb dX9_failHere_11 rfl (lv_at hl 0 rfl) ?_
  refine va_get (D := D) (ci := 7) (v := .int 0) (C := "WrongHole$Text") (T := TX9) (N := 8) hx hb hts (iq_RX9 _) hown hK hP 0 rfl rfl 3 (by decide) (hT _ qq_1_42) (fun _ h9 => h9) rfl dX9_failHere_12 ?_
  refine lv_imul hx hb dX9_failHere_15 ?_
  refine tc_i 0 (by decide) ?_
  refine lv_iadd hx hb dX9_failHere_16 ?_
  refine tc_i 1 (by decide) ?_
  refine lv_iload_n hx hb dX9_failHere_17 rfl (lv_at hl 1 rfl) ?_
  refine lv_iadd hx hb dX9_failHere_18 ?_
  refine tc_i 1 (by decide) ?_
  refine va_put (D := D) (ci := 7) (v := .int 1) (ty := .int) (C := "WrongHole$Text") (T := TX9) (N := 8) hx hb hts (iq_RX9 _) tyX9 tyX9_ok nmX9 hown hK hP hD hS 0 rfl rfl 7 (by decide) (hT _ qq_1_47) (fun _ h9 => h9) rfl (by decide +kernel) rfl rfl (Nat.le_of_ble_eq_true rfl) dX9_failHere_19 (fun H locs hP hD hS => ?_)
  have hP : va_P D vwCl [(ht, .inr (7, [.ref hs, .int 0, .int (-1), .int 0, .int 0, .int 0, .int 0, .int 1]))] H := hP
  have hD : va_D A [(ht, .inr (7, [.ref hs, .int 0, .int (-1), .int 0, .int 0, .int 0, .int 0, .int 1]))] := hD
  refine W.widen (k := 0) (n := 0) (Nat.le_of_ble_eq_true rfl) (Nat.le_of_ble_eq_true rfl) ?_
  have hP9 := hP.sub (ws' := [(ht, .inr (7, [.ref hs, .int 0, .int (-1), .int 0, .int 0, .int 0, .int 0, .int 1]))]) [0] rfl
  have hD9 := hD.sub (ws' := [(ht, .inr (7, [.ref hs, .int 0, .int (-1), .int 0, .int 0, .int 0, .int 0, .int 1]))]) [0] (by decide) rfl
  have hK9 := hK.sub (tys' := []) [] rfl
  exact W.vret hx hb hr (fun t9 ht9 hW9 => ⟨⟨(), rfl, trivial, ⟨by rw [ht9]; exact hP9, va_K.moved hW9.alike hK9, hD9⟩⟩, hS.F ht9⟩) hS.2.2 dX9_failHere_22
theorem dX2_init_0 : decode cX2_init 0 = .ok (.aload_n 0, 1) := by decide +kernel
theorem dX2_init_1 : decode cX2_init 1 = .ok (.invokespecial 1, 3) := by decide +kernel
theorem qq_2_27 : Cond.methodLink "WrongHole$Lift" 1 (⟨"java/lang/Object", "<init>", "()V"⟩ : MethodName) ∈ TB := mk_tb (ti_2 (List.mem_of_getElem? (i := 27) rfl)) rfl
theorem dX2_init_4 : decode cX2_init 4 = .ok (.aload_n 0, 1) := by decide +kernel
theorem dX2_init_5 : decode cX2_init 5 = .ok (.bipush 8, 2) := by decide +kernel
theorem dX2_init_7 : decode cX2_init 7 = .ok (.newarray .int, 2) := by decide +kernel
theorem dX2_init_9 : decode cX2_init 9 = .ok (.putfield 7, 3) := by decide +kernel
theorem qq_2_64 : Cond.fieldLink "WrongHole$Lift" 7 "WrongHole$Lift" "sorts" "[I" ∈ TB := mk_tb (ti_2 (List.mem_of_getElem? (i := 64) rfl)) rfl
theorem iq_RX2 (cd : Cond) : ∀ w ∈ u_ws RX2 TX2 19, w ∈ cd :: TB := by
  intro w hw
  obtain ⟨k, hk, rfl⟩ := List.mem_map.mp hw
  have hk := List.mem_range.mp hk
  refine List.mem_cons_of_mem _ ?_
  match k, hk with
  | 0, _ => exact mk_tb (ti_2 (List.mem_of_getElem? (i := 85) rfl)) rfl
  | 1, _ => exact mk_tb (ti_2 (List.mem_of_getElem? (i := 87) rfl)) rfl
  | 2, _ => exact mk_tb (ti_2 (List.mem_of_getElem? (i := 89) rfl)) rfl
  | 3, _ => exact mk_tb (ti_2 (List.mem_of_getElem? (i := 91) rfl)) rfl
  | 4, _ => exact mk_tb (ti_2 (List.mem_of_getElem? (i := 93) rfl)) rfl
  | 5, _ => exact mk_tb (ti_2 (List.mem_of_getElem? (i := 95) rfl)) rfl
  | 6, _ => exact mk_tb (ti_2 (List.mem_of_getElem? (i := 97) rfl)) rfl
  | 7, _ => exact mk_tb (ti_2 (List.mem_of_getElem? (i := 99) rfl)) rfl
  | 8, _ => exact mk_tb (ti_2 (List.mem_of_getElem? (i := 101) rfl)) rfl
  | 9, _ => exact mk_tb (ti_2 (List.mem_of_getElem? (i := 103) rfl)) rfl
  | 10, _ => exact mk_tb (ti_2 (List.mem_of_getElem? (i := 105) rfl)) rfl
  | 11, _ => exact mk_tb (ti_2 (List.mem_of_getElem? (i := 107) rfl)) rfl
  | 12, _ => exact mk_tb (ti_2 (List.mem_of_getElem? (i := 109) rfl)) rfl
  | 13, _ => exact mk_tb (ti_2 (List.mem_of_getElem? (i := 111) rfl)) rfl
  | 14, _ => exact mk_tb (ti_2 (List.mem_of_getElem? (i := 113) rfl)) rfl
  | 15, _ => exact mk_tb (ti_2 (List.mem_of_getElem? (i := 115) rfl)) rfl
  | 16, _ => exact mk_tb (ti_2 (List.mem_of_getElem? (i := 117) rfl)) rfl
  | 17, _ => exact mk_tb (ti_2 (List.mem_of_getElem? (i := 119) rfl)) rfl
  | 18, _ => exact mk_tb (ti_2 (List.mem_of_getElem? (i := 121) rfl)) rfl
  | n + 19, h => exact absurd h (by omega)
theorem dX2_init_12 : decode cX2_init 12 = .ok (.aload_n 0, 1) := by decide +kernel
theorem dX2_init_13 : decode cX2_init 13 = .ok (.bipush 8, 2) := by decide +kernel
theorem dX2_init_15 : decode cX2_init 15 = .ok (.newarray .int, 2) := by decide +kernel
theorem dX2_init_17 : decode cX2_init 17 = .ok (.putfield 13, 3) := by decide +kernel
theorem qq_2_68 : Cond.fieldLink "WrongHole$Lift" 13 "WrongHole$Lift" "takes" "[I" ∈ TB := mk_tb (ti_2 (List.mem_of_getElem? (i := 68) rfl)) rfl
theorem dX2_init_20 : decode cX2_init 20 = .ok (.aload_n 0, 1) := by decide +kernel
theorem dX2_init_21 : decode cX2_init 21 = .ok (.bipush 8, 2) := by decide +kernel
theorem dX2_init_23 : decode cX2_init 23 = .ok (.newarray .int, 2) := by decide +kernel
theorem dX2_init_25 : decode cX2_init 25 = .ok (.putfield 16, 3) := by decide +kernel
theorem qq_2_72 : Cond.fieldLink "WrongHole$Lift" 16 "WrongHole$Lift" "undos" "[I" ∈ TB := mk_tb (ti_2 (List.mem_of_getElem? (i := 72) rfl)) rfl
theorem dX2_init_28 : decode cX2_init 28 = .ok (.aload_n 0, 1) := by decide +kernel
theorem dX2_init_29 : decode cX2_init 29 = .ok (.bipush 8, 2) := by decide +kernel
theorem dX2_init_31 : decode cX2_init 31 = .ok (.newarray .int, 2) := by decide +kernel
theorem dX2_init_33 : decode cX2_init 33 = .ok (.putfield 19, 3) := by decide +kernel
theorem qq_2_74 : Cond.fieldLink "WrongHole$Lift" 19 "WrongHole$Lift" "dos" "[I" ∈ TB := mk_tb (ti_2 (List.mem_of_getElem? (i := 74) rfl)) rfl
theorem dX2_init_36 : decode cX2_init 36 = .ok (.aload_n 0, 1) := by decide +kernel
theorem dX2_init_37 : decode cX2_init 37 = .ok (.bipush 8, 2) := by decide +kernel
theorem dX2_init_39 : decode cX2_init 39 = .ok (.newarray .int, 2) := by decide +kernel
theorem dX2_init_41 : decode cX2_init 41 = .ok (.putfield 22, 3) := by decide +kernel
theorem qq_2_76 : Cond.fieldLink "WrongHole$Lift" 22 "WrongHole$Lift" "worths" "[I" ∈ TB := mk_tb (ti_2 (List.mem_of_getElem? (i := 76) rfl)) rfl
theorem dX2_init_44 : decode cX2_init 44 = .ok (.aload_n 0, 1) := by decide +kernel
theorem dX2_init_45 : decode cX2_init 45 = .ok (.bipush 8, 2) := by decide +kernel
theorem dX2_init_47 : decode cX2_init 47 = .ok (.newarray .int, 2) := by decide +kernel
theorem dX2_init_49 : decode cX2_init 49 = .ok (.putfield 25, 3) := by decide +kernel
theorem qq_2_79 : Cond.fieldLink "WrongHole$Lift" 25 "WrongHole$Lift" "fitting" "[I" ∈ TB := mk_tb (ti_2 (List.mem_of_getElem? (i := 79) rfl)) rfl
theorem dX2_init_52 : decode cX2_init 52 = .ok (.aload_n 0, 1) := by decide +kernel
theorem dX2_init_53 : decode cX2_init 53 = .ok (.bipush 6, 2) := by decide +kernel
theorem dX2_init_55 : decode cX2_init 55 = .ok (.newarray .int, 2) := by decide +kernel
theorem dX2_init_57 : decode cX2_init 57 = .ok (.putfield 28, 3) := by decide +kernel
theorem qq_2_81 : Cond.fieldLink "WrongHole$Lift" 28 "WrongHole$Lift" "eyeBits" "[I" ∈ TB := mk_tb (ti_2 (List.mem_of_getElem? (i := 81) rfl)) rfl
theorem dX2_init_60 : decode cX2_init 60 = .ok (.aload_n 0, 1) := by decide +kernel
theorem dX2_init_61 : decode cX2_init 61 = .ok (.bipush 6, 2) := by decide +kernel
theorem dX2_init_63 : decode cX2_init 63 = .ok (.newarray .int, 2) := by decide +kernel
theorem dX2_init_65 : decode cX2_init 65 = .ok (.putfield 31, 3) := by decide +kernel
theorem qq_2_83 : Cond.fieldLink "WrongHole$Lift" 31 "WrongHole$Lift" "eyeSeconds" "[I" ∈ TB := mk_tb (ti_2 (List.mem_of_getElem? (i := 83) rfl)) rfl
theorem dX2_init_68 : decode cX2_init 68 = .ok (.aload_n 0, 1) := by decide +kernel
theorem dX2_init_69 : decode cX2_init 69 = .ok (.getfield 16, 3) := by decide +kernel
theorem dX2_init_72 : decode cX2_init 72 = .ok (.iconst 1, 1) := by decide +kernel
theorem dX2_init_73 : decode cX2_init 73 = .ok (.invokestatic 34, 3) := by decide +kernel
theorem qq_2_28 : Cond.methodLink "WrongHole$Lift" 34 yJ7_fill_53178 ∈ TB := mk_tb (ti_2 (List.mem_of_getElem? (i := 28) rfl)) rfl
theorem dX2_init_76 : decode cX2_init 76 = .ok (.aload_n 0, 1) := by decide +kernel
theorem dX2_init_77 : decode cX2_init 77 = .ok (.getfield 19, 3) := by decide +kernel
theorem dX2_init_80 : decode cX2_init 80 = .ok (.iconst 2, 1) := by decide +kernel
theorem dX2_init_81 : decode cX2_init 81 = .ok (.invokestatic 34, 3) := by decide +kernel
theorem dX2_init_84 : decode cX2_init 84 = .ok (.aload_n 0, 1) := by decide +kernel
theorem dX2_init_85 : decode cX2_init 85 = .ok (.getfield 22, 3) := by decide +kernel
theorem dX2_init_88 : decode cX2_init 88 = .ok (.iconst 1, 1) := by decide +kernel
theorem dX2_init_89 : decode cX2_init 89 = .ok (.invokestatic 34, 3) := by decide +kernel
theorem dX2_init_92 : decode cX2_init 92 = .ok (.return_, 1) := by decide +kernel
set_option maxHeartbeats 4000000 in
set_option maxRecDepth 100000 in
theorem c_lift_init (l : Launch) (D : va_G) (ad : Nat → Nat) (sz : Nat) (hl0 : Nat)  : Met l yX2_init (Cond.code yX2_init cX2_init 1 none :: TB) (RM 2 8 60) (va_Pc [.ref hl0] (PRE D ad [(hl0, .inr (2, [.int 0, .int 0, .int 0, .int 0, .int 0, .int 0, .int 0, .int 0, .int 0, .int 0, .int 0, .null, .null, .null, .null, .null, .null, .null, .null]))] [] sz)) (va_Qv (S := Unit) (fun _ => True) (fun _ t => ∃ (l0 : Nat), ∃ (l1 : Nat), ∃ (l2 : Nat), ∃ (l3 : Nat), ∃ (l4 : Nat), ∃ (l5 : Nat), ∃ (l6 : Nat), ∃ (l7 : Nat), va_P D vwCl [(hl0, .inr (2, [.int 0, .int 0, .int 0, .int 0, .int 0, .int 0, .int 0, .int 0, .int 0, .int 0, .int 0, .ref l0, .ref l1, .ref l2, .ref l3, .ref l4, .ref l5, .ref l6, .ref l7]))] t.heap ∧ va_K D vwCl [] t ∧ va_D (va_A [(hl0, .inr (2, [.int 0, .int 0, .int 0, .int 0, .int 0, .int 0, .int 0, .int 0, .int 0, .int 0, .int 0, .null, .null, .null, .null, .null, .null, .null, .null]))] sz) [(hl0, .inr (2, [.int 0, .int 0, .int 0, .int 0, .int 0, .int 0, .int 0, .int 0, .int 0, .int 0, .int 0, .ref l0, .ref l1, .ref l2, .ref l3, .ref l4, .ref l5, .ref l6, .ref l7]))]) (va_A [(hl0, .inr (2, [.int 0, .int 0, .int 0, .int 0, .int 0, .int 0, .int 0, .int 0, .int 0, .int 0, .int 0, .null, .null, .null, .null, .null, .null, .null, .null]))] sz)) 8 60 (va_A [(hl0, .inr (2, [.int 0, .int 0, .int 0, .int 0, .int 0, .int 0, .int 0, .int 0, .int 0, .int 0, .int 0, .null, .null, .null, .null, .null, .null, .null, .null]))] sz) := by
  refine MET (y := yX2_init) (cc := cX2_init) (maxL := 1) (ret := none) (d := 2) (mc := 8) (ms := 60) (D := D) (ad := ad) (ws := [(hl0, .inr (2, [.int 0, .int 0, .int 0, .int 0, .int 0, .int 0, .int 0, .int 0, .int 0, .int 0, .int 0, .null, .null, .null, .null, .null, .null, .null, .null]))]) (tys := []) (sz := sz) (av := [.ref hl0]) (Qc := fun A => va_Qv (S := Unit) (fun _ => True) (fun _ t => ∃ (l0 : Nat), ∃ (l1 : Nat), ∃ (l2 : Nat), ∃ (l3 : Nat), ∃ (l4 : Nat), ∃ (l5 : Nat), ∃ (l6 : Nat), ∃ (l7 : Nat), va_P D vwCl [(hl0, .inr (2, [.int 0, .int 0, .int 0, .int 0, .int 0, .int 0, .int 0, .int 0, .int 0, .int 0, .int 0, .ref l0, .ref l1, .ref l2, .ref l3, .ref l4, .ref l5, .ref l6, .ref l7]))] t.heap ∧ va_K D vwCl [] t ∧ va_D A [(hl0, .inr (2, [.int 0, .int 0, .int 0, .int 0, .int 0, .int 0, .int 0, .int 0, .int 0, .int 0, .int 0, .ref l0, .ref l1, .ref l2, .ref l3, .ref l4, .ref l5, .ref l6, .ref l7]))]) A) (fr := fun A => A) (by decide) (Nat.le_of_ble_eq_true rfl) ?_
  intro p e s m below meth c ls A H hHe hx hb hr hml hown hts hlocks hnm hP hK hD hA hS hN hl
  have hown : s.vm.findClass "WrongHole$Lift" = some m.cls := hown
  have hT : ∀ w ∈ TB, w.before ([.ref hl0] : List Value).toArray s = true := fun w h => hts w (List.mem_cons_of_mem _ h)
  have hl : lv_has ls 1 [(0, .ref hl0)] := hl
  have hP : va_P D vwCl [(hl0, .inr (2, [.int 0, .int 0, .int 0, .int 0, .int 0, .int 0, .int 0, .int 0, .int 0, .int 0, .int 0, .null, .null, .null, .null, .null, .null, .null, .null]))] H := hP
  refine lv_aload_n hx hb dX2_init_0 rfl (lv_at hl 0 rfl) ?_
  refine W.objInit hx hb hown (hT _ qq_2_27) (hT _ qq_1_28) (hT _ qq_1_29) rfl (by rw [hml]; exact hl.1) rfl dX2_init_1 (Nat.le_of_ble_eq_true rfl) (Nat.le_of_ble_eq_true rfl) ?_
  refine W.eq (g2 := F0 m 4 ls []) rfl ?_
  refine lv_aload_n hx hb dX2_init_4 rfl (lv_at hl 0 rfl) ?_
  refine lv_bipush (v := 8) hx hb dX2_init_5 (by decide) ?_
  refine va_newa (atype := .int) hx hb (hT _ qq_1_86) rfl hK hP hD hS hA (a0 := (8, .inl (fun _ => 0))) (fun _ => rfl) (by decide) (by decide) (Nat.le_of_ble_eq_true rfl) (Nat.le_of_ble_eq_true rfl) (Nat.le_of_ble_eq_true rfl) dX2_init_7 (fun q_1 k_2 H hK hP hD hS => ?_)
  have hK : va_K D vwCl [(k_2, .int)] s := hK
  have hP : va_P D vwCl [(hl0, .inr (2, [.int 0, .int 0, .int 0, .int 0, .int 0, .int 0, .int 0, .int 0, .int 0, .int 0, .int 0, .null, .null, .null, .null, .null, .null, .null, .null])), (q_1, .inl (k_2, 8, .inl (fun _ => 0)))] H := hP
  have hD : va_D A [(hl0, .inr (2, [.int 0, .int 0, .int 0, .int 0, .int 0, .int 0, .int 0, .int 0, .int 0, .int 0, .int 0, .null, .null, .null, .null, .null, .null, .null, .null])), (q_1, .inl (k_2, 8, .inl (fun _ => 0)))] := hD
  refine W.widen (k := 1) (n := 8) (Nat.le_of_ble_eq_true rfl) (Nat.le_of_ble_eq_true rfl) ?_
  refine va_putF (D := D) (ci := 2) (v := .ref q_1) (ty := .array .int) (C := "WrongHole$Lift") (T := TX2) (N := 19) hx hb hts (iq_RX2 _) tyX2 tyX2_ok nmX2 hown hK hP hD hS 0 rfl rfl 11 (by decide) (hT _ qq_2_64) (fun _ h9 => h9) rfl hnm rfl (by decide +kernel) rfl rfl (Nat.le_of_ble_eq_true rfl) dX2_init_9 (fun H locs hP hD hS => ?_)
  have hP : va_P D vwCl [(hl0, .inr (2, [.int 0, .int 0, .int 0, .int 0, .int 0, .int 0, .int 0, .int 0, .int 0, .int 0, .int 0, .ref q_1, .null, .null, .null, .null, .null, .null, .null])), (q_1, .inl (k_2, 8, .inl (fun _ => 0)))] H := hP
  have hD : va_D A [(hl0, .inr (2, [.int 0, .int 0, .int 0, .int 0, .int 0, .int 0, .int 0, .int 0, .int 0, .int 0, .int 0, .ref q_1, .null, .null, .null, .null, .null, .null, .null])), (q_1, .inl (k_2, 8, .inl (fun _ => 0)))] := hD
  refine lv_aload_n hx hb dX2_init_12 rfl (lv_at hl 0 rfl) ?_
  refine lv_bipush (v := 8) hx hb dX2_init_13 (by decide) ?_
  refine va_newa (atype := .int) hx hb (hT _ qq_1_86) rfl hK hP hD hS hA (a0 := (8, .inl (fun _ => 0))) (fun _ => rfl) (by decide) (by decide) (Nat.le_of_ble_eq_true rfl) (Nat.le_of_ble_eq_true rfl) (Nat.le_of_ble_eq_true rfl) dX2_init_15 (fun q_3 k_4 H hK hP hD hS => ?_)
  have hK : va_K D vwCl [(k_2, .int), (k_4, .int)] s := hK
  have hP : va_P D vwCl [(hl0, .inr (2, [.int 0, .int 0, .int 0, .int 0, .int 0, .int 0, .int 0, .int 0, .int 0, .int 0, .int 0, .ref q_1, .null, .null, .null, .null, .null, .null, .null])), (q_1, .inl (k_2, 8, .inl (fun _ => 0))), (q_3, .inl (k_4, 8, .inl (fun _ => 0)))] H := hP
  have hD : va_D A [(hl0, .inr (2, [.int 0, .int 0, .int 0, .int 0, .int 0, .int 0, .int 0, .int 0, .int 0, .int 0, .int 0, .ref q_1, .null, .null, .null, .null, .null, .null, .null])), (q_1, .inl (k_2, 8, .inl (fun _ => 0))), (q_3, .inl (k_4, 8, .inl (fun _ => 0)))] := hD
  refine W.widen (k := 2) (n := 16) (Nat.le_of_ble_eq_true rfl) (Nat.le_of_ble_eq_true rfl) ?_
  refine va_putF (D := D) (ci := 2) (v := .ref q_3) (ty := .array .int) (C := "WrongHole$Lift") (T := TX2) (N := 19) hx hb hts (iq_RX2 _) tyX2 tyX2_ok nmX2 hown hK hP hD hS 0 rfl rfl 12 (by decide) (hT _ qq_2_68) (fun _ h9 => h9) rfl hnm rfl (by decide +kernel) rfl rfl (Nat.le_of_ble_eq_true rfl) dX2_init_17 (fun H locs hP hD hS => ?_)
  have hP : va_P D vwCl [(hl0, .inr (2, [.int 0, .int 0, .int 0, .int 0, .int 0, .int 0, .int 0, .int 0, .int 0, .int 0, .int 0, .ref q_1, .ref q_3, .null, .null, .null, .null, .null, .null])), (q_1, .inl (k_2, 8, .inl (fun _ => 0))), (q_3, .inl (k_4, 8, .inl (fun _ => 0)))] H := hP
  have hD : va_D A [(hl0, .inr (2, [.int 0, .int 0, .int 0, .int 0, .int 0, .int 0, .int 0, .int 0, .int 0, .int 0, .int 0, .ref q_1, .ref q_3, .null, .null, .null, .null, .null, .null])), (q_1, .inl (k_2, 8, .inl (fun _ => 0))), (q_3, .inl (k_4, 8, .inl (fun _ => 0)))] := hD
  refine lv_aload_n hx hb dX2_init_20 rfl (lv_at hl 0 rfl) ?_
  refine lv_bipush (v := 8) hx hb dX2_init_21 (by decide) ?_
  refine va_newa (atype := .int) hx hb (hT _ qq_1_86) rfl hK hP hD hS hA (a0 := (8, .inl (fun _ => 0))) (fun _ => rfl) (by decide) (by decide) (Nat.le_of_ble_eq_true rfl) (Nat.le_of_ble_eq_true rfl) (Nat.le_of_ble_eq_true rfl) dX2_init_23 (fun q_5 k_6 H hK hP hD hS => ?_)
  have hK : va_K D vwCl [(k_2, .int), (k_4, .int), (k_6, .int)] s := hK
  have hP : va_P D vwCl [(hl0, .inr (2, [.int 0, .int 0, .int 0, .int 0, .int 0, .int 0, .int 0, .int 0, .int 0, .int 0, .int 0, .ref q_1, .ref q_3, .null, .null, .null, .null, .null, .null])), (q_1, .inl (k_2, 8, .inl (fun _ => 0))), (q_3, .inl (k_4, 8, .inl (fun _ => 0))), (q_5, .inl (k_6, 8, .inl (fun _ => 0)))] H := hP
  have hD : va_D A [(hl0, .inr (2, [.int 0, .int 0, .int 0, .int 0, .int 0, .int 0, .int 0, .int 0, .int 0, .int 0, .int 0, .ref q_1, .ref q_3, .null, .null, .null, .null, .null, .null])), (q_1, .inl (k_2, 8, .inl (fun _ => 0))), (q_3, .inl (k_4, 8, .inl (fun _ => 0))), (q_5, .inl (k_6, 8, .inl (fun _ => 0)))] := hD
  refine W.widen (k := 3) (n := 24) (Nat.le_of_ble_eq_true rfl) (Nat.le_of_ble_eq_true rfl) ?_
  refine va_putF (D := D) (ci := 2) (v := .ref q_5) (ty := .array .int) (C := "WrongHole$Lift") (T := TX2) (N := 19) hx hb hts (iq_RX2 _) tyX2 tyX2_ok nmX2 hown hK hP hD hS 0 rfl rfl 13 (by decide) (hT _ qq_2_72) (fun _ h9 => h9) rfl hnm rfl (by decide +kernel) rfl rfl (Nat.le_of_ble_eq_true rfl) dX2_init_25 (fun H locs hP hD hS => ?_)
  have hP : va_P D vwCl [(hl0, .inr (2, [.int 0, .int 0, .int 0, .int 0, .int 0, .int 0, .int 0, .int 0, .int 0, .int 0, .int 0, .ref q_1, .ref q_3, .ref q_5, .null, .null, .null, .null, .null])), (q_1, .inl (k_2, 8, .inl (fun _ => 0))), (q_3, .inl (k_4, 8, .inl (fun _ => 0))), (q_5, .inl (k_6, 8, .inl (fun _ => 0)))] H := hP
  have hD : va_D A [(hl0, .inr (2, [.int 0, .int 0, .int 0, .int 0, .int 0, .int 0, .int 0, .int 0, .int 0, .int 0, .int 0, .ref q_1, .ref q_3, .ref q_5, .null, .null, .null, .null, .null])), (q_1, .inl (k_2, 8, .inl (fun _ => 0))), (q_3, .inl (k_4, 8, .inl (fun _ => 0))), (q_5, .inl (k_6, 8, .inl (fun _ => 0)))] := hD
  refine lv_aload_n hx hb dX2_init_28 rfl (lv_at hl 0 rfl) ?_
  refine lv_bipush (v := 8) hx hb dX2_init_29 (by decide) ?_
  refine va_newa (atype := .int) hx hb (hT _ qq_1_86) rfl hK hP hD hS hA (a0 := (8, .inl (fun _ => 0))) (fun _ => rfl) (by decide) (by decide) (Nat.le_of_ble_eq_true rfl) (Nat.le_of_ble_eq_true rfl) (Nat.le_of_ble_eq_true rfl) dX2_init_31 (fun q_7 k_8 H hK hP hD hS => ?_)
  have hK : va_K D vwCl [(k_2, .int), (k_4, .int), (k_6, .int), (k_8, .int)] s := hK
  have hP : va_P D vwCl [(hl0, .inr (2, [.int 0, .int 0, .int 0, .int 0, .int 0, .int 0, .int 0, .int 0, .int 0, .int 0, .int 0, .ref q_1, .ref q_3, .ref q_5, .null, .null, .null, .null, .null])), (q_1, .inl (k_2, 8, .inl (fun _ => 0))), (q_3, .inl (k_4, 8, .inl (fun _ => 0))), (q_5, .inl (k_6, 8, .inl (fun _ => 0))), (q_7, .inl (k_8, 8, .inl (fun _ => 0)))] H := hP
  have hD : va_D A [(hl0, .inr (2, [.int 0, .int 0, .int 0, .int 0, .int 0, .int 0, .int 0, .int 0, .int 0, .int 0, .int 0, .ref q_1, .ref q_3, .ref q_5, .null, .null, .null, .null, .null])), (q_1, .inl (k_2, 8, .inl (fun _ => 0))), (q_3, .inl (k_4, 8, .inl (fun _ => 0))), (q_5, .inl (k_6, 8, .inl (fun _ => 0))), (q_7, .inl (k_8, 8, .inl (fun _ => 0)))] := hD
  refine W.widen (k := 4) (n := 32) (Nat.le_of_ble_eq_true rfl) (Nat.le_of_ble_eq_true rfl) ?_
  refine va_putF (D := D) (ci := 2) (v := .ref q_7) (ty := .array .int) (C := "WrongHole$Lift") (T := TX2) (N := 19) hx hb hts (iq_RX2 _) tyX2 tyX2_ok nmX2 hown hK hP hD hS 0 rfl rfl 14 (by decide) (hT _ qq_2_74) (fun _ h9 => h9) rfl hnm rfl (by decide +kernel) rfl rfl (Nat.le_of_ble_eq_true rfl) dX2_init_33 (fun H locs hP hD hS => ?_)
  have hP : va_P D vwCl [(hl0, .inr (2, [.int 0, .int 0, .int 0, .int 0, .int 0, .int 0, .int 0, .int 0, .int 0, .int 0, .int 0, .ref q_1, .ref q_3, .ref q_5, .ref q_7, .null, .null, .null, .null])), (q_1, .inl (k_2, 8, .inl (fun _ => 0))), (q_3, .inl (k_4, 8, .inl (fun _ => 0))), (q_5, .inl (k_6, 8, .inl (fun _ => 0))), (q_7, .inl (k_8, 8, .inl (fun _ => 0)))] H := hP
  have hD : va_D A [(hl0, .inr (2, [.int 0, .int 0, .int 0, .int 0, .int 0, .int 0, .int 0, .int 0, .int 0, .int 0, .int 0, .ref q_1, .ref q_3, .ref q_5, .ref q_7, .null, .null, .null, .null])), (q_1, .inl (k_2, 8, .inl (fun _ => 0))), (q_3, .inl (k_4, 8, .inl (fun _ => 0))), (q_5, .inl (k_6, 8, .inl (fun _ => 0))), (q_7, .inl (k_8, 8, .inl (fun _ => 0)))] := hD
  refine lv_aload_n hx hb dX2_init_36 rfl (lv_at hl 0 rfl) ?_
  refine lv_bipush (v := 8) hx hb dX2_init_37 (by decide) ?_
  refine va_newa (atype := .int) hx hb (hT _ qq_1_86) rfl hK hP hD hS hA (a0 := (8, .inl (fun _ => 0))) (fun _ => rfl) (by decide) (by decide) (Nat.le_of_ble_eq_true rfl) (Nat.le_of_ble_eq_true rfl) (Nat.le_of_ble_eq_true rfl) dX2_init_39 (fun q_9 k_10 H hK hP hD hS => ?_)
  have hK : va_K D vwCl [(k_2, .int), (k_4, .int), (k_6, .int), (k_8, .int), (k_10, .int)] s := hK
  have hP : va_P D vwCl [(hl0, .inr (2, [.int 0, .int 0, .int 0, .int 0, .int 0, .int 0, .int 0, .int 0, .int 0, .int 0, .int 0, .ref q_1, .ref q_3, .ref q_5, .ref q_7, .null, .null, .null, .null])), (q_1, .inl (k_2, 8, .inl (fun _ => 0))), (q_3, .inl (k_4, 8, .inl (fun _ => 0))), (q_5, .inl (k_6, 8, .inl (fun _ => 0))), (q_7, .inl (k_8, 8, .inl (fun _ => 0))), (q_9, .inl (k_10, 8, .inl (fun _ => 0)))] H := hP
  have hD : va_D A [(hl0, .inr (2, [.int 0, .int 0, .int 0, .int 0, .int 0, .int 0, .int 0, .int 0, .int 0, .int 0, .int 0, .ref q_1, .ref q_3, .ref q_5, .ref q_7, .null, .null, .null, .null])), (q_1, .inl (k_2, 8, .inl (fun _ => 0))), (q_3, .inl (k_4, 8, .inl (fun _ => 0))), (q_5, .inl (k_6, 8, .inl (fun _ => 0))), (q_7, .inl (k_8, 8, .inl (fun _ => 0))), (q_9, .inl (k_10, 8, .inl (fun _ => 0)))] := hD
  refine W.widen (k := 5) (n := 40) (Nat.le_of_ble_eq_true rfl) (Nat.le_of_ble_eq_true rfl) ?_
  refine va_putF (D := D) (ci := 2) (v := .ref q_9) (ty := .array .int) (C := "WrongHole$Lift") (T := TX2) (N := 19) hx hb hts (iq_RX2 _) tyX2 tyX2_ok nmX2 hown hK hP hD hS 0 rfl rfl 15 (by decide) (hT _ qq_2_76) (fun _ h9 => h9) rfl hnm rfl (by decide +kernel) rfl rfl (Nat.le_of_ble_eq_true rfl) dX2_init_41 (fun H locs hP hD hS => ?_)
  have hP : va_P D vwCl [(hl0, .inr (2, [.int 0, .int 0, .int 0, .int 0, .int 0, .int 0, .int 0, .int 0, .int 0, .int 0, .int 0, .ref q_1, .ref q_3, .ref q_5, .ref q_7, .ref q_9, .null, .null, .null])), (q_1, .inl (k_2, 8, .inl (fun _ => 0))), (q_3, .inl (k_4, 8, .inl (fun _ => 0))), (q_5, .inl (k_6, 8, .inl (fun _ => 0))), (q_7, .inl (k_8, 8, .inl (fun _ => 0))), (q_9, .inl (k_10, 8, .inl (fun _ => 0)))] H := hP
  have hD : va_D A [(hl0, .inr (2, [.int 0, .int 0, .int 0, .int 0, .int 0, .int 0, .int 0, .int 0, .int 0, .int 0, .int 0, .ref q_1, .ref q_3, .ref q_5, .ref q_7, .ref q_9, .null, .null, .null])), (q_1, .inl (k_2, 8, .inl (fun _ => 0))), (q_3, .inl (k_4, 8, .inl (fun _ => 0))), (q_5, .inl (k_6, 8, .inl (fun _ => 0))), (q_7, .inl (k_8, 8, .inl (fun _ => 0))), (q_9, .inl (k_10, 8, .inl (fun _ => 0)))] := hD
  refine lv_aload_n hx hb dX2_init_44 rfl (lv_at hl 0 rfl) ?_
  refine lv_bipush (v := 8) hx hb dX2_init_45 (by decide) ?_
  refine va_newa (atype := .int) hx hb (hT _ qq_1_86) rfl hK hP hD hS hA (a0 := (8, .inl (fun _ => 0))) (fun _ => rfl) (by decide) (by decide) (Nat.le_of_ble_eq_true rfl) (Nat.le_of_ble_eq_true rfl) (Nat.le_of_ble_eq_true rfl) dX2_init_47 (fun q_11 k_12 H hK hP hD hS => ?_)
  have hK : va_K D vwCl [(k_2, .int), (k_4, .int), (k_6, .int), (k_8, .int), (k_10, .int), (k_12, .int)] s := hK
  have hP : va_P D vwCl [(hl0, .inr (2, [.int 0, .int 0, .int 0, .int 0, .int 0, .int 0, .int 0, .int 0, .int 0, .int 0, .int 0, .ref q_1, .ref q_3, .ref q_5, .ref q_7, .ref q_9, .null, .null, .null])), (q_1, .inl (k_2, 8, .inl (fun _ => 0))), (q_3, .inl (k_4, 8, .inl (fun _ => 0))), (q_5, .inl (k_6, 8, .inl (fun _ => 0))), (q_7, .inl (k_8, 8, .inl (fun _ => 0))), (q_9, .inl (k_10, 8, .inl (fun _ => 0))), (q_11, .inl (k_12, 8, .inl (fun _ => 0)))] H := hP
  have hD : va_D A [(hl0, .inr (2, [.int 0, .int 0, .int 0, .int 0, .int 0, .int 0, .int 0, .int 0, .int 0, .int 0, .int 0, .ref q_1, .ref q_3, .ref q_5, .ref q_7, .ref q_9, .null, .null, .null])), (q_1, .inl (k_2, 8, .inl (fun _ => 0))), (q_3, .inl (k_4, 8, .inl (fun _ => 0))), (q_5, .inl (k_6, 8, .inl (fun _ => 0))), (q_7, .inl (k_8, 8, .inl (fun _ => 0))), (q_9, .inl (k_10, 8, .inl (fun _ => 0))), (q_11, .inl (k_12, 8, .inl (fun _ => 0)))] := hD
  refine W.widen (k := 6) (n := 48) (Nat.le_of_ble_eq_true rfl) (Nat.le_of_ble_eq_true rfl) ?_
  refine va_putF (D := D) (ci := 2) (v := .ref q_11) (ty := .array .int) (C := "WrongHole$Lift") (T := TX2) (N := 19) hx hb hts (iq_RX2 _) tyX2 tyX2_ok nmX2 hown hK hP hD hS 0 rfl rfl 16 (by decide) (hT _ qq_2_79) (fun _ h9 => h9) rfl hnm rfl (by decide +kernel) rfl rfl (Nat.le_of_ble_eq_true rfl) dX2_init_49 (fun H locs hP hD hS => ?_)
  have hP : va_P D vwCl [(hl0, .inr (2, [.int 0, .int 0, .int 0, .int 0, .int 0, .int 0, .int 0, .int 0, .int 0, .int 0, .int 0, .ref q_1, .ref q_3, .ref q_5, .ref q_7, .ref q_9, .ref q_11, .null, .null])), (q_1, .inl (k_2, 8, .inl (fun _ => 0))), (q_3, .inl (k_4, 8, .inl (fun _ => 0))), (q_5, .inl (k_6, 8, .inl (fun _ => 0))), (q_7, .inl (k_8, 8, .inl (fun _ => 0))), (q_9, .inl (k_10, 8, .inl (fun _ => 0))), (q_11, .inl (k_12, 8, .inl (fun _ => 0)))] H := hP
  have hD : va_D A [(hl0, .inr (2, [.int 0, .int 0, .int 0, .int 0, .int 0, .int 0, .int 0, .int 0, .int 0, .int 0, .int 0, .ref q_1, .ref q_3, .ref q_5, .ref q_7, .ref q_9, .ref q_11, .null, .null])), (q_1, .inl (k_2, 8, .inl (fun _ => 0))), (q_3, .inl (k_4, 8, .inl (fun _ => 0))), (q_5, .inl (k_6, 8, .inl (fun _ => 0))), (q_7, .inl (k_8, 8, .inl (fun _ => 0))), (q_9, .inl (k_10, 8, .inl (fun _ => 0))), (q_11, .inl (k_12, 8, .inl (fun _ => 0)))] := hD
  refine lv_aload_n hx hb dX2_init_52 rfl (lv_at hl 0 rfl) ?_
  refine lv_bipush (v := 6) hx hb dX2_init_53 (by decide) ?_
  refine va_newa (atype := .int) hx hb (hT _ qq_1_86) rfl hK hP hD hS hA (a0 := (6, .inl (fun _ => 0))) (fun _ => rfl) (by decide) (by decide) (Nat.le_of_ble_eq_true rfl) (Nat.le_of_ble_eq_true rfl) (Nat.le_of_ble_eq_true rfl) dX2_init_55 (fun q_13 k_14 H hK hP hD hS => ?_)
  have hK : va_K D vwCl [(k_2, .int), (k_4, .int), (k_6, .int), (k_8, .int), (k_10, .int), (k_12, .int), (k_14, .int)] s := hK
  have hP : va_P D vwCl [(hl0, .inr (2, [.int 0, .int 0, .int 0, .int 0, .int 0, .int 0, .int 0, .int 0, .int 0, .int 0, .int 0, .ref q_1, .ref q_3, .ref q_5, .ref q_7, .ref q_9, .ref q_11, .null, .null])), (q_1, .inl (k_2, 8, .inl (fun _ => 0))), (q_3, .inl (k_4, 8, .inl (fun _ => 0))), (q_5, .inl (k_6, 8, .inl (fun _ => 0))), (q_7, .inl (k_8, 8, .inl (fun _ => 0))), (q_9, .inl (k_10, 8, .inl (fun _ => 0))), (q_11, .inl (k_12, 8, .inl (fun _ => 0))), (q_13, .inl (k_14, 6, .inl (fun _ => 0)))] H := hP
  have hD : va_D A [(hl0, .inr (2, [.int 0, .int 0, .int 0, .int 0, .int 0, .int 0, .int 0, .int 0, .int 0, .int 0, .int 0, .ref q_1, .ref q_3, .ref q_5, .ref q_7, .ref q_9, .ref q_11, .null, .null])), (q_1, .inl (k_2, 8, .inl (fun _ => 0))), (q_3, .inl (k_4, 8, .inl (fun _ => 0))), (q_5, .inl (k_6, 8, .inl (fun _ => 0))), (q_7, .inl (k_8, 8, .inl (fun _ => 0))), (q_9, .inl (k_10, 8, .inl (fun _ => 0))), (q_11, .inl (k_12, 8, .inl (fun _ => 0))), (q_13, .inl (k_14, 6, .inl (fun _ => 0)))] := hD
  refine W.widen (k := 7) (n := 54) (Nat.le_of_ble_eq_true rfl) (Nat.le_of_ble_eq_true rfl) ?_
  refine va_putF (D := D) (ci := 2) (v := .ref q_13) (ty := .array .int) (C := "WrongHole$Lift") (T := TX2) (N := 19) hx hb hts (iq_RX2 _) tyX2 tyX2_ok nmX2 hown hK hP hD hS 0 rfl rfl 17 (by decide) (hT _ qq_2_81) (fun _ h9 => h9) rfl hnm rfl (by decide +kernel) rfl rfl (Nat.le_of_ble_eq_true rfl) dX2_init_57 (fun H locs hP hD hS => ?_)
  have hP : va_P D vwCl [(hl0, .inr (2, [.int 0, .int 0, .int 0, .int 0, .int 0, .int 0, .int 0, .int 0, .int 0, .int 0, .int 0, .ref q_1, .ref q_3, .ref q_5, .ref q_7, .ref q_9, .ref q_11, .ref q_13, .null])), (q_1, .inl (k_2, 8, .inl (fun _ => 0))), (q_3, .inl (k_4, 8, .inl (fun _ => 0))), (q_5, .inl (k_6, 8, .inl (fun _ => 0))), (q_7, .inl (k_8, 8, .inl (fun _ => 0))), (q_9, .inl (k_10, 8, .inl (fun _ => 0))), (q_11, .inl (k_12, 8, .inl (fun _ => 0))), (q_13, .inl (k_14, 6, .inl (fun _ => 0)))] H := hP
  have hD : va_D A [(hl0, .inr (2, [.int 0, .int 0, .int 0, .int 0, .int 0, .int 0, .int 0, .int 0, .int 0, .int 0, .int 0, .ref q_1, .ref q_3, .ref q_5, .ref q_7, .ref q_9, .ref q_11, .ref q_13, .null])), (q_1, .inl (k_2, 8, .inl (fun _ => 0))), (q_3, .inl (k_4, 8, .inl (fun _ => 0))), (q_5, .inl (k_6, 8, .inl (fun _ => 0))), (q_7, .inl (k_8, 8, .inl (fun _ => 0))), (q_9, .inl (k_10, 8, .inl (fun _ => 0))), (q_11, .inl (k_12, 8, .inl (fun _ => 0))), (q_13, .inl (k_14, 6, .inl (fun _ => 0)))] := hD
  refine lv_aload_n hx hb dX2_init_60 rfl (lv_at hl 0 rfl) ?_
  refine lv_bipush (v := 6) hx hb dX2_init_61 (by decide) ?_
  refine va_newa (atype := .int) hx hb (hT _ qq_1_86) rfl hK hP hD hS hA (a0 := (6, .inl (fun _ => 0))) (fun _ => rfl) (by decide) (by decide) (Nat.le_of_ble_eq_true rfl) (Nat.le_of_ble_eq_true rfl) (Nat.le_of_ble_eq_true rfl) dX2_init_63 (fun q_15 k_16 H hK hP hD hS => ?_)
  have hK : va_K D vwCl [(k_2, .int), (k_4, .int), (k_6, .int), (k_8, .int), (k_10, .int), (k_12, .int), (k_14, .int), (k_16, .int)] s := hK
  have hP : va_P D vwCl [(hl0, .inr (2, [.int 0, .int 0, .int 0, .int 0, .int 0, .int 0, .int 0, .int 0, .int 0, .int 0, .int 0, .ref q_1, .ref q_3, .ref q_5, .ref q_7, .ref q_9, .ref q_11, .ref q_13, .null])), (q_1, .inl (k_2, 8, .inl (fun _ => 0))), (q_3, .inl (k_4, 8, .inl (fun _ => 0))), (q_5, .inl (k_6, 8, .inl (fun _ => 0))), (q_7, .inl (k_8, 8, .inl (fun _ => 0))), (q_9, .inl (k_10, 8, .inl (fun _ => 0))), (q_11, .inl (k_12, 8, .inl (fun _ => 0))), (q_13, .inl (k_14, 6, .inl (fun _ => 0))), (q_15, .inl (k_16, 6, .inl (fun _ => 0)))] H := hP
  have hD : va_D A [(hl0, .inr (2, [.int 0, .int 0, .int 0, .int 0, .int 0, .int 0, .int 0, .int 0, .int 0, .int 0, .int 0, .ref q_1, .ref q_3, .ref q_5, .ref q_7, .ref q_9, .ref q_11, .ref q_13, .null])), (q_1, .inl (k_2, 8, .inl (fun _ => 0))), (q_3, .inl (k_4, 8, .inl (fun _ => 0))), (q_5, .inl (k_6, 8, .inl (fun _ => 0))), (q_7, .inl (k_8, 8, .inl (fun _ => 0))), (q_9, .inl (k_10, 8, .inl (fun _ => 0))), (q_11, .inl (k_12, 8, .inl (fun _ => 0))), (q_13, .inl (k_14, 6, .inl (fun _ => 0))), (q_15, .inl (k_16, 6, .inl (fun _ => 0)))] := hD
  refine W.widen (k := 8) (n := 60) (Nat.le_of_ble_eq_true rfl) (Nat.le_of_ble_eq_true rfl) ?_
  refine va_putF (D := D) (ci := 2) (v := .ref q_15) (ty := .array .int) (C := "WrongHole$Lift") (T := TX2) (N := 19) hx hb hts (iq_RX2 _) tyX2 tyX2_ok nmX2 hown hK hP hD hS 0 rfl rfl 18 (by decide) (hT _ qq_2_83) (fun _ h9 => h9) rfl hnm rfl (by decide +kernel) rfl rfl (Nat.le_of_ble_eq_true rfl) dX2_init_65 (fun H locs hP hD hS => ?_)
  have hP : va_P D vwCl [(hl0, .inr (2, [.int 0, .int 0, .int 0, .int 0, .int 0, .int 0, .int 0, .int 0, .int 0, .int 0, .int 0, .ref q_1, .ref q_3, .ref q_5, .ref q_7, .ref q_9, .ref q_11, .ref q_13, .ref q_15])), (q_1, .inl (k_2, 8, .inl (fun _ => 0))), (q_3, .inl (k_4, 8, .inl (fun _ => 0))), (q_5, .inl (k_6, 8, .inl (fun _ => 0))), (q_7, .inl (k_8, 8, .inl (fun _ => 0))), (q_9, .inl (k_10, 8, .inl (fun _ => 0))), (q_11, .inl (k_12, 8, .inl (fun _ => 0))), (q_13, .inl (k_14, 6, .inl (fun _ => 0))), (q_15, .inl (k_16, 6, .inl (fun _ => 0)))] H := hP
  have hD : va_D A [(hl0, .inr (2, [.int 0, .int 0, .int 0, .int 0, .int 0, .int 0, .int 0, .int 0, .int 0, .int 0, .int 0, .ref q_1, .ref q_3, .ref q_5, .ref q_7, .ref q_9, .ref q_11, .ref q_13, .ref q_15])), (q_1, .inl (k_2, 8, .inl (fun _ => 0))), (q_3, .inl (k_4, 8, .inl (fun _ => 0))), (q_5, .inl (k_6, 8, .inl (fun _ => 0))), (q_7, .inl (k_8, 8, .inl (fun _ => 0))), (q_9, .inl (k_10, 8, .inl (fun _ => 0))), (q_11, .inl (k_12, 8, .inl (fun _ => 0))), (q_13, .inl (k_14, 6, .inl (fun _ => 0))), (q_15, .inl (k_16, 6, .inl (fun _ => 0)))] := hD
  refine lv_aload_n hx hb dX2_init_68 rfl (lv_at hl 0 rfl) ?_
  refine va_get (D := D) (ci := 2) (v := .ref q_5) (C := "WrongHole$Lift") (T := TX2) (N := 19) hx hb hts (iq_RX2 _) hown hK hP 0 rfl rfl 13 (by decide) (hT _ qq_2_72) (fun _ h9 => h9) rfl dX2_init_69 ?_
  refine lv_iconst (v := 1) hx hb dX2_init_72 (by decide) ?_
  have hPc := hP.sub (ws' := [(q_5, .inl (k_6, 8, .inl (fun _ => 0)))]) [3] rfl
  have hDc := hD.sub (ws' := [(q_5, .inl (k_6, 8, .inl (fun _ => 0)))]) [3] (by decide) rfl
  have hKc := hK.sub (tys' := [(k_6, .int)]) [2] rfl
  have hFc := va_free (wc := [(q_5, .inl (k_6, 8, .inl (fun _ => 0)))]) hD hS hA [3] rfl
  refine va_callv (va_runS (As := [.ref q_5, .int 1]) (rest := []) ⟨hx, hb, hml, hown, hts⟩ (c_fill_8 l D ad H.size q_5 k_6 (fun _ => 0) 1) ⟨callB_of 2 hts (gd_C qq_1_97) rfl rfl rfl (hT _ qq_1_5) (hT _ qq_2_28) (by decide +kernel) (rm_R rfl rfl), (hT _ qq_1_96)⟩ (pr_S hPc hKc hDc hN) rfl rfl hl.1 rfl (lv_room (Nat.le_of_ble_eq_true rfl)) dX2_init_73 ⟨Nat.le_of_ble_eq_true rfl, Nat.le_of_ble_eq_true rfl⟩) hS (fun q _ h => hFc q h) hFc (fun u_17 t_20 H1 locs ht9 hvm hw_18 hB_19 hz1 hk1 hS => ?_)
  obtain ⟨hP1, hK1, hD1⟩ := hB_19
  rw [ht9] at hP1
  have hK1 := va_K.moved hvm.symm hK1
  obtain ⟨hP, hD⟩ := va_join (wr := [(hl0, .inr (2, [.int 0, .int 0, .int 0, .int 0, .int 0, .int 0, .int 0, .int 0, .int 0, .int 0, .int 0, .ref q_1, .ref q_3, .ref q_5, .ref q_7, .ref q_9, .ref q_11, .ref q_13, .ref q_15])), (q_1, .inl (k_2, 8, .inl (fun _ => 0))), (q_3, .inl (k_4, 8, .inl (fun _ => 0))), (q_7, .inl (k_8, 8, .inl (fun _ => 0))), (q_9, .inl (k_10, 8, .inl (fun _ => 0))), (q_11, .inl (k_12, 8, .inl (fun _ => 0))), (q_13, .inl (k_14, 6, .inl (fun _ => 0))), (q_15, .inl (k_16, 6, .inl (fun _ => 0)))]) (w1 := [(q_5, .inl (k_6, 8, .inl (fun _ => 1)))]) hP hD [3] [0, 1, 2, 4, 5, 6, 7, 8] rfl rfl (by decide) (by decide) hk1 hFc hP1 hD1
  have hK := (hK.sub (tys' := [(k_2, .int), (k_4, .int), (k_8, .int), (k_10, .int), (k_12, .int), (k_14, .int), (k_16, .int)]) [0, 1, 3, 4, 5, 6, 7] rfl).app hK1
  have hK : va_K D vwCl [(k_2, .int), (k_4, .int), (k_8, .int), (k_10, .int), (k_12, .int), (k_14, .int), (k_16, .int), (k_6, .int)] s := hK
  generalize H1 = H at hP hS ⊢
  have hP : va_P D vwCl [(hl0, .inr (2, [.int 0, .int 0, .int 0, .int 0, .int 0, .int 0, .int 0, .int 0, .int 0, .int 0, .int 0, .ref q_1, .ref q_3, .ref q_5, .ref q_7, .ref q_9, .ref q_11, .ref q_13, .ref q_15])), (q_1, .inl (k_2, 8, .inl (fun _ => 0))), (q_3, .inl (k_4, 8, .inl (fun _ => 0))), (q_7, .inl (k_8, 8, .inl (fun _ => 0))), (q_9, .inl (k_10, 8, .inl (fun _ => 0))), (q_11, .inl (k_12, 8, .inl (fun _ => 0))), (q_13, .inl (k_14, 6, .inl (fun _ => 0))), (q_15, .inl (k_16, 6, .inl (fun _ => 0))), (q_5, .inl (k_6, 8, .inl (fun _ => 1)))] H := hP
  have hD : va_D A [(hl0, .inr (2, [.int 0, .int 0, .int 0, .int 0, .int 0, .int 0, .int 0, .int 0, .int 0, .int 0, .int 0, .ref q_1, .ref q_3, .ref q_5, .ref q_7, .ref q_9, .ref q_11, .ref q_13, .ref q_15])), (q_1, .inl (k_2, 8, .inl (fun _ => 0))), (q_3, .inl (k_4, 8, .inl (fun _ => 0))), (q_7, .inl (k_8, 8, .inl (fun _ => 0))), (q_9, .inl (k_10, 8, .inl (fun _ => 0))), (q_11, .inl (k_12, 8, .inl (fun _ => 0))), (q_13, .inl (k_14, 6, .inl (fun _ => 0))), (q_15, .inl (k_16, 6, .inl (fun _ => 0))), (q_5, .inl (k_6, 8, .inl (fun _ => 1)))] := hD
  refine lv_aload_n hx hb dX2_init_76 rfl (lv_at hl 0 rfl) ?_
  refine va_get (D := D) (ci := 2) (v := .ref q_7) (C := "WrongHole$Lift") (T := TX2) (N := 19) hx hb hts (iq_RX2 _) hown hK hP 0 rfl rfl 14 (by decide) (hT _ qq_2_74) (fun _ h9 => h9) rfl dX2_init_77 ?_
  refine lv_iconst (v := 2) hx hb dX2_init_80 (by decide) ?_
  have hPc := hP.sub (ws' := [(q_7, .inl (k_8, 8, .inl (fun _ => 0)))]) [3] rfl
  have hDc := hD.sub (ws' := [(q_7, .inl (k_8, 8, .inl (fun _ => 0)))]) [3] (by decide) rfl
  have hKc := hK.sub (tys' := [(k_8, .int)]) [2] rfl
  have hFc := va_free (wc := [(q_7, .inl (k_8, 8, .inl (fun _ => 0)))]) hD hS hA [3] rfl
  refine va_callv (va_runS (As := [.ref q_7, .int 2]) (rest := []) ⟨hx, hb, hml, hown, hts⟩ (c_fill_8 l D ad H.size q_7 k_8 (fun _ => 0) 2) ⟨callB_of 2 hts (gd_C qq_1_97) rfl rfl rfl (hT _ qq_1_5) (hT _ qq_2_28) (by decide +kernel) (rm_R rfl rfl), (hT _ qq_1_96)⟩ (pr_S hPc hKc hDc hN) rfl rfl hl.1 rfl (lv_room (Nat.le_of_ble_eq_true rfl)) dX2_init_81 ⟨Nat.le_of_ble_eq_true rfl, Nat.le_of_ble_eq_true rfl⟩) hS (fun q _ h => hFc q h) hFc (fun u_21 t_24 H1 locs ht9 hvm hw_22 hB_23 hz1 hk1 hS => ?_)
  obtain ⟨hP1, hK1, hD1⟩ := hB_23
  rw [ht9] at hP1
  have hK1 := va_K.moved hvm.symm hK1
  obtain ⟨hP, hD⟩ := va_join (wr := [(hl0, .inr (2, [.int 0, .int 0, .int 0, .int 0, .int 0, .int 0, .int 0, .int 0, .int 0, .int 0, .int 0, .ref q_1, .ref q_3, .ref q_5, .ref q_7, .ref q_9, .ref q_11, .ref q_13, .ref q_15])), (q_1, .inl (k_2, 8, .inl (fun _ => 0))), (q_3, .inl (k_4, 8, .inl (fun _ => 0))), (q_9, .inl (k_10, 8, .inl (fun _ => 0))), (q_11, .inl (k_12, 8, .inl (fun _ => 0))), (q_13, .inl (k_14, 6, .inl (fun _ => 0))), (q_15, .inl (k_16, 6, .inl (fun _ => 0))), (q_5, .inl (k_6, 8, .inl (fun _ => 1)))]) (w1 := [(q_7, .inl (k_8, 8, .inl (fun _ => 2)))]) hP hD [3] [0, 1, 2, 4, 5, 6, 7, 8] rfl rfl (by decide) (by decide) hk1 hFc hP1 hD1
  have hK := (hK.sub (tys' := [(k_2, .int), (k_4, .int), (k_10, .int), (k_12, .int), (k_14, .int), (k_16, .int), (k_6, .int)]) [0, 1, 3, 4, 5, 6, 7] rfl).app hK1
  have hK : va_K D vwCl [(k_2, .int), (k_4, .int), (k_10, .int), (k_12, .int), (k_14, .int), (k_16, .int), (k_6, .int), (k_8, .int)] s := hK
  generalize H1 = H at hP hS ⊢
  have hP : va_P D vwCl [(hl0, .inr (2, [.int 0, .int 0, .int 0, .int 0, .int 0, .int 0, .int 0, .int 0, .int 0, .int 0, .int 0, .ref q_1, .ref q_3, .ref q_5, .ref q_7, .ref q_9, .ref q_11, .ref q_13, .ref q_15])), (q_1, .inl (k_2, 8, .inl (fun _ => 0))), (q_3, .inl (k_4, 8, .inl (fun _ => 0))), (q_9, .inl (k_10, 8, .inl (fun _ => 0))), (q_11, .inl (k_12, 8, .inl (fun _ => 0))), (q_13, .inl (k_14, 6, .inl (fun _ => 0))), (q_15, .inl (k_16, 6, .inl (fun _ => 0))), (q_5, .inl (k_6, 8, .inl (fun _ => 1))), (q_7, .inl (k_8, 8, .inl (fun _ => 2)))] H := hP
  have hD : va_D A [(hl0, .inr (2, [.int 0, .int 0, .int 0, .int 0, .int 0, .int 0, .int 0, .int 0, .int 0, .int 0, .int 0, .ref q_1, .ref q_3, .ref q_5, .ref q_7, .ref q_9, .ref q_11, .ref q_13, .ref q_15])), (q_1, .inl (k_2, 8, .inl (fun _ => 0))), (q_3, .inl (k_4, 8, .inl (fun _ => 0))), (q_9, .inl (k_10, 8, .inl (fun _ => 0))), (q_11, .inl (k_12, 8, .inl (fun _ => 0))), (q_13, .inl (k_14, 6, .inl (fun _ => 0))), (q_15, .inl (k_16, 6, .inl (fun _ => 0))), (q_5, .inl (k_6, 8, .inl (fun _ => 1))), (q_7, .inl (k_8, 8, .inl (fun _ => 2)))] := hD
  refine lv_aload_n hx hb dX2_init_84 rfl (lv_at hl 0 rfl) ?_
  refine va_get (D := D) (ci := 2) (v := .ref q_9) (C := "WrongHole$Lift") (T := TX2) (N := 19) hx hb hts (iq_RX2 _) hown hK hP 0 rfl rfl 15 (by decide) (hT _ qq_2_76) (fun _ h9 => h9) rfl dX2_init_85 ?_
  refine lv_iconst (v := 1) hx hb dX2_init_88 (by decide) ?_
  have hPc := hP.sub (ws' := [(q_9, .inl (k_10, 8, .inl (fun _ => 0)))]) [3] rfl
  have hDc := hD.sub (ws' := [(q_9, .inl (k_10, 8, .inl (fun _ => 0)))]) [3] (by decide) rfl
  have hKc := hK.sub (tys' := [(k_10, .int)]) [2] rfl
  have hFc := va_free (wc := [(q_9, .inl (k_10, 8, .inl (fun _ => 0)))]) hD hS hA [3] rfl
  refine va_callv (va_runS (As := [.ref q_9, .int 1]) (rest := []) ⟨hx, hb, hml, hown, hts⟩ (c_fill_8 l D ad H.size q_9 k_10 (fun _ => 0) 1) ⟨callB_of 2 hts (gd_C qq_1_97) rfl rfl rfl (hT _ qq_1_5) (hT _ qq_2_28) (by decide +kernel) (rm_R rfl rfl), (hT _ qq_1_96)⟩ (pr_S hPc hKc hDc hN) rfl rfl hl.1 rfl (lv_room (Nat.le_of_ble_eq_true rfl)) dX2_init_89 ⟨Nat.le_of_ble_eq_true rfl, Nat.le_of_ble_eq_true rfl⟩) hS (fun q _ h => hFc q h) hFc (fun u_25 t_28 H1 locs ht9 hvm hw_26 hB_27 hz1 hk1 hS => ?_)
  obtain ⟨hP1, hK1, hD1⟩ := hB_27
  rw [ht9] at hP1
  have hK1 := va_K.moved hvm.symm hK1
  obtain ⟨hP, hD⟩ := va_join (wr := [(hl0, .inr (2, [.int 0, .int 0, .int 0, .int 0, .int 0, .int 0, .int 0, .int 0, .int 0, .int 0, .int 0, .ref q_1, .ref q_3, .ref q_5, .ref q_7, .ref q_9, .ref q_11, .ref q_13, .ref q_15])), (q_1, .inl (k_2, 8, .inl (fun _ => 0))), (q_3, .inl (k_4, 8, .inl (fun _ => 0))), (q_11, .inl (k_12, 8, .inl (fun _ => 0))), (q_13, .inl (k_14, 6, .inl (fun _ => 0))), (q_15, .inl (k_16, 6, .inl (fun _ => 0))), (q_5, .inl (k_6, 8, .inl (fun _ => 1))), (q_7, .inl (k_8, 8, .inl (fun _ => 2)))]) (w1 := [(q_9, .inl (k_10, 8, .inl (fun _ => 1)))]) hP hD [3] [0, 1, 2, 4, 5, 6, 7, 8] rfl rfl (by decide) (by decide) hk1 hFc hP1 hD1
  have hK := (hK.sub (tys' := [(k_2, .int), (k_4, .int), (k_12, .int), (k_14, .int), (k_16, .int), (k_6, .int), (k_8, .int)]) [0, 1, 3, 4, 5, 6, 7] rfl).app hK1
  have hK : va_K D vwCl [(k_2, .int), (k_4, .int), (k_12, .int), (k_14, .int), (k_16, .int), (k_6, .int), (k_8, .int), (k_10, .int)] s := hK
  generalize H1 = H at hP hS ⊢
  have hP : va_P D vwCl [(hl0, .inr (2, [.int 0, .int 0, .int 0, .int 0, .int 0, .int 0, .int 0, .int 0, .int 0, .int 0, .int 0, .ref q_1, .ref q_3, .ref q_5, .ref q_7, .ref q_9, .ref q_11, .ref q_13, .ref q_15])), (q_1, .inl (k_2, 8, .inl (fun _ => 0))), (q_3, .inl (k_4, 8, .inl (fun _ => 0))), (q_11, .inl (k_12, 8, .inl (fun _ => 0))), (q_13, .inl (k_14, 6, .inl (fun _ => 0))), (q_15, .inl (k_16, 6, .inl (fun _ => 0))), (q_5, .inl (k_6, 8, .inl (fun _ => 1))), (q_7, .inl (k_8, 8, .inl (fun _ => 2))), (q_9, .inl (k_10, 8, .inl (fun _ => 1)))] H := hP
  have hD : va_D A [(hl0, .inr (2, [.int 0, .int 0, .int 0, .int 0, .int 0, .int 0, .int 0, .int 0, .int 0, .int 0, .int 0, .ref q_1, .ref q_3, .ref q_5, .ref q_7, .ref q_9, .ref q_11, .ref q_13, .ref q_15])), (q_1, .inl (k_2, 8, .inl (fun _ => 0))), (q_3, .inl (k_4, 8, .inl (fun _ => 0))), (q_11, .inl (k_12, 8, .inl (fun _ => 0))), (q_13, .inl (k_14, 6, .inl (fun _ => 0))), (q_15, .inl (k_16, 6, .inl (fun _ => 0))), (q_5, .inl (k_6, 8, .inl (fun _ => 1))), (q_7, .inl (k_8, 8, .inl (fun _ => 2))), (q_9, .inl (k_10, 8, .inl (fun _ => 1)))] := hD
  refine W.widen (k := 8) (n := 60) (Nat.le_of_ble_eq_true rfl) (Nat.le_of_ble_eq_true rfl) ?_
  have hP9 := hP.sub (ws' := [(hl0, .inr (2, [.int 0, .int 0, .int 0, .int 0, .int 0, .int 0, .int 0, .int 0, .int 0, .int 0, .int 0, .ref q_1, .ref q_3, .ref q_5, .ref q_7, .ref q_9, .ref q_11, .ref q_13, .ref q_15]))]) [0] rfl
  have hD9 := hD.sub (ws' := [(hl0, .inr (2, [.int 0, .int 0, .int 0, .int 0, .int 0, .int 0, .int 0, .int 0, .int 0, .int 0, .int 0, .ref q_1, .ref q_3, .ref q_5, .ref q_7, .ref q_9, .ref q_11, .ref q_13, .ref q_15]))]) [0] (by decide) rfl
  have hK9 := hK.sub (tys' := []) [] rfl
  exact W.vret hx hb hr (fun t9 ht9 hW9 => ⟨⟨(), rfl, trivial, ⟨q_1, q_3, q_5, q_7, q_9, q_11, q_13, q_15, by rw [ht9]; exact hP9, va_K.moved hW9.alike hK9, hD9⟩⟩, hS.F ht9⟩) hS.2.2 dX2_init_92
theorem dX2_finish_0 : decode cX2_finish 0 = .ok (.aload_n 0, 1) := by decide +kernel
theorem dX2_finish_1 : decode cX2_finish 1 = .ok (.getfield 40, 3) := by decide +kernel
theorem qq_2_49 : Cond.fieldLink "WrongHole$Lift" 40 "WrongHole$Lift" "beside" "I" ∈ TB := mk_tb (ti_2 (List.mem_of_getElem? (i := 49) rfl)) rfl
theorem dX2_finish_4 : decode cX2_finish 4 = .ok (.ifCond .ne 9, 3) := by decide +kernel
theorem dX2_finish_7 : decode cX2_finish 7 = .ok (.aload_n 0, 1) := by decide +kernel
theorem dX2_finish_8 : decode cX2_finish 8 = .ok (.bipush 8, 2) := by decide +kernel
theorem dX2_finish_10 : decode cX2_finish 10 = .ok (.putfield 40, 3) := by decide +kernel
theorem dX2_finish_13 : decode cX2_finish 13 = .ok (.iconst 0, 1) := by decide +kernel
theorem dX2_finish_14 : decode cX2_finish 14 = .ok (.istore_n 1, 1) := by decide +kernel
theorem dX2_finish_15 : decode cX2_finish 15 = .ok (.iload_n 1, 1) := by decide +kernel
theorem dX2_finish_16 : decode cX2_finish 16 = .ok (.aload_n 0, 1) := by decide +kernel
theorem dX2_finish_17 : decode cX2_finish 17 = .ok (.getfield 44, 3) := by decide +kernel
theorem qq_2_29 : Cond.fieldLink "WrongHole$Lift" 44 "WrongHole$Lift" "buttons" "I" ∈ TB := mk_tb (ti_2 (List.mem_of_getElem? (i := 29) rfl)) rfl
theorem dX2_finish_20 : decode cX2_finish 20 = .ok (.if_icmp .ge 67, 3) := by decide +kernel
theorem dX2_finish_87 : decode cX2_finish 87 = .ok (.return_, 1) := by decide +kernel
set_option maxHeartbeats 4000000 in
set_option maxRecDepth 100000 in
theorem c_finish (l : Launch) (D : va_G) (ad : Nat → Nat) (sz : Nat) (hl0 : Nat) (l0 : Nat) (l1 : Nat) (l2 : Nat) (l3 : Nat) (l4 : Nat) (l5 : Nat) (l6 : Nat) (l7 : Nat)  : Met l yX2_finish (Cond.code yX2_finish cX2_finish 4 none :: TB) (RM 0 0 0) (va_Pc [.ref hl0] (PRE D ad [(hl0, .inr (2, [.int 0, .int 0, .int 0, .int 0, .int 0, .int 0, .int 0, .int 0, .int 0, .int 0, .int 0, .ref l0, .ref l1, .ref l2, .ref l3, .ref l4, .ref l5, .ref l6, .ref l7]))] [] sz)) (va_Qv (S := Unit) (fun _ => True) (fun _ t => va_P D vwCl [(hl0, .inr (2, [.int 0, .int 0, .int 0, .int 0, .int 0, .int 8, .int 0, .int 0, .int 0, .int 0, .int 0, .ref l0, .ref l1, .ref l2, .ref l3, .ref l4, .ref l5, .ref l6, .ref l7]))] t.heap ∧ va_K D vwCl [] t ∧ va_D (va_A [(hl0, .inr (2, [.int 0, .int 0, .int 0, .int 0, .int 0, .int 0, .int 0, .int 0, .int 0, .int 0, .int 0, .ref l0, .ref l1, .ref l2, .ref l3, .ref l4, .ref l5, .ref l6, .ref l7]))] sz) [(hl0, .inr (2, [.int 0, .int 0, .int 0, .int 0, .int 0, .int 8, .int 0, .int 0, .int 0, .int 0, .int 0, .ref l0, .ref l1, .ref l2, .ref l3, .ref l4, .ref l5, .ref l6, .ref l7]))]) (va_A [(hl0, .inr (2, [.int 0, .int 0, .int 0, .int 0, .int 0, .int 0, .int 0, .int 0, .int 0, .int 0, .int 0, .ref l0, .ref l1, .ref l2, .ref l3, .ref l4, .ref l5, .ref l6, .ref l7]))] sz)) 0 0 (va_A [(hl0, .inr (2, [.int 0, .int 0, .int 0, .int 0, .int 0, .int 0, .int 0, .int 0, .int 0, .int 0, .int 0, .ref l0, .ref l1, .ref l2, .ref l3, .ref l4, .ref l5, .ref l6, .ref l7]))] sz) := by
  refine MET (y := yX2_finish) (cc := cX2_finish) (maxL := 4) (ret := none) (d := 0) (mc := 0) (ms := 0) (D := D) (ad := ad) (ws := [(hl0, .inr (2, [.int 0, .int 0, .int 0, .int 0, .int 0, .int 0, .int 0, .int 0, .int 0, .int 0, .int 0, .ref l0, .ref l1, .ref l2, .ref l3, .ref l4, .ref l5, .ref l6, .ref l7]))]) (tys := []) (sz := sz) (av := [.ref hl0]) (Qc := fun A => va_Qv (S := Unit) (fun _ => True) (fun _ t => va_P D vwCl [(hl0, .inr (2, [.int 0, .int 0, .int 0, .int 0, .int 0, .int 8, .int 0, .int 0, .int 0, .int 0, .int 0, .ref l0, .ref l1, .ref l2, .ref l3, .ref l4, .ref l5, .ref l6, .ref l7]))] t.heap ∧ va_K D vwCl [] t ∧ va_D A [(hl0, .inr (2, [.int 0, .int 0, .int 0, .int 0, .int 0, .int 8, .int 0, .int 0, .int 0, .int 0, .int 0, .ref l0, .ref l1, .ref l2, .ref l3, .ref l4, .ref l5, .ref l6, .ref l7]))]) A) (fr := fun A => A) (by decide) (Nat.le_of_ble_eq_true rfl) ?_
  intro p e s m below meth c ls A H hHe hx hb hr hml hown hts hlocks hnm hP hK hD hA hS hN hl
  have hown : s.vm.findClass "WrongHole$Lift" = some m.cls := hown
  have hT : ∀ w ∈ TB, w.before ([.ref hl0] : List Value).toArray s = true := fun w h => hts w (List.mem_cons_of_mem _ h)
  have hl : lv_has ls 4 [(0, .ref hl0)] := hl
  have hP : va_P D vwCl [(hl0, .inr (2, [.int 0, .int 0, .int 0, .int 0, .int 0, .int 0, .int 0, .int 0, .int 0, .int 0, .int 0, .ref l0, .ref l1, .ref l2, .ref l3, .ref l4, .ref l5, .ref l6, .ref l7]))] H := hP
  refine lv_aload_n hx hb dX2_finish_0 rfl (lv_at hl 0 rfl) ?_
  refine va_get (D := D) (ci := 2) (v := .int 0) (C := "WrongHole$Lift") (T := TX2) (N := 19) hx hb hts (iq_RX2 _) hown hK hP 0 rfl rfl 5 (by decide) (hT _ qq_2_49) (fun _ h9 => h9) rfl dX2_finish_1 ?_
  refine lv_if_ne (tgt := 13) hx hb dX2_finish_4 (by decide) (fun c_1 => absurd (by decide) c_1) (fun _ => ?_)
  refine lv_aload_n hx hb dX2_finish_7 rfl (lv_at hl 0 rfl) ?_
  refine lv_bipush (v := 8) hx hb dX2_finish_8 (by decide) ?_
  refine va_put (D := D) (ci := 2) (v := .int 8) (ty := .int) (C := "WrongHole$Lift") (T := TX2) (N := 19) hx hb hts (iq_RX2 _) tyX2 tyX2_ok nmX2 hown hK hP hD hS 0 rfl rfl 5 (by decide) (hT _ qq_2_49) (fun _ h9 => h9) rfl (by decide +kernel) rfl rfl (Nat.le_of_ble_eq_true rfl) dX2_finish_10 (fun H locs hP hD hS => ?_)
  have hP : va_P D vwCl [(hl0, .inr (2, [.int 0, .int 0, .int 0, .int 0, .int 0, .int 8, .int 0, .int 0, .int 0, .int 0, .int 0, .ref l0, .ref l1, .ref l2, .ref l3, .ref l4, .ref l5, .ref l6, .ref l7]))] H := hP
  have hD : va_D A [(hl0, .inr (2, [.int 0, .int 0, .int 0, .int 0, .int 0, .int 8, .int 0, .int 0, .int 0, .int 0, .int 0, .ref l0, .ref l1, .ref l2, .ref l3, .ref l4, .ref l5, .ref l6, .ref l7]))] := hD
  refine lv_iconst (v := 0) hx hb dX2_finish_13 (by decide) ?_
  refine lv_istore_n (lv' := [(1, .int 0), (0, .ref hl0)]) hx hb dX2_finish_14 rfl hl (by decide) rfl (fun ls hl => ?_)
  refine lv_iload_n hx hb dX2_finish_15 rfl (lv_at hl 0 rfl) ?_
  refine lv_aload_n hx hb dX2_finish_16 rfl (lv_at hl 1 rfl) ?_
  refine va_get (D := D) (ci := 2) (v := .int 0) (C := "WrongHole$Lift") (T := TX2) (N := 19) hx hb hts (iq_RX2 _) hown hK hP 0 rfl rfl 0 (by decide) (hT _ qq_2_29) (fun _ h9 => h9) rfl dX2_finish_17 ?_
  refine lv_icmp_ge (tgt := 87) hx hb dX2_finish_20 (by decide) (fun _ => ?_) (fun c_2 => absurd (by decide) c_2)
  refine W.widen (k := 0) (n := 0) (Nat.le_of_ble_eq_true rfl) (Nat.le_of_ble_eq_true rfl) ?_
  have hP9 := hP.sub (ws' := [(hl0, .inr (2, [.int 0, .int 0, .int 0, .int 0, .int 0, .int 8, .int 0, .int 0, .int 0, .int 0, .int 0, .ref l0, .ref l1, .ref l2, .ref l3, .ref l4, .ref l5, .ref l6, .ref l7]))]) [0] rfl
  have hD9 := hD.sub (ws' := [(hl0, .inr (2, [.int 0, .int 0, .int 0, .int 0, .int 0, .int 8, .int 0, .int 0, .int 0, .int 0, .int 0, .ref l0, .ref l1, .ref l2, .ref l3, .ref l4, .ref l5, .ref l6, .ref l7]))]) [0] (by decide) rfl
  have hK9 := hK.sub (tys' := []) [] rfl
  exact W.vret hx hb hr (fun t9 ht9 hW9 => ⟨⟨(), rfl, trivial, ⟨by rw [ht9]; exact hP9, va_K.moved hW9.alike hK9, hD9⟩⟩, hS.F ht9⟩) hS.2.2 dX2_finish_87
theorem dX3_readLift_0 : decode cX3_readLift 0 = .ok (.new 9, 3) := by decide +kernel
theorem qq_2_22 : Cond.classLink "WrongHole$LiftReader" 9 "WrongHole$Lift" ∈ TB := mk_tb (ti_2 (List.mem_of_getElem? (i := 22) rfl)) rfl
theorem qq_2_23 : Cond.instantiable "WrongHole$Lift" 19 ∈ TB := mk_tb (ti_2 (List.mem_of_getElem? (i := 23) rfl)) rfl
theorem qq_1_11 : Cond.initialized "WrongHole$Lift" ∈ TB := mk_tb (ti_1 (List.mem_of_getElem? (i := 11) rfl)) rfl
theorem fv_RX2 : ∀ j, j < 19 → defaultValue (tyX2 j) = vp_V [.int 0, .int 0, .int 0, .int 0, .int 0, .int 0, .int 0, .int 0, .int 0, .int 0, .int 0, .null, .null, .null, .null, .null, .null, .null, .null] j := by
  intro j hj
  match j, hj with
  | 0, _ => rfl
  | 1, _ => rfl
  | 2, _ => rfl
  | 3, _ => rfl
  | 4, _ => rfl
  | 5, _ => rfl
  | 6, _ => rfl
  | 7, _ => rfl
  | 8, _ => rfl
  | 9, _ => rfl
  | 10, _ => rfl
  | 11, _ => rfl
  | 12, _ => rfl
  | 13, _ => rfl
  | 14, _ => rfl
  | 15, _ => rfl
  | 16, _ => rfl
  | 17, _ => rfl
  | 18, _ => rfl
  | n + 19, h => exact absurd h (by omega)
theorem dX3_readLift_3 : decode cX3_readLift 3 = .ok (.dup, 1) := by decide +kernel
theorem dX3_readLift_4 : decode cX3_readLift 4 = .ok (.invokespecial 11, 3) := by decide +kernel
theorem qq_2_26 : Cond.code yX2_init cX2_init 1 none ∈ TB := mk_tb (ti_2 (List.mem_of_getElem? (i := 26) rfl)) rfl
theorem qq_2_24 : Cond.methodLink "WrongHole$LiftReader" 11 yX2_init ∈ TB := mk_tb (ti_2 (List.mem_of_getElem? (i := 24) rfl)) rfl
theorem qq_2_25 : Cond.instanceMethod yX2_init ∈ TB := mk_tb (ti_2 (List.mem_of_getElem? (i := 25) rfl)) rfl
theorem dX3_readLift_7 : decode cX3_readLift 7 = .ok (.astore_n 1, 1) := by decide +kernel
theorem dX3_readLift_8 : decode cX3_readLift 8 = .ok (.aload_n 0, 1) := by decide +kernel
theorem dX3_readLift_9 : decode cX3_readLift 9 = .ok (.invokevirtual 12, 3) := by decide +kernel
theorem qq_2_127 : Cond.code yX9_restart cX9_restart 1 none ∈ TB := mk_tb (ti_2 (List.mem_of_getElem? (i := 127) rfl)) rfl
theorem qq_2_124 : Cond.methodLink "WrongHole$LiftReader" 12 yX9_restart ∈ TB := mk_tb (ti_2 (List.mem_of_getElem? (i := 124) rfl)) rfl
theorem qq_2_125 : Cond.instanceMethod yX9_restart ∈ TB := mk_tb (ti_2 (List.mem_of_getElem? (i := 125) rfl)) rfl
theorem qq_2_126 : Cond.selects "WrongHole$Text" yX9_restart yX9_restart ∈ TB := mk_tb (ti_2 (List.mem_of_getElem? (i := 126) rfl)) rfl
theorem dX3_readLift_12 : decode cX3_readLift 12 = .ok (.iconst 0, 1) := by decide +kernel
theorem dX3_readLift_13 : decode cX3_readLift 13 = .ok (.istore_n 2, 1) := by decide +kernel
theorem dX3_readLift_14 : decode cX3_readLift 14 = .ok (.iload_n 2, 1) := by decide +kernel
theorem dX3_readLift_15 : decode cX3_readLift 15 = .ok (.bipush 40, 2) := by decide +kernel
theorem dX3_readLift_17 : decode cX3_readLift 17 = .ok (.if_icmp .gt 86, 3) := by decide +kernel
theorem dX3_readLift_20 : decode cX3_readLift 20 = .ok (.aload_n 0, 1) := by decide +kernel
theorem dX3_readLift_21 : decode cX3_readLift 21 = .ok (.invokevirtual 19, 3) := by decide +kernel
theorem qq_2_148 : Cond.code yX9_sound cX9_sound 1 (some .boolean) ∈ TB := mk_tb (ti_2 (List.mem_of_getElem? (i := 148) rfl)) rfl
theorem qq_2_145 : Cond.methodLink "WrongHole$LiftReader" 19 yX9_sound ∈ TB := mk_tb (ti_2 (List.mem_of_getElem? (i := 145) rfl)) rfl
theorem qq_2_146 : Cond.instanceMethod yX9_sound ∈ TB := mk_tb (ti_2 (List.mem_of_getElem? (i := 146) rfl)) rfl
theorem qq_2_147 : Cond.selects "WrongHole$Text" yX9_sound yX9_sound ∈ TB := mk_tb (ti_2 (List.mem_of_getElem? (i := 147) rfl)) rfl
theorem dX3_readLift_24 : decode cX3_readLift 24 = .ok (.ifCond .eq 79, 3) := by decide +kernel
theorem dX3_readLift_27 : decode cX3_readLift 27 = .ok (.aload_n 0, 1) := by decide +kernel
theorem dX3_readLift_28 : decode cX3_readLift 28 = .ok (.ldc 23, 2) := by decide +kernel
theorem dX3_readLift_30 : decode cX3_readLift 30 = .ok (.invokevirtual 25, 3) := by decide +kernel
theorem qq_2_153 : Cond.code yX9_whichWord cX9_whichWord 6 (some .int) ∈ TB := mk_tb (ti_2 (List.mem_of_getElem? (i := 153) rfl)) rfl
theorem qq_2_150 : Cond.methodLink "WrongHole$LiftReader" 25 yX9_whichWord ∈ TB := mk_tb (ti_2 (List.mem_of_getElem? (i := 150) rfl)) rfl
theorem qq_2_151 : Cond.instanceMethod yX9_whichWord ∈ TB := mk_tb (ti_2 (List.mem_of_getElem? (i := 151) rfl)) rfl
theorem qq_2_152 : Cond.selects "WrongHole$Text" yX9_whichWord yX9_whichWord ∈ TB := mk_tb (ti_2 (List.mem_of_getElem? (i := 152) rfl)) rfl
theorem dX3_readLift_33 : decode cX3_readLift 33 = .ok (.istore_n 3, 1) := by decide +kernel
theorem dX3_readLift_34 : decode cX3_readLift 34 = .ok (.iload_n 3, 1) := by decide +kernel
theorem dX3_readLift_35 : decode cX3_readLift 35 = .ok (.iconst (-1), 1) := by decide +kernel
theorem dX3_readLift_36 : decode cX3_readLift 36 = .ok (.if_icmp .ne 11, 3) := by decide +kernel
theorem dX3_readLift_39 : decode cX3_readLift 39 = .ok (.aload_n 0, 1) := by decide +kernel
theorem dX3_readLift_40 : decode cX3_readLift 40 = .ok (.iconst 0, 1) := by decide +kernel
theorem dX3_readLift_41 : decode cX3_readLift 41 = .ok (.invokevirtual 29, 3) := by decide +kernel
theorem qq_2_205 : Cond.code yX9_failHere cX9_failHere 2 none ∈ TB := mk_tb (ti_2 (List.mem_of_getElem? (i := 205) rfl)) rfl
theorem qq_2_202 : Cond.methodLink "WrongHole$LiftReader" 29 yX9_failHere ∈ TB := mk_tb (ti_2 (List.mem_of_getElem? (i := 202) rfl)) rfl
theorem qq_2_203 : Cond.instanceMethod yX9_failHere ∈ TB := mk_tb (ti_2 (List.mem_of_getElem? (i := 203) rfl)) rfl
theorem qq_2_204 : Cond.selects "WrongHole$Text" yX9_failHere yX9_failHere ∈ TB := mk_tb (ti_2 (List.mem_of_getElem? (i := 204) rfl)) rfl
theorem dX3_readLift_44 : decode cX3_readLift 44 = .ok (.goto 36, 3) := by decide +kernel
theorem dX3_readLift_80 : decode cX3_readLift 80 = .ok (.aload_n 0, 1) := by decide +kernel
theorem dX3_readLift_81 : decode cX3_readLift 81 = .ok (.getfield 44, 3) := by decide +kernel
theorem nq_1_39 : Cond.fieldLinkNest "WrongHole$LiftReader" 44 "WrongHole$Text" "kind" "I" "WrongHole" ∈ NW := mk_nw (ti_1 (List.mem_of_getElem? (i := 39) rfl)) rfl
theorem dX3_readLift_84 : decode cX3_readLift 84 = .ok (.iconst (-1), 1) := by decide +kernel
theorem dX3_readLift_85 : decode cX3_readLift 85 = .ok (.if_icmp .ne 6, 3) := by decide +kernel
theorem dX3_readLift_88 : decode cX3_readLift 88 = .ok (.goto 15, 3) := by decide +kernel
theorem dX3_readLift_103 : decode cX3_readLift 103 = .ok (.aload_n 1, 1) := by decide +kernel
theorem dX3_readLift_104 : decode cX3_readLift 104 = .ok (.invokevirtual 51, 3) := by decide +kernel
theorem qq_3_57 : Cond.code yX2_finish cX2_finish 4 none ∈ TB := mk_tb (ti_3 (List.mem_of_getElem? (i := 57) rfl)) rfl
theorem qq_3_54 : Cond.methodLink "WrongHole$LiftReader" 51 yX2_finish ∈ TB := mk_tb (ti_3 (List.mem_of_getElem? (i := 54) rfl)) rfl
theorem qq_3_55 : Cond.instanceMethod yX2_finish ∈ TB := mk_tb (ti_3 (List.mem_of_getElem? (i := 55) rfl)) rfl
theorem qq_3_56 : Cond.selects "WrongHole$Lift" yX2_finish yX2_finish ∈ TB := mk_tb (ti_3 (List.mem_of_getElem? (i := 56) rfl)) rfl
theorem dX3_readLift_107 : decode cX3_readLift 107 = .ok (.aload_n 1, 1) := by decide +kernel
theorem dX3_readLift_108 : decode cX3_readLift 108 = .ok (.areturn, 1) := by decide +kernel
set_option maxHeartbeats 4000000 in
set_option maxRecDepth 100000 in
theorem c_readLift (l : Launch) (D : va_G) (ad : Nat → Nat) (sz : Nat) (ht : Nat) (hs : Nat)  : Met l yX3_readLift (Cond.code yX3_readLift cX3_readLift 4 (some (.object "WrongHole$Lift")) :: TB) (RM 4 9 79) (va_Pc [.ref ht] (PRE D ad [(ht, .inr (7, [.ref hs, .int 0, .int 0, .int 0, .int 0, .int 0, .int 0, .int 0]))] [] sz)) (va_Qr (S := Unit) (fun _ => True) (fun _ RA t => va_P D vwCl [(ht, .inr (7, [.ref hs, .int 0, .int (-1), .int 0, .int 0, .int 0, .int 0, .int 1]))] t.heap ∧ va_K D vwCl [] t ∧ va_D (va_A [(ht, .inr (7, [.ref hs, .int 0, .int 0, .int 0, .int 0, .int 0, .int 0, .int 0]))] sz) [(ht, .inr (7, [.ref hs, .int 0, .int (-1), .int 0, .int 0, .int 0, .int 0, .int 1]))]) (va_A [(ht, .inr (7, [.ref hs, .int 0, .int 0, .int 0, .int 0, .int 0, .int 0, .int 0]))] sz)) 9 79 (va_A [(ht, .inr (7, [.ref hs, .int 0, .int 0, .int 0, .int 0, .int 0, .int 0, .int 0]))] sz) := by
  refine MET (y := yX3_readLift) (cc := cX3_readLift) (maxL := 4) (ret := (some (.object "WrongHole$Lift"))) (d := 4) (mc := 9) (ms := 79) (D := D) (ad := ad) (ws := [(ht, .inr (7, [.ref hs, .int 0, .int 0, .int 0, .int 0, .int 0, .int 0, .int 0]))]) (tys := []) (sz := sz) (av := [.ref ht]) (Qc := fun A => va_Qr (S := Unit) (fun _ => True) (fun _ RA t => va_P D vwCl [(ht, .inr (7, [.ref hs, .int 0, .int (-1), .int 0, .int 0, .int 0, .int 0, .int 1]))] t.heap ∧ va_K D vwCl [] t ∧ va_D A [(ht, .inr (7, [.ref hs, .int 0, .int (-1), .int 0, .int 0, .int 0, .int 0, .int 1]))]) A) (fr := fun A => A) (by decide) (Nat.le_of_ble_eq_true rfl) ?_
  intro p e s m below meth c ls A H hHe hx hb hr hml hown hts hlocks hnm hP hK hD hA hS hN hl
  have hown : s.vm.findClass "WrongHole$LiftReader" = some m.cls := hown
  have hT : ∀ w ∈ TB, w.before ([.ref ht] : List Value).toArray s = true := fun w h => hts w (List.mem_cons_of_mem _ h)
  have hl : lv_has ls 4 [(0, .ref ht)] := hl
  have hP : va_P D vwCl [(ht, .inr (7, [.ref hs, .int 0, .int 0, .int 0, .int 0, .int 0, .int 0, .int 0]))] H := hP
  refine va_new (ci := 2) (fs := [.int 0, .int 0, .int 0, .int 0, .int 0, .int 0, .int 0, .int 0, .int 0, .int 0, .int 0, .null, .null, .null, .null, .null, .null, .null, .null]) (C := "WrongHole$Lift") (T := TX2) (N := 19) hx hb hts (iq_RX2 _) tyX2 tyX2_ok hown (hT _ qq_2_22) (hT _ qq_2_23) (hT _ qq_1_11) hK hP hD hS hA rfl (fv_RX2) (Nat.le_of_ble_eq_true rfl) (Nat.le_of_ble_eq_true rfl) dX3_readLift_0 (fun q_1 H hP hD hS => ?_)
  have hP : va_P D vwCl [(ht, .inr (7, [.ref hs, .int 0, .int 0, .int 0, .int 0, .int 0, .int 0, .int 0])), (q_1, .inr (2, [.int 0, .int 0, .int 0, .int 0, .int 0, .int 0, .int 0, .int 0, .int 0, .int 0, .int 0, .null, .null, .null, .null, .null, .null, .null, .null]))] H := hP
  have hD : va_D A [(ht, .inr (7, [.ref hs, .int 0, .int 0, .int 0, .int 0, .int 0, .int 0, .int 0])), (q_1, .inr (2, [.int 0, .int 0, .int 0, .int 0, .int 0, .int 0, .int 0, .int 0, .int 0, .int 0, .int 0, .null, .null, .null, .null, .null, .null, .null, .null]))] := hD
  refine W.widen (k := 1) (n := 19) (Nat.le_of_ble_eq_true rfl) (Nat.le_of_ble_eq_true rfl) ?_
  refine lv_dup hx hb dX3_readLift_3 rfl ?_
  have hPc := hP.sub (ws' := [(q_1, .inr (2, [.int 0, .int 0, .int 0, .int 0, .int 0, .int 0, .int 0, .int 0, .int 0, .int 0, .int 0, .null, .null, .null, .null, .null, .null, .null, .null]))]) [1] rfl
  have hDc := hD.sub (ws' := [(q_1, .inr (2, [.int 0, .int 0, .int 0, .int 0, .int 0, .int 0, .int 0, .int 0, .int 0, .int 0, .int 0, .null, .null, .null, .null, .null, .null, .null, .null]))]) [1] (by decide) rfl
  have hKc := hK.sub (tys' := []) [] rfl
  have hFc := va_free (wc := [(q_1, .inr (2, [.int 0, .int 0, .int 0, .int 0, .int 0, .int 0, .int 0, .int 0, .int 0, .int 0, .int 0, .null, .null, .null, .null, .null, .null, .null, .null]))]) hD hS hA [1] rfl
  refine va_callv (va_runI (As := []) (rest := [.ref q_1]) ⟨hx, hb, hml, hown, hts⟩ (c_lift_init l D ad H.size q_1) ⟨callB_of 0 hts (gd_C qq_2_26) rfl rfl rfl (hT _ qq_1_11) (hT _ qq_2_24) (by decide +kernel) (rm_R rfl rfl), rfl, (hT _ qq_2_25)⟩ (pr_S hPc hKc hDc hN) rfl rfl hl.1 rfl (lv_room (Nat.le_of_ble_eq_true rfl)) dX3_readLift_4 ⟨Nat.le_of_ble_eq_true rfl, Nat.le_of_ble_eq_true rfl⟩) hS (fun q _ h => hFc q h) hFc (fun u_2 t_5 H1 locs ht9 hvm hw_3 hB_4 hz1 hk1 hS => ?_)
  obtain ⟨q_6, q_7, q_8, q_9, q_10, q_11, q_12, q_13, hP1, hK1, hD1⟩ := hB_4
  rw [ht9] at hP1
  have hK1 := va_K.moved hvm.symm hK1
  obtain ⟨hP, hD⟩ := va_join (wr := [(ht, .inr (7, [.ref hs, .int 0, .int 0, .int 0, .int 0, .int 0, .int 0, .int 0]))]) (w1 := [(q_1, .inr (2, [.int 0, .int 0, .int 0, .int 0, .int 0, .int 0, .int 0, .int 0, .int 0, .int 0, .int 0, .ref q_6, .ref q_7, .ref q_8, .ref q_9, .ref q_10, .ref q_11, .ref q_12, .ref q_13]))]) hP hD [1] [0] rfl rfl (by decide) (by decide) hk1 hFc hP1 hD1
  have hK := (hK.sub (tys' := []) [] rfl).app hK1
  have hK : va_K D vwCl [] s := hK
  generalize H1 = H at hP hS ⊢
  have hP : va_P D vwCl [(ht, .inr (7, [.ref hs, .int 0, .int 0, .int 0, .int 0, .int 0, .int 0, .int 0])), (q_1, .inr (2, [.int 0, .int 0, .int 0, .int 0, .int 0, .int 0, .int 0, .int 0, .int 0, .int 0, .int 0, .ref q_6, .ref q_7, .ref q_8, .ref q_9, .ref q_10, .ref q_11, .ref q_12, .ref q_13]))] H := hP
  have hD : va_D A [(ht, .inr (7, [.ref hs, .int 0, .int 0, .int 0, .int 0, .int 0, .int 0, .int 0])), (q_1, .inr (2, [.int 0, .int 0, .int 0, .int 0, .int 0, .int 0, .int 0, .int 0, .int 0, .int 0, .int 0, .ref q_6, .ref q_7, .ref q_8, .ref q_9, .ref q_10, .ref q_11, .ref q_12, .ref q_13]))] := hD
  refine W.widen (k := 9) (n := 79) (Nat.le_of_ble_eq_true rfl) (Nat.le_of_ble_eq_true rfl) ?_
  refine lv_astore_n (lv' := [(1, .ref q_1), (0, .ref ht)]) hx hb dX3_readLift_7 rfl hl (by decide) rfl (fun ls hl => ?_)
  refine lv_aload_n hx hb dX3_readLift_8 rfl (lv_at hl 1 rfl) ?_
  have hPc := hP.sub (ws' := [(ht, .inr (7, [.ref hs, .int 0, .int 0, .int 0, .int 0, .int 0, .int 0, .int 0]))]) [0] rfl
  have hDc := hD.sub (ws' := [(ht, .inr (7, [.ref hs, .int 0, .int 0, .int 0, .int 0, .int 0, .int 0, .int 0]))]) [0] (by decide) rfl
  have hKc := hK.sub (tys' := []) [] rfl
  have hFc := va_free (wc := [(ht, .inr (7, [.ref hs, .int 0, .int 0, .int 0, .int 0, .int 0, .int 0, .int 0]))]) hD hS hA [0] rfl
  refine va_callv (va_runV (As := []) (rest := []) ⟨hx, hb, hml, hown, hts⟩ (c_restart l D ad H.size ht hs) ⟨callB_of 0 hts (gd_C qq_2_127) rfl rfl rfl (hT _ qq_1_2) (hT _ qq_2_124) (by decide +kernel) (rm_R rfl rfl), (hT _ qq_2_125), (hT _ qq_2_126)⟩ (pr_V hPc hKc hDc hN (ci := 7) (q0 := 0) rfl rfl) rfl rfl hl.1 rfl (lv_room (Nat.le_of_ble_eq_true rfl)) dX3_readLift_9 ⟨Nat.le_of_ble_eq_true rfl, Nat.le_of_ble_eq_true rfl⟩) hS (fun q _ h => hFc q h) hFc (fun u_14 t_17 H1 locs ht9 hvm hw_15 hB_16 hz1 hk1 hS => ?_)
  obtain ⟨hP1, hK1, hD1⟩ := hB_16
  rw [ht9] at hP1
  have hK1 := va_K.moved hvm.symm hK1
  obtain ⟨hP, hD⟩ := va_join (wr := [(q_1, .inr (2, [.int 0, .int 0, .int 0, .int 0, .int 0, .int 0, .int 0, .int 0, .int 0, .int 0, .int 0, .ref q_6, .ref q_7, .ref q_8, .ref q_9, .ref q_10, .ref q_11, .ref q_12, .ref q_13]))]) (w1 := [(ht, .inr (7, [.ref hs, .int 0, .int (-1), .int 0, .int 0, .int 0, .int 0, .int 0]))]) hP hD [0] [1] rfl rfl (by decide) (by decide) hk1 hFc hP1 hD1
  have hK := (hK.sub (tys' := []) [] rfl).app hK1
  have hK : va_K D vwCl [] s := hK
  generalize H1 = H at hP hS ⊢
  have hP : va_P D vwCl [(q_1, .inr (2, [.int 0, .int 0, .int 0, .int 0, .int 0, .int 0, .int 0, .int 0, .int 0, .int 0, .int 0, .ref q_6, .ref q_7, .ref q_8, .ref q_9, .ref q_10, .ref q_11, .ref q_12, .ref q_13])), (ht, .inr (7, [.ref hs, .int 0, .int (-1), .int 0, .int 0, .int 0, .int 0, .int 0]))] H := hP
  have hD : va_D A [(q_1, .inr (2, [.int 0, .int 0, .int 0, .int 0, .int 0, .int 0, .int 0, .int 0, .int 0, .int 0, .int 0, .ref q_6, .ref q_7, .ref q_8, .ref q_9, .ref q_10, .ref q_11, .ref q_12, .ref q_13])), (ht, .inr (7, [.ref hs, .int 0, .int (-1), .int 0, .int 0, .int 0, .int 0, .int 0]))] := hD
  refine lv_iconst (v := 0) hx hb dX3_readLift_12 (by decide) ?_
  refine lv_istore_n (lv' := [(2, .int 0), (1, .ref q_1), (0, .ref ht)]) hx hb dX3_readLift_13 rfl hl (by decide) rfl (fun ls hl => ?_)
  refine lv_iload_n hx hb dX3_readLift_14 rfl (lv_at hl 0 rfl) ?_
  refine lv_bipush (v := 40) hx hb dX3_readLift_15 (by decide) ?_
  refine lv_icmp_gt (tgt := 103) hx hb dX3_readLift_17 (by decide) (fun c_18 => absurd c_18 (by decide)) (fun _ => ?_)
  refine lv_aload_n hx hb dX3_readLift_20 rfl (lv_at hl 2 rfl) ?_
  have hPc := hP.sub (ws' := [(ht, .inr (7, [.ref hs, .int 0, .int (-1), .int 0, .int 0, .int 0, .int 0, .int 0]))]) [1] rfl
  have hDc := hD.sub (ws' := [(ht, .inr (7, [.ref hs, .int 0, .int (-1), .int 0, .int 0, .int 0, .int 0, .int 0]))]) [1] (by decide) rfl
  have hKc := hK.sub (tys' := []) [] rfl
  refine cl_V (W.runV (As := []) (rest := []) ⟨hx, hb, hml, hown, hts⟩ (c_sound_0 l D ad H.size ht hs) ⟨callB_of 0 hts (gd_C qq_2_148) rfl rfl rfl (hT _ qq_1_2) (hT _ qq_2_145) (by decide +kernel) (rm_R rfl rfl), (hT _ qq_2_146), (hT _ qq_2_147)⟩ (pr_V hPc hKc hDc hN (ci := 7) (q0 := 0) rfl rfl) rfl rfl hl.1 rfl (lv_room (Nat.le_of_ble_eq_true rfl)) dX3_readLift_21 ⟨Nat.le_of_ble_eq_true rfl, Nat.le_of_ble_eq_true rfl⟩) ?_
  refine lv_if_eq (tgt := 103) hx hb dX3_readLift_24 (by decide) (fun c_19 => absurd c_19 (by decide)) (fun _ => ?_)
  refine lv_aload_n hx hb dX3_readLift_27 rfl (lv_at hl 2 rfl) ?_
  refine va_ldcS hx hb hown hN.2.1 dX3_readLift_28 ?_
  have hPc := hP.sub (ws' := [(ht, .inr (7, [.ref hs, .int 0, .int (-1), .int 0, .int 0, .int 0, .int 0, .int 0]))]) [1] rfl
  have hDc := hD.sub (ws' := [(ht, .inr (7, [.ref hs, .int 0, .int (-1), .int 0, .int 0, .int 0, .int 0, .int 0]))]) [1] (by decide) rfl
  have hKc := hK.sub (tys' := []) [] rfl
  refine cl_V (W.runV (As := [.ref (ad 0)]) (rest := []) ⟨hx, hb, hml, hown, hts⟩ (c_whichWord l D ad H.size ht hs (ad 0)) ⟨callB_of 1 hts (gd_C qq_2_153) rfl rfl rfl (hT _ qq_1_2) (hT _ qq_2_150) (by decide +kernel) (rm_R rfl rfl), (hT _ qq_2_151), (hT _ qq_2_152)⟩ (pr_V hPc hKc hDc hN (ci := 7) (q0 := 0) rfl rfl) rfl rfl hl.1 rfl (lv_room (Nat.le_of_ble_eq_true rfl)) dX3_readLift_30 ⟨Nat.le_of_ble_eq_true rfl, Nat.le_of_ble_eq_true rfl⟩) ?_
  refine lv_istore_n (lv' := [(3, .int (-1)), (2, .int 0), (1, .ref q_1), (0, .ref ht)]) hx hb dX3_readLift_33 rfl hl (by decide) rfl (fun ls hl => ?_)
  refine lv_iload_n hx hb dX3_readLift_34 rfl (lv_at hl 0 rfl) ?_
  refine lv_iconst (v := (-1)) hx hb dX3_readLift_35 (by decide) ?_
  refine lv_icmp_ne (tgt := 47) hx hb dX3_readLift_36 (by decide) (fun c_20 => absurd (by decide) c_20) (fun _ => ?_)
  refine lv_aload_n hx hb dX3_readLift_39 rfl (lv_at hl 3 rfl) ?_
  refine lv_iconst (v := 0) hx hb dX3_readLift_40 (by decide) ?_
  have hPc := hP.sub (ws' := [(ht, .inr (7, [.ref hs, .int 0, .int (-1), .int 0, .int 0, .int 0, .int 0, .int 0]))]) [1] rfl
  have hDc := hD.sub (ws' := [(ht, .inr (7, [.ref hs, .int 0, .int (-1), .int 0, .int 0, .int 0, .int 0, .int 0]))]) [1] (by decide) rfl
  have hKc := hK.sub (tys' := []) [] rfl
  have hFc := va_free (wc := [(ht, .inr (7, [.ref hs, .int 0, .int (-1), .int 0, .int 0, .int 0, .int 0, .int 0]))]) hD hS hA [1] rfl
  refine va_callv (va_runV (As := [.int 0]) (rest := []) ⟨hx, hb, hml, hown, hts⟩ (c_failHere l D ad H.size ht hs) ⟨callB_of 1 hts (gd_C qq_2_205) rfl rfl rfl (hT _ qq_1_2) (hT _ qq_2_202) (by decide +kernel) (rm_R rfl rfl), (hT _ qq_2_203), (hT _ qq_2_204)⟩ (pr_V hPc hKc hDc hN (ci := 7) (q0 := 0) rfl rfl) rfl rfl hl.1 rfl (lv_room (Nat.le_of_ble_eq_true rfl)) dX3_readLift_41 ⟨Nat.le_of_ble_eq_true rfl, Nat.le_of_ble_eq_true rfl⟩) hS (fun q _ h => hFc q h) hFc (fun u_21 t_24 H1 locs ht9 hvm hw_22 hB_23 hz1 hk1 hS => ?_)
  obtain ⟨hP1, hK1, hD1⟩ := hB_23
  rw [ht9] at hP1
  have hK1 := va_K.moved hvm.symm hK1
  obtain ⟨hP, hD⟩ := va_join (wr := [(q_1, .inr (2, [.int 0, .int 0, .int 0, .int 0, .int 0, .int 0, .int 0, .int 0, .int 0, .int 0, .int 0, .ref q_6, .ref q_7, .ref q_8, .ref q_9, .ref q_10, .ref q_11, .ref q_12, .ref q_13]))]) (w1 := [(ht, .inr (7, [.ref hs, .int 0, .int (-1), .int 0, .int 0, .int 0, .int 0, .int 1]))]) hP hD [1] [0] rfl rfl (by decide) (by decide) hk1 hFc hP1 hD1
  have hK := (hK.sub (tys' := []) [] rfl).app hK1
  have hK : va_K D vwCl [] s := hK
  generalize H1 = H at hP hS ⊢
  have hP : va_P D vwCl [(q_1, .inr (2, [.int 0, .int 0, .int 0, .int 0, .int 0, .int 0, .int 0, .int 0, .int 0, .int 0, .int 0, .ref q_6, .ref q_7, .ref q_8, .ref q_9, .ref q_10, .ref q_11, .ref q_12, .ref q_13])), (ht, .inr (7, [.ref hs, .int 0, .int (-1), .int 0, .int 0, .int 0, .int 0, .int 1]))] H := hP
  have hD : va_D A [(q_1, .inr (2, [.int 0, .int 0, .int 0, .int 0, .int 0, .int 0, .int 0, .int 0, .int 0, .int 0, .int 0, .ref q_6, .ref q_7, .ref q_8, .ref q_9, .ref q_10, .ref q_11, .ref q_12, .ref q_13])), (ht, .inr (7, [.ref hs, .int 0, .int (-1), .int 0, .int 0, .int 0, .int 0, .int 1]))] := hD
  refine lv_goto (tgt := 80) hx hb dX3_readLift_44 (by decide) ?_
  refine lv_aload_n hx hb dX3_readLift_80 rfl (lv_at hl 3 rfl) ?_
  refine va_getN (D := D) (ci := 7) (v := .int (-1)) (C := "WrongHole$Text") (T := TX9) (N := 8) hx hb hts (iq_RX9 _) hown hK hP 1 rfl rfl 2 (by decide) (hN.f nq_1_39) (fun _ h9 => h9) rfl dX3_readLift_81 ?_
  refine lv_iconst (v := (-1)) hx hb dX3_readLift_84 (by decide) ?_
  refine lv_icmp_ne (tgt := 91) hx hb dX3_readLift_85 (by decide) (fun c_25 => absurd (by decide) c_25) (fun _ => ?_)
  refine lv_goto (tgt := 103) hx hb dX3_readLift_88 (by decide) ?_
  refine lv_aload_n hx hb dX3_readLift_103 rfl (lv_at hl 2 rfl) ?_
  have hPc := hP.sub (ws' := [(q_1, .inr (2, [.int 0, .int 0, .int 0, .int 0, .int 0, .int 0, .int 0, .int 0, .int 0, .int 0, .int 0, .ref q_6, .ref q_7, .ref q_8, .ref q_9, .ref q_10, .ref q_11, .ref q_12, .ref q_13]))]) [0] rfl
  have hDc := hD.sub (ws' := [(q_1, .inr (2, [.int 0, .int 0, .int 0, .int 0, .int 0, .int 0, .int 0, .int 0, .int 0, .int 0, .int 0, .ref q_6, .ref q_7, .ref q_8, .ref q_9, .ref q_10, .ref q_11, .ref q_12, .ref q_13]))]) [0] (by decide) rfl
  have hKc := hK.sub (tys' := []) [] rfl
  have hFc := va_free (wc := [(q_1, .inr (2, [.int 0, .int 0, .int 0, .int 0, .int 0, .int 0, .int 0, .int 0, .int 0, .int 0, .int 0, .ref q_6, .ref q_7, .ref q_8, .ref q_9, .ref q_10, .ref q_11, .ref q_12, .ref q_13]))]) hD hS hA [0] rfl
  refine va_callv (va_runV (As := []) (rest := []) ⟨hx, hb, hml, hown, hts⟩ (c_finish l D ad H.size q_1 q_6 q_7 q_8 q_9 q_10 q_11 q_12 q_13) ⟨callB_of 0 hts (gd_C qq_3_57) rfl rfl rfl (hT _ qq_1_11) (hT _ qq_3_54) (by decide +kernel) (rm_R rfl rfl), (hT _ qq_3_55), (hT _ qq_3_56)⟩ (pr_V hPc hKc hDc hN (ci := 2) (q0 := 0) rfl rfl) rfl rfl hl.1 rfl (lv_room (Nat.le_of_ble_eq_true rfl)) dX3_readLift_104 ⟨Nat.le_of_ble_eq_true rfl, Nat.le_of_ble_eq_true rfl⟩) hS (fun q _ h => hFc q h) hFc (fun u_26 t_29 H1 locs ht9 hvm hw_27 hB_28 hz1 hk1 hS => ?_)
  obtain ⟨hP1, hK1, hD1⟩ := hB_28
  rw [ht9] at hP1
  have hK1 := va_K.moved hvm.symm hK1
  obtain ⟨hP, hD⟩ := va_join (wr := [(ht, .inr (7, [.ref hs, .int 0, .int (-1), .int 0, .int 0, .int 0, .int 0, .int 1]))]) (w1 := [(q_1, .inr (2, [.int 0, .int 0, .int 0, .int 0, .int 0, .int 8, .int 0, .int 0, .int 0, .int 0, .int 0, .ref q_6, .ref q_7, .ref q_8, .ref q_9, .ref q_10, .ref q_11, .ref q_12, .ref q_13]))]) hP hD [0] [1] rfl rfl (by decide) (by decide) hk1 hFc hP1 hD1
  have hK := (hK.sub (tys' := []) [] rfl).app hK1
  have hK : va_K D vwCl [] s := hK
  generalize H1 = H at hP hS ⊢
  have hP : va_P D vwCl [(ht, .inr (7, [.ref hs, .int 0, .int (-1), .int 0, .int 0, .int 0, .int 0, .int 1])), (q_1, .inr (2, [.int 0, .int 0, .int 0, .int 0, .int 0, .int 8, .int 0, .int 0, .int 0, .int 0, .int 0, .ref q_6, .ref q_7, .ref q_8, .ref q_9, .ref q_10, .ref q_11, .ref q_12, .ref q_13]))] H := hP
  have hD : va_D A [(ht, .inr (7, [.ref hs, .int 0, .int (-1), .int 0, .int 0, .int 0, .int 0, .int 1])), (q_1, .inr (2, [.int 0, .int 0, .int 0, .int 0, .int 0, .int 8, .int 0, .int 0, .int 0, .int 0, .int 0, .ref q_6, .ref q_7, .ref q_8, .ref q_9, .ref q_10, .ref q_11, .ref q_12, .ref q_13]))] := hD
  refine lv_aload_n hx hb dX3_readLift_107 rfl (lv_at hl 2 rfl) ?_
  refine W.widen (k := 9) (n := 79) (Nat.le_of_ble_eq_true rfl) (Nat.le_of_ble_eq_true rfl) ?_
  have hP9 := hP.sub (ws' := [(ht, .inr (7, [.ref hs, .int 0, .int (-1), .int 0, .int 0, .int 0, .int 0, .int 1]))]) [0] rfl
  have hD9 := hD.sub (ws' := [(ht, .inr (7, [.ref hs, .int 0, .int (-1), .int 0, .int 0, .int 0, .int 0, .int 1]))]) [0] (by decide) rfl
  have hK9 := hK.sub (tys' := []) [] rfl
  exact W.aret (v := .ref q_1) hx hb hr (Or.inl ⟨_, rfl⟩) (Or.inr ⟨_, rfl⟩) (fun t9 ht9 hW9 => ⟨⟨(), _, rfl, trivial, ⟨by rw [ht9]; exact hP9, va_K.moved hW9.alike hK9, hD9⟩⟩, hS.F ht9⟩) hS.2.2 dX3_readLift_108
theorem dX11_lift_0 : decode cX11_lift 0 = .ok (.aload_n 0, 1) := by decide +kernel
theorem dX11_lift_1 : decode cX11_lift 1 = .ok (.getfield 10, 3) := by decide +kernel
theorem dX11_lift_4 : decode cX11_lift 4 = .ok (.invokestatic 77, 3) := by decide +kernel
theorem qq_2_21 : Cond.code yX3_readLift cX3_readLift 4 (some (.object "WrongHole$Lift")) ∈ TB := mk_tb (ti_2 (List.mem_of_getElem? (i := 21) rfl)) rfl
theorem qq_1_10 : Cond.initialized "WrongHole$LiftReader" ∈ TB := mk_tb (ti_1 (List.mem_of_getElem? (i := 10) rfl)) rfl
theorem qq_2_19 : Cond.methodLink "WrongHole" 77 yX3_readLift ∈ TB := mk_tb (ti_2 (List.mem_of_getElem? (i := 19) rfl)) rfl
theorem qq_2_20 : Cond.static yX3_readLift ∈ TB := mk_tb (ti_2 (List.mem_of_getElem? (i := 20) rfl)) rfl
theorem dX11_lift_7 : decode cX11_lift 7 = .ok (.astore_n 1, 1) := by decide +kernel
theorem dX11_lift_8 : decode cX11_lift 8 = .ok (.aload_n 0, 1) := by decide +kernel
theorem dX11_lift_9 : decode cX11_lift 9 = .ok (.getfield 10, 3) := by decide +kernel
theorem dX11_lift_12 : decode cX11_lift 12 = .ok (.getfield 83, 3) := by decide +kernel
theorem nq_1_48 : Cond.fieldLinkNest "WrongHole" 83 "WrongHole$Text" "fault" "I" "WrongHole" ∈ NW := mk_nw (ti_1 (List.mem_of_getElem? (i := 48) rfl)) rfl
theorem dX11_lift_15 : decode cX11_lift 15 = .ok (.ifCond .eq 14, 3) := by decide +kernel
theorem dX11_lift_18 : decode cX11_lift 18 = .ok (.bipush (-2), 2) := by decide +kernel
theorem dX11_lift_20 : decode cX11_lift 20 = .ok (.aload_n 0, 1) := by decide +kernel
theorem dX11_lift_21 : decode cX11_lift 21 = .ok (.getfield 10, 3) := by decide +kernel
theorem dX11_lift_24 : decode cX11_lift 24 = .ok (.getfield 83, 3) := by decide +kernel
theorem dX11_lift_27 : decode cX11_lift 27 = .ok (.isub, 1) := by decide +kernel
theorem dX11_lift_28 : decode cX11_lift 28 = .ok (.ireturn, 1) := by decide +kernel
set_option maxHeartbeats 4000000 in
set_option maxRecDepth 100000 in
theorem c_x_lift (l : Launch) (D : va_G) (ad : Nat → Nat) (sz : Nat) (x0 : Nat) (ht : Nat) (hrr : Nat) (hru : Nat) (hn : Nat) (him : Nat) (hp : Nat) (hac : Nat) (hfo : Nat) (hwd : Nat) (hs : Nat)  : Met l yX11_lift (Cond.code yX11_lift cX11_lift 2 (some .int) :: TB) (RM 5 9 79) (va_Pc [.ref x0] (PRE D ad [(x0, .inr (9, [.ref ht, .ref hrr, .ref hru, .int 0, .ref hn, .ref him, .ref hp, .ref hac, .ref hfo, .ref hwd, .null, .null])), (ht, .inr (7, [.ref hs, .int 0, .int 0, .int 0, .int 0, .int 0, .int 0, .int 0]))] [] sz)) (va_Qi (S := Unit) (fun r _ => r = (-3)) (fun _ t => True) (va_A [(x0, .inr (9, [.ref ht, .ref hrr, .ref hru, .int 0, .ref hn, .ref him, .ref hp, .ref hac, .ref hfo, .ref hwd, .null, .null])), (ht, .inr (7, [.ref hs, .int 0, .int 0, .int 0, .int 0, .int 0, .int 0, .int 0]))] sz)) 9 79 (va_A [(x0, .inr (9, [.ref ht, .ref hrr, .ref hru, .int 0, .ref hn, .ref him, .ref hp, .ref hac, .ref hfo, .ref hwd, .null, .null])), (ht, .inr (7, [.ref hs, .int 0, .int 0, .int 0, .int 0, .int 0, .int 0, .int 0]))] sz) := by
  refine MET (y := yX11_lift) (cc := cX11_lift) (maxL := 2) (ret := (some .int)) (d := 5) (mc := 9) (ms := 79) (D := D) (ad := ad) (ws := [(x0, .inr (9, [.ref ht, .ref hrr, .ref hru, .int 0, .ref hn, .ref him, .ref hp, .ref hac, .ref hfo, .ref hwd, .null, .null])), (ht, .inr (7, [.ref hs, .int 0, .int 0, .int 0, .int 0, .int 0, .int 0, .int 0]))]) (tys := []) (sz := sz) (av := [.ref x0]) (Qc := fun A => va_Qi (S := Unit) (fun r _ => r = (-3)) (fun _ t => True) A) (fr := fun A => A) (by decide) (Nat.le_of_ble_eq_true rfl) ?_
  intro p e s m below meth c ls A H hHe hx hb hr hml hown hts hlocks hnm hP hK hD hA hS hN hl
  have hown : s.vm.findClass "WrongHole" = some m.cls := hown
  have hT : ∀ w ∈ TB, w.before ([.ref x0] : List Value).toArray s = true := fun w h => hts w (List.mem_cons_of_mem _ h)
  have hl : lv_has ls 2 [(0, .ref x0)] := hl
  have hP : va_P D vwCl [(x0, .inr (9, [.ref ht, .ref hrr, .ref hru, .int 0, .ref hn, .ref him, .ref hp, .ref hac, .ref hfo, .ref hwd, .null, .null])), (ht, .inr (7, [.ref hs, .int 0, .int 0, .int 0, .int 0, .int 0, .int 0, .int 0]))] H := hP
  refine lv_aload_n hx hb dX11_lift_0 rfl (lv_at hl 0 rfl) ?_
  refine va_get (D := D) (ci := 9) (v := .ref ht) (C := "WrongHole") (T := TX11) (N := 12) hx hb hts (iq_RX11 _) hown hK hP 0 rfl rfl 0 (by decide) (hT _ qq_1_202) (fun _ h9 => h9) rfl dX11_lift_1 ?_
  have hPc := hP.sub (ws' := [(ht, .inr (7, [.ref hs, .int 0, .int 0, .int 0, .int 0, .int 0, .int 0, .int 0]))]) [1] rfl
  have hDc := hD.sub (ws' := [(ht, .inr (7, [.ref hs, .int 0, .int 0, .int 0, .int 0, .int 0, .int 0, .int 0]))]) [1] (by decide) rfl
  have hKc := hK.sub (tys' := []) [] rfl
  have hFc := va_free (wc := [(ht, .inr (7, [.ref hs, .int 0, .int 0, .int 0, .int 0, .int 0, .int 0, .int 0]))]) hD hS hA [1] rfl
  refine va_callr (va_runS (As := [.ref ht]) (rest := []) ⟨hx, hb, hml, hown, hts⟩ (c_readLift l D ad H.size ht hs) ⟨callB_of 1 hts (gd_C qq_2_21) rfl rfl rfl (hT _ qq_1_10) (hT _ qq_2_19) (by decide +kernel) (rm_R rfl rfl), (hT _ qq_2_20)⟩ (pr_S hPc hKc hDc hN) rfl rfl hl.1 rfl (lv_room (Nat.le_of_ble_eq_true rfl)) dX11_lift_4 ⟨Nat.le_of_ble_eq_true rfl, Nat.le_of_ble_eq_true rfl⟩) hS (fun q _ h => hFc q h) hFc (fun u_1 r_5 t_4 H1 locs ht9 hvm hw_2 hB_3 hz1 hk1 hS => ?_)
  obtain ⟨hP1, hK1, hD1⟩ := hB_3
  rw [ht9] at hP1
  have hK1 := va_K.moved hvm.symm hK1
  obtain ⟨hP, hD⟩ := va_join (wr := [(x0, .inr (9, [.ref ht, .ref hrr, .ref hru, .int 0, .ref hn, .ref him, .ref hp, .ref hac, .ref hfo, .ref hwd, .null, .null]))]) (w1 := [(ht, .inr (7, [.ref hs, .int 0, .int (-1), .int 0, .int 0, .int 0, .int 0, .int 1]))]) hP hD [1] [0] rfl rfl (by decide) (by decide) hk1 hFc hP1 hD1
  have hK := (hK.sub (tys' := []) [] rfl).app hK1
  have hK : va_K D vwCl [] s := hK
  generalize H1 = H at hP hS ⊢
  have hP : va_P D vwCl [(x0, .inr (9, [.ref ht, .ref hrr, .ref hru, .int 0, .ref hn, .ref him, .ref hp, .ref hac, .ref hfo, .ref hwd, .null, .null])), (ht, .inr (7, [.ref hs, .int 0, .int (-1), .int 0, .int 0, .int 0, .int 0, .int 1]))] H := hP
  have hD : va_D A [(x0, .inr (9, [.ref ht, .ref hrr, .ref hru, .int 0, .ref hn, .ref him, .ref hp, .ref hac, .ref hfo, .ref hwd, .null, .null])), (ht, .inr (7, [.ref hs, .int 0, .int (-1), .int 0, .int 0, .int 0, .int 0, .int 1]))] := hD
  refine W.widen (k := 9) (n := 79) (Nat.le_of_ble_eq_true rfl) (Nat.le_of_ble_eq_true rfl) ?_
  refine lv_astore_n (lv' := [(1, .ref r_5), (0, .ref x0)]) hx hb dX11_lift_7 rfl hl (by decide) rfl (fun ls hl => ?_)
  refine lv_aload_n hx hb dX11_lift_8 rfl (lv_at hl 1 rfl) ?_
  refine va_get (D := D) (ci := 9) (v := .ref ht) (C := "WrongHole") (T := TX11) (N := 12) hx hb hts (iq_RX11 _) hown hK hP 0 rfl rfl 0 (by decide) (hT _ qq_1_202) (fun _ h9 => h9) rfl dX11_lift_9 ?_
  refine va_getN (D := D) (ci := 7) (v := .int 1) (C := "WrongHole$Text") (T := TX9) (N := 8) hx hb hts (iq_RX9 _) hown hK hP 1 rfl rfl 7 (by decide) (hN.f nq_1_48) (fun _ h9 => h9) rfl dX11_lift_12 ?_
  refine lv_if_eq (tgt := 29) hx hb dX11_lift_15 (by decide) (fun c_6 => absurd c_6 (by decide)) (fun _ => ?_)
  refine lv_bipush (v := (-2)) hx hb dX11_lift_18 (by decide) ?_
  refine lv_aload_n hx hb dX11_lift_20 rfl (lv_at hl 1 rfl) ?_
  refine va_get (D := D) (ci := 9) (v := .ref ht) (C := "WrongHole") (T := TX11) (N := 12) hx hb hts (iq_RX11 _) hown hK hP 0 rfl rfl 0 (by decide) (hT _ qq_1_202) (fun _ h9 => h9) rfl dX11_lift_21 ?_
  refine va_getN (D := D) (ci := 7) (v := .int 1) (C := "WrongHole$Text") (T := TX9) (N := 8) hx hb hts (iq_RX9 _) hown hK hP 1 rfl rfl 7 (by decide) (hN.f nq_1_48) (fun _ h9 => h9) rfl dX11_lift_24 ?_
  refine lv_isub hx hb dX11_lift_27 ?_
  refine tc_i (-3) (by decide) ?_
  refine W.widen (k := 9) (n := 79) (Nat.le_of_ble_eq_true rfl) (Nat.le_of_ble_eq_true rfl) ?_
  exact W.iret (v := (-3)) hx hb hr (fun t9 ht9 hW9 => ⟨⟨_, (), rfl, rfl, trivial⟩, hS.F ht9⟩) hS.2.2 dX11_lift_28
theorem dX8_readRule_0 : decode cX8_readRule 0 = .ok (.aload_n 0, 1) := by decide +kernel
theorem dX8_readRule_1 : decode cX8_readRule 1 = .ok (.iconst 0, 1) := by decide +kernel
theorem dX8_readRule_2 : decode cX8_readRule 2 = .ok (.putfield 20, 3) := by decide +kernel
theorem qq_1_75 : Cond.fieldLink "WrongHole$RuleReader" 20 "WrongHole$RuleReader" "size" "I" ∈ TB := mk_tb (ti_1 (List.mem_of_getElem? (i := 75) rfl)) rfl
theorem dX8_readRule_5 : decode cX8_readRule 5 = .ok (.aload_n 0, 1) := by decide +kernel
theorem dX8_readRule_6 : decode cX8_readRule 6 = .ok (.iconst 0, 1) := by decide +kernel
theorem dX8_readRule_7 : decode cX8_readRule 7 = .ok (.putfield 24, 3) := by decide +kernel
theorem qq_1_76 : Cond.fieldLink "WrongHole$RuleReader" 24 "WrongHole$RuleReader" "parts" "I" ∈ TB := mk_tb (ti_1 (List.mem_of_getElem? (i := 76) rfl)) rfl
theorem dX8_readRule_10 : decode cX8_readRule 10 = .ok (.iconst 0, 1) := by decide +kernel
theorem dX8_readRule_11 : decode cX8_readRule 11 = .ok (.istore_n 2, 1) := by decide +kernel
theorem dX8_readRule_12 : decode cX8_readRule 12 = .ok (.aload_n 1, 1) := by decide +kernel
theorem dX8_readRule_13 : decode cX8_readRule 13 = .ok (.invokevirtual 27, 3) := by decide +kernel
theorem qq_3_71 : Cond.methodLink "WrongHole$RuleReader" 27 yX9_restart ∈ TB := mk_tb (ti_3 (List.mem_of_getElem? (i := 71) rfl)) rfl
theorem dX8_readRule_16 : decode cX8_readRule 16 = .ok (.iconst 0, 1) := by decide +kernel
theorem dX8_readRule_17 : decode cX8_readRule 17 = .ok (.istore_n 3, 1) := by decide +kernel
theorem dX8_readRule_18 : decode cX8_readRule 18 = .ok (.iload_n 3, 1) := by decide +kernel
theorem dX8_readRule_19 : decode cX8_readRule 19 = .ok (.bipush 12, 2) := by decide +kernel
theorem dX8_readRule_21 : decode cX8_readRule 21 = .ok (.if_icmp .gt 130, 3) := by decide +kernel
theorem dX8_readRule_24 : decode cX8_readRule 24 = .ok (.aload_n 1, 1) := by decide +kernel
theorem dX8_readRule_25 : decode cX8_readRule 25 = .ok (.invokevirtual 30, 3) := by decide +kernel
theorem qq_3_72 : Cond.methodLink "WrongHole$RuleReader" 30 yX9_sound ∈ TB := mk_tb (ti_3 (List.mem_of_getElem? (i := 72) rfl)) rfl
theorem dX8_readRule_28 : decode cX8_readRule 28 = .ok (.ifCond .eq 123, 3) := by decide +kernel
theorem dX8_readRule_31 : decode cX8_readRule 31 = .ok (.aload_n 1, 1) := by decide +kernel
theorem dX8_readRule_32 : decode cX8_readRule 32 = .ok (.ldc 34, 2) := by decide +kernel
theorem dX8_readRule_34 : decode cX8_readRule 34 = .ok (.invokevirtual 36, 3) := by decide +kernel
theorem qq_3_74 : Cond.methodLink "WrongHole$RuleReader" 36 yX9_whichWord ∈ TB := mk_tb (ti_3 (List.mem_of_getElem? (i := 74) rfl)) rfl
theorem dX8_readRule_37 : decode cX8_readRule 37 = .ok (.iconst (-1), 1) := by decide +kernel
theorem dX8_readRule_38 : decode cX8_readRule 38 = .ok (.if_icmp .ne 11, 3) := by decide +kernel
theorem dX8_readRule_41 : decode cX8_readRule 41 = .ok (.aload_n 1, 1) := by decide +kernel
theorem dX8_readRule_42 : decode cX8_readRule 42 = .ok (.iconst 0, 1) := by decide +kernel
theorem dX8_readRule_43 : decode cX8_readRule 43 = .ok (.invokevirtual 40, 3) := by decide +kernel
theorem qq_3_75 : Cond.methodLink "WrongHole$RuleReader" 40 yX9_failHere ∈ TB := mk_tb (ti_3 (List.mem_of_getElem? (i := 75) rfl)) rfl
theorem dX8_readRule_46 : decode cX8_readRule 46 = .ok (.goto 82, 3) := by decide +kernel
theorem dX8_readRule_128 : decode cX8_readRule 128 = .ok (.aload_n 1, 1) := by decide +kernel
theorem dX8_readRule_129 : decode cX8_readRule 129 = .ok (.getfield 61, 3) := by decide +kernel
theorem nq_1_40 : Cond.fieldLinkNest "WrongHole$RuleReader" 61 "WrongHole$Text" "kind" "I" "WrongHole" ∈ NW := mk_nw (ti_1 (List.mem_of_getElem? (i := 40) rfl)) rfl
theorem dX8_readRule_132 : decode cX8_readRule 132 = .ok (.iconst (-1), 1) := by decide +kernel
theorem dX8_readRule_133 : decode cX8_readRule 133 = .ok (.if_icmp .ne 6, 3) := by decide +kernel
theorem dX8_readRule_136 : decode cX8_readRule 136 = .ok (.goto 15, 3) := by decide +kernel
theorem dX8_readRule_151 : decode cX8_readRule 151 = .ok (.aload_n 1, 1) := by decide +kernel
theorem dX8_readRule_152 : decode cX8_readRule 152 = .ok (.invokevirtual 30, 3) := by decide +kernel
theorem dX8_readRule_155 : decode cX8_readRule 155 = .ok (.ifCond .ne 5, 3) := by decide +kernel
theorem dX8_readRule_158 : decode cX8_readRule 158 = .ok (.aconst_null, 1) := by decide +kernel
theorem dX8_readRule_159 : decode cX8_readRule 159 = .ok (.areturn, 1) := by decide +kernel
set_option maxHeartbeats 4000000 in
set_option maxRecDepth 100000 in
theorem c_readRule (l : Launch) (D : va_G) (ad : Nat → Nat) (sz : Nat) (ht : Nat) (hs : Nat) (hrr : Nat) (rr1 : Nat) (rr2 : Nat)  : Met l yX8_readRule (Cond.code yX8_readRule cX8_readRule 4 (some (.object "WrongHole$Rule")) :: TB) (RM 4 0 0) (va_Pc [.ref hrr, .ref ht] (PRE D ad [(hrr, .inr (6, [.ref rr1, .ref rr2, .int 0, .int 0])), (ht, .inr (7, [.ref hs, .int 0, .int 0, .int 0, .int 0, .int 0, .int 0, .int 0]))] [] sz)) (va_Qq (S := Unit) (fun r _ => r = none) (fun _ t => va_P D vwCl [(ht, .inr (7, [.ref hs, .int 0, .int (-1), .int 0, .int 0, .int 0, .int 0, .int 1]))] t.heap ∧ va_K D vwCl [] t ∧ va_D (va_A [(hrr, .inr (6, [.ref rr1, .ref rr2, .int 0, .int 0])), (ht, .inr (7, [.ref hs, .int 0, .int 0, .int 0, .int 0, .int 0, .int 0, .int 0]))] sz) [(ht, .inr (7, [.ref hs, .int 0, .int (-1), .int 0, .int 0, .int 0, .int 0, .int 1]))]) (va_A [(hrr, .inr (6, [.ref rr1, .ref rr2, .int 0, .int 0])), (ht, .inr (7, [.ref hs, .int 0, .int 0, .int 0, .int 0, .int 0, .int 0, .int 0]))] sz)) 0 0 (va_A [(hrr, .inr (6, [.ref rr1, .ref rr2, .int 0, .int 0])), (ht, .inr (7, [.ref hs, .int 0, .int 0, .int 0, .int 0, .int 0, .int 0, .int 0]))] sz) := by
  refine MET (y := yX8_readRule) (cc := cX8_readRule) (maxL := 4) (ret := (some (.object "WrongHole$Rule"))) (d := 4) (mc := 0) (ms := 0) (D := D) (ad := ad) (ws := [(hrr, .inr (6, [.ref rr1, .ref rr2, .int 0, .int 0])), (ht, .inr (7, [.ref hs, .int 0, .int 0, .int 0, .int 0, .int 0, .int 0, .int 0]))]) (tys := []) (sz := sz) (av := [.ref hrr, .ref ht]) (Qc := fun A => va_Qq (S := Unit) (fun r _ => r = none) (fun _ t => va_P D vwCl [(ht, .inr (7, [.ref hs, .int 0, .int (-1), .int 0, .int 0, .int 0, .int 0, .int 1]))] t.heap ∧ va_K D vwCl [] t ∧ va_D A [(ht, .inr (7, [.ref hs, .int 0, .int (-1), .int 0, .int 0, .int 0, .int 0, .int 1]))]) A) (fr := fun A => A) (by decide) (Nat.le_of_ble_eq_true rfl) ?_
  intro p e s m below meth c ls A H hHe hx hb hr hml hown hts hlocks hnm hP hK hD hA hS hN hl
  have hown : s.vm.findClass "WrongHole$RuleReader" = some m.cls := hown
  have hT : ∀ w ∈ TB, w.before ([.ref hrr, .ref ht] : List Value).toArray s = true := fun w h => hts w (List.mem_cons_of_mem _ h)
  have hl : lv_has ls 4 [(0, .ref hrr), (1, .ref ht)] := hl
  have hP : va_P D vwCl [(hrr, .inr (6, [.ref rr1, .ref rr2, .int 0, .int 0])), (ht, .inr (7, [.ref hs, .int 0, .int 0, .int 0, .int 0, .int 0, .int 0, .int 0]))] H := hP
  refine lv_aload_n hx hb dX8_readRule_0 rfl (lv_at hl 0 rfl) ?_
  refine lv_iconst (v := 0) hx hb dX8_readRule_1 (by decide) ?_
  refine va_put (D := D) (ci := 6) (v := .int 0) (ty := .int) (C := "WrongHole$RuleReader") (T := TX8) (N := 4) hx hb hts (iq_RX8 _) tyX8 tyX8_ok nmX8 hown hK hP hD hS 0 rfl rfl 2 (by decide) (hT _ qq_1_75) (fun _ h9 => h9) rfl (by decide +kernel) rfl rfl (Nat.le_of_ble_eq_true rfl) dX8_readRule_2 (fun H locs hP hD hS => ?_)
  have hP : va_P D vwCl [(hrr, .inr (6, [.ref rr1, .ref rr2, .int 0, .int 0])), (ht, .inr (7, [.ref hs, .int 0, .int 0, .int 0, .int 0, .int 0, .int 0, .int 0]))] H := hP
  have hD : va_D A [(hrr, .inr (6, [.ref rr1, .ref rr2, .int 0, .int 0])), (ht, .inr (7, [.ref hs, .int 0, .int 0, .int 0, .int 0, .int 0, .int 0, .int 0]))] := hD
  refine lv_aload_n hx hb dX8_readRule_5 rfl (lv_at hl 0 rfl) ?_
  refine lv_iconst (v := 0) hx hb dX8_readRule_6 (by decide) ?_
  refine va_put (D := D) (ci := 6) (v := .int 0) (ty := .int) (C := "WrongHole$RuleReader") (T := TX8) (N := 4) hx hb hts (iq_RX8 _) tyX8 tyX8_ok nmX8 hown hK hP hD hS 0 rfl rfl 3 (by decide) (hT _ qq_1_76) (fun _ h9 => h9) rfl (by decide +kernel) rfl rfl (Nat.le_of_ble_eq_true rfl) dX8_readRule_7 (fun H locs hP hD hS => ?_)
  have hP : va_P D vwCl [(hrr, .inr (6, [.ref rr1, .ref rr2, .int 0, .int 0])), (ht, .inr (7, [.ref hs, .int 0, .int 0, .int 0, .int 0, .int 0, .int 0, .int 0]))] H := hP
  have hD : va_D A [(hrr, .inr (6, [.ref rr1, .ref rr2, .int 0, .int 0])), (ht, .inr (7, [.ref hs, .int 0, .int 0, .int 0, .int 0, .int 0, .int 0, .int 0]))] := hD
  refine lv_iconst (v := 0) hx hb dX8_readRule_10 (by decide) ?_
  refine lv_istore_n (lv' := [(2, .int 0), (0, .ref hrr), (1, .ref ht)]) hx hb dX8_readRule_11 rfl hl (by decide) rfl (fun ls hl => ?_)
  refine lv_aload_n hx hb dX8_readRule_12 rfl (lv_at hl 2 rfl) ?_
  have hPc := hP.sub (ws' := [(ht, .inr (7, [.ref hs, .int 0, .int 0, .int 0, .int 0, .int 0, .int 0, .int 0]))]) [1] rfl
  have hDc := hD.sub (ws' := [(ht, .inr (7, [.ref hs, .int 0, .int 0, .int 0, .int 0, .int 0, .int 0, .int 0]))]) [1] (by decide) rfl
  have hKc := hK.sub (tys' := []) [] rfl
  have hFc := va_free (wc := [(ht, .inr (7, [.ref hs, .int 0, .int 0, .int 0, .int 0, .int 0, .int 0, .int 0]))]) hD hS hA [1] rfl
  refine va_callv (va_runV (As := []) (rest := []) ⟨hx, hb, hml, hown, hts⟩ (c_restart l D ad H.size ht hs) ⟨callB_of 0 hts (gd_C qq_2_127) rfl rfl rfl (hT _ qq_1_2) (hT _ qq_3_71) (by decide +kernel) (rm_R rfl rfl), (hT _ qq_2_125), (hT _ qq_2_126)⟩ (pr_V hPc hKc hDc hN (ci := 7) (q0 := 0) rfl rfl) rfl rfl hl.1 rfl (lv_room (Nat.le_of_ble_eq_true rfl)) dX8_readRule_13 ⟨Nat.le_of_ble_eq_true rfl, Nat.le_of_ble_eq_true rfl⟩) hS (fun q _ h => hFc q h) hFc (fun u_1 t_4 H1 locs ht9 hvm hw_2 hB_3 hz1 hk1 hS => ?_)
  obtain ⟨hP1, hK1, hD1⟩ := hB_3
  rw [ht9] at hP1
  have hK1 := va_K.moved hvm.symm hK1
  obtain ⟨hP, hD⟩ := va_join (wr := [(hrr, .inr (6, [.ref rr1, .ref rr2, .int 0, .int 0]))]) (w1 := [(ht, .inr (7, [.ref hs, .int 0, .int (-1), .int 0, .int 0, .int 0, .int 0, .int 0]))]) hP hD [1] [0] rfl rfl (by decide) (by decide) hk1 hFc hP1 hD1
  have hK := (hK.sub (tys' := []) [] rfl).app hK1
  have hK : va_K D vwCl [] s := hK
  generalize H1 = H at hP hS ⊢
  have hP : va_P D vwCl [(hrr, .inr (6, [.ref rr1, .ref rr2, .int 0, .int 0])), (ht, .inr (7, [.ref hs, .int 0, .int (-1), .int 0, .int 0, .int 0, .int 0, .int 0]))] H := hP
  have hD : va_D A [(hrr, .inr (6, [.ref rr1, .ref rr2, .int 0, .int 0])), (ht, .inr (7, [.ref hs, .int 0, .int (-1), .int 0, .int 0, .int 0, .int 0, .int 0]))] := hD
  refine lv_iconst (v := 0) hx hb dX8_readRule_16 (by decide) ?_
  refine lv_istore_n (lv' := [(3, .int 0), (2, .int 0), (0, .ref hrr), (1, .ref ht)]) hx hb dX8_readRule_17 rfl hl (by decide) rfl (fun ls hl => ?_)
  refine lv_iload_n hx hb dX8_readRule_18 rfl (lv_at hl 0 rfl) ?_
  refine lv_bipush (v := 12) hx hb dX8_readRule_19 (by decide) ?_
  refine lv_icmp_gt (tgt := 151) hx hb dX8_readRule_21 (by decide) (fun c_5 => absurd c_5 (by decide)) (fun _ => ?_)
  refine lv_aload_n hx hb dX8_readRule_24 rfl (lv_at hl 3 rfl) ?_
  have hPc := hP.sub (ws' := [(ht, .inr (7, [.ref hs, .int 0, .int (-1), .int 0, .int 0, .int 0, .int 0, .int 0]))]) [1] rfl
  have hDc := hD.sub (ws' := [(ht, .inr (7, [.ref hs, .int 0, .int (-1), .int 0, .int 0, .int 0, .int 0, .int 0]))]) [1] (by decide) rfl
  have hKc := hK.sub (tys' := []) [] rfl
  refine cl_V (W.runV (As := []) (rest := []) ⟨hx, hb, hml, hown, hts⟩ (c_sound_0 l D ad H.size ht hs) ⟨callB_of 0 hts (gd_C qq_2_148) rfl rfl rfl (hT _ qq_1_2) (hT _ qq_3_72) (by decide +kernel) (rm_R rfl rfl), (hT _ qq_2_146), (hT _ qq_2_147)⟩ (pr_V hPc hKc hDc hN (ci := 7) (q0 := 0) rfl rfl) rfl rfl hl.1 rfl (lv_room (Nat.le_of_ble_eq_true rfl)) dX8_readRule_25 ⟨Nat.le_of_ble_eq_true rfl, Nat.le_of_ble_eq_true rfl⟩) ?_
  refine lv_if_eq (tgt := 151) hx hb dX8_readRule_28 (by decide) (fun c_6 => absurd c_6 (by decide)) (fun _ => ?_)
  refine lv_aload_n hx hb dX8_readRule_31 rfl (lv_at hl 3 rfl) ?_
  refine va_ldcS hx hb hown hN.2.2.1 dX8_readRule_32 ?_
  have hPc := hP.sub (ws' := [(ht, .inr (7, [.ref hs, .int 0, .int (-1), .int 0, .int 0, .int 0, .int 0, .int 0]))]) [1] rfl
  have hDc := hD.sub (ws' := [(ht, .inr (7, [.ref hs, .int 0, .int (-1), .int 0, .int 0, .int 0, .int 0, .int 0]))]) [1] (by decide) rfl
  have hKc := hK.sub (tys' := []) [] rfl
  refine cl_V (W.runV (As := [.ref (ad 1)]) (rest := []) ⟨hx, hb, hml, hown, hts⟩ (c_whichWord l D ad H.size ht hs (ad 1)) ⟨callB_of 1 hts (gd_C qq_2_153) rfl rfl rfl (hT _ qq_1_2) (hT _ qq_3_74) (by decide +kernel) (rm_R rfl rfl), (hT _ qq_2_151), (hT _ qq_2_152)⟩ (pr_V hPc hKc hDc hN (ci := 7) (q0 := 0) rfl rfl) rfl rfl hl.1 rfl (lv_room (Nat.le_of_ble_eq_true rfl)) dX8_readRule_34 ⟨Nat.le_of_ble_eq_true rfl, Nat.le_of_ble_eq_true rfl⟩) ?_
  refine lv_iconst (v := (-1)) hx hb dX8_readRule_37 (by decide) ?_
  refine lv_icmp_ne (tgt := 49) hx hb dX8_readRule_38 (by decide) (fun c_7 => absurd (by decide) c_7) (fun _ => ?_)
  refine lv_aload_n hx hb dX8_readRule_41 rfl (lv_at hl 3 rfl) ?_
  refine lv_iconst (v := 0) hx hb dX8_readRule_42 (by decide) ?_
  have hPc := hP.sub (ws' := [(ht, .inr (7, [.ref hs, .int 0, .int (-1), .int 0, .int 0, .int 0, .int 0, .int 0]))]) [1] rfl
  have hDc := hD.sub (ws' := [(ht, .inr (7, [.ref hs, .int 0, .int (-1), .int 0, .int 0, .int 0, .int 0, .int 0]))]) [1] (by decide) rfl
  have hKc := hK.sub (tys' := []) [] rfl
  have hFc := va_free (wc := [(ht, .inr (7, [.ref hs, .int 0, .int (-1), .int 0, .int 0, .int 0, .int 0, .int 0]))]) hD hS hA [1] rfl
  refine va_callv (va_runV (As := [.int 0]) (rest := []) ⟨hx, hb, hml, hown, hts⟩ (c_failHere l D ad H.size ht hs) ⟨callB_of 1 hts (gd_C qq_2_205) rfl rfl rfl (hT _ qq_1_2) (hT _ qq_3_75) (by decide +kernel) (rm_R rfl rfl), (hT _ qq_2_203), (hT _ qq_2_204)⟩ (pr_V hPc hKc hDc hN (ci := 7) (q0 := 0) rfl rfl) rfl rfl hl.1 rfl (lv_room (Nat.le_of_ble_eq_true rfl)) dX8_readRule_43 ⟨Nat.le_of_ble_eq_true rfl, Nat.le_of_ble_eq_true rfl⟩) hS (fun q _ h => hFc q h) hFc (fun u_8 t_11 H1 locs ht9 hvm hw_9 hB_10 hz1 hk1 hS => ?_)
  obtain ⟨hP1, hK1, hD1⟩ := hB_10
  rw [ht9] at hP1
  have hK1 := va_K.moved hvm.symm hK1
  obtain ⟨hP, hD⟩ := va_join (wr := [(hrr, .inr (6, [.ref rr1, .ref rr2, .int 0, .int 0]))]) (w1 := [(ht, .inr (7, [.ref hs, .int 0, .int (-1), .int 0, .int 0, .int 0, .int 0, .int 1]))]) hP hD [1] [0] rfl rfl (by decide) (by decide) hk1 hFc hP1 hD1
  have hK := (hK.sub (tys' := []) [] rfl).app hK1
  have hK : va_K D vwCl [] s := hK
  generalize H1 = H at hP hS ⊢
  have hP : va_P D vwCl [(hrr, .inr (6, [.ref rr1, .ref rr2, .int 0, .int 0])), (ht, .inr (7, [.ref hs, .int 0, .int (-1), .int 0, .int 0, .int 0, .int 0, .int 1]))] H := hP
  have hD : va_D A [(hrr, .inr (6, [.ref rr1, .ref rr2, .int 0, .int 0])), (ht, .inr (7, [.ref hs, .int 0, .int (-1), .int 0, .int 0, .int 0, .int 0, .int 1]))] := hD
  refine lv_goto (tgt := 128) hx hb dX8_readRule_46 (by decide) ?_
  refine lv_aload_n hx hb dX8_readRule_128 rfl (lv_at hl 3 rfl) ?_
  refine va_getN (D := D) (ci := 7) (v := .int (-1)) (C := "WrongHole$Text") (T := TX9) (N := 8) hx hb hts (iq_RX9 _) hown hK hP 1 rfl rfl 2 (by decide) (hN.f nq_1_40) (fun _ h9 => h9) rfl dX8_readRule_129 ?_
  refine lv_iconst (v := (-1)) hx hb dX8_readRule_132 (by decide) ?_
  refine lv_icmp_ne (tgt := 139) hx hb dX8_readRule_133 (by decide) (fun c_12 => absurd (by decide) c_12) (fun _ => ?_)
  refine lv_goto (tgt := 151) hx hb dX8_readRule_136 (by decide) ?_
  refine lv_aload_n hx hb dX8_readRule_151 rfl (lv_at hl 3 rfl) ?_
  have hPc := hP.sub (ws' := [(ht, .inr (7, [.ref hs, .int 0, .int (-1), .int 0, .int 0, .int 0, .int 0, .int 1]))]) [1] rfl
  have hDc := hD.sub (ws' := [(ht, .inr (7, [.ref hs, .int 0, .int (-1), .int 0, .int 0, .int 0, .int 0, .int 1]))]) [1] (by decide) rfl
  have hKc := hK.sub (tys' := []) [] rfl
  refine cl_V (W.runV (As := []) (rest := []) ⟨hx, hb, hml, hown, hts⟩ (c_sound_1 l D ad H.size ht hs) ⟨callB_of 0 hts (gd_C qq_2_148) rfl rfl rfl (hT _ qq_1_2) (hT _ qq_3_72) (by decide +kernel) (rm_R rfl rfl), (hT _ qq_2_146), (hT _ qq_2_147)⟩ (pr_V hPc hKc hDc hN (ci := 7) (q0 := 0) rfl rfl) rfl rfl hl.1 rfl (lv_room (Nat.le_of_ble_eq_true rfl)) dX8_readRule_152 ⟨Nat.le_of_ble_eq_true rfl, Nat.le_of_ble_eq_true rfl⟩) ?_
  refine lv_if_ne (tgt := 160) hx hb dX8_readRule_155 (by decide) (fun c_13 => absurd (by decide) c_13) (fun _ => ?_)
  refine lv_null hx hb dX8_readRule_158 ?_
  refine W.widen (k := 0) (n := 0) (Nat.le_of_ble_eq_true rfl) (Nat.le_of_ble_eq_true rfl) ?_
  have hP9 := hP.sub (ws' := [(ht, .inr (7, [.ref hs, .int 0, .int (-1), .int 0, .int 0, .int 0, .int 0, .int 1]))]) [1] rfl
  have hD9 := hD.sub (ws' := [(ht, .inr (7, [.ref hs, .int 0, .int (-1), .int 0, .int 0, .int 0, .int 0, .int 1]))]) [1] (by decide) rfl
  have hK9 := hK.sub (tys' := []) [] rfl
  exact W.aret (v := .null) hx hb hr (Or.inl ⟨_, rfl⟩) (Or.inl rfl) (fun t9 ht9 hW9 => ⟨⟨none, (), rfl, rfl, ⟨by rw [ht9]; exact hP9, va_K.moved hW9.alike hK9, hD9⟩⟩, hS.F ht9⟩) hS.2.2 dX8_readRule_159
theorem dX11_rule_0 : decode cX11_rule 0 = .ok (.aload_n 0, 1) := by decide +kernel
theorem dX11_rule_1 : decode cX11_rule 1 = .ok (.getfield 108, 3) := by decide +kernel
theorem qq_1_205 : Cond.fieldLink "WrongHole" 108 "WrongHole" "ruleCount" "I" ∈ TB := mk_tb (ti_1 (List.mem_of_getElem? (i := 205) rfl)) rfl
theorem dX11_rule_4 : decode cX11_rule 4 = .ok (.bipush 6, 2) := by decide +kernel
theorem dX11_rule_6 : decode cX11_rule 6 = .ok (.if_icmp .lt 5, 3) := by decide +kernel
theorem dX11_rule_11 : decode cX11_rule 11 = .ok (.aload_n 0, 1) := by decide +kernel
theorem dX11_rule_12 : decode cX11_rule 12 = .ok (.getfield 19, 3) := by decide +kernel
theorem dX11_rule_15 : decode cX11_rule 15 = .ok (.aload_n 0, 1) := by decide +kernel
theorem dX11_rule_16 : decode cX11_rule 16 = .ok (.getfield 10, 3) := by decide +kernel
theorem dX11_rule_19 : decode cX11_rule 19 = .ok (.invokevirtual 111, 3) := by decide +kernel
theorem qq_3_70 : Cond.code yX8_readRule cX8_readRule 4 (some (.object "WrongHole$Rule")) ∈ TB := mk_tb (ti_3 (List.mem_of_getElem? (i := 70) rfl)) rfl
theorem qq_3_67 : Cond.methodLink "WrongHole" 111 yX8_readRule ∈ TB := mk_tb (ti_3 (List.mem_of_getElem? (i := 67) rfl)) rfl
theorem qq_3_68 : Cond.instanceMethod yX8_readRule ∈ TB := mk_tb (ti_3 (List.mem_of_getElem? (i := 68) rfl)) rfl
theorem qq_3_69 : Cond.selects "WrongHole$RuleReader" yX8_readRule yX8_readRule ∈ TB := mk_tb (ti_3 (List.mem_of_getElem? (i := 69) rfl)) rfl
theorem dX11_rule_22 : decode cX11_rule 22 = .ok (.astore_n 1, 1) := by decide +kernel
theorem dX11_rule_23 : decode cX11_rule 23 = .ok (.aload_n 0, 1) := by decide +kernel
theorem dX11_rule_24 : decode cX11_rule 24 = .ok (.getfield 10, 3) := by decide +kernel
theorem dX11_rule_27 : decode cX11_rule 27 = .ok (.iconst 0, 1) := by decide +kernel
theorem dX11_rule_28 : decode cX11_rule 28 = .ok (.putfield 73, 3) := by decide +kernel
theorem dX11_rule_31 : decode cX11_rule 31 = .ok (.aload_n 1, 1) := by decide +kernel
theorem dX11_rule_32 : decode cX11_rule 32 = .ok (.ifnonnull 14, 3) := by decide +kernel
theorem dX11_rule_35 : decode cX11_rule 35 = .ok (.bipush (-2), 2) := by decide +kernel
theorem dX11_rule_37 : decode cX11_rule 37 = .ok (.aload_n 0, 1) := by decide +kernel
theorem dX11_rule_38 : decode cX11_rule 38 = .ok (.getfield 10, 3) := by decide +kernel
theorem dX11_rule_41 : decode cX11_rule 41 = .ok (.getfield 83, 3) := by decide +kernel
theorem dX11_rule_44 : decode cX11_rule 44 = .ok (.isub, 1) := by decide +kernel
theorem dX11_rule_45 : decode cX11_rule 45 = .ok (.ireturn, 1) := by decide +kernel
set_option maxHeartbeats 4000000 in
set_option maxRecDepth 100000 in
theorem c_x_rule (l : Launch) (D : va_G) (ad : Nat → Nat) (sz : Nat) (x0 : Nat) (ht : Nat) (hrr : Nat) (hru : Nat) (hn : Nat) (him : Nat) (hp : Nat) (hac : Nat) (hfo : Nat) (hwd : Nat) (hs : Nat) (rr1 : Nat) (rr2 : Nat)  : Met l yX11_rule (Cond.code yX11_rule cX11_rule 2 (some .int) :: TB) (RM 5 0 0) (va_Pc [.ref x0] (PRE D ad [(x0, .inr (9, [.ref ht, .ref hrr, .ref hru, .int 0, .ref hn, .ref him, .ref hp, .ref hac, .ref hfo, .ref hwd, .null, .null])), (ht, .inr (7, [.ref hs, .int 0, .int 0, .int 0, .int 0, .int 0, .int 0, .int 0])), (hrr, .inr (6, [.ref rr1, .ref rr2, .int 0, .int 0]))] [] sz)) (va_Qi (S := Unit) (fun r _ => r = (-3)) (fun _ t => True) (va_A [(x0, .inr (9, [.ref ht, .ref hrr, .ref hru, .int 0, .ref hn, .ref him, .ref hp, .ref hac, .ref hfo, .ref hwd, .null, .null])), (ht, .inr (7, [.ref hs, .int 0, .int 0, .int 0, .int 0, .int 0, .int 0, .int 0])), (hrr, .inr (6, [.ref rr1, .ref rr2, .int 0, .int 0]))] sz)) 0 0 (va_A [(x0, .inr (9, [.ref ht, .ref hrr, .ref hru, .int 0, .ref hn, .ref him, .ref hp, .ref hac, .ref hfo, .ref hwd, .null, .null])), (ht, .inr (7, [.ref hs, .int 0, .int 0, .int 0, .int 0, .int 0, .int 0, .int 0])), (hrr, .inr (6, [.ref rr1, .ref rr2, .int 0, .int 0]))] sz) := by
  refine MET (y := yX11_rule) (cc := cX11_rule) (maxL := 2) (ret := (some .int)) (d := 5) (mc := 0) (ms := 0) (D := D) (ad := ad) (ws := [(x0, .inr (9, [.ref ht, .ref hrr, .ref hru, .int 0, .ref hn, .ref him, .ref hp, .ref hac, .ref hfo, .ref hwd, .null, .null])), (ht, .inr (7, [.ref hs, .int 0, .int 0, .int 0, .int 0, .int 0, .int 0, .int 0])), (hrr, .inr (6, [.ref rr1, .ref rr2, .int 0, .int 0]))]) (tys := []) (sz := sz) (av := [.ref x0]) (Qc := fun A => va_Qi (S := Unit) (fun r _ => r = (-3)) (fun _ t => True) A) (fr := fun A => A) (by decide) (Nat.le_of_ble_eq_true rfl) ?_
  intro p e s m below meth c ls A H hHe hx hb hr hml hown hts hlocks hnm hP hK hD hA hS hN hl
  have hown : s.vm.findClass "WrongHole" = some m.cls := hown
  have hT : ∀ w ∈ TB, w.before ([.ref x0] : List Value).toArray s = true := fun w h => hts w (List.mem_cons_of_mem _ h)
  have hl : lv_has ls 2 [(0, .ref x0)] := hl
  have hP : va_P D vwCl [(x0, .inr (9, [.ref ht, .ref hrr, .ref hru, .int 0, .ref hn, .ref him, .ref hp, .ref hac, .ref hfo, .ref hwd, .null, .null])), (ht, .inr (7, [.ref hs, .int 0, .int 0, .int 0, .int 0, .int 0, .int 0, .int 0])), (hrr, .inr (6, [.ref rr1, .ref rr2, .int 0, .int 0]))] H := hP
  refine lv_aload_n hx hb dX11_rule_0 rfl (lv_at hl 0 rfl) ?_
  refine va_get (D := D) (ci := 9) (v := .int 0) (C := "WrongHole") (T := TX11) (N := 12) hx hb hts (iq_RX11 _) hown hK hP 0 rfl rfl 3 (by decide) (hT _ qq_1_205) (fun _ h9 => h9) rfl dX11_rule_1 ?_
  refine lv_bipush (v := 6) hx hb dX11_rule_4 (by decide) ?_
  refine lv_icmp_lt (tgt := 11) hx hb dX11_rule_6 (by decide) (fun _ => ?_) (fun c_1 => absurd (by decide) c_1)
  refine lv_aload_n hx hb dX11_rule_11 rfl (lv_at hl 0 rfl) ?_
  refine va_get (D := D) (ci := 9) (v := .ref hrr) (C := "WrongHole") (T := TX11) (N := 12) hx hb hts (iq_RX11 _) hown hK hP 0 rfl rfl 1 (by decide) (hT _ qq_1_203) (fun _ h9 => h9) rfl dX11_rule_12 ?_
  refine lv_aload_n hx hb dX11_rule_15 rfl (lv_at hl 0 rfl) ?_
  refine va_get (D := D) (ci := 9) (v := .ref ht) (C := "WrongHole") (T := TX11) (N := 12) hx hb hts (iq_RX11 _) hown hK hP 0 rfl rfl 0 (by decide) (hT _ qq_1_202) (fun _ h9 => h9) rfl dX11_rule_16 ?_
  have hPc := hP.sub (ws' := [(hrr, .inr (6, [.ref rr1, .ref rr2, .int 0, .int 0])), (ht, .inr (7, [.ref hs, .int 0, .int 0, .int 0, .int 0, .int 0, .int 0, .int 0]))]) [2, 1] rfl
  have hDc := hD.sub (ws' := [(hrr, .inr (6, [.ref rr1, .ref rr2, .int 0, .int 0])), (ht, .inr (7, [.ref hs, .int 0, .int 0, .int 0, .int 0, .int 0, .int 0, .int 0]))]) [2, 1] (by decide) rfl
  have hKc := hK.sub (tys' := []) [] rfl
  have hFc := va_free (wc := [(hrr, .inr (6, [.ref rr1, .ref rr2, .int 0, .int 0])), (ht, .inr (7, [.ref hs, .int 0, .int 0, .int 0, .int 0, .int 0, .int 0, .int 0]))]) hD hS hA [2, 1] rfl
  refine va_callq (va_runV (As := [.ref ht]) (rest := []) ⟨hx, hb, hml, hown, hts⟩ (c_readRule l D ad H.size ht hs hrr rr1 rr2) ⟨callB_of 1 hts (gd_C qq_3_70) rfl rfl rfl (hT _ qq_1_3) (hT _ qq_3_67) (by decide +kernel) (rm_R rfl rfl), (hT _ qq_3_68), (hT _ qq_3_69)⟩ (pr_V hPc hKc hDc hN (ci := 6) (q0 := 0) rfl rfl) rfl rfl hl.1 rfl (lv_room (Nat.le_of_ble_eq_true rfl)) dX11_rule_19 ⟨Nat.le_of_ble_eq_true rfl, Nat.le_of_ble_eq_true rfl⟩) hS (fun q _ h => hFc q h) hFc (fun r_6 u_2 t_5 H1 locs ht9 hvm hw_3 hB_4 hz1 hk1 hS => ?_)
  obtain ⟨hP1, hK1, hD1⟩ := hB_4
  rw [ht9] at hP1
  have hK1 := va_K.moved hvm.symm hK1
  obtain ⟨hP, hD⟩ := va_join (wr := [(x0, .inr (9, [.ref ht, .ref hrr, .ref hru, .int 0, .ref hn, .ref him, .ref hp, .ref hac, .ref hfo, .ref hwd, .null, .null]))]) (w1 := [(ht, .inr (7, [.ref hs, .int 0, .int (-1), .int 0, .int 0, .int 0, .int 0, .int 1]))]) hP hD [2, 1] [0] rfl rfl (by decide) (by decide) hk1 hFc hP1 hD1
  have hK := (hK.sub (tys' := []) [] rfl).app hK1
  have hK : va_K D vwCl [] s := hK
  generalize H1 = H at hP hS ⊢
  have hP : va_P D vwCl [(x0, .inr (9, [.ref ht, .ref hrr, .ref hru, .int 0, .ref hn, .ref him, .ref hp, .ref hac, .ref hfo, .ref hwd, .null, .null])), (ht, .inr (7, [.ref hs, .int 0, .int (-1), .int 0, .int 0, .int 0, .int 0, .int 1]))] H := hP
  have hD : va_D A [(x0, .inr (9, [.ref ht, .ref hrr, .ref hru, .int 0, .ref hn, .ref him, .ref hp, .ref hac, .ref hfo, .ref hwd, .null, .null])), (ht, .inr (7, [.ref hs, .int 0, .int (-1), .int 0, .int 0, .int 0, .int 0, .int 1]))] := hD
  cases hw_3
  refine tc_v .null rfl ?_
  refine lv_astore_nN (lv' := [(1, .null), (0, .ref x0)]) hx hb dX11_rule_22 rfl hl (by decide) rfl (fun ls hl => ?_)
  refine lv_aload_n hx hb dX11_rule_23 rfl (lv_at hl 1 rfl) ?_
  refine va_get (D := D) (ci := 9) (v := .ref ht) (C := "WrongHole") (T := TX11) (N := 12) hx hb hts (iq_RX11 _) hown hK hP 0 rfl rfl 0 (by decide) (hT _ qq_1_202) (fun _ h9 => h9) rfl dX11_rule_24 ?_
  refine lv_iconst (v := 0) hx hb dX11_rule_27 (by decide) ?_
  refine va_putN (D := D) (ci := 7) (v := .int 0) (ty := .int) (C := "WrongHole$Text") (T := TX9) (N := 8) hx hb hts (iq_RX9 _) tyX9 tyX9_ok nmX9 hown hK hP hD hS 1 rfl rfl 1 (by decide) (hN.f nq_1_38) (fun _ h9 => h9) rfl (by decide +kernel) rfl rfl (Nat.le_of_ble_eq_true rfl) dX11_rule_28 (fun H locs hP hD hS => ?_)
  have hP : va_P D vwCl [(x0, .inr (9, [.ref ht, .ref hrr, .ref hru, .int 0, .ref hn, .ref him, .ref hp, .ref hac, .ref hfo, .ref hwd, .null, .null])), (ht, .inr (7, [.ref hs, .int 0, .int (-1), .int 0, .int 0, .int 0, .int 0, .int 1]))] H := hP
  have hD : va_D A [(x0, .inr (9, [.ref ht, .ref hrr, .ref hru, .int 0, .ref hn, .ref him, .ref hp, .ref hac, .ref hfo, .ref hwd, .null, .null])), (ht, .inr (7, [.ref hs, .int 0, .int (-1), .int 0, .int 0, .int 0, .int 0, .int 1]))] := hD
  refine lv_aload_nN hx hb dX11_rule_31 rfl (lv_at hl 0 rfl) ?_
  refine lv_ifnonnullN hx hb dX11_rule_32 ?_
  refine lv_bipush (v := (-2)) hx hb dX11_rule_35 (by decide) ?_
  refine lv_aload_n hx hb dX11_rule_37 rfl (lv_at hl 1 rfl) ?_
  refine va_get (D := D) (ci := 9) (v := .ref ht) (C := "WrongHole") (T := TX11) (N := 12) hx hb hts (iq_RX11 _) hown hK hP 0 rfl rfl 0 (by decide) (hT _ qq_1_202) (fun _ h9 => h9) rfl dX11_rule_38 ?_
  refine va_getN (D := D) (ci := 7) (v := .int 1) (C := "WrongHole$Text") (T := TX9) (N := 8) hx hb hts (iq_RX9 _) hown hK hP 1 rfl rfl 7 (by decide) (hN.f nq_1_48) (fun _ h9 => h9) rfl dX11_rule_41 ?_
  refine lv_isub hx hb dX11_rule_44 ?_
  refine tc_i (-3) (by decide) ?_
  refine W.widen (k := 0) (n := 0) (Nat.le_of_ble_eq_true rfl) (Nat.le_of_ble_eq_true rfl) ?_
  exact W.iret (v := (-3)) hx hb hr (fun t9 ht9 hW9 => ⟨⟨_, (), rfl, rfl, trivial⟩, hS.F ht9⟩) hS.2.2 dX11_rule_45
