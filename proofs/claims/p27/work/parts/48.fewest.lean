theorem dX11_fewest_0 : decode cX11_fewest 0 = .ok (.aload_n 0, 1) := by decide +kernel
theorem dX11_fewest_1 : decode cX11_fewest 1 = .ok (.getfield 32, 3) := by decide +kernel
theorem dX11_fewest_4 : decode cX11_fewest 4 = .ok (.getfield 86, 3) := by decide +kernel
theorem dX11_fewest_7 : decode cX11_fewest 7 = .ok (.ifnull 12, 3) := by decide +kernel
theorem dX11_fewest_19 : decode cX11_fewest 19 = .ok (.iconst (-1), 1) := by decide +kernel
theorem dX11_fewest_20 : decode cX11_fewest 20 = .ok (.ireturn, 1) := by decide +kernel
set_option maxHeartbeats 4000000 in
set_option maxRecDepth 100000 in
theorem c_W_fewest_n (l : Launch) (D : va_G) (cs : Nat → ClassId) (ox : Nat) (ht : Nat) (hq : Nat) (og : Nat) (rc : Int32) (hw : Nat) (om : Nat) (hp : Nat) (ha : Nat) (hf : Nat) (hw0 : Nat) (qh : Option Nat) (qo : Option Nat) (wk : Int32) (wc : Int32) (wx : Int32) (wn : Int32) (wa0 : Nat) (wa1 : Nat) (wa2 : Nat) (wa3 : Nat) (a : Int32) (hbw : BK wk) : Met l yX11_fewest (Cond.code yX11_fewest cX11_fewest 3 (some .int) :: TB) (RM 5 0 0) (va_Pc [.ref ox, .int a] (PRR D cs [(ox, .inr (9, [.ref ht, .ref hq, .ref og, .int rc, .ref hw, .ref om, .ref hp, .ref ha, .ref hf, .ref hw0, va_rf qh, va_rf qo])), (hw, .inr (8, [.null, .int wk, .int wc, .int wx, .int wn, .ref wa0, .ref wa1, .ref wa2, .ref wa3]))])) (QP (fun v => ∃ x : Int32, v = .int x)) 0 0 (fun _ => False) := by
  refine MER (y := yX11_fewest) (cc := cX11_fewest) (maxL := 3) (ret := (some .int)) (d := 5) (D := D) (cs := cs) (ws := [(ox, .inr (9, [.ref ht, .ref hq, .ref og, .int rc, .ref hw, .ref om, .ref hp, .ref ha, .ref hf, .ref hw0, va_rf qh, va_rf qo])), (hw, .inr (8, [.null, .int wk, .int wc, .int wx, .int wn, .ref wa0, .ref wa1, .ref wa2, .ref wa3]))]) (av := [.ref ox, .int a]) (Qc := QP (fun v => ∃ x : Int32, v = .int x)) (by decide) (Nat.le_of_ble_eq_true rfl) ?_
  intro p e s m below meth c ls H hHe hx hb hr hml hown hts hlocks hP hK hN hl
  obtain ⟨locs, hlc⟩ : ∃ z : List Loc, z = [] := ⟨_, rfl⟩
  rw [← hlc]
  have hown : s.vm.findClass "WrongHole" = some m.cls := hown
  have hT : ∀ w ∈ TB, w.before ([.ref ox, .int a] : List Value).toArray s = true := fun w h => hts w (List.mem_cons_of_mem _ h)
  have hl : lv_has ls 3 [(0, .ref ox), (1, .int a)] := hl
  have hP : va_P D vwCl [(ox, .inr (9, [.ref ht, .ref hq, .ref og, .int rc, .ref hw, .ref om, .ref hp, .ref ha, .ref hf, .ref hw0, va_rf qh, va_rf qo])), (hw, .inr (8, [.null, .int wk, .int wc, .int wx, .int wn, .ref wa0, .ref wa1, .ref wa2, .ref wa3]))] H := hP
  refine lv_aload_n hx hb dX11_fewest_0 rfl (lv_at hl 0 rfl) ?_
  refine va_get (D := D) (ci := 9) (v := .ref hw) (C := "WrongHole") (T := TX11) (N := 12) hx hb hts (iq_RX11 _) hown hK hP 0 rfl rfl 4 (by decide) (hT _ qq_1_206) (fun _ h9 => h9) rfl dX11_fewest_1 ?_
  refine va_getN (D := D) (ci := 8) (v := .null) (C := "WrongHole$Worn") (T := TX10) (N := 9) hx hb hts (iq_RX10 _) hown hK hP 1 rfl rfl 0 (by decide) (NN.f hN nq_1_99) (fun _ h9 => h9) rfl dX11_fewest_4 ?_
  refine lv_ifnullN (tgt := 19) hx hb dX11_fewest_7 (by decide) ?_
  refine lv_iconst (v := (-1)) hx hb dX11_fewest_19 (by decide) ?_
  exact W.iret (v := (-1)) hx hb hr (fun t9 ht9 hW9 => ⟨⟨_, rfl, _, rfl⟩, ht9.trans hHe⟩) (fun _ h9 => by rw [hlc] at h9; exact absurd h9 List.not_mem_nil) dX11_fewest_20
theorem dX11_fewest_10 : decode cX11_fewest 10 = .ok (.iload_n 1, 1) := by decide +kernel
theorem dX11_fewest_11 : decode cX11_fewest 11 = .ok (.ifCond .lt 8, 3) := by decide +kernel
theorem dX11_fewest_14 : decode cX11_fewest 14 = .ok (.iload_n 1, 1) := by decide +kernel
theorem dX11_fewest_15 : decode cX11_fewest 15 = .ok (.iconst 1, 1) := by decide +kernel
theorem dX11_fewest_16 : decode cX11_fewest 16 = .ok (.if_icmp .le 5, 3) := by decide +kernel
theorem dX11_fewest_21 : decode cX11_fewest 21 = .ok (.aload_n 0, 1) := by decide +kernel
theorem dX11_fewest_22 : decode cX11_fewest 22 = .ok (.getfield 32, 3) := by decide +kernel
theorem dX11_fewest_25 : decode cX11_fewest 25 = .ok (.getfield 86, 3) := by decide +kernel
theorem dX11_fewest_28 : decode cX11_fewest 28 = .ok (.aload_n 0, 1) := by decide +kernel
theorem dX11_fewest_29 : decode cX11_fewest 29 = .ok (.getfield 32, 3) := by decide +kernel
theorem dX11_fewest_32 : decode cX11_fewest 32 = .ok (.getfield 95, 3) := by decide +kernel
theorem dX11_fewest_35 : decode cX11_fewest 35 = .ok (.invokevirtual 237, 3) := by decide +kernel
theorem qq_4_116 : Cond.code yX2_mustUndo cX2_mustUndo 6 (some .int) ∈ TB := mk_tb (ti_4 (List.mem_of_getElem? (i := 116) rfl)) rfl
theorem qq_4_113 : Cond.methodLink "WrongHole" 237 yX2_mustUndo ∈ TB := mk_tb (ti_4 (List.mem_of_getElem? (i := 113) rfl)) rfl
theorem qq_4_114 : Cond.instanceMethod yX2_mustUndo ∈ TB := mk_tb (ti_4 (List.mem_of_getElem? (i := 114) rfl)) rfl
theorem qq_4_115 : Cond.selects "WrongHole$Lift" yX2_mustUndo yX2_mustUndo ∈ TB := mk_tb (ti_4 (List.mem_of_getElem? (i := 115) rfl)) rfl
theorem dX11_fewest_38 : decode cX11_fewest 38 = .ok (.istore_n 2, 1) := by decide +kernel
theorem dX11_fewest_39 : decode cX11_fewest 39 = .ok (.iload_n 1, 1) := by decide +kernel
theorem dX11_fewest_40 : decode cX11_fewest 40 = .ok (.iconst 1, 1) := by decide +kernel
theorem dX11_fewest_41 : decode cX11_fewest 41 = .ok (.if_icmp .ne 7, 3) := by decide +kernel
theorem dX11_fewest_48 : decode cX11_fewest 48 = .ok (.iload_n 2, 1) := by decide +kernel
theorem dX11_fewest_49 : decode cX11_fewest 49 = .ok (.aload_n 0, 1) := by decide +kernel
theorem dX11_fewest_50 : decode cX11_fewest 50 = .ok (.getfield 32, 3) := by decide +kernel
theorem dX11_fewest_53 : decode cX11_fewest 53 = .ok (.getfield 86, 3) := by decide +kernel
theorem dX11_fewest_56 : decode cX11_fewest 56 = .ok (.getfield 143, 3) := by decide +kernel
theorem dX11_fewest_59 : decode cX11_fewest 59 = .ok (.aload_n 0, 1) := by decide +kernel
theorem dX11_fewest_60 : decode cX11_fewest 60 = .ok (.getfield 32, 3) := by decide +kernel
theorem dX11_fewest_63 : decode cX11_fewest 63 = .ok (.getfield 95, 3) := by decide +kernel
theorem dX11_fewest_66 : decode cX11_fewest 66 = .ok (.invokestatic 169, 3) := by decide +kernel
theorem dX11_fewest_69 : decode cX11_fewest 69 = .ok (.iconst (-1), 1) := by decide +kernel
theorem dX11_fewest_70 : decode cX11_fewest 70 = .ok (.ixor, 1) := by decide +kernel
theorem dX11_fewest_71 : decode cX11_fewest 71 = .ok (.iand, 1) := by decide +kernel
theorem dX11_fewest_72 : decode cX11_fewest 72 = .ok (.invokestatic 161, 3) := by decide +kernel
theorem dX11_fewest_75 : decode cX11_fewest 75 = .ok (.iadd, 1) := by decide +kernel
theorem dX11_fewest_76 : decode cX11_fewest 76 = .ok (.ireturn, 1) := by decide +kernel
theorem dX11_fewest_44 : decode cX11_fewest 44 = .ok (.iload_n 2, 1) := by decide +kernel
theorem dX11_fewest_45 : decode cX11_fewest 45 = .ok (.goto 31, 3) := by decide +kernel
set_option maxHeartbeats 4000000 in
set_option maxRecDepth 100000 in
theorem c_W_fewest_r (l : Launch) (D : va_G) (cs : Nat → ClassId) (ox : Nat) (ht : Nat) (hq : Nat) (og : Nat) (rc : Int32) (hw : Nat) (om : Nat) (hp : Nat) (ha : Nat) (hf : Nat) (hw0 : Nat) (qh : Option Nat) (qo : Option Nat) (wk : Int32) (wc : Int32) (wx : Int32) (wn : Int32) (wa0 : Nat) (wa1 : Nat) (wa2 : Nat) (wa3 : Nat) (hl0 : Nat) (lb : Int32) (lh : Int32) (lg : Int32) (lw : Int32) (lv : Int32) (lbs : Int32) (lti : Int32) (lts : Int32) (le : Int32) (lk : Int32) (la : Int32) (l0 : Nat) (l1 : Nat) (l2 : Nat) (l3 : Nat) (l4 : Nat) (l5 : Nat) (l6 : Nat) (l7 : Nat) (f0 : Nat → Int32) (f1 : Nat → Int32) (a : Int32) (r_lb : Rg 0 8 lb) (r_lh : Rg 0 8 lh) (r_le : Rg 0 6 le) (hbw : BK wk) : Met l yX11_fewest (Cond.code yX11_fewest cX11_fewest 3 (some .int) :: TB) (RM 5 0 0) (va_Pc [.ref ox, .int a] (PRR D cs [(ox, .inr (9, [.ref ht, .ref hq, .ref og, .int rc, .ref hw, .ref om, .ref hp, .ref ha, .ref hf, .ref hw0, va_rf qh, va_rf qo])), (hw, .inr (8, [.ref hl0, .int wk, .int wc, .int wx, .int wn, .ref wa0, .ref wa1, .ref wa2, .ref wa3])), (hl0, .inr (2, [.int lb, .int lh, .int lg, .int lw, .int lv, .int lbs, .int lti, .int lts, .int le, .int lk, .int la, .ref l0, .ref l1, .ref l2, .ref l3, .ref l4, .ref l5, .ref l6, .ref l7])), (l0, .inl ((cs 0), 8, .inl f0)), (l1, .inl ((cs 0), 8, .inl f1))])) (QP (fun v => ∃ x : Int32, v = .int x)) 0 0 (fun _ => False) := by
  refine MER (y := yX11_fewest) (cc := cX11_fewest) (maxL := 3) (ret := (some .int)) (d := 5) (D := D) (cs := cs) (ws := [(ox, .inr (9, [.ref ht, .ref hq, .ref og, .int rc, .ref hw, .ref om, .ref hp, .ref ha, .ref hf, .ref hw0, va_rf qh, va_rf qo])), (hw, .inr (8, [.ref hl0, .int wk, .int wc, .int wx, .int wn, .ref wa0, .ref wa1, .ref wa2, .ref wa3])), (hl0, .inr (2, [.int lb, .int lh, .int lg, .int lw, .int lv, .int lbs, .int lti, .int lts, .int le, .int lk, .int la, .ref l0, .ref l1, .ref l2, .ref l3, .ref l4, .ref l5, .ref l6, .ref l7])), (l0, .inl ((cs 0), 8, .inl f0)), (l1, .inl ((cs 0), 8, .inl f1))]) (av := [.ref ox, .int a]) (Qc := QP (fun v => ∃ x : Int32, v = .int x)) (by decide) (Nat.le_of_ble_eq_true rfl) ?_
  intro p e s m below meth c ls H hHe hx hb hr hml hown hts hlocks hP hK hN hl
  obtain ⟨locs, hlc⟩ : ∃ z : List Loc, z = [] := ⟨_, rfl⟩
  rw [← hlc]
  have hown : s.vm.findClass "WrongHole" = some m.cls := hown
  have hT : ∀ w ∈ TB, w.before ([.ref ox, .int a] : List Value).toArray s = true := fun w h => hts w (List.mem_cons_of_mem _ h)
  have hl : lv_has ls 3 [(0, .ref ox), (1, .int a)] := hl
  have hP : va_P D vwCl [(ox, .inr (9, [.ref ht, .ref hq, .ref og, .int rc, .ref hw, .ref om, .ref hp, .ref ha, .ref hf, .ref hw0, va_rf qh, va_rf qo])), (hw, .inr (8, [.ref hl0, .int wk, .int wc, .int wx, .int wn, .ref wa0, .ref wa1, .ref wa2, .ref wa3])), (hl0, .inr (2, [.int lb, .int lh, .int lg, .int lw, .int lv, .int lbs, .int lti, .int lts, .int le, .int lk, .int la, .ref l0, .ref l1, .ref l2, .ref l3, .ref l4, .ref l5, .ref l6, .ref l7])), (l0, .inl ((cs 0), 8, .inl f0)), (l1, .inl ((cs 0), 8, .inl f1))] H := hP
  refine lv_aload_n hx hb dX11_fewest_0 rfl (lv_at hl 0 rfl) ?_
  refine va_get (D := D) (ci := 9) (v := .ref hw) (C := "WrongHole") (T := TX11) (N := 12) hx hb hts (iq_RX11 _) hown hK hP 0 rfl rfl 4 (by decide) (hT _ qq_1_206) (fun _ h9 => h9) rfl dX11_fewest_1 ?_
  refine va_getN (D := D) (ci := 8) (v := .ref hl0) (C := "WrongHole$Worn") (T := TX10) (N := 9) hx hb hts (iq_RX10 _) hown hK hP 1 rfl rfl 0 (by decide) (NN.f hN nq_1_99) (fun _ h9 => h9) rfl dX11_fewest_4 ?_
  refine lv_ifnull hx hb dX11_fewest_7 ?_
  refine lv_iload_n hx hb dX11_fewest_10 rfl (lv_at hl 1 rfl) ?_
  refine lv_if_lt (tgt := 19) hx hb dX11_fewest_11 (by decide) (fun c_1 => ?_) (fun c_1 => ?_)
  · have r_2 : Rg (-2147483648) (-1) a := Rg.lt_l c_1 (Rg.top a) (Rg.c (c := 0) (k := 0) rfl) (by decide)
    refine lv_iconst (v := (-1)) hx hb dX11_fewest_19 (by decide) ?_
    exact W.iret (v := (-1)) hx hb hr (fun t9 ht9 hW9 => ⟨⟨_, rfl, _, rfl⟩, ht9.trans hHe⟩) (fun _ h9 => by rw [hlc] at h9; exact absurd h9 List.not_mem_nil) dX11_fewest_20
  · have r_3 : Rg 0 2147483647 a := Rg.le_r (nlt_le c_1) (Rg.c (c := 0) (k := 0) rfl) (Rg.top a) (by decide)
    refine lv_iload_n hx hb dX11_fewest_14 rfl (lv_at hl 1 rfl) ?_
    refine lv_iconst (v := 1) hx hb dX11_fewest_15 (by decide) ?_
    refine lv_icmp_le (tgt := 21) hx hb dX11_fewest_16 (by decide) (fun c_4 => ?_) (fun c_4 => ?_)
    · have r_5 : Rg 0 1 a := Rg.le_l c_4 r_3 (Rg.c (c := 1) (k := 1) rfl) (by decide)
      refine lv_aload_n hx hb dX11_fewest_21 rfl (lv_at hl 0 rfl) ?_
      refine va_get (D := D) (ci := 9) (v := .ref hw) (C := "WrongHole") (T := TX11) (N := 12) hx hb hts (iq_RX11 _) hown hK hP 0 rfl rfl 4 (by decide) (hT _ qq_1_206) (fun _ h9 => h9) rfl dX11_fewest_22 ?_
      refine va_getN (D := D) (ci := 8) (v := .ref hl0) (C := "WrongHole$Worn") (T := TX10) (N := 9) hx hb hts (iq_RX10 _) hown hK hP 1 rfl rfl 0 (by decide) (NN.f hN nq_1_99) (fun _ h9 => h9) rfl dX11_fewest_25 ?_
      refine lv_aload_n hx hb dX11_fewest_28 rfl (lv_at hl 0 rfl) ?_
      refine va_get (D := D) (ci := 9) (v := .ref hw) (C := "WrongHole") (T := TX11) (N := 12) hx hb hts (iq_RX11 _) hown hK hP 0 rfl rfl 4 (by decide) (hT _ qq_1_206) (fun _ h9 => h9) rfl dX11_fewest_29 ?_
      refine va_getN (D := D) (ci := 8) (v := .int wk) (C := "WrongHole$Worn") (T := TX10) (N := 9) hx hb hts (iq_RX10 _) hown hK hP 1 rfl rfl 1 (by decide) (NN.f hN nq_1_101) (fun _ h9 => h9) rfl dX11_fewest_32 ?_
      have hPc := va_P.sub (ws' := [(hl0, .inr (2, [.int lb, .int lh, .int lg, .int lw, .int lv, .int lbs, .int lti, .int lts, .int le, .int lk, .int la, .ref l0, .ref l1, .ref l2, .ref l3, .ref l4, .ref l5, .ref l6, .ref l7])), (l0, .inl ((cs 0), 8, .inl f0)), (l1, .inl ((cs 0), 8, .inl f1))]) hP [2, 3, 4] rfl
      refine cl_P (W.runV (As := [.int wk]) (rest := []) ⟨hx, hb, hml, hown, hts⟩ (c_Lift_mustUndo l D cs hl0 lb lh lg lw lv lbs lti lts le lk la l0 l1 l2 l3 l4 l5 l6 l7 f0 f1 wk r_lb r_lh r_le hbw) ⟨callB_of 1 hts (gd_C qq_4_116) rfl rfl rfl (hT _ qq_1_11) (hT _ qq_4_113) (by decide +kernel) (rm_R rfl rfl), (hT _ qq_4_114), (hT _ qq_4_115)⟩ (pq_V hPc hK hN (ci := 2) (q0 := 0) rfl rfl) rfl rfl hl.1 rfl (lv_room (Nat.le_of_ble_eq_true rfl)) dX11_fewest_35 ⟨Nat.le_of_ble_eq_true rfl, Nat.le_of_ble_eq_true rfl⟩) (fun v9 hz_8 => ?_)
      obtain ⟨x_7, rfl⟩ := hz_8
      refine lv_istore_n (lv' := [(2, .int x_7), (0, .ref ox), (1, .int a)]) hx hb dX11_fewest_38 rfl hl (by decide) rfl (fun ls hl => ?_)
      refine lv_iload_n hx hb dX11_fewest_39 rfl (lv_at hl 2 rfl) ?_
      refine lv_iconst (v := 1) hx hb dX11_fewest_40 (by decide) ?_
      refine lv_icmp_ne (tgt := 48) hx hb dX11_fewest_41 (by decide) (fun c_10 => ?_) (fun c_10 => ?_)
      · have r_11 : Rg 0 0 a := Rg.ne c_10 r_5 (Rg.c (c := 1) (k := 1) rfl) (by decide)
        refine lv_iload_n hx hb dX11_fewest_48 rfl (lv_at hl 0 rfl) ?_
        refine lv_aload_n hx hb dX11_fewest_49 rfl (lv_at hl 1 rfl) ?_
        refine va_get (D := D) (ci := 9) (v := .ref hw) (C := "WrongHole") (T := TX11) (N := 12) hx hb hts (iq_RX11 _) hown hK hP 0 rfl rfl 4 (by decide) (hT _ qq_1_206) (fun _ h9 => h9) rfl dX11_fewest_50 ?_
        refine va_getN (D := D) (ci := 8) (v := .ref hl0) (C := "WrongHole$Worn") (T := TX10) (N := 9) hx hb hts (iq_RX10 _) hown hK hP 1 rfl rfl 0 (by decide) (NN.f hN nq_1_99) (fun _ h9 => h9) rfl dX11_fewest_53 ?_
        refine va_getN (D := D) (ci := 2) (v := .int la) (C := "WrongHole$Lift") (T := TX2) (N := 19) hx hb hts (iq_RX2 _) hown hK hP 2 rfl rfl 10 (by decide) (NN.f hN nq_2_63) (fun _ h9 => h9) rfl dX11_fewest_56 ?_
        refine lv_aload_n hx hb dX11_fewest_59 rfl (lv_at hl 1 rfl) ?_
        refine va_get (D := D) (ci := 9) (v := .ref hw) (C := "WrongHole") (T := TX11) (N := 12) hx hb hts (iq_RX11 _) hown hK hP 0 rfl rfl 4 (by decide) (hT _ qq_1_206) (fun _ h9 => h9) rfl dX11_fewest_60 ?_
        refine va_getN (D := D) (ci := 8) (v := .int wk) (C := "WrongHole$Worn") (T := TX10) (N := 9) hx hb hts (iq_RX10 _) hown hK hP 1 rfl rfl 1 (by decide) (NN.f hN nq_1_101) (fun _ h9 => h9) rfl dX11_fewest_63 ?_
        have hPc := va_P.sub (ws' := []) hP [] rfl
        refine cl_P (W.runS (As := [.int wk]) (rest := [.int la, .int x_7]) ⟨hx, hb, hml, hown, hts⟩ (c_Rows_right l D cs wk) ⟨callB_of 1 hts (gd_C qq_3_205) rfl rfl rfl (hT _ qq_1_16) (hT _ qq_3_207) (by decide +kernel) (rm_R rfl rfl), (hT _ qq_3_204)⟩ (pq_S hPc hK hN) rfl rfl hl.1 rfl (lv_room (Nat.le_of_ble_eq_true rfl)) dX11_fewest_66 ⟨Nat.le_of_ble_eq_true rfl, Nat.le_of_ble_eq_true rfl⟩) (fun v9 hz_26 => ?_)
        obtain ⟨x_25, rfl⟩ := hz_26
        refine lv_iconst (v := (-1)) hx hb dX11_fewest_69 (by decide) ?_
        refine lv_ixor hx hb dX11_fewest_70 ?_
        refine lv_topi (fun x_28 e_29 => ?_)
        refine lv_iand hx hb dX11_fewest_71 ?_
        refine lv_topi (fun x_30 e_31 => ?_)
        have hPc := va_P.sub (ws' := []) hP [] rfl
        refine cl_P (W.runS (As := [.int x_30]) (rest := [.int x_7]) ⟨hx, hb, hml, hown, hts⟩ (c_bitCount l D cs x_30) ⟨callB_of 1 hts (gd_C qq_3_26) rfl rfl rfl (hT _ qq_1_17) (hT _ qq_3_199) (by decide +kernel) (rm_R rfl rfl), (hT _ qq_3_25)⟩ (pq_S hPc hK hN) rfl rfl hl.1 rfl (lv_room (Nat.le_of_ble_eq_true rfl)) dX11_fewest_72 ⟨Nat.le_of_ble_eq_true rfl, Nat.le_of_ble_eq_true rfl⟩) (fun v9 hz_33 => ?_)
        obtain ⟨x_32, rfl, r_34⟩ := hz_33
        refine lv_iadd hx hb dX11_fewest_75 ?_
        refine lv_topi (fun x_35 e_36 => ?_)
        exact W.iret (v := x_35) hx hb hr (fun t9 ht9 hW9 => ⟨⟨_, rfl, _, rfl⟩, ht9.trans hHe⟩) (fun _ h9 => by rw [hlc] at h9; exact absurd h9 List.not_mem_nil) dX11_fewest_76
      · have r_12 : Rg 1 1 a := Rg.eq_l c_10 r_5 (Rg.c (c := 1) (k := 1) rfl) (by decide)
        refine lv_iload_n hx hb dX11_fewest_44 rfl (lv_at hl 0 rfl) ?_
        refine lv_goto (tgt := 76) hx hb dX11_fewest_45 (by decide) ?_
        exact W.iret (v := x_7) hx hb hr (fun t9 ht9 hW9 => ⟨⟨_, rfl, _, rfl⟩, ht9.trans hHe⟩) (fun _ h9 => by rw [hlc] at h9; exact absurd h9 List.not_mem_nil) dX11_fewest_76
    · have r_6 : Rg 2 2147483647 a := Rg.lt_r (nle_lt c_4) (Rg.c (c := 1) (k := 1) rfl) r_3 (by decide)
      refine lv_iconst (v := (-1)) hx hb dX11_fewest_19 (by decide) ?_
      exact W.iret (v := (-1)) hx hb hr (fun t9 ht9 hW9 => ⟨⟨_, rfl, _, rfl⟩, ht9.trans hHe⟩) (fun _ h9 => by rw [hlc] at h9; exact absurd h9 List.not_mem_nil) dX11_fewest_20
