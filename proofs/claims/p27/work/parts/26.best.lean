theorem dX11_tellOf_0 : decode cX11_tellOf 0 = .ok (.iload_n 1, 1) := by decide +kernel
theorem dX11_tellOf_1 : decode cX11_tellOf 1 = .ok (.invokestatic 348, 3) := by decide +kernel
theorem qq_4_81 : Cond.methodLink "WrongHole" 348 yX6_buttonOf ∈ TB := mk_tb (ti_4 (List.mem_of_getElem? (i := 81) rfl)) rfl
theorem dX11_tellOf_4 : decode cX11_tellOf 4 = .ok (.istore_n 3, 1) := by decide +kernel
theorem dX11_tellOf_5 : decode cX11_tellOf 5 = .ok (.aload_n 0, 1) := by decide +kernel
theorem dX11_tellOf_6 : decode cX11_tellOf 6 = .ok (.getfield 61, 3) := by decide +kernel
theorem qq_1_211 : Cond.fieldLink "WrongHole" 61 "WrongHole" "words" "[I" ∈ TB := mk_tb (ti_1 (List.mem_of_getElem? (i := 211) rfl)) rfl
theorem dX11_tellOf_9 : decode cX11_tellOf 9 = .ok (.iconst 0, 1) := by decide +kernel
theorem dX11_tellOf_10 : decode cX11_tellOf 10 = .ok (.iload_n 1, 1) := by decide +kernel
theorem dX11_tellOf_11 : decode cX11_tellOf 11 = .ok (.invokestatic 273, 3) := by decide +kernel
theorem qq_4_82 : Cond.methodLink "WrongHole" 273 yX6_does ∈ TB := mk_tb (ti_4 (List.mem_of_getElem? (i := 82) rfl)) rfl
theorem dX11_tellOf_14 : decode cX11_tellOf 14 = .ok (.iastore, 1) := by decide +kernel
theorem dX11_tellOf_15 : decode cX11_tellOf 15 = .ok (.aload_n 0, 1) := by decide +kernel
theorem dX11_tellOf_16 : decode cX11_tellOf 16 = .ok (.getfield 61, 3) := by decide +kernel
theorem dX11_tellOf_19 : decode cX11_tellOf 19 = .ok (.iconst 1, 1) := by decide +kernel
theorem dX11_tellOf_20 : decode cX11_tellOf 20 = .ok (.iload_n 3, 1) := by decide +kernel
theorem dX11_tellOf_21 : decode cX11_tellOf 21 = .ok (.iastore, 1) := by decide +kernel
theorem dX11_tellOf_22 : decode cX11_tellOf 22 = .ok (.aload_n 0, 1) := by decide +kernel
theorem dX11_tellOf_23 : decode cX11_tellOf 23 = .ok (.getfield 61, 3) := by decide +kernel
theorem dX11_tellOf_26 : decode cX11_tellOf 26 = .ok (.iconst 2, 1) := by decide +kernel
theorem dX11_tellOf_27 : decode cX11_tellOf 27 = .ok (.iload_n 1, 1) := by decide +kernel
theorem dX11_tellOf_28 : decode cX11_tellOf 28 = .ok (.iconst 2, 1) := by decide +kernel
theorem dX11_tellOf_29 : decode cX11_tellOf 29 = .ok (.invokestatic 234, 3) := by decide +kernel
theorem dX11_tellOf_32 : decode cX11_tellOf 32 = .ok (.iastore, 1) := by decide +kernel
theorem dX11_tellOf_33 : decode cX11_tellOf 33 = .ok (.aload_n 0, 1) := by decide +kernel
theorem dX11_tellOf_34 : decode cX11_tellOf 34 = .ok (.getfield 61, 3) := by decide +kernel
theorem dX11_tellOf_37 : decode cX11_tellOf 37 = .ok (.iconst 3, 1) := by decide +kernel
theorem dX11_tellOf_38 : decode cX11_tellOf 38 = .ok (.iload_n 3, 1) := by decide +kernel
theorem dX11_tellOf_39 : decode cX11_tellOf 39 = .ok (.iload_n 1, 1) := by decide +kernel
theorem dX11_tellOf_40 : decode cX11_tellOf 40 = .ok (.iconst 2, 1) := by decide +kernel
theorem dX11_tellOf_41 : decode cX11_tellOf 41 = .ok (.invokestatic 234, 3) := by decide +kernel
theorem dX11_tellOf_44 : decode cX11_tellOf 44 = .ok (.if_icmp .ne 7, 3) := by decide +kernel
theorem dX11_tellOf_52 : decode cX11_tellOf 52 = .ok (.iastore, 1) := by decide +kernel
theorem dX11_tellOf_53 : decode cX11_tellOf 53 = .ok (.aload_n 0, 1) := by decide +kernel
theorem dX11_tellOf_54 : decode cX11_tellOf 54 = .ok (.getfield 61, 3) := by decide +kernel
theorem dX11_tellOf_57 : decode cX11_tellOf 57 = .ok (.bipush 7, 2) := by decide +kernel
theorem dX11_tellOf_59 : decode cX11_tellOf 59 = .ok (.aload_n 2, 1) := by decide +kernel
theorem dX11_tellOf_60 : decode cX11_tellOf 60 = .ok (.aload_n 0, 1) := by decide +kernel
theorem dX11_tellOf_61 : decode cX11_tellOf 61 = .ok (.getfield 32, 3) := by decide +kernel
theorem dX11_tellOf_64 : decode cX11_tellOf 64 = .ok (.getfield 95, 3) := by decide +kernel
theorem dX11_tellOf_67 : decode cX11_tellOf 67 = .ok (.iload_n 1, 1) := by decide +kernel
theorem dX11_tellOf_68 : decode cX11_tellOf 68 = .ok (.invokestatic 223, 3) := by decide +kernel
theorem dX11_tellOf_71 : decode cX11_tellOf 71 = .ok (.invokestatic 158, 3) := by decide +kernel
theorem dX11_tellOf_74 : decode cX11_tellOf 74 = .ok (.invokevirtual 172, 3) := by decide +kernel
theorem dX11_tellOf_77 : decode cX11_tellOf 77 = .ok (.iastore, 1) := by decide +kernel
theorem dX11_tellOf_78 : decode cX11_tellOf 78 = .ok (.aload_n 0, 1) := by decide +kernel
theorem dX11_tellOf_79 : decode cX11_tellOf 79 = .ok (.getfield 61, 3) := by decide +kernel
theorem dX11_tellOf_82 : decode cX11_tellOf 82 = .ok (.bipush 8, 2) := by decide +kernel
theorem dX11_tellOf_84 : decode cX11_tellOf 84 = .ok (.aload_n 2, 1) := by decide +kernel
theorem dX11_tellOf_85 : decode cX11_tellOf 85 = .ok (.iload_n 1, 1) := by decide +kernel
theorem dX11_tellOf_86 : decode cX11_tellOf 86 = .ok (.invokevirtual 220, 3) := by decide +kernel
theorem dX11_tellOf_89 : decode cX11_tellOf 89 = .ok (.iastore, 1) := by decide +kernel
theorem dX11_tellOf_90 : decode cX11_tellOf 90 = .ok (.aload_n 0, 1) := by decide +kernel
theorem dX11_tellOf_91 : decode cX11_tellOf 91 = .ok (.getfield 61, 3) := by decide +kernel
theorem dX11_tellOf_94 : decode cX11_tellOf 94 = .ok (.bipush 10, 2) := by decide +kernel
theorem dX11_tellOf_96 : decode cX11_tellOf 96 = .ok (.aload_n 2, 1) := by decide +kernel
theorem dX11_tellOf_97 : decode cX11_tellOf 97 = .ok (.iload_n 3, 1) := by decide +kernel
theorem dX11_tellOf_98 : decode cX11_tellOf 98 = .ok (.aload_n 0, 1) := by decide +kernel
theorem dX11_tellOf_99 : decode cX11_tellOf 99 = .ok (.getfield 32, 3) := by decide +kernel
theorem dX11_tellOf_102 : decode cX11_tellOf 102 = .ok (.getfield 96, 3) := by decide +kernel
theorem dX11_tellOf_105 : decode cX11_tellOf 105 = .ok (.invokevirtual 140, 3) := by decide +kernel
theorem dX11_tellOf_108 : decode cX11_tellOf 108 = .ok (.iastore, 1) := by decide +kernel
theorem dX11_tellOf_109 : decode cX11_tellOf 109 = .ok (.aload_n 0, 1) := by decide +kernel
theorem dX11_tellOf_110 : decode cX11_tellOf 110 = .ok (.getfield 61, 3) := by decide +kernel
theorem dX11_tellOf_113 : decode cX11_tellOf 113 = .ok (.bipush 11, 2) := by decide +kernel
theorem dX11_tellOf_115 : decode cX11_tellOf 115 = .ok (.aload_n 2, 1) := by decide +kernel
theorem dX11_tellOf_116 : decode cX11_tellOf 116 = .ok (.getfield 137, 3) := by decide +kernel
theorem dX11_tellOf_119 : decode cX11_tellOf 119 = .ok (.iload_n 3, 1) := by decide +kernel
theorem dX11_tellOf_120 : decode cX11_tellOf 120 = .ok (.iaload, 1) := by decide +kernel
theorem dX11_tellOf_121 : decode cX11_tellOf 121 = .ok (.iastore, 1) := by decide +kernel
theorem dX11_tellOf_122 : decode cX11_tellOf 122 = .ok (.return_, 1) := by decide +kernel
theorem dX11_tellOf_51 : decode cX11_tellOf 51 = .ok (.iconst 0, 1) := by decide +kernel
theorem dX11_tellOf_47 : decode cX11_tellOf 47 = .ok (.iconst 1, 1) := by decide +kernel
theorem dX11_tellOf_48 : decode cX11_tellOf 48 = .ok (.goto 4, 3) := by decide +kernel
set_option maxHeartbeats 4000000 in
set_option maxRecDepth 100000 in
theorem c_W_tellOf (l : Launch) (D : va_G) (cs : Nat → ClassId) (X : XX) (sz : Nat) (ox : Nat) (ht : Nat) (hq : Nat) (og : Nat) (rc : Int32) (hw : Nat) (om : Nat) (hp : Nat) (ha : Nat) (hf : Nat) (hw0 : Nat) (qh : Option Nat) (qo : Option Nat) (wk : Int32) (wc : Int32) (wx : Int32) (wn : Int32) (wa0 : Nat) (wa1 : Nat) (wa2 : Nat) (wa3 : Nat) (gw : Nat → Int32) (hl0 : Nat) (lb : Int32) (lh : Int32) (lg : Int32) (lw : Int32) (lv : Int32) (lbs : Int32) (lti : Int32) (lts : Int32) (le : Int32) (lk : Int32) (la : Int32) (l0 : Nat) (l1 : Nat) (l2 : Nat) (l3 : Nat) (l4 : Nat) (l5 : Nat) (l6 : Nat) (l7 : Nat) (f2 : Nat → Int32) (f3 : Nat → Int32) (f4 : Nat → Int32) (f6 : Nat → Int32) (f7 : Nat → Int32) (a : Int32) (r_lb : Rg 0 8 lb) (r_lh : Rg 0 8 lh) (r_le : Rg 0 6 le) : Met l yX11_tellOf (Cond.code yX11_tellOf cX11_tellOf 4 none :: TB) (RM 2 0 0) (va_Pc [.ref ox, .int a, .ref hl0] (PRE D cs X [(ox, .inr (9, [.ref ht, .ref hq, .ref og, .int rc, .ref hw, .ref om, .ref hp, .ref ha, .ref hf, .ref hw0, va_rf qh, va_rf qo])), (hw, .inr (8, [.ref hl0, .int wk, .int wc, .int wx, .int wn, .ref wa0, .ref wa1, .ref wa2, .ref wa3])), (hw0, .inl ((cs 0), 12, .inl gw))] [(hl0, .inr (2, [.int lb, .int lh, .int lg, .int lw, .int lv, .int lbs, .int lti, .int lts, .int le, .int lk, .int la, .ref l0, .ref l1, .ref l2, .ref l3, .ref l4, .ref l5, .ref l6, .ref l7])), (l2, .inl ((cs 0), 8, .inl f2)), (l3, .inl ((cs 0), 8, .inl f3)), (l4, .inl ((cs 0), 8, .inl f4)), (l6, .inl ((cs 0), 6, .inl f6)), (l7, .inl ((cs 0), 6, .inl f7))] sz)) (va_Qv (S := Unit) (fun _ => True) (fun _ t => ∃ (gw2 : Nat → Int32), va_P D vwCl [(ox, .inr (9, [.ref ht, .ref hq, .ref og, .int rc, .ref hw, .ref om, .ref hp, .ref ha, .ref hf, .ref hw0, va_rf qh, va_rf qo])), (hw, .inr (8, [.ref hl0, .int wk, .int wc, .int wx, .int wn, .ref wa0, .ref wa1, .ref wa2, .ref wa3])), (hw0, .inl ((cs 0), 12, .inl gw2))] t.heap ∧ va_D (va_A [(ox, .inr (9, [.ref ht, .ref hq, .ref og, .int rc, .ref hw, .ref om, .ref hp, .ref ha, .ref hf, .ref hw0, va_rf qh, va_rf qo])), (hw, .inr (8, [.ref hl0, .int wk, .int wc, .int wx, .int wn, .ref wa0, .ref wa1, .ref wa2, .ref wa3])), (hw0, .inl ((cs 0), 12, .inl gw))] sz) [(ox, .inr (9, [.ref ht, .ref hq, .ref og, .int rc, .ref hw, .ref om, .ref hp, .ref ha, .ref hf, .ref hw0, va_rf qh, va_rf qo])), (hw, .inr (8, [.ref hl0, .int wk, .int wc, .int wx, .int wn, .ref wa0, .ref wa1, .ref wa2, .ref wa3])), (hw0, .inl ((cs 0), 12, .inl gw2))]) (va_A [(ox, .inr (9, [.ref ht, .ref hq, .ref og, .int rc, .ref hw, .ref om, .ref hp, .ref ha, .ref hf, .ref hw0, va_rf qh, va_rf qo])), (hw, .inr (8, [.ref hl0, .int wk, .int wc, .int wx, .int wn, .ref wa0, .ref wa1, .ref wa2, .ref wa3])), (hw0, .inl ((cs 0), 12, .inl gw))] sz)) 0 0 (va_A [(ox, .inr (9, [.ref ht, .ref hq, .ref og, .int rc, .ref hw, .ref om, .ref hp, .ref ha, .ref hf, .ref hw0, va_rf qh, va_rf qo])), (hw, .inr (8, [.ref hl0, .int wk, .int wc, .int wx, .int wn, .ref wa0, .ref wa1, .ref wa2, .ref wa3])), (hw0, .inl ((cs 0), 12, .inl gw))] sz) := by
  refine MET (y := yX11_tellOf) (cc := cX11_tellOf) (maxL := 4) (ret := none) (d := 2) (mc := 0) (ms := 0) (D := D) (cs := cs) (X := X) (ws := [(ox, .inr (9, [.ref ht, .ref hq, .ref og, .int rc, .ref hw, .ref om, .ref hp, .ref ha, .ref hf, .ref hw0, va_rf qh, va_rf qo])), (hw, .inr (8, [.ref hl0, .int wk, .int wc, .int wx, .int wn, .ref wa0, .ref wa1, .ref wa2, .ref wa3])), (hw0, .inl ((cs 0), 12, .inl gw))]) (wo := [(hl0, .inr (2, [.int lb, .int lh, .int lg, .int lw, .int lv, .int lbs, .int lti, .int lts, .int le, .int lk, .int la, .ref l0, .ref l1, .ref l2, .ref l3, .ref l4, .ref l5, .ref l6, .ref l7])), (l2, .inl ((cs 0), 8, .inl f2)), (l3, .inl ((cs 0), 8, .inl f3)), (l4, .inl ((cs 0), 8, .inl f4)), (l6, .inl ((cs 0), 6, .inl f6)), (l7, .inl ((cs 0), 6, .inl f7))]) (sz := sz) (av := [.ref ox, .int a, .ref hl0]) (Qc := fun A => va_Qv (S := Unit) (fun _ => True) (fun _ t => ∃ (gw2 : Nat → Int32), va_P D vwCl [(ox, .inr (9, [.ref ht, .ref hq, .ref og, .int rc, .ref hw, .ref om, .ref hp, .ref ha, .ref hf, .ref hw0, va_rf qh, va_rf qo])), (hw, .inr (8, [.ref hl0, .int wk, .int wc, .int wx, .int wn, .ref wa0, .ref wa1, .ref wa2, .ref wa3])), (hw0, .inl ((cs 0), 12, .inl gw2))] t.heap ∧ va_D A [(ox, .inr (9, [.ref ht, .ref hq, .ref og, .int rc, .ref hw, .ref om, .ref hp, .ref ha, .ref hf, .ref hw0, va_rf qh, va_rf qo])), (hw, .inr (8, [.ref hl0, .int wk, .int wc, .int wx, .int wn, .ref wa0, .ref wa1, .ref wa2, .ref wa3])), (hw0, .inl ((cs 0), 12, .inl gw2))]) A) (by decide) (Nat.le_of_ble_eq_true rfl) ?_
  intro p e s m below meth c ls A H hHe hx hb hr hml hown hts hlocks hnm hP hK hD hA hS hN hR hX hXs hl
  have hD : va_D A [(ox, .inr (9, [.ref ht, .ref hq, .ref og, .int rc, .ref hw, .ref om, .ref hp, .ref ha, .ref hf, .ref hw0, va_rf qh, va_rf qo])), (hw, .inr (8, [.ref hl0, .int wk, .int wc, .int wx, .int wn, .ref wa0, .ref wa1, .ref wa2, .ref wa3])), (hw0, .inl ((cs 0), 12, .inl gw))] := hD
  have hPo := hR.at hS
  obtain ⟨locs, hlc⟩ : ∃ z : List Loc, z = [] := ⟨_, rfl⟩
  rw [← hlc] at hS ⊢
  have hown : s.vm.findClass "WrongHole" = some m.cls := hown
  have hT : ∀ w ∈ TB, w.before ([.ref ox, .int a, .ref hl0] : List Value).toArray s = true := fun w h => hts w (List.mem_cons_of_mem _ h)
  have hl : lv_has ls 4 [(0, .ref ox), (1, .int a), (2, .ref hl0)] := hl
  have hP : va_P D vwCl [(ox, .inr (9, [.ref ht, .ref hq, .ref og, .int rc, .ref hw, .ref om, .ref hp, .ref ha, .ref hf, .ref hw0, va_rf qh, va_rf qo])), (hw, .inr (8, [.ref hl0, .int wk, .int wc, .int wx, .int wn, .ref wa0, .ref wa1, .ref wa2, .ref wa3])), (hw0, .inl ((cs 0), 12, .inl gw))] H := hP
  refine lv_iload_n hx hb dX11_tellOf_0 rfl (lv_at hl 1 rfl) ?_
  have hPc := va_P.sub (ws' := []) hP [] rfl
  refine cl_P (W.runS (As := [.int a]) (rest := []) ⟨hx, hb, hml, hown, hts⟩ (c_Rows_buttonOf l D cs a) ⟨callB_of 1 hts (gd_C qq_3_39) rfl rfl rfl (hT _ qq_1_16) (hT _ qq_4_81) (by decide +kernel) (rm_R rfl rfl), (hT _ qq_3_38)⟩ (pq_S hPc hK hN) rfl rfl hl.1 rfl (lv_room (Nat.le_of_ble_eq_true rfl)) dX11_tellOf_1 ⟨Nat.le_of_ble_eq_true rfl, Nat.le_of_ble_eq_true rfl⟩) (fun v9 hz_2 => ?_)
  obtain ⟨x_1, rfl, r_3⟩ := hz_2
  refine lv_istore_n (lv' := [(3, .int x_1), (0, .ref ox), (1, .int a), (2, .ref hl0)]) hx hb dX11_tellOf_4 rfl hl (by decide) rfl (fun ls hl => ?_)
  refine lv_aload_n hx hb dX11_tellOf_5 rfl (lv_at hl 1 rfl) ?_
  refine va_get (D := D) (ci := 9) (v := .ref hw0) (C := "WrongHole") (T := TX11) (N := 12) hx hb hts (iq_RX11 _) hown hK hP 0 rfl rfl 9 (by decide) (hT _ qq_1_211) (fun _ h9 => h9) rfl dX11_tellOf_6 ?_
  refine lv_iconst (v := 0) hx hb dX11_tellOf_9 (by decide) ?_
  refine lv_iload_n hx hb dX11_tellOf_10 rfl (lv_at hl 2 rfl) ?_
  have hPc := va_P.sub (ws' := []) hP [] rfl
  refine cl_P (W.runS (As := [.int a]) (rest := [.int 0, .ref hw0]) ⟨hx, hb, hml, hown, hts⟩ (c_Rows_does l D cs a) ⟨callB_of 1 hts (gd_C qq_4_12) rfl rfl rfl (hT _ qq_1_16) (hT _ qq_4_82) (by decide +kernel) (rm_R rfl rfl), (hT _ qq_4_11)⟩ (pq_S hPc hK hN) rfl rfl hl.1 rfl (lv_room (Nat.le_of_ble_eq_true rfl)) dX11_tellOf_11 ⟨Nat.le_of_ble_eq_true rfl, Nat.le_of_ble_eq_true rfl⟩) (fun v9 hz_5 => ?_)
  obtain ⟨x_4, rfl, r_6⟩ := hz_5
  have hi_7 : vp_in 0 12 := vi_c rfl
  refine va_iast hx hb hK hP hD hS 2 0 rfl rfl hi_7 dX11_tellOf_14 (fun H locs hP hD hS => ?_)
  obtain ⟨g_8, hP, hD⟩ : ∃ g_8 : Nat → Int32, va_P D vwCl [(ox, .inr (9, [.ref ht, .ref hq, .ref og, .int rc, .ref hw, .ref om, .ref hp, .ref ha, .ref hf, .ref hw0, va_rf qh, va_rf qo])), (hw, .inr (8, [.ref hl0, .int wk, .int wc, .int wx, .int wn, .ref wa0, .ref wa1, .ref wa2, .ref wa3])), (hw0, .inl ((cs 0), 12, .inl g_8))] H ∧ va_D A [(ox, .inr (9, [.ref ht, .ref hq, .ref og, .int rc, .ref hw, .ref om, .ref hp, .ref ha, .ref hf, .ref hw0, va_rf qh, va_rf qo])), (hw, .inr (8, [.ref hl0, .int wk, .int wc, .int wx, .int wn, .ref wa0, .ref wa1, .ref wa2, .ref wa3])), (hw0, .inl ((cs 0), 12, .inl g_8))] := ⟨_, hP, hD⟩
  have hPo := hR.at hS
  refine lv_aload_n hx hb dX11_tellOf_15 rfl (lv_at hl 1 rfl) ?_
  refine va_get (D := D) (ci := 9) (v := .ref hw0) (C := "WrongHole") (T := TX11) (N := 12) hx hb hts (iq_RX11 _) hown hK hP 0 rfl rfl 9 (by decide) (hT _ qq_1_211) (fun _ h9 => h9) rfl dX11_tellOf_16 ?_
  refine lv_iconst (v := 1) hx hb dX11_tellOf_19 (by decide) ?_
  refine lv_iload_n hx hb dX11_tellOf_20 rfl (lv_at hl 0 rfl) ?_
  have hi_9 : vp_in 1 12 := vi_c rfl
  refine va_iast hx hb hK hP hD hS 2 0 rfl rfl hi_9 dX11_tellOf_21 (fun H locs hP hD hS => ?_)
  obtain ⟨g_10, hP, hD⟩ : ∃ g_10 : Nat → Int32, va_P D vwCl [(ox, .inr (9, [.ref ht, .ref hq, .ref og, .int rc, .ref hw, .ref om, .ref hp, .ref ha, .ref hf, .ref hw0, va_rf qh, va_rf qo])), (hw, .inr (8, [.ref hl0, .int wk, .int wc, .int wx, .int wn, .ref wa0, .ref wa1, .ref wa2, .ref wa3])), (hw0, .inl ((cs 0), 12, .inl g_10))] H ∧ va_D A [(ox, .inr (9, [.ref ht, .ref hq, .ref og, .int rc, .ref hw, .ref om, .ref hp, .ref ha, .ref hf, .ref hw0, va_rf qh, va_rf qo])), (hw, .inr (8, [.ref hl0, .int wk, .int wc, .int wx, .int wn, .ref wa0, .ref wa1, .ref wa2, .ref wa3])), (hw0, .inl ((cs 0), 12, .inl g_10))] := ⟨_, hP, hD⟩
  have hPo := hR.at hS
  refine lv_aload_n hx hb dX11_tellOf_22 rfl (lv_at hl 1 rfl) ?_
  refine va_get (D := D) (ci := 9) (v := .ref hw0) (C := "WrongHole") (T := TX11) (N := 12) hx hb hts (iq_RX11 _) hown hK hP 0 rfl rfl 9 (by decide) (hT _ qq_1_211) (fun _ h9 => h9) rfl dX11_tellOf_23 ?_
  refine lv_iconst (v := 2) hx hb dX11_tellOf_26 (by decide) ?_
  refine lv_iload_n hx hb dX11_tellOf_27 rfl (lv_at hl 2 rfl) ?_
  refine lv_iconst (v := 2) hx hb dX11_tellOf_28 (by decide) ?_
  have hPc := va_P.sub (ws' := []) hP [] rfl
  refine cl_P (W.runS (As := [.int a, .int 2]) (rest := [.int 2, .ref hw0]) ⟨hx, hb, hml, hown, hts⟩ (c_Rows_partOf l D cs a 2) ⟨callB_of 2 hts (gd_C qq_4_85) rfl rfl rfl (hT _ qq_1_16) (hT _ qq_4_83) (by decide +kernel) (rm_R rfl rfl), (hT _ qq_4_84)⟩ (pq_S hPc hK hN) rfl rfl hl.1 rfl (lv_room (Nat.le_of_ble_eq_true rfl)) dX11_tellOf_29 ⟨Nat.le_of_ble_eq_true rfl, Nat.le_of_ble_eq_true rfl⟩) (fun v9 hz_12 => ?_)
  obtain ⟨x_11, rfl, r_13⟩ := hz_12
  have hi_14 : vp_in 2 12 := vi_c rfl
  refine va_iast hx hb hK hP hD hS 2 0 rfl rfl hi_14 dX11_tellOf_32 (fun H locs hP hD hS => ?_)
  obtain ⟨g_15, hP, hD⟩ : ∃ g_15 : Nat → Int32, va_P D vwCl [(ox, .inr (9, [.ref ht, .ref hq, .ref og, .int rc, .ref hw, .ref om, .ref hp, .ref ha, .ref hf, .ref hw0, va_rf qh, va_rf qo])), (hw, .inr (8, [.ref hl0, .int wk, .int wc, .int wx, .int wn, .ref wa0, .ref wa1, .ref wa2, .ref wa3])), (hw0, .inl ((cs 0), 12, .inl g_15))] H ∧ va_D A [(ox, .inr (9, [.ref ht, .ref hq, .ref og, .int rc, .ref hw, .ref om, .ref hp, .ref ha, .ref hf, .ref hw0, va_rf qh, va_rf qo])), (hw, .inr (8, [.ref hl0, .int wk, .int wc, .int wx, .int wn, .ref wa0, .ref wa1, .ref wa2, .ref wa3])), (hw0, .inl ((cs 0), 12, .inl g_15))] := ⟨_, hP, hD⟩
  have hPo := hR.at hS
  refine lv_aload_n hx hb dX11_tellOf_33 rfl (lv_at hl 1 rfl) ?_
  refine va_get (D := D) (ci := 9) (v := .ref hw0) (C := "WrongHole") (T := TX11) (N := 12) hx hb hts (iq_RX11 _) hown hK hP 0 rfl rfl 9 (by decide) (hT _ qq_1_211) (fun _ h9 => h9) rfl dX11_tellOf_34 ?_
  refine lv_iconst (v := 3) hx hb dX11_tellOf_37 (by decide) ?_
  refine lv_iload_n hx hb dX11_tellOf_38 rfl (lv_at hl 0 rfl) ?_
  refine lv_iload_n hx hb dX11_tellOf_39 rfl (lv_at hl 2 rfl) ?_
  refine lv_iconst (v := 2) hx hb dX11_tellOf_40 (by decide) ?_
  have hPc := va_P.sub (ws' := []) hP [] rfl
  refine cl_P (W.runS (As := [.int a, .int 2]) (rest := [.int x_1, .int 3, .ref hw0]) ⟨hx, hb, hml, hown, hts⟩ (c_Rows_partOf l D cs a 2) ⟨callB_of 2 hts (gd_C qq_4_85) rfl rfl rfl (hT _ qq_1_16) (hT _ qq_4_83) (by decide +kernel) (rm_R rfl rfl), (hT _ qq_4_84)⟩ (pq_S hPc hK hN) rfl rfl hl.1 rfl (lv_room (Nat.le_of_ble_eq_true rfl)) dX11_tellOf_41 ⟨Nat.le_of_ble_eq_true rfl, Nat.le_of_ble_eq_true rfl⟩) (fun v9 hz_17 => ?_)
  obtain ⟨x_16, rfl, r_18⟩ := hz_17
  refine w_cut (σ := (Int32)) (fun (v_20 : Int32) H locs ls => Rg 0 1 v_20 ∧ va_P D vwCl [(ox, .inr (9, [.ref ht, .ref hq, .ref og, .int rc, .ref hw, .ref om, .ref hp, .ref ha, .ref hf, .ref hw0, va_rf qh, va_rf qo])), (hw, .inr (8, [.ref hl0, .int wk, .int wc, .int wx, .int wn, .ref wa0, .ref wa1, .ref wa2, .ref wa3])), (hw0, .inl ((cs 0), 12, .inl g_15))] H ∧ va_D A [(ox, .inr (9, [.ref ht, .ref hq, .ref og, .int rc, .ref hw, .ref om, .ref hp, .ref ha, .ref hf, .ref hw0, va_rf qh, va_rf qo])), (hw, .inr (8, [.ref hl0, .int wk, .int wc, .int wx, .int wn, .ref wa0, .ref wa1, .ref wa2, .ref wa3])), (hw0, .inl ((cs 0), 12, .inl g_15))] ∧ va_S A s.heap H locs ∧ lv_has ls 4 [(3, .int x_1), (0, .ref ox), (1, .int a), (2, .ref hl0)]) 52 (fun (v_20 : Int32) => [.int v_20, .int 3, .ref hw0]) ?_ (fun hj_21 => ?_)
  · rintro v_20 H locs ls ⟨r_22, hP, hD, hS, hl⟩
    have hPo := hR.at hS
    have hi_23 : vp_in 3 12 := vi_c rfl
    refine va_iast hx hb hK hP hD hS 2 0 rfl rfl hi_23 dX11_tellOf_52 (fun H locs hP hD hS => ?_)
    obtain ⟨g_24, hP, hD⟩ : ∃ g_24 : Nat → Int32, va_P D vwCl [(ox, .inr (9, [.ref ht, .ref hq, .ref og, .int rc, .ref hw, .ref om, .ref hp, .ref ha, .ref hf, .ref hw0, va_rf qh, va_rf qo])), (hw, .inr (8, [.ref hl0, .int wk, .int wc, .int wx, .int wn, .ref wa0, .ref wa1, .ref wa2, .ref wa3])), (hw0, .inl ((cs 0), 12, .inl g_24))] H ∧ va_D A [(ox, .inr (9, [.ref ht, .ref hq, .ref og, .int rc, .ref hw, .ref om, .ref hp, .ref ha, .ref hf, .ref hw0, va_rf qh, va_rf qo])), (hw, .inr (8, [.ref hl0, .int wk, .int wc, .int wx, .int wn, .ref wa0, .ref wa1, .ref wa2, .ref wa3])), (hw0, .inl ((cs 0), 12, .inl g_24))] := ⟨_, hP, hD⟩
    have hPo := hR.at hS
    refine lv_aload_n hx hb dX11_tellOf_53 rfl (lv_at hl 1 rfl) ?_
    refine va_get (D := D) (ci := 9) (v := .ref hw0) (C := "WrongHole") (T := TX11) (N := 12) hx hb hts (iq_RX11 _) hown hK hP 0 rfl rfl 9 (by decide) (hT _ qq_1_211) (fun _ h9 => h9) rfl dX11_tellOf_54 ?_
    refine lv_bipush (v := 7) hx hb dX11_tellOf_57 (by decide) ?_
    refine lv_aload_n hx hb dX11_tellOf_59 rfl (lv_at hl 3 rfl) ?_
    refine lv_aload_n hx hb dX11_tellOf_60 rfl (lv_at hl 1 rfl) ?_
    refine va_get (D := D) (ci := 9) (v := .ref hw) (C := "WrongHole") (T := TX11) (N := 12) hx hb hts (iq_RX11 _) hown hK hP 0 rfl rfl 4 (by decide) (hT _ qq_1_206) (fun _ h9 => h9) rfl dX11_tellOf_61 ?_
    refine va_getN (D := D) (ci := 8) (v := .int wk) (C := "WrongHole$Worn") (T := TX10) (N := 9) hx hb hts (iq_RX10 _) hown hK hP 1 rfl rfl 1 (by decide) (NN.f hN nq_1_101) (fun _ h9 => h9) rfl dX11_tellOf_64 ?_
    refine lv_iload_n hx hb dX11_tellOf_67 rfl (lv_at hl 2 rfl) ?_
    have hPc := va_P.sub (ws' := []) hP [] rfl
    refine cl_P (W.runS (As := [.int wk, .int a]) (rest := [.ref hl0, .int 7, .ref hw0]) ⟨hx, hb, hml, hown, hts⟩ (c_Rows_behind l D cs wk a) ⟨callB_of 2 hts (gd_C qq_3_36) rfl rfl rfl (hT _ qq_1_16) (hT _ qq_4_20) (by decide +kernel) (rm_R rfl rfl), (hT _ qq_3_35)⟩ (pq_S hPc hK hN) rfl rfl hl.1 rfl (lv_room (Nat.le_of_ble_eq_true rfl)) dX11_tellOf_68 ⟨Nat.le_of_ble_eq_true rfl, Nat.le_of_ble_eq_true rfl⟩) (fun v9 hz_26 => ?_)
    obtain ⟨x_25, rfl⟩ := hz_26
    have hPc := va_P.sub (ws' := []) hP [] rfl
    refine cl_P (W.runS (As := [.int x_25]) (rest := [.ref hl0, .int 7, .ref hw0]) ⟨hx, hb, hml, hown, hts⟩ (c_Rows_in l D cs x_25) ⟨callB_of 1 hts (gd_C qq_2_230) rfl rfl rfl (hT _ qq_1_16) (hT _ qq_3_198) (by decide +kernel) (rm_R rfl rfl), (hT _ qq_2_229)⟩ (pq_S hPc hK hN) rfl rfl hl.1 rfl (lv_room (Nat.le_of_ble_eq_true rfl)) dX11_tellOf_71 ⟨Nat.le_of_ble_eq_true rfl, Nat.le_of_ble_eq_true rfl⟩) (fun v9 hz_29 => ?_)
    obtain ⟨x_28, rfl, r_30⟩ := hz_29
    have hPc := va_P.sub (ws' := [(hl0, .inr (2, [.int lb, .int lh, .int lg, .int lw, .int lv, .int lbs, .int lti, .int lts, .int le, .int lk, .int la, .ref l0, .ref l1, .ref l2, .ref l3, .ref l4, .ref l5, .ref l6, .ref l7]))]) hPo [0] rfl
    refine cl_P (W.runV (As := [.int x_28]) (rest := [.int 7, .ref hw0]) ⟨hx, hb, hml, hown, hts⟩ (c_Lift_longestOpen l D cs hl0 lb lh lg lw lv lbs lti lts le lk la l0 l1 l2 l3 l4 l5 l6 l7 x_28 r_lb r_lh r_le) ⟨callB_of 1 hts (gd_C qq_3_211) rfl rfl rfl (hT _ qq_1_11) (hT _ qq_3_208) (by decide +kernel) (rm_R rfl rfl), (hT _ qq_3_209), (hT _ qq_3_210)⟩ (pq_V hPc hK hN (ci := 2) (q0 := 0) rfl rfl) rfl rfl hl.1 rfl (lv_room (Nat.le_of_ble_eq_true rfl)) dX11_tellOf_74 ⟨Nat.le_of_ble_eq_true rfl, Nat.le_of_ble_eq_true rfl⟩) (fun v9 hz_32 => ?_)
    obtain ⟨x_31, rfl⟩ := hz_32
    have hi_34 : vp_in 7 12 := vi_c rfl
    refine va_iast hx hb hK hP hD hS 2 0 rfl rfl hi_34 dX11_tellOf_77 (fun H locs hP hD hS => ?_)
    obtain ⟨g_35, hP, hD⟩ : ∃ g_35 : Nat → Int32, va_P D vwCl [(ox, .inr (9, [.ref ht, .ref hq, .ref og, .int rc, .ref hw, .ref om, .ref hp, .ref ha, .ref hf, .ref hw0, va_rf qh, va_rf qo])), (hw, .inr (8, [.ref hl0, .int wk, .int wc, .int wx, .int wn, .ref wa0, .ref wa1, .ref wa2, .ref wa3])), (hw0, .inl ((cs 0), 12, .inl g_35))] H ∧ va_D A [(ox, .inr (9, [.ref ht, .ref hq, .ref og, .int rc, .ref hw, .ref om, .ref hp, .ref ha, .ref hf, .ref hw0, va_rf qh, va_rf qo])), (hw, .inr (8, [.ref hl0, .int wk, .int wc, .int wx, .int wn, .ref wa0, .ref wa1, .ref wa2, .ref wa3])), (hw0, .inl ((cs 0), 12, .inl g_35))] := ⟨_, hP, hD⟩
    have hPo := hR.at hS
    refine lv_aload_n hx hb dX11_tellOf_78 rfl (lv_at hl 1 rfl) ?_
    refine va_get (D := D) (ci := 9) (v := .ref hw0) (C := "WrongHole") (T := TX11) (N := 12) hx hb hts (iq_RX11 _) hown hK hP 0 rfl rfl 9 (by decide) (hT _ qq_1_211) (fun _ h9 => h9) rfl dX11_tellOf_79 ?_
    refine lv_bipush (v := 8) hx hb dX11_tellOf_82 (by decide) ?_
    refine lv_aload_n hx hb dX11_tellOf_84 rfl (lv_at hl 3 rfl) ?_
    refine lv_iload_n hx hb dX11_tellOf_85 rfl (lv_at hl 2 rfl) ?_
    have hPc := va_P.sub (ws' := [(hl0, .inr (2, [.int lb, .int lh, .int lg, .int lw, .int lv, .int lbs, .int lti, .int lts, .int le, .int lk, .int la, .ref l0, .ref l1, .ref l2, .ref l3, .ref l4, .ref l5, .ref l6, .ref l7])), (l2, .inl ((cs 0), 8, .inl f2)), (l3, .inl ((cs 0), 8, .inl f3))]) hPo [0, 1, 2] rfl
    refine cl_P (W.runV (As := [.int a]) (rest := [.int 8, .ref hw0]) ⟨hx, hb, hml, hown, hts⟩ (c_Lift_secondsOf l D cs hl0 lb lh lg lw lv lbs lti lts le lk la l0 l1 l2 l3 l4 l5 l6 l7 f2 f3 a r_lb r_lh r_le) ⟨callB_of 1 hts (gd_C qq_4_8) rfl rfl rfl (hT _ qq_1_11) (hT _ qq_4_5) (by decide +kernel) (rm_R rfl rfl), (hT _ qq_4_6), (hT _ qq_4_7)⟩ (pq_V hPc hK hN (ci := 2) (q0 := 0) rfl rfl) rfl rfl hl.1 rfl (lv_room (Nat.le_of_ble_eq_true rfl)) dX11_tellOf_86 ⟨Nat.le_of_ble_eq_true rfl, Nat.le_of_ble_eq_true rfl⟩) (fun v9 hz_37 => ?_)
    obtain ⟨x_36, rfl⟩ := hz_37
    have hi_39 : vp_in 8 12 := vi_c rfl
    refine va_iast hx hb hK hP hD hS 2 0 rfl rfl hi_39 dX11_tellOf_89 (fun H locs hP hD hS => ?_)
    obtain ⟨g_40, hP, hD⟩ : ∃ g_40 : Nat → Int32, va_P D vwCl [(ox, .inr (9, [.ref ht, .ref hq, .ref og, .int rc, .ref hw, .ref om, .ref hp, .ref ha, .ref hf, .ref hw0, va_rf qh, va_rf qo])), (hw, .inr (8, [.ref hl0, .int wk, .int wc, .int wx, .int wn, .ref wa0, .ref wa1, .ref wa2, .ref wa3])), (hw0, .inl ((cs 0), 12, .inl g_40))] H ∧ va_D A [(ox, .inr (9, [.ref ht, .ref hq, .ref og, .int rc, .ref hw, .ref om, .ref hp, .ref ha, .ref hf, .ref hw0, va_rf qh, va_rf qo])), (hw, .inr (8, [.ref hl0, .int wk, .int wc, .int wx, .int wn, .ref wa0, .ref wa1, .ref wa2, .ref wa3])), (hw0, .inl ((cs 0), 12, .inl g_40))] := ⟨_, hP, hD⟩
    have hPo := hR.at hS
    refine lv_aload_n hx hb dX11_tellOf_90 rfl (lv_at hl 1 rfl) ?_
    refine va_get (D := D) (ci := 9) (v := .ref hw0) (C := "WrongHole") (T := TX11) (N := 12) hx hb hts (iq_RX11 _) hown hK hP 0 rfl rfl 9 (by decide) (hT _ qq_1_211) (fun _ h9 => h9) rfl dX11_tellOf_91 ?_
    refine lv_bipush (v := 10) hx hb dX11_tellOf_94 (by decide) ?_
    refine lv_aload_n hx hb dX11_tellOf_96 rfl (lv_at hl 3 rfl) ?_
    refine lv_iload_n hx hb dX11_tellOf_97 rfl (lv_at hl 0 rfl) ?_
    refine lv_aload_n hx hb dX11_tellOf_98 rfl (lv_at hl 1 rfl) ?_
    refine va_get (D := D) (ci := 9) (v := .ref hw) (C := "WrongHole") (T := TX11) (N := 12) hx hb hts (iq_RX11 _) hown hK hP 0 rfl rfl 4 (by decide) (hT _ qq_1_206) (fun _ h9 => h9) rfl dX11_tellOf_99 ?_
    refine va_getN (D := D) (ci := 8) (v := .int wc) (C := "WrongHole$Worn") (T := TX10) (N := 9) hx hb hts (iq_RX10 _) hown hK hP 1 rfl rfl 2 (by decide) (NN.f hN nq_1_103) (fun _ h9 => h9) rfl dX11_tellOf_102 ?_
    have hPc := va_P.sub (ws' := [(hl0, .inr (2, [.int lb, .int lh, .int lg, .int lw, .int lv, .int lbs, .int lti, .int lts, .int le, .int lk, .int la, .ref l0, .ref l1, .ref l2, .ref l3, .ref l4, .ref l5, .ref l6, .ref l7])), (l6, .inl ((cs 0), 6, .inl f6)), (l7, .inl ((cs 0), 6, .inl f7))]) hPo [0, 4, 5] rfl
    refine cl_P (W.runV (As := [.int x_1, .int wc]) (rest := [.int 10, .ref hw0]) ⟨hx, hb, hml, hown, hts⟩ (c_Lift_eyesOn l D cs hl0 lb lh lg lw lv lbs lti lts le lk la l0 l1 l2 l3 l4 l5 l6 l7 f6 f7 x_1 wc r_lb r_lh r_le) ⟨callB_of 2 hts (gd_C qq_3_182) rfl rfl rfl (hT _ qq_1_11) (hT _ qq_3_179) (by decide +kernel) (rm_R rfl rfl), (hT _ qq_3_180), (hT _ qq_3_181)⟩ (pq_V hPc hK hN (ci := 2) (q0 := 0) rfl rfl) rfl rfl hl.1 rfl (lv_room (Nat.le_of_ble_eq_true rfl)) dX11_tellOf_105 ⟨Nat.le_of_ble_eq_true rfl, Nat.le_of_ble_eq_true rfl⟩) (fun v9 hz_42 => ?_)
    obtain ⟨x_41, rfl⟩ := hz_42
    have hi_44 : vp_in 10 12 := vi_c rfl
    refine va_iast hx hb hK hP hD hS 2 0 rfl rfl hi_44 dX11_tellOf_108 (fun H locs hP hD hS => ?_)
    obtain ⟨g_45, hP, hD⟩ : ∃ g_45 : Nat → Int32, va_P D vwCl [(ox, .inr (9, [.ref ht, .ref hq, .ref og, .int rc, .ref hw, .ref om, .ref hp, .ref ha, .ref hf, .ref hw0, va_rf qh, va_rf qo])), (hw, .inr (8, [.ref hl0, .int wk, .int wc, .int wx, .int wn, .ref wa0, .ref wa1, .ref wa2, .ref wa3])), (hw0, .inl ((cs 0), 12, .inl g_45))] H ∧ va_D A [(ox, .inr (9, [.ref ht, .ref hq, .ref og, .int rc, .ref hw, .ref om, .ref hp, .ref ha, .ref hf, .ref hw0, va_rf qh, va_rf qo])), (hw, .inr (8, [.ref hl0, .int wk, .int wc, .int wx, .int wn, .ref wa0, .ref wa1, .ref wa2, .ref wa3])), (hw0, .inl ((cs 0), 12, .inl g_45))] := ⟨_, hP, hD⟩
    have hPo := hR.at hS
    refine lv_aload_n hx hb dX11_tellOf_109 rfl (lv_at hl 1 rfl) ?_
    refine va_get (D := D) (ci := 9) (v := .ref hw0) (C := "WrongHole") (T := TX11) (N := 12) hx hb hts (iq_RX11 _) hown hK hP 0 rfl rfl 9 (by decide) (hT _ qq_1_211) (fun _ h9 => h9) rfl dX11_tellOf_110 ?_
    refine lv_bipush (v := 11) hx hb dX11_tellOf_113 (by decide) ?_
    refine lv_aload_n hx hb dX11_tellOf_115 rfl (lv_at hl 3 rfl) ?_
    refine va_getN (D := D) (ci := 2) (v := .ref l4) (C := "WrongHole$Lift") (T := TX2) (N := 19) hx hb hts (iq_RX2 _) hown hK hPo 0 rfl rfl 15 (by decide) (NN.f hN nq_2_78) (fun _ h9 => h9) rfl dX11_tellOf_116 ?_
    refine lv_iload_n hx hb dX11_tellOf_119 rfl (lv_at hl 0 rfl) ?_
    have hi_46 : vp_in x_1 8 := Rg.in r_3 (by decide)
    refine va_iald hx hb hK hPo 3 0 rfl rfl hi_46 dX11_tellOf_120 ?_
    refine lv_topi (fun x_47 e_48 => ?_)
    have hi_49 : vp_in 11 12 := vi_c rfl
    refine va_iast hx hb hK hP hD hS 2 0 rfl rfl hi_49 dX11_tellOf_121 (fun H locs hP hD hS => ?_)
    obtain ⟨g_50, hP, hD⟩ : ∃ g_50 : Nat → Int32, va_P D vwCl [(ox, .inr (9, [.ref ht, .ref hq, .ref og, .int rc, .ref hw, .ref om, .ref hp, .ref ha, .ref hf, .ref hw0, va_rf qh, va_rf qo])), (hw, .inr (8, [.ref hl0, .int wk, .int wc, .int wx, .int wn, .ref wa0, .ref wa1, .ref wa2, .ref wa3])), (hw0, .inl ((cs 0), 12, .inl g_50))] H ∧ va_D A [(ox, .inr (9, [.ref ht, .ref hq, .ref og, .int rc, .ref hw, .ref om, .ref hp, .ref ha, .ref hf, .ref hw0, va_rf qh, va_rf qo])), (hw, .inr (8, [.ref hl0, .int wk, .int wc, .int wx, .int wn, .ref wa0, .ref wa1, .ref wa2, .ref wa3])), (hw0, .inl ((cs 0), 12, .inl g_50))] := ⟨_, hP, hD⟩
    have hPo := hR.at hS
    refine W.widen (k := 0) (n := 0) (Nat.le_of_ble_eq_true rfl) (Nat.le_of_ble_eq_true rfl) ?_
    have hP9 := hP.sub (ws' := [(ox, .inr (9, [.ref ht, .ref hq, .ref og, .int rc, .ref hw, .ref om, .ref hp, .ref ha, .ref hf, .ref hw0, va_rf qh, va_rf qo])), (hw, .inr (8, [.ref hl0, .int wk, .int wc, .int wx, .int wn, .ref wa0, .ref wa1, .ref wa2, .ref wa3])), (hw0, .inl ((cs 0), 12, .inl g_50))]) [0, 1, 2] rfl
    have hD9 := hD.sub (ws' := [(ox, .inr (9, [.ref ht, .ref hq, .ref og, .int rc, .ref hw, .ref om, .ref hp, .ref ha, .ref hf, .ref hw0, va_rf qh, va_rf qo])), (hw, .inr (8, [.ref hl0, .int wk, .int wc, .int wx, .int wn, .ref wa0, .ref wa1, .ref wa2, .ref wa3])), (hw0, .inl ((cs 0), 12, .inl g_50))]) [0, 1, 2] (by decide) rfl
    exact W.vret hx hb hr (fun t9 ht9 hW9 => ⟨⟨(), rfl, trivial, ⟨g_50, by rw [ht9]; exact hP9, hD9⟩⟩, hS.F ht9⟩) hS.2.2 dX11_tellOf_122
  · refine lv_icmp_ne (tgt := 51) hx hb dX11_tellOf_44 (by decide) (fun c_19 => ?_) (fun c_19 => ?_)
    · refine lv_iconst (v := 0) hx hb dX11_tellOf_51 (by decide) ?_
      exact hj_21 0 _ _ _ ⟨(Rg.wk (lo2 := 0) (hi2 := 1) (Rg.c (c := 0) (k := 0) rfl) (by decide)), hP, hD, hS, lv_sub hl [0, 1, 2, 3] rfl⟩
    · refine lv_iconst (v := 1) hx hb dX11_tellOf_47 (by decide) ?_
      refine lv_goto (tgt := 52) hx hb dX11_tellOf_48 (by decide) ?_
      exact hj_21 1 _ _ _ ⟨(Rg.wk (lo2 := 0) (hi2 := 1) (Rg.c (c := 1) (k := 1) rfl) (by decide)), hP, hD, hS, lv_sub hl [0, 1, 2, 3] rfl⟩
theorem dX11_bestBy_0 : decode cX11_bestBy 0 = .ok (.aload_n 1, 1) := by decide +kernel
theorem dX11_bestBy_1 : decode cX11_bestBy 1 = .ok (.ifnonnull 5, 3) := by decide +kernel
theorem dX11_bestBy_6 : decode cX11_bestBy 6 = .ok (.aload_n 0, 1) := by decide +kernel
theorem dX11_bestBy_7 : decode cX11_bestBy 7 = .ok (.getfield 32, 3) := by decide +kernel
theorem dX11_bestBy_10 : decode cX11_bestBy 10 = .ok (.getfield 95, 3) := by decide +kernel
theorem dX11_bestBy_13 : decode cX11_bestBy 13 = .ok (.invokestatic 158, 3) := by decide +kernel
theorem dX11_bestBy_16 : decode cX11_bestBy 16 = .ok (.istore_n 3, 1) := by decide +kernel
theorem dX11_bestBy_17 : decode cX11_bestBy 17 = .ok (.aload_n 0, 1) := by decide +kernel
theorem dX11_bestBy_18 : decode cX11_bestBy 18 = .ok (.getfield 61, 3) := by decide +kernel
theorem dX11_bestBy_21 : decode cX11_bestBy 21 = .ok (.iconst 4, 1) := by decide +kernel
theorem dX11_bestBy_22 : decode cX11_bestBy 22 = .ok (.aload_n 2, 1) := by decide +kernel
theorem dX11_bestBy_23 : decode cX11_bestBy 23 = .ok (.getfield 105, 3) := by decide +kernel
theorem dX11_bestBy_26 : decode cX11_bestBy 26 = .ok (.iload_n 3, 1) := by decide +kernel
theorem dX11_bestBy_27 : decode cX11_bestBy 27 = .ok (.invokestatic 161, 3) := by decide +kernel
theorem dX11_bestBy_30 : decode cX11_bestBy 30 = .ok (.isub, 1) := by decide +kernel
theorem dX11_bestBy_31 : decode cX11_bestBy 31 = .ok (.iastore, 1) := by decide +kernel
theorem dX11_bestBy_32 : decode cX11_bestBy 32 = .ok (.aload_n 0, 1) := by decide +kernel
theorem dX11_bestBy_33 : decode cX11_bestBy 33 = .ok (.getfield 61, 3) := by decide +kernel
theorem dX11_bestBy_36 : decode cX11_bestBy 36 = .ok (.iconst 5, 1) := by decide +kernel
theorem dX11_bestBy_37 : decode cX11_bestBy 37 = .ok (.aload_n 0, 1) := by decide +kernel
theorem dX11_bestBy_38 : decode cX11_bestBy 38 = .ok (.getfield 32, 3) := by decide +kernel
theorem dX11_bestBy_41 : decode cX11_bestBy 41 = .ok (.getfield 95, 3) := by decide +kernel
theorem dX11_bestBy_44 : decode cX11_bestBy 44 = .ok (.invokestatic 166, 3) := by decide +kernel
theorem dX11_bestBy_47 : decode cX11_bestBy 47 = .ok (.invokestatic 161, 3) := by decide +kernel
theorem dX11_bestBy_50 : decode cX11_bestBy 50 = .ok (.iastore, 1) := by decide +kernel
theorem dX11_bestBy_51 : decode cX11_bestBy 51 = .ok (.aload_n 0, 1) := by decide +kernel
theorem dX11_bestBy_52 : decode cX11_bestBy 52 = .ok (.getfield 61, 3) := by decide +kernel
theorem dX11_bestBy_55 : decode cX11_bestBy 55 = .ok (.bipush 6, 2) := by decide +kernel
theorem dX11_bestBy_57 : decode cX11_bestBy 57 = .ok (.aload_n 2, 1) := by decide +kernel
theorem dX11_bestBy_58 : decode cX11_bestBy 58 = .ok (.iload_n 3, 1) := by decide +kernel
theorem dX11_bestBy_59 : decode cX11_bestBy 59 = .ok (.invokevirtual 172, 3) := by decide +kernel
theorem dX11_bestBy_62 : decode cX11_bestBy 62 = .ok (.iastore, 1) := by decide +kernel
theorem dX11_bestBy_63 : decode cX11_bestBy 63 = .ok (.aload_n 0, 1) := by decide +kernel
theorem dX11_bestBy_64 : decode cX11_bestBy 64 = .ok (.getfield 61, 3) := by decide +kernel
theorem dX11_bestBy_67 : decode cX11_bestBy 67 = .ok (.bipush 9, 2) := by decide +kernel
theorem dX11_bestBy_69 : decode cX11_bestBy 69 = .ok (.aload_n 0, 1) := by decide +kernel
theorem dX11_bestBy_70 : decode cX11_bestBy 70 = .ok (.getfield 32, 3) := by decide +kernel
theorem dX11_bestBy_73 : decode cX11_bestBy 73 = .ok (.getfield 96, 3) := by decide +kernel
theorem dX11_bestBy_76 : decode cX11_bestBy 76 = .ok (.iastore, 1) := by decide +kernel
theorem dX11_bestBy_77 : decode cX11_bestBy 77 = .ok (.aload_n 0, 1) := by decide +kernel
theorem dX11_bestBy_78 : decode cX11_bestBy 78 = .ok (.getfield 50, 3) := by decide +kernel
theorem dX11_bestBy_81 : decode cX11_bestBy 81 = .ok (.aload_n 2, 1) := by decide +kernel
theorem dX11_bestBy_82 : decode cX11_bestBy 82 = .ok (.aload_n 0, 1) := by decide +kernel
theorem dX11_bestBy_83 : decode cX11_bestBy 83 = .ok (.getfield 32, 3) := by decide +kernel
theorem dX11_bestBy_86 : decode cX11_bestBy 86 = .ok (.getfield 95, 3) := by decide +kernel
theorem dX11_bestBy_89 : decode cX11_bestBy 89 = .ok (.invokevirtual 226, 3) := by decide +kernel
theorem dX11_bestBy_92 : decode cX11_bestBy 92 = .ok (.lconst 0, 1) := by decide +kernel
theorem dX11_bestBy_93 : decode cX11_bestBy 93 = .ok (.lstore 4, 2) := by decide +kernel
theorem dX11_bestBy_95 : decode cX11_bestBy 95 = .ok (.iconst (-1), 1) := by decide +kernel
theorem dX11_bestBy_96 : decode cX11_bestBy 96 = .ok (.istore 6, 2) := by decide +kernel
theorem dX11_bestBy_98 : decode cX11_bestBy 98 = .ok (.iconst 0, 1) := by decide +kernel
theorem dX11_bestBy_99 : decode cX11_bestBy 99 = .ok (.istore 7, 2) := by decide +kernel
theorem dX11_bestBy_101 : decode cX11_bestBy 101 = .ok (.iload 7, 2) := by decide +kernel
theorem dX11_bestBy_103 : decode cX11_bestBy 103 = .ok (.aload_n 0, 1) := by decide +kernel
theorem dX11_bestBy_104 : decode cX11_bestBy 104 = .ok (.getfield 50, 3) := by decide +kernel
theorem dX11_bestBy_107 : decode cX11_bestBy 107 = .ok (.getfield 230, 3) := by decide +kernel
theorem dX11_bestBy_110 : decode cX11_bestBy 110 = .ok (.if_icmp .ge 54, 3) := by decide +kernel
theorem dX11_bestBy_164 : decode cX11_bestBy 164 = .ok (.iload 6, 2) := by decide +kernel
theorem dX11_bestBy_166 : decode cX11_bestBy 166 = .ok (.ireturn, 1) := by decide +kernel
theorem dX11_bestBy_113 : decode cX11_bestBy 113 = .ok (.aload_n 0, 1) := by decide +kernel
theorem dX11_bestBy_114 : decode cX11_bestBy 114 = .ok (.getfield 50, 3) := by decide +kernel
theorem dX11_bestBy_117 : decode cX11_bestBy 117 = .ok (.getfield 231, 3) := by decide +kernel
theorem dX11_bestBy_120 : decode cX11_bestBy 120 = .ok (.iload 7, 2) := by decide +kernel
theorem dX11_bestBy_122 : decode cX11_bestBy 122 = .ok (.iaload, 1) := by decide +kernel
theorem dX11_bestBy_123 : decode cX11_bestBy 123 = .ok (.istore 8, 2) := by decide +kernel
theorem dX11_bestBy_125 : decode cX11_bestBy 125 = .ok (.aload_n 0, 1) := by decide +kernel
theorem dX11_bestBy_126 : decode cX11_bestBy 126 = .ok (.iload 8, 2) := by decide +kernel
theorem dX11_bestBy_128 : decode cX11_bestBy 128 = .ok (.aload_n 2, 1) := by decide +kernel
theorem dX11_bestBy_129 : decode cX11_bestBy 129 = .ok (.invokevirtual 340, 3) := by decide +kernel
theorem qq_4_80 : Cond.code yX11_tellOf cX11_tellOf 4 none ∈ TB := mk_tb (ti_4 (List.mem_of_getElem? (i := 80) rfl)) rfl
theorem qq_4_77 : Cond.methodLink "WrongHole" 340 yX11_tellOf ∈ TB := mk_tb (ti_4 (List.mem_of_getElem? (i := 77) rfl)) rfl
theorem qq_4_79 : Cond.instanceMethod yX11_tellOf ∈ TB := mk_tb (ti_4 (List.mem_of_getElem? (i := 79) rfl)) rfl
theorem qs_0_14 : Cond.selects "WrongHole" yX11_tellOf yX11_tellOf ∈ TB := mk_tb (ti_s (q := (yX11_tellOf, 12)) (List.mem_append_left _ (List.mem_of_getElem? (i := 14) rfl))) rfl
theorem dX11_bestBy_132 : decode cX11_bestBy 132 = .ok (.aload_n 1, 1) := by decide +kernel
theorem dX11_bestBy_133 : decode cX11_bestBy 133 = .ok (.aload_n 0, 1) := by decide +kernel
theorem dX11_bestBy_134 : decode cX11_bestBy 134 = .ok (.getfield 61, 3) := by decide +kernel
theorem dX11_bestBy_137 : decode cX11_bestBy 137 = .ok (.invokevirtual 344, 3) := by decide +kernel
theorem qq_4_90 : Cond.code yX7_sumFor cX7_sumFor 5 (some .long) ∈ TB := mk_tb (ti_4 (List.mem_of_getElem? (i := 90) rfl)) rfl
theorem qq_4_87 : Cond.methodLink "WrongHole" 344 yX7_sumFor ∈ TB := mk_tb (ti_4 (List.mem_of_getElem? (i := 87) rfl)) rfl
theorem qq_4_88 : Cond.instanceMethod yX7_sumFor ∈ TB := mk_tb (ti_4 (List.mem_of_getElem? (i := 88) rfl)) rfl
theorem qq_4_89 : Cond.selects "WrongHole$Rule" yX7_sumFor yX7_sumFor ∈ TB := mk_tb (ti_4 (List.mem_of_getElem? (i := 89) rfl)) rfl
theorem dX11_bestBy_140 : decode cX11_bestBy 140 = .ok (.lstore 9, 2) := by decide +kernel
theorem dX11_bestBy_142 : decode cX11_bestBy 142 = .ok (.lload 9, 2) := by decide +kernel
theorem dX11_bestBy_144 : decode cX11_bestBy 144 = .ok (.lload 4, 2) := by decide +kernel
theorem dX11_bestBy_146 : decode cX11_bestBy 146 = .ok (.lcmp, 1) := by decide +kernel
theorem dX11_bestBy_147 : decode cX11_bestBy 147 = .ok (.ifCond .le 11, 3) := by decide +kernel
theorem dX11_bestBy_158 : decode cX11_bestBy 158 = .ok (.iinc 7 1, 3) := by decide +kernel
theorem dX11_bestBy_161 : decode cX11_bestBy 161 = .ok (.goto (-60), 3) := by decide +kernel
theorem dX11_bestBy_150 : decode cX11_bestBy 150 = .ok (.lload 9, 2) := by decide +kernel
theorem dX11_bestBy_152 : decode cX11_bestBy 152 = .ok (.lstore 4, 2) := by decide +kernel
theorem dX11_bestBy_154 : decode cX11_bestBy 154 = .ok (.iload 8, 2) := by decide +kernel
theorem dX11_bestBy_156 : decode cX11_bestBy 156 = .ok (.istore 6, 2) := by decide +kernel
set_option maxHeartbeats 4000000 in
set_option maxRecDepth 100000 in
theorem c_W_bestBy (l : Launch) (D : va_G) (cs : Nat → ClassId) (X : XX) (sz : Nat) (ox : Nat) (ht : Nat) (hq : Nat) (og : Nat) (rc : Int32) (hw : Nat) (om : Nat) (hp : Nat) (ha : Nat) (hf : Nat) (hw0 : Nat) (qh : Option Nat) (qo : Option Nat) (wk : Int32) (wc : Int32) (wx : Int32) (wn : Int32) (wa0 : Nat) (wa1 : Nat) (wa2 : Nat) (wa3 : Nat) (gw : Nat → Int32) (hu : Nat) (ru1 : Nat) (ru2 : Nat) (ru3 : Nat) (n1 : Nat) (n2 : Nat) (gc_ : Nat → Int32) (gb_ : Nat → Int32) (gs_ : Nat → Int64) (as : Nat) (ad : Nat) (ac : Int32) (gs : Nat → Int32) (gc : Nat → Int32) (hl0 : Nat) (lb : Int32) (lh : Int32) (lg : Int32) (lw : Int32) (lv : Int32) (lbs : Int32) (lti : Int32) (lts : Int32) (le : Int32) (lk : Int32) (la : Int32) (l0 : Nat) (l1 : Nat) (l2 : Nat) (l3 : Nat) (l4 : Nat) (l5 : Nat) (l6 : Nat) (l7 : Nat) (f2 : Nat → Int32) (f3 : Nat → Int32) (f4 : Nat → Int32) (f5 : Nat → Int32) (f6 : Nat → Int32) (f7 : Nat → Int32) (r_lb : Rg 0 8 lb) (r_lh : Rg 0 8 lh) (r_le : Rg 0 6 le) (r_ac : Rg 0 72 ac) (hn1 : n1 ≤ 400) (hn2 : n2 ≤ 25) (a_gb_ : ∀ j, j < n2 → Rg 0 400 (gb_ j)) : Met l yX11_bestBy (Cond.code yX11_bestBy cX11_bestBy 11 (some .int) :: TB) (RM 4 0 0) (va_Pc [.ref ox, .ref hu, .ref hl0] (PRE D cs X [(ox, .inr (9, [.ref ht, .ref hq, .ref og, .int rc, .ref hw, .ref om, .ref hp, .ref ha, .ref hf, .ref hw0, va_rf qh, va_rf qo])), (hw, .inr (8, [.ref hl0, .int wk, .int wc, .int wx, .int wn, .ref wa0, .ref wa1, .ref wa2, .ref wa3])), (hw0, .inl ((cs 0), 12, .inl gw)), (ru3, .inl ((cs 4), 64, .inr (.inl gs_))), (ha, .inr (0, [.ref as, .ref ad, .int ac])), (as, .inl ((cs 0), 8, .inl gs)), (ad, .inl ((cs 0), 72, .inl gc))] [(hl0, .inr (2, [.int lb, .int lh, .int lg, .int lw, .int lv, .int lbs, .int lti, .int lts, .int le, .int lk, .int la, .ref l0, .ref l1, .ref l2, .ref l3, .ref l4, .ref l5, .ref l6, .ref l7])), (l2, .inl ((cs 0), 8, .inl f2)), (l3, .inl ((cs 0), 8, .inl f3)), (l4, .inl ((cs 0), 8, .inl f4)), (l5, .inl ((cs 0), 8, .inl f5)), (l6, .inl ((cs 0), 6, .inl f6)), (l7, .inl ((cs 0), 6, .inl f7)), (hu, .inr (5, [.ref ru1, .ref ru2, .ref ru3])), (ru1, .inl ((cs 0), n1, .inl gc_)), (ru2, .inl ((cs 0), n2, .inl gb_))] sz)) (va_Qi (S := Unit) (fun r _ => True) (fun _ t => ∃ (gw2 : Nat → Int32), ∃ (gs3 : Nat → Int64), ∃ (ac2 : Int32), ∃ (gs2 : Nat → Int32), ∃ (gc2 : Nat → Int32), Rg 0 72 ac2 ∧ va_P D vwCl [(ox, .inr (9, [.ref ht, .ref hq, .ref og, .int rc, .ref hw, .ref om, .ref hp, .ref ha, .ref hf, .ref hw0, va_rf qh, va_rf qo])), (hw, .inr (8, [.ref hl0, .int wk, .int wc, .int wx, .int wn, .ref wa0, .ref wa1, .ref wa2, .ref wa3])), (hw0, .inl ((cs 0), 12, .inl gw2)), (ru3, .inl ((cs 4), 64, .inr (.inl gs3))), (ha, .inr (0, [.ref as, .ref ad, .int ac2])), (as, .inl ((cs 0), 8, .inl gs2)), (ad, .inl ((cs 0), 72, .inl gc2))] t.heap ∧ va_D (va_A [(ox, .inr (9, [.ref ht, .ref hq, .ref og, .int rc, .ref hw, .ref om, .ref hp, .ref ha, .ref hf, .ref hw0, va_rf qh, va_rf qo])), (hw, .inr (8, [.ref hl0, .int wk, .int wc, .int wx, .int wn, .ref wa0, .ref wa1, .ref wa2, .ref wa3])), (hw0, .inl ((cs 0), 12, .inl gw)), (ru3, .inl ((cs 4), 64, .inr (.inl gs_))), (ha, .inr (0, [.ref as, .ref ad, .int ac])), (as, .inl ((cs 0), 8, .inl gs)), (ad, .inl ((cs 0), 72, .inl gc))] sz) [(ox, .inr (9, [.ref ht, .ref hq, .ref og, .int rc, .ref hw, .ref om, .ref hp, .ref ha, .ref hf, .ref hw0, va_rf qh, va_rf qo])), (hw, .inr (8, [.ref hl0, .int wk, .int wc, .int wx, .int wn, .ref wa0, .ref wa1, .ref wa2, .ref wa3])), (hw0, .inl ((cs 0), 12, .inl gw2)), (ru3, .inl ((cs 4), 64, .inr (.inl gs3))), (ha, .inr (0, [.ref as, .ref ad, .int ac2])), (as, .inl ((cs 0), 8, .inl gs2)), (ad, .inl ((cs 0), 72, .inl gc2))]) (va_A [(ox, .inr (9, [.ref ht, .ref hq, .ref og, .int rc, .ref hw, .ref om, .ref hp, .ref ha, .ref hf, .ref hw0, va_rf qh, va_rf qo])), (hw, .inr (8, [.ref hl0, .int wk, .int wc, .int wx, .int wn, .ref wa0, .ref wa1, .ref wa2, .ref wa3])), (hw0, .inl ((cs 0), 12, .inl gw)), (ru3, .inl ((cs 4), 64, .inr (.inl gs_))), (ha, .inr (0, [.ref as, .ref ad, .int ac])), (as, .inl ((cs 0), 8, .inl gs)), (ad, .inl ((cs 0), 72, .inl gc))] sz)) 0 0 (va_A [(ox, .inr (9, [.ref ht, .ref hq, .ref og, .int rc, .ref hw, .ref om, .ref hp, .ref ha, .ref hf, .ref hw0, va_rf qh, va_rf qo])), (hw, .inr (8, [.ref hl0, .int wk, .int wc, .int wx, .int wn, .ref wa0, .ref wa1, .ref wa2, .ref wa3])), (hw0, .inl ((cs 0), 12, .inl gw)), (ru3, .inl ((cs 4), 64, .inr (.inl gs_))), (ha, .inr (0, [.ref as, .ref ad, .int ac])), (as, .inl ((cs 0), 8, .inl gs)), (ad, .inl ((cs 0), 72, .inl gc))] sz) := by
  refine MET (y := yX11_bestBy) (cc := cX11_bestBy) (maxL := 11) (ret := (some .int)) (d := 4) (mc := 0) (ms := 0) (D := D) (cs := cs) (X := X) (ws := [(ox, .inr (9, [.ref ht, .ref hq, .ref og, .int rc, .ref hw, .ref om, .ref hp, .ref ha, .ref hf, .ref hw0, va_rf qh, va_rf qo])), (hw, .inr (8, [.ref hl0, .int wk, .int wc, .int wx, .int wn, .ref wa0, .ref wa1, .ref wa2, .ref wa3])), (hw0, .inl ((cs 0), 12, .inl gw)), (ru3, .inl ((cs 4), 64, .inr (.inl gs_))), (ha, .inr (0, [.ref as, .ref ad, .int ac])), (as, .inl ((cs 0), 8, .inl gs)), (ad, .inl ((cs 0), 72, .inl gc))]) (wo := [(hl0, .inr (2, [.int lb, .int lh, .int lg, .int lw, .int lv, .int lbs, .int lti, .int lts, .int le, .int lk, .int la, .ref l0, .ref l1, .ref l2, .ref l3, .ref l4, .ref l5, .ref l6, .ref l7])), (l2, .inl ((cs 0), 8, .inl f2)), (l3, .inl ((cs 0), 8, .inl f3)), (l4, .inl ((cs 0), 8, .inl f4)), (l5, .inl ((cs 0), 8, .inl f5)), (l6, .inl ((cs 0), 6, .inl f6)), (l7, .inl ((cs 0), 6, .inl f7)), (hu, .inr (5, [.ref ru1, .ref ru2, .ref ru3])), (ru1, .inl ((cs 0), n1, .inl gc_)), (ru2, .inl ((cs 0), n2, .inl gb_))]) (sz := sz) (av := [.ref ox, .ref hu, .ref hl0]) (Qc := fun A => va_Qi (S := Unit) (fun r _ => True) (fun _ t => ∃ (gw2 : Nat → Int32), ∃ (gs3 : Nat → Int64), ∃ (ac2 : Int32), ∃ (gs2 : Nat → Int32), ∃ (gc2 : Nat → Int32), Rg 0 72 ac2 ∧ va_P D vwCl [(ox, .inr (9, [.ref ht, .ref hq, .ref og, .int rc, .ref hw, .ref om, .ref hp, .ref ha, .ref hf, .ref hw0, va_rf qh, va_rf qo])), (hw, .inr (8, [.ref hl0, .int wk, .int wc, .int wx, .int wn, .ref wa0, .ref wa1, .ref wa2, .ref wa3])), (hw0, .inl ((cs 0), 12, .inl gw2)), (ru3, .inl ((cs 4), 64, .inr (.inl gs3))), (ha, .inr (0, [.ref as, .ref ad, .int ac2])), (as, .inl ((cs 0), 8, .inl gs2)), (ad, .inl ((cs 0), 72, .inl gc2))] t.heap ∧ va_D A [(ox, .inr (9, [.ref ht, .ref hq, .ref og, .int rc, .ref hw, .ref om, .ref hp, .ref ha, .ref hf, .ref hw0, va_rf qh, va_rf qo])), (hw, .inr (8, [.ref hl0, .int wk, .int wc, .int wx, .int wn, .ref wa0, .ref wa1, .ref wa2, .ref wa3])), (hw0, .inl ((cs 0), 12, .inl gw2)), (ru3, .inl ((cs 4), 64, .inr (.inl gs3))), (ha, .inr (0, [.ref as, .ref ad, .int ac2])), (as, .inl ((cs 0), 8, .inl gs2)), (ad, .inl ((cs 0), 72, .inl gc2))]) A) (by decide) (Nat.le_of_ble_eq_true rfl) ?_
  intro p e s m below meth c ls A H hHe hx hb hr hml hown hts hlocks hnm hP hK hD hA hS hN hR hX hXs hl
  have hD : va_D A [(ox, .inr (9, [.ref ht, .ref hq, .ref og, .int rc, .ref hw, .ref om, .ref hp, .ref ha, .ref hf, .ref hw0, va_rf qh, va_rf qo])), (hw, .inr (8, [.ref hl0, .int wk, .int wc, .int wx, .int wn, .ref wa0, .ref wa1, .ref wa2, .ref wa3])), (hw0, .inl ((cs 0), 12, .inl gw)), (ru3, .inl ((cs 4), 64, .inr (.inl gs_))), (ha, .inr (0, [.ref as, .ref ad, .int ac])), (as, .inl ((cs 0), 8, .inl gs)), (ad, .inl ((cs 0), 72, .inl gc))] := hD
  have hPo := hR.at hS
  obtain ⟨locs, hlc⟩ : ∃ z : List Loc, z = [] := ⟨_, rfl⟩
  rw [← hlc] at hS ⊢
  have hown : s.vm.findClass "WrongHole" = some m.cls := hown
  have hT : ∀ w ∈ TB, w.before ([.ref ox, .ref hu, .ref hl0] : List Value).toArray s = true := fun w h => hts w (List.mem_cons_of_mem _ h)
  have hl : lv_has ls 11 [(0, .ref ox), (1, .ref hu), (2, .ref hl0)] := hl
  have hP : va_P D vwCl [(ox, .inr (9, [.ref ht, .ref hq, .ref og, .int rc, .ref hw, .ref om, .ref hp, .ref ha, .ref hf, .ref hw0, va_rf qh, va_rf qo])), (hw, .inr (8, [.ref hl0, .int wk, .int wc, .int wx, .int wn, .ref wa0, .ref wa1, .ref wa2, .ref wa3])), (hw0, .inl ((cs 0), 12, .inl gw)), (ru3, .inl ((cs 4), 64, .inr (.inl gs_))), (ha, .inr (0, [.ref as, .ref ad, .int ac])), (as, .inl ((cs 0), 8, .inl gs)), (ad, .inl ((cs 0), 72, .inl gc))] H := hP
  refine lv_aload_n hx hb dX11_bestBy_0 rfl (lv_at hl 1 rfl) ?_
  refine lv_ifnonnull (tgt := 6) hx hb dX11_bestBy_1 (by decide) ?_
  refine lv_aload_n hx hb dX11_bestBy_6 rfl (lv_at hl 0 rfl) ?_
  refine va_get (D := D) (ci := 9) (v := .ref hw) (C := "WrongHole") (T := TX11) (N := 12) hx hb hts (iq_RX11 _) hown hK hP 0 rfl rfl 4 (by decide) (hT _ qq_1_206) (fun _ h9 => h9) rfl dX11_bestBy_7 ?_
  refine va_getN (D := D) (ci := 8) (v := .int wk) (C := "WrongHole$Worn") (T := TX10) (N := 9) hx hb hts (iq_RX10 _) hown hK hP 1 rfl rfl 1 (by decide) (NN.f hN nq_1_101) (fun _ h9 => h9) rfl dX11_bestBy_10 ?_
  have hPc := va_P.sub (ws' := []) hP [] rfl
  refine cl_P (W.runS (As := [.int wk]) (rest := []) ⟨hx, hb, hml, hown, hts⟩ (c_Rows_in l D cs wk) ⟨callB_of 1 hts (gd_C qq_2_230) rfl rfl rfl (hT _ qq_1_16) (hT _ qq_3_198) (by decide +kernel) (rm_R rfl rfl), (hT _ qq_2_229)⟩ (pq_S hPc hK hN) rfl rfl hl.1 rfl (lv_room (Nat.le_of_ble_eq_true rfl)) dX11_bestBy_13 ⟨Nat.le_of_ble_eq_true rfl, Nat.le_of_ble_eq_true rfl⟩) (fun v9 hz_2 => ?_)
  obtain ⟨x_1, rfl, r_3⟩ := hz_2
  refine lv_istore_n (lv' := [(3, .int x_1), (0, .ref ox), (1, .ref hu), (2, .ref hl0)]) hx hb dX11_bestBy_16 rfl hl (by decide) rfl (fun ls hl => ?_)
  refine lv_aload_n hx hb dX11_bestBy_17 rfl (lv_at hl 1 rfl) ?_
  refine va_get (D := D) (ci := 9) (v := .ref hw0) (C := "WrongHole") (T := TX11) (N := 12) hx hb hts (iq_RX11 _) hown hK hP 0 rfl rfl 9 (by decide) (hT _ qq_1_211) (fun _ h9 => h9) rfl dX11_bestBy_18 ?_
  refine lv_iconst (v := 4) hx hb dX11_bestBy_21 (by decide) ?_
  refine lv_aload_n hx hb dX11_bestBy_22 rfl (lv_at hl 3 rfl) ?_
  refine va_getN (D := D) (ci := 2) (v := .int lb) (C := "WrongHole$Lift") (T := TX2) (N := 19) hx hb hts (iq_RX2 _) hown hK hPo 0 rfl rfl 0 (by decide) (NN.f hN nq_2_32) (fun _ h9 => h9) rfl dX11_bestBy_23 ?_
  refine lv_iload_n hx hb dX11_bestBy_26 rfl (lv_at hl 0 rfl) ?_
  have hPc := va_P.sub (ws' := []) hP [] rfl
  refine cl_P (W.runS (As := [.int x_1]) (rest := [.int lb, .int 4, .ref hw0]) ⟨hx, hb, hml, hown, hts⟩ (c_bitCount l D cs x_1) ⟨callB_of 1 hts (gd_C qq_3_26) rfl rfl rfl (hT _ qq_1_17) (hT _ qq_3_199) (by decide +kernel) (rm_R rfl rfl), (hT _ qq_3_25)⟩ (pq_S hPc hK hN) rfl rfl hl.1 rfl (lv_room (Nat.le_of_ble_eq_true rfl)) dX11_bestBy_27 ⟨Nat.le_of_ble_eq_true rfl, Nat.le_of_ble_eq_true rfl⟩) (fun v9 hz_5 => ?_)
  obtain ⟨x_4, rfl, r_6⟩ := hz_5
  refine lv_isub hx hb dX11_bestBy_30 ?_
  refine lv_topi (fun x_7 e_8 => ?_)
  have r_9 : Rg (-63) 8 x_7 := Rg.sub e_8 r_lb r_6 (by decide)
  have hi_10 : vp_in 4 12 := vi_c rfl
  refine va_iast hx hb hK hP hD hS 2 0 rfl rfl hi_10 dX11_bestBy_31 (fun H locs hP hD hS => ?_)
  obtain ⟨g_11, hP, hD⟩ : ∃ g_11 : Nat → Int32, va_P D vwCl [(ox, .inr (9, [.ref ht, .ref hq, .ref og, .int rc, .ref hw, .ref om, .ref hp, .ref ha, .ref hf, .ref hw0, va_rf qh, va_rf qo])), (hw, .inr (8, [.ref hl0, .int wk, .int wc, .int wx, .int wn, .ref wa0, .ref wa1, .ref wa2, .ref wa3])), (hw0, .inl ((cs 0), 12, .inl g_11)), (ru3, .inl ((cs 4), 64, .inr (.inl gs_))), (ha, .inr (0, [.ref as, .ref ad, .int ac])), (as, .inl ((cs 0), 8, .inl gs)), (ad, .inl ((cs 0), 72, .inl gc))] H ∧ va_D A [(ox, .inr (9, [.ref ht, .ref hq, .ref og, .int rc, .ref hw, .ref om, .ref hp, .ref ha, .ref hf, .ref hw0, va_rf qh, va_rf qo])), (hw, .inr (8, [.ref hl0, .int wk, .int wc, .int wx, .int wn, .ref wa0, .ref wa1, .ref wa2, .ref wa3])), (hw0, .inl ((cs 0), 12, .inl g_11)), (ru3, .inl ((cs 4), 64, .inr (.inl gs_))), (ha, .inr (0, [.ref as, .ref ad, .int ac])), (as, .inl ((cs 0), 8, .inl gs)), (ad, .inl ((cs 0), 72, .inl gc))] := ⟨_, hP, hD⟩
  have hPo := hR.at hS
  refine lv_aload_n hx hb dX11_bestBy_32 rfl (lv_at hl 1 rfl) ?_
  refine va_get (D := D) (ci := 9) (v := .ref hw0) (C := "WrongHole") (T := TX11) (N := 12) hx hb hts (iq_RX11 _) hown hK hP 0 rfl rfl 9 (by decide) (hT _ qq_1_211) (fun _ h9 => h9) rfl dX11_bestBy_33 ?_
  refine lv_iconst (v := 5) hx hb dX11_bestBy_36 (by decide) ?_
  refine lv_aload_n hx hb dX11_bestBy_37 rfl (lv_at hl 1 rfl) ?_
  refine va_get (D := D) (ci := 9) (v := .ref hw) (C := "WrongHole") (T := TX11) (N := 12) hx hb hts (iq_RX11 _) hown hK hP 0 rfl rfl 4 (by decide) (hT _ qq_1_206) (fun _ h9 => h9) rfl dX11_bestBy_38 ?_
  refine va_getN (D := D) (ci := 8) (v := .int wk) (C := "WrongHole$Worn") (T := TX10) (N := 9) hx hb hts (iq_RX10 _) hown hK hP 1 rfl rfl 1 (by decide) (NN.f hN nq_1_101) (fun _ h9 => h9) rfl dX11_bestBy_41 ?_
  have hPc := va_P.sub (ws' := []) hP [] rfl
  refine cl_P (W.runS (As := [.int wk]) (rest := [.int 5, .ref hw0]) ⟨hx, hb, hml, hown, hts⟩ (c_Rows_wrong l D cs wk) ⟨callB_of 1 hts (gd_C qq_3_202) rfl rfl rfl (hT _ qq_1_16) (hT _ qq_3_200) (by decide +kernel) (rm_R rfl rfl), (hT _ qq_3_201)⟩ (pq_S hPc hK hN) rfl rfl hl.1 rfl (lv_room (Nat.le_of_ble_eq_true rfl)) dX11_bestBy_44 ⟨Nat.le_of_ble_eq_true rfl, Nat.le_of_ble_eq_true rfl⟩) (fun v9 hz_13 => ?_)
  obtain ⟨x_12, rfl, r_14⟩ := hz_13
  have hPc := va_P.sub (ws' := []) hP [] rfl
  refine cl_P (W.runS (As := [.int x_12]) (rest := [.int 5, .ref hw0]) ⟨hx, hb, hml, hown, hts⟩ (c_bitCount l D cs x_12) ⟨callB_of 1 hts (gd_C qq_3_26) rfl rfl rfl (hT _ qq_1_17) (hT _ qq_3_199) (by decide +kernel) (rm_R rfl rfl), (hT _ qq_3_25)⟩ (pq_S hPc hK hN) rfl rfl hl.1 rfl (lv_room (Nat.le_of_ble_eq_true rfl)) dX11_bestBy_47 ⟨Nat.le_of_ble_eq_true rfl, Nat.le_of_ble_eq_true rfl⟩) (fun v9 hz_16 => ?_)
  obtain ⟨x_15, rfl, r_17⟩ := hz_16
  have hi_18 : vp_in 5 12 := vi_c rfl
  refine va_iast hx hb hK hP hD hS 2 0 rfl rfl hi_18 dX11_bestBy_50 (fun H locs hP hD hS => ?_)
  obtain ⟨g_19, hP, hD⟩ : ∃ g_19 : Nat → Int32, va_P D vwCl [(ox, .inr (9, [.ref ht, .ref hq, .ref og, .int rc, .ref hw, .ref om, .ref hp, .ref ha, .ref hf, .ref hw0, va_rf qh, va_rf qo])), (hw, .inr (8, [.ref hl0, .int wk, .int wc, .int wx, .int wn, .ref wa0, .ref wa1, .ref wa2, .ref wa3])), (hw0, .inl ((cs 0), 12, .inl g_19)), (ru3, .inl ((cs 4), 64, .inr (.inl gs_))), (ha, .inr (0, [.ref as, .ref ad, .int ac])), (as, .inl ((cs 0), 8, .inl gs)), (ad, .inl ((cs 0), 72, .inl gc))] H ∧ va_D A [(ox, .inr (9, [.ref ht, .ref hq, .ref og, .int rc, .ref hw, .ref om, .ref hp, .ref ha, .ref hf, .ref hw0, va_rf qh, va_rf qo])), (hw, .inr (8, [.ref hl0, .int wk, .int wc, .int wx, .int wn, .ref wa0, .ref wa1, .ref wa2, .ref wa3])), (hw0, .inl ((cs 0), 12, .inl g_19)), (ru3, .inl ((cs 4), 64, .inr (.inl gs_))), (ha, .inr (0, [.ref as, .ref ad, .int ac])), (as, .inl ((cs 0), 8, .inl gs)), (ad, .inl ((cs 0), 72, .inl gc))] := ⟨_, hP, hD⟩
  have hPo := hR.at hS
  refine lv_aload_n hx hb dX11_bestBy_51 rfl (lv_at hl 1 rfl) ?_
  refine va_get (D := D) (ci := 9) (v := .ref hw0) (C := "WrongHole") (T := TX11) (N := 12) hx hb hts (iq_RX11 _) hown hK hP 0 rfl rfl 9 (by decide) (hT _ qq_1_211) (fun _ h9 => h9) rfl dX11_bestBy_52 ?_
  refine lv_bipush (v := 6) hx hb dX11_bestBy_55 (by decide) ?_
  refine lv_aload_n hx hb dX11_bestBy_57 rfl (lv_at hl 3 rfl) ?_
  refine lv_iload_n hx hb dX11_bestBy_58 rfl (lv_at hl 0 rfl) ?_
  have hPc := va_P.sub (ws' := [(hl0, .inr (2, [.int lb, .int lh, .int lg, .int lw, .int lv, .int lbs, .int lti, .int lts, .int le, .int lk, .int la, .ref l0, .ref l1, .ref l2, .ref l3, .ref l4, .ref l5, .ref l6, .ref l7]))]) hPo [0] rfl
  refine cl_P (W.runV (As := [.int x_1]) (rest := [.int 6, .ref hw0]) ⟨hx, hb, hml, hown, hts⟩ (c_Lift_longestOpen l D cs hl0 lb lh lg lw lv lbs lti lts le lk la l0 l1 l2 l3 l4 l5 l6 l7 x_1 r_lb r_lh r_le) ⟨callB_of 1 hts (gd_C qq_3_211) rfl rfl rfl (hT _ qq_1_11) (hT _ qq_3_208) (by decide +kernel) (rm_R rfl rfl), (hT _ qq_3_209), (hT _ qq_3_210)⟩ (pq_V hPc hK hN (ci := 2) (q0 := 0) rfl rfl) rfl rfl hl.1 rfl (lv_room (Nat.le_of_ble_eq_true rfl)) dX11_bestBy_59 ⟨Nat.le_of_ble_eq_true rfl, Nat.le_of_ble_eq_true rfl⟩) (fun v9 hz_21 => ?_)
  obtain ⟨x_20, rfl⟩ := hz_21
  have hi_23 : vp_in 6 12 := vi_c rfl
  refine va_iast hx hb hK hP hD hS 2 0 rfl rfl hi_23 dX11_bestBy_62 (fun H locs hP hD hS => ?_)
  obtain ⟨g_24, hP, hD⟩ : ∃ g_24 : Nat → Int32, va_P D vwCl [(ox, .inr (9, [.ref ht, .ref hq, .ref og, .int rc, .ref hw, .ref om, .ref hp, .ref ha, .ref hf, .ref hw0, va_rf qh, va_rf qo])), (hw, .inr (8, [.ref hl0, .int wk, .int wc, .int wx, .int wn, .ref wa0, .ref wa1, .ref wa2, .ref wa3])), (hw0, .inl ((cs 0), 12, .inl g_24)), (ru3, .inl ((cs 4), 64, .inr (.inl gs_))), (ha, .inr (0, [.ref as, .ref ad, .int ac])), (as, .inl ((cs 0), 8, .inl gs)), (ad, .inl ((cs 0), 72, .inl gc))] H ∧ va_D A [(ox, .inr (9, [.ref ht, .ref hq, .ref og, .int rc, .ref hw, .ref om, .ref hp, .ref ha, .ref hf, .ref hw0, va_rf qh, va_rf qo])), (hw, .inr (8, [.ref hl0, .int wk, .int wc, .int wx, .int wn, .ref wa0, .ref wa1, .ref wa2, .ref wa3])), (hw0, .inl ((cs 0), 12, .inl g_24)), (ru3, .inl ((cs 4), 64, .inr (.inl gs_))), (ha, .inr (0, [.ref as, .ref ad, .int ac])), (as, .inl ((cs 0), 8, .inl gs)), (ad, .inl ((cs 0), 72, .inl gc))] := ⟨_, hP, hD⟩
  have hPo := hR.at hS
  refine lv_aload_n hx hb dX11_bestBy_63 rfl (lv_at hl 1 rfl) ?_
  refine va_get (D := D) (ci := 9) (v := .ref hw0) (C := "WrongHole") (T := TX11) (N := 12) hx hb hts (iq_RX11 _) hown hK hP 0 rfl rfl 9 (by decide) (hT _ qq_1_211) (fun _ h9 => h9) rfl dX11_bestBy_64 ?_
  refine lv_bipush (v := 9) hx hb dX11_bestBy_67 (by decide) ?_
  refine lv_aload_n hx hb dX11_bestBy_69 rfl (lv_at hl 1 rfl) ?_
  refine va_get (D := D) (ci := 9) (v := .ref hw) (C := "WrongHole") (T := TX11) (N := 12) hx hb hts (iq_RX11 _) hown hK hP 0 rfl rfl 4 (by decide) (hT _ qq_1_206) (fun _ h9 => h9) rfl dX11_bestBy_70 ?_
  refine va_getN (D := D) (ci := 8) (v := .int wc) (C := "WrongHole$Worn") (T := TX10) (N := 9) hx hb hts (iq_RX10 _) hown hK hP 1 rfl rfl 2 (by decide) (NN.f hN nq_1_103) (fun _ h9 => h9) rfl dX11_bestBy_73 ?_
  have hi_25 : vp_in 9 12 := vi_c rfl
  refine va_iast hx hb hK hP hD hS 2 0 rfl rfl hi_25 dX11_bestBy_76 (fun H locs hP hD hS => ?_)
  obtain ⟨g_26, hP, hD⟩ : ∃ g_26 : Nat → Int32, va_P D vwCl [(ox, .inr (9, [.ref ht, .ref hq, .ref og, .int rc, .ref hw, .ref om, .ref hp, .ref ha, .ref hf, .ref hw0, va_rf qh, va_rf qo])), (hw, .inr (8, [.ref hl0, .int wk, .int wc, .int wx, .int wn, .ref wa0, .ref wa1, .ref wa2, .ref wa3])), (hw0, .inl ((cs 0), 12, .inl g_26)), (ru3, .inl ((cs 4), 64, .inr (.inl gs_))), (ha, .inr (0, [.ref as, .ref ad, .int ac])), (as, .inl ((cs 0), 8, .inl gs)), (ad, .inl ((cs 0), 72, .inl gc))] H ∧ va_D A [(ox, .inr (9, [.ref ht, .ref hq, .ref og, .int rc, .ref hw, .ref om, .ref hp, .ref ha, .ref hf, .ref hw0, va_rf qh, va_rf qo])), (hw, .inr (8, [.ref hl0, .int wk, .int wc, .int wx, .int wn, .ref wa0, .ref wa1, .ref wa2, .ref wa3])), (hw0, .inl ((cs 0), 12, .inl g_26)), (ru3, .inl ((cs 4), 64, .inr (.inl gs_))), (ha, .inr (0, [.ref as, .ref ad, .int ac])), (as, .inl ((cs 0), 8, .inl gs)), (ad, .inl ((cs 0), 72, .inl gc))] := ⟨_, hP, hD⟩
  have hPo := hR.at hS
  refine lv_aload_n hx hb dX11_bestBy_77 rfl (lv_at hl 1 rfl) ?_
  refine va_get (D := D) (ci := 9) (v := .ref ha) (C := "WrongHole") (T := TX11) (N := 12) hx hb hts (iq_RX11 _) hown hK hP 0 rfl rfl 7 (by decide) (hT _ qq_1_209) (fun _ h9 => h9) rfl dX11_bestBy_78 ?_
  refine lv_aload_n hx hb dX11_bestBy_81 rfl (lv_at hl 3 rfl) ?_
  refine lv_aload_n hx hb dX11_bestBy_82 rfl (lv_at hl 1 rfl) ?_
  refine va_get (D := D) (ci := 9) (v := .ref hw) (C := "WrongHole") (T := TX11) (N := 12) hx hb hts (iq_RX11 _) hown hK hP 0 rfl rfl 4 (by decide) (hT _ qq_1_206) (fun _ h9 => h9) rfl dX11_bestBy_83 ?_
  refine va_getN (D := D) (ci := 8) (v := .int wk) (C := "WrongHole$Worn") (T := TX10) (N := 9) hx hb hts (iq_RX10 _) hown hK hP 1 rfl rfl 1 (by decide) (NN.f hN nq_1_101) (fun _ h9 => h9) rfl dX11_bestBy_86 ?_
  have hPc := hP.sub (ws' := [(ha, .inr (0, [.ref as, .ref ad, .int ac])), (as, .inl ((cs 0), 8, .inl gs)), (ad, .inl ((cs 0), 72, .inl gc))]) [4, 5, 6] rfl
  have hDc := hD.sub (ws' := [(ha, .inr (0, [.ref as, .ref ad, .int ac])), (as, .inl ((cs 0), 8, .inl gs)), (ad, .inl ((cs 0), 72, .inl gc))]) [4, 5, 6] (by decide) rfl
  have hFc := va_free (wc := [(ha, .inr (0, [.ref as, .ref ad, .int ac])), (as, .inl ((cs 0), 8, .inl gs)), (ad, .inl ((cs 0), 72, .inl gc))]) hD hS hA [4, 5, 6] rfl
  refine va_callv (va_runV (As := [.ref hl0, .int wk]) (rest := []) ⟨hx, hb, hml, hown, hts⟩ (c_Acts_gather l D cs X H.size ha as ad ac gs gc hl0 lb lh lg lw lv lbs lti lts le lk la l0 l1 l2 l3 l4 l5 l6 l7 f5 wk r_ac r_lb r_lh r_le) ⟨callB_of 2 hts (gd_C qq_4_64) rfl rfl rfl (hT _ qq_1_7) (hT _ qq_4_61) (by decide +kernel) (rm_R rfl rfl), (hT _ qq_4_62), (hT _ qq_4_63)⟩ (pr_V hPc hK hDc hN (hR.sub (wo' := [(hl0, .inr (2, [.int lb, .int lh, .int lg, .int lw, .int lv, .int lbs, .int lti, .int lts, .int le, .int lk, .int la, .ref l0, .ref l1, .ref l2, .ref l3, .ref l4, .ref l5, .ref l6, .ref l7])), (l5, .inl ((cs 0), 8, .inl f5))]) [0, 4] rfl) hS hFc hX hXs (ci := 0) (q0 := 0) rfl rfl) rfl rfl hl.1 rfl (lv_room (Nat.le_of_ble_eq_true rfl)) dX11_bestBy_89 ⟨Nat.le_of_ble_eq_true rfl, Nat.le_of_ble_eq_true rfl⟩) hS (fun q _ h => hFc q h) hFc (fun u_27 t_30 H1 locs ht9 hvm hw_28 hB_29 hz1 hk1 hS => ?_)
  obtain ⟨v_32, g_33, g_34, r_35, hP1, hD1⟩ := hB_29
  rw [ht9] at hP1
  obtain ⟨hP, hD⟩ := va_join (wr := [(ox, .inr (9, [.ref ht, .ref hq, .ref og, .int rc, .ref hw, .ref om, .ref hp, .ref ha, .ref hf, .ref hw0, va_rf qh, va_rf qo])), (hw, .inr (8, [.ref hl0, .int wk, .int wc, .int wx, .int wn, .ref wa0, .ref wa1, .ref wa2, .ref wa3])), (hw0, .inl ((cs 0), 12, .inl g_26)), (ru3, .inl ((cs 4), 64, .inr (.inl gs_)))]) (w1 := [(ha, .inr (0, [.ref as, .ref ad, .int v_32])), (as, .inl ((cs 0), 8, .inl g_33)), (ad, .inl ((cs 0), 72, .inl g_34))]) hP hD [4, 5, 6] [0, 1, 2, 3] rfl rfl (by decide) (by decide) hk1 hFc hP1 hD1
  generalize H1 = H at hP hS ⊢
  have hP : va_P D vwCl [(ox, .inr (9, [.ref ht, .ref hq, .ref og, .int rc, .ref hw, .ref om, .ref hp, .ref ha, .ref hf, .ref hw0, va_rf qh, va_rf qo])), (hw, .inr (8, [.ref hl0, .int wk, .int wc, .int wx, .int wn, .ref wa0, .ref wa1, .ref wa2, .ref wa3])), (hw0, .inl ((cs 0), 12, .inl g_26)), (ru3, .inl ((cs 4), 64, .inr (.inl gs_))), (ha, .inr (0, [.ref as, .ref ad, .int v_32])), (as, .inl ((cs 0), 8, .inl g_33)), (ad, .inl ((cs 0), 72, .inl g_34))] H := hP
  have hD : va_D A [(ox, .inr (9, [.ref ht, .ref hq, .ref og, .int rc, .ref hw, .ref om, .ref hp, .ref ha, .ref hf, .ref hw0, va_rf qh, va_rf qo])), (hw, .inr (8, [.ref hl0, .int wk, .int wc, .int wx, .int wn, .ref wa0, .ref wa1, .ref wa2, .ref wa3])), (hw0, .inl ((cs 0), 12, .inl g_26)), (ru3, .inl ((cs 4), 64, .inr (.inl gs_))), (ha, .inr (0, [.ref as, .ref ad, .int v_32])), (as, .inl ((cs 0), 8, .inl g_33)), (ad, .inl ((cs 0), 72, .inl g_34))] := hD
  have hPo := hR.at hS
  refine lv_lconst (v := 0) hx hb dX11_bestBy_92 (by decide) ?_
  refine lv_lstore (lv' := [(4, .long 0), (3, .int x_1), (0, .ref ox), (1, .ref hu), (2, .ref hl0)]) hx hb dX11_bestBy_93 hl (by decide) rfl (fun ls hl => ?_)
  refine lv_iconst (v := (-1)) hx hb dX11_bestBy_95 (by decide) ?_
  refine lv_istore (lv' := [(6, .int (-1)), (4, .long 0), (3, .int x_1), (0, .ref ox), (1, .ref hu), (2, .ref hl0)]) hx hb dX11_bestBy_96 hl (by decide) rfl (fun ls hl => ?_)
  refine lv_iconst (v := 0) hx hb dX11_bestBy_98 (by decide) ?_
  refine lv_istore (lv' := [(7, .int 0), (6, .int (-1)), (4, .long 0), (3, .int x_1), (0, .ref ox), (1, .ref hu), (2, .ref hl0)]) hx hb dX11_bestBy_99 hl (by decide) rfl (fun ls hl => ?_)
  refine w_wh (σ := (Int32) × (Int32) × (Int64) × (Nat → Int32) × (Nat → Int64)) (fun x9 H locs ls => match x9 with | (v_83, v_84, z_85, g_86, g_87) => Rg 0 72 v_83 ∧ va_P D vwCl [(ox, .inr (9, [.ref ht, .ref hq, .ref og, .int rc, .ref hw, .ref om, .ref hp, .ref ha, .ref hf, .ref hw0, va_rf qh, va_rf qo])), (hw, .inr (8, [.ref hl0, .int wk, .int wc, .int wx, .int wn, .ref wa0, .ref wa1, .ref wa2, .ref wa3])), (hw0, .inl ((cs 0), 12, .inl g_86)), (ru3, .inl ((cs 4), 64, .inr (.inl g_87))), (ha, .inr (0, [.ref as, .ref ad, .int v_32])), (as, .inl ((cs 0), 8, .inl g_33)), (ad, .inl ((cs 0), 72, .inl g_34))] H ∧ va_D A [(ox, .inr (9, [.ref ht, .ref hq, .ref og, .int rc, .ref hw, .ref om, .ref hp, .ref ha, .ref hf, .ref hw0, va_rf qh, va_rf qo])), (hw, .inr (8, [.ref hl0, .int wk, .int wc, .int wx, .int wn, .ref wa0, .ref wa1, .ref wa2, .ref wa3])), (hw0, .inl ((cs 0), 12, .inl g_86)), (ru3, .inl ((cs 4), 64, .inr (.inl g_87))), (ha, .inr (0, [.ref as, .ref ad, .int v_32])), (as, .inl ((cs 0), 8, .inl g_33)), (ad, .inl ((cs 0), 72, .inl g_34))] ∧ va_S A s.heap H locs ∧ lv_has ls 11 [(7, .int v_83), (6, .int v_84), (4, .long z_85), (3, .int x_1), (0, .ref ox), (1, .ref hu), (2, .ref hl0)]) (fun x9 => match x9 with | (v_83, v_84, z_85, g_86, g_87) => (72 - Int32.toInt v_83).toNat) 101 ?_ (0, (-1), 0, g_26, gs_) H locs ls ⟨(Rg.wk (lo2 := 0) (hi2 := 72) (Rg.c (c := 0) (k := 0) rfl) (by decide)), hP, hD, hS, lv_sub hl [0, 1, 2, 3, 4, 5, 6] rfl⟩
  rintro ⟨v_83, v_84, z_85, g_86, g_87⟩ H locs ls ⟨r_884, hP, hD, hS, hl⟩ ih_883
  have hPo := hR.at hS
  refine lv_iload hx hb dX11_bestBy_101 (lv_at hl 0 rfl) ?_
  refine lv_aload_n hx hb dX11_bestBy_103 rfl (lv_at hl 4 rfl) ?_
  refine va_get (D := D) (ci := 9) (v := .ref ha) (C := "WrongHole") (T := TX11) (N := 12) hx hb hts (iq_RX11 _) hown hK hP 0 rfl rfl 7 (by decide) (hT _ qq_1_209) (fun _ h9 => h9) rfl dX11_bestBy_104 ?_
  refine va_getN (D := D) (ci := 0) (v := .int v_32) (C := "WrongHole$Acts") (T := TX0) (N := 3) hx hb hts (iq_RX0 _) hown hK hP 4 rfl rfl 2 (by decide) (NN.f hN nq_1_169) (fun _ h9 => h9) rfl dX11_bestBy_107 ?_
  refine lv_icmp_ge (tgt := 164) hx hb dX11_bestBy_110 (by decide) (fun c_885 => ?_) (fun c_885 => ?_)
  · refine lv_iload hx hb dX11_bestBy_164 (lv_at hl 1 rfl) ?_
    refine W.widen (k := 0) (n := 0) (Nat.le_of_ble_eq_true rfl) (Nat.le_of_ble_eq_true rfl) ?_
    have hP9 := hP.sub (ws' := [(ox, .inr (9, [.ref ht, .ref hq, .ref og, .int rc, .ref hw, .ref om, .ref hp, .ref ha, .ref hf, .ref hw0, va_rf qh, va_rf qo])), (hw, .inr (8, [.ref hl0, .int wk, .int wc, .int wx, .int wn, .ref wa0, .ref wa1, .ref wa2, .ref wa3])), (hw0, .inl ((cs 0), 12, .inl g_86)), (ru3, .inl ((cs 4), 64, .inr (.inl g_87))), (ha, .inr (0, [.ref as, .ref ad, .int v_32])), (as, .inl ((cs 0), 8, .inl g_33)), (ad, .inl ((cs 0), 72, .inl g_34))]) [0, 1, 2, 3, 4, 5, 6] rfl
    have hD9 := hD.sub (ws' := [(ox, .inr (9, [.ref ht, .ref hq, .ref og, .int rc, .ref hw, .ref om, .ref hp, .ref ha, .ref hf, .ref hw0, va_rf qh, va_rf qo])), (hw, .inr (8, [.ref hl0, .int wk, .int wc, .int wx, .int wn, .ref wa0, .ref wa1, .ref wa2, .ref wa3])), (hw0, .inl ((cs 0), 12, .inl g_86)), (ru3, .inl ((cs 4), 64, .inr (.inl g_87))), (ha, .inr (0, [.ref as, .ref ad, .int v_32])), (as, .inl ((cs 0), 8, .inl g_33)), (ad, .inl ((cs 0), 72, .inl g_34))]) [0, 1, 2, 3, 4, 5, 6] (by decide) rfl
    exact W.iret (v := v_84) hx hb hr (fun t9 ht9 hW9 => ⟨⟨_, (), rfl, trivial, ⟨g_86, g_87, v_32, g_33, g_34, r_35, by rw [ht9]; exact hP9, hD9⟩⟩, hS.F ht9⟩) hS.2.2 dX11_bestBy_166
  · have r_886 : Rg 0 71 v_83 := Rg.lt_l (nle_lt c_885) r_884 r_35 (by decide)
    have r_887 : Rg 1 72 v_32 := Rg.lt_r (nle_lt c_885) r_884 r_35 (by decide)
    refine lv_aload_n hx hb dX11_bestBy_113 rfl (lv_at hl 4 rfl) ?_
    refine va_get (D := D) (ci := 9) (v := .ref ha) (C := "WrongHole") (T := TX11) (N := 12) hx hb hts (iq_RX11 _) hown hK hP 0 rfl rfl 7 (by decide) (hT _ qq_1_209) (fun _ h9 => h9) rfl dX11_bestBy_114 ?_
    refine va_getN (D := D) (ci := 0) (v := .ref ad) (C := "WrongHole$Acts") (T := TX0) (N := 3) hx hb hts (iq_RX0 _) hown hK hP 4 rfl rfl 1 (by decide) (NN.f hN nq_1_166) (fun _ h9 => h9) rfl dX11_bestBy_117 ?_
    refine lv_iload hx hb dX11_bestBy_120 (lv_at hl 0 rfl) ?_
    have hi_913 : vp_in v_83 72 := Rg.in r_886 (by decide)
    refine va_iald hx hb hK hP 6 0 rfl rfl hi_913 dX11_bestBy_122 ?_
    refine lv_topi (fun x_914 e_915 => ?_)
    refine lv_istore (lv' := [(8, .int x_914), (7, .int v_83), (6, .int v_84), (4, .long z_85), (3, .int x_1), (0, .ref ox), (1, .ref hu), (2, .ref hl0)]) hx hb dX11_bestBy_123 hl (by decide) rfl (fun ls hl => ?_)
    refine lv_aload_n hx hb dX11_bestBy_125 rfl (lv_at hl 5 rfl) ?_
    refine lv_iload hx hb dX11_bestBy_126 (lv_at hl 0 rfl) ?_
    refine lv_aload_n hx hb dX11_bestBy_128 rfl (lv_at hl 7 rfl) ?_
    have hPc := hP.sub (ws' := [(ox, .inr (9, [.ref ht, .ref hq, .ref og, .int rc, .ref hw, .ref om, .ref hp, .ref ha, .ref hf, .ref hw0, va_rf qh, va_rf qo])), (hw, .inr (8, [.ref hl0, .int wk, .int wc, .int wx, .int wn, .ref wa0, .ref wa1, .ref wa2, .ref wa3])), (hw0, .inl ((cs 0), 12, .inl g_86))]) [0, 1, 2] rfl
    have hDc := hD.sub (ws' := [(ox, .inr (9, [.ref ht, .ref hq, .ref og, .int rc, .ref hw, .ref om, .ref hp, .ref ha, .ref hf, .ref hw0, va_rf qh, va_rf qo])), (hw, .inr (8, [.ref hl0, .int wk, .int wc, .int wx, .int wn, .ref wa0, .ref wa1, .ref wa2, .ref wa3])), (hw0, .inl ((cs 0), 12, .inl g_86))]) [0, 1, 2] (by decide) rfl
    have hFc := va_free (wc := [(ox, .inr (9, [.ref ht, .ref hq, .ref og, .int rc, .ref hw, .ref om, .ref hp, .ref ha, .ref hf, .ref hw0, va_rf qh, va_rf qo])), (hw, .inr (8, [.ref hl0, .int wk, .int wc, .int wx, .int wn, .ref wa0, .ref wa1, .ref wa2, .ref wa3])), (hw0, .inl ((cs 0), 12, .inl g_86))]) hD hS hA [0, 1, 2] rfl
    refine va_callv (va_runV (As := [.int x_914, .ref hl0]) (rest := []) ⟨hx, hb, hml, hown, hts⟩ (c_W_tellOf l D cs X H.size ox ht hq og rc hw om hp ha hf hw0 qh qo wk wc wx wn wa0 wa1 wa2 wa3 g_86 hl0 lb lh lg lw lv lbs lti lts le lk la l0 l1 l2 l3 l4 l5 l6 l7 f2 f3 f4 f6 f7 x_914 r_lb r_lh r_le) ⟨callB_of 2 hts (gd_C qq_4_80) rfl rfl rfl (hT _ qq_1_1) (hT _ qq_4_77) (by decide +kernel) (rm_R rfl rfl), (hT _ qq_4_79), (hT _ qs_0_14)⟩ (pr_V hPc hK hDc hN (hR.sub (wo' := [(hl0, .inr (2, [.int lb, .int lh, .int lg, .int lw, .int lv, .int lbs, .int lti, .int lts, .int le, .int lk, .int la, .ref l0, .ref l1, .ref l2, .ref l3, .ref l4, .ref l5, .ref l6, .ref l7])), (l2, .inl ((cs 0), 8, .inl f2)), (l3, .inl ((cs 0), 8, .inl f3)), (l4, .inl ((cs 0), 8, .inl f4)), (l6, .inl ((cs 0), 6, .inl f6)), (l7, .inl ((cs 0), 6, .inl f7))]) [0, 1, 2, 3, 5, 6] rfl) hS hFc hX hXs (ci := 9) (q0 := 0) rfl rfl) rfl rfl hl.1 rfl (lv_room (Nat.le_of_ble_eq_true rfl)) dX11_bestBy_129 ⟨Nat.le_of_ble_eq_true rfl, Nat.le_of_ble_eq_true rfl⟩) hS (fun q _ h => hFc q h) hFc (fun u_916 t_919 H1 locs ht9 hvm hw_917 hB_918 hz1 hk1 hS => ?_)
    obtain ⟨g_921, hP1, hD1⟩ := hB_918
    rw [ht9] at hP1
    obtain ⟨hP, hD⟩ := va_join (wr := [(ru3, .inl ((cs 4), 64, .inr (.inl g_87))), (ha, .inr (0, [.ref as, .ref ad, .int v_32])), (as, .inl ((cs 0), 8, .inl g_33)), (ad, .inl ((cs 0), 72, .inl g_34))]) (w1 := [(ox, .inr (9, [.ref ht, .ref hq, .ref og, .int rc, .ref hw, .ref om, .ref hp, .ref ha, .ref hf, .ref hw0, va_rf qh, va_rf qo])), (hw, .inr (8, [.ref hl0, .int wk, .int wc, .int wx, .int wn, .ref wa0, .ref wa1, .ref wa2, .ref wa3])), (hw0, .inl ((cs 0), 12, .inl g_921))]) hP hD [0, 1, 2] [3, 4, 5, 6] rfl rfl (by decide) (by decide) hk1 hFc hP1 hD1
    generalize H1 = H at hP hS ⊢
    have hP : va_P D vwCl [(ru3, .inl ((cs 4), 64, .inr (.inl g_87))), (ha, .inr (0, [.ref as, .ref ad, .int v_32])), (as, .inl ((cs 0), 8, .inl g_33)), (ad, .inl ((cs 0), 72, .inl g_34)), (ox, .inr (9, [.ref ht, .ref hq, .ref og, .int rc, .ref hw, .ref om, .ref hp, .ref ha, .ref hf, .ref hw0, va_rf qh, va_rf qo])), (hw, .inr (8, [.ref hl0, .int wk, .int wc, .int wx, .int wn, .ref wa0, .ref wa1, .ref wa2, .ref wa3])), (hw0, .inl ((cs 0), 12, .inl g_921))] H := hP
    have hD : va_D A [(ru3, .inl ((cs 4), 64, .inr (.inl g_87))), (ha, .inr (0, [.ref as, .ref ad, .int v_32])), (as, .inl ((cs 0), 8, .inl g_33)), (ad, .inl ((cs 0), 72, .inl g_34)), (ox, .inr (9, [.ref ht, .ref hq, .ref og, .int rc, .ref hw, .ref om, .ref hp, .ref ha, .ref hf, .ref hw0, va_rf qh, va_rf qo])), (hw, .inr (8, [.ref hl0, .int wk, .int wc, .int wx, .int wn, .ref wa0, .ref wa1, .ref wa2, .ref wa3])), (hw0, .inl ((cs 0), 12, .inl g_921))] := hD
    have hPo := hR.at hS
    have hP := hP.sub (ws' := [(ox, .inr (9, [.ref ht, .ref hq, .ref og, .int rc, .ref hw, .ref om, .ref hp, .ref ha, .ref hf, .ref hw0, va_rf qh, va_rf qo])), (hw, .inr (8, [.ref hl0, .int wk, .int wc, .int wx, .int wn, .ref wa0, .ref wa1, .ref wa2, .ref wa3])), (hw0, .inl ((cs 0), 12, .inl g_921)), (ru3, .inl ((cs 4), 64, .inr (.inl g_87))), (ha, .inr (0, [.ref as, .ref ad, .int v_32])), (as, .inl ((cs 0), 8, .inl g_33)), (ad, .inl ((cs 0), 72, .inl g_34))]) [4, 5, 6, 0, 1, 2, 3] rfl
    have hD := hD.sub (ws' := [(ox, .inr (9, [.ref ht, .ref hq, .ref og, .int rc, .ref hw, .ref om, .ref hp, .ref ha, .ref hf, .ref hw0, va_rf qh, va_rf qo])), (hw, .inr (8, [.ref hl0, .int wk, .int wc, .int wx, .int wn, .ref wa0, .ref wa1, .ref wa2, .ref wa3])), (hw0, .inl ((cs 0), 12, .inl g_921)), (ru3, .inl ((cs 4), 64, .inr (.inl g_87))), (ha, .inr (0, [.ref as, .ref ad, .int v_32])), (as, .inl ((cs 0), 8, .inl g_33)), (ad, .inl ((cs 0), 72, .inl g_34))]) [4, 5, 6, 0, 1, 2, 3] (by decide) rfl
    refine lv_aload_n hx hb dX11_bestBy_132 rfl (lv_at hl 6 rfl) ?_
    refine lv_aload_n hx hb dX11_bestBy_133 rfl (lv_at hl 5 rfl) ?_
    refine va_get (D := D) (ci := 9) (v := .ref hw0) (C := "WrongHole") (T := TX11) (N := 12) hx hb hts (iq_RX11 _) hown hK hP 0 rfl rfl 9 (by decide) (hT _ qq_1_211) (fun _ h9 => h9) rfl dX11_bestBy_134 ?_
    have hPc := hP.sub (ws' := [(ru3, .inl ((cs 4), 64, .inr (.inl g_87))), (hw0, .inl ((cs 0), 12, .inl g_921))]) [3, 2] rfl
    have hDc := hD.sub (ws' := [(ru3, .inl ((cs 4), 64, .inr (.inl g_87))), (hw0, .inl ((cs 0), 12, .inl g_921))]) [3, 2] (by decide) rfl
    have hFc := va_free (wc := [(ru3, .inl ((cs 4), 64, .inr (.inl g_87))), (hw0, .inl ((cs 0), 12, .inl g_921))]) hD hS hA [3, 2] rfl
    refine va_calll (va_runV (As := [.ref hw0]) (rest := []) ⟨hx, hb, hml, hown, hts⟩ (c_Rule_sumFor_w l D cs X H.size hu ru1 ru2 ru3 n1 n2 gc_ gb_ g_87 hw0 g_921 hn1 hn2 a_gb_) ⟨callB_of 1 hts (gd_C qq_4_90) rfl rfl rfl (hT _ qq_1_18) (hT _ qq_4_87) (by decide +kernel) (rm_R rfl rfl), (hT _ qq_4_88), (hT _ qq_4_89)⟩ (pr_W hPc hK hDc hN (hR.sub (wo' := [(hu, .inr (5, [.ref ru1, .ref ru2, .ref ru3])), (ru1, .inl ((cs 0), n1, .inl gc_)), (ru2, .inl ((cs 0), n2, .inl gb_))]) [7, 8, 9] rfl) hS hFc hX hXs (ci := 5) (q0 := 0) rfl rfl) rfl rfl hl.1 rfl (lv_room (Nat.le_of_ble_eq_true rfl)) dX11_bestBy_137 ⟨Nat.le_of_ble_eq_true rfl, Nat.le_of_ble_eq_true rfl⟩) hS (fun q _ h => hFc q h) hFc (fun x_926 u_922 t_925 H1 locs ht9 hvm hw_923 hB_924 hz1 hk1 hS => ?_)
    obtain ⟨g_927, hP1, hD1⟩ := hB_924
    rw [ht9] at hP1
    obtain ⟨hP, hD⟩ := va_join (wr := [(ox, .inr (9, [.ref ht, .ref hq, .ref og, .int rc, .ref hw, .ref om, .ref hp, .ref ha, .ref hf, .ref hw0, va_rf qh, va_rf qo])), (hw, .inr (8, [.ref hl0, .int wk, .int wc, .int wx, .int wn, .ref wa0, .ref wa1, .ref wa2, .ref wa3])), (ha, .inr (0, [.ref as, .ref ad, .int v_32])), (as, .inl ((cs 0), 8, .inl g_33)), (ad, .inl ((cs 0), 72, .inl g_34))]) (w1 := [(ru3, .inl ((cs 4), 64, .inr (.inl g_927))), (hw0, .inl ((cs 0), 12, .inl g_921))]) hP hD [3, 2] [0, 1, 4, 5, 6] rfl rfl (by decide) (by decide) hk1 hFc hP1 hD1
    generalize H1 = H at hP hS ⊢
    have hP : va_P D vwCl [(ox, .inr (9, [.ref ht, .ref hq, .ref og, .int rc, .ref hw, .ref om, .ref hp, .ref ha, .ref hf, .ref hw0, va_rf qh, va_rf qo])), (hw, .inr (8, [.ref hl0, .int wk, .int wc, .int wx, .int wn, .ref wa0, .ref wa1, .ref wa2, .ref wa3])), (ha, .inr (0, [.ref as, .ref ad, .int v_32])), (as, .inl ((cs 0), 8, .inl g_33)), (ad, .inl ((cs 0), 72, .inl g_34)), (ru3, .inl ((cs 4), 64, .inr (.inl g_927))), (hw0, .inl ((cs 0), 12, .inl g_921))] H := hP
    have hD : va_D A [(ox, .inr (9, [.ref ht, .ref hq, .ref og, .int rc, .ref hw, .ref om, .ref hp, .ref ha, .ref hf, .ref hw0, va_rf qh, va_rf qo])), (hw, .inr (8, [.ref hl0, .int wk, .int wc, .int wx, .int wn, .ref wa0, .ref wa1, .ref wa2, .ref wa3])), (ha, .inr (0, [.ref as, .ref ad, .int v_32])), (as, .inl ((cs 0), 8, .inl g_33)), (ad, .inl ((cs 0), 72, .inl g_34)), (ru3, .inl ((cs 4), 64, .inr (.inl g_927))), (hw0, .inl ((cs 0), 12, .inl g_921))] := hD
    have hPo := hR.at hS
    have hP := hP.sub (ws' := [(ox, .inr (9, [.ref ht, .ref hq, .ref og, .int rc, .ref hw, .ref om, .ref hp, .ref ha, .ref hf, .ref hw0, va_rf qh, va_rf qo])), (hw, .inr (8, [.ref hl0, .int wk, .int wc, .int wx, .int wn, .ref wa0, .ref wa1, .ref wa2, .ref wa3])), (hw0, .inl ((cs 0), 12, .inl g_921)), (ru3, .inl ((cs 4), 64, .inr (.inl g_927))), (ha, .inr (0, [.ref as, .ref ad, .int v_32])), (as, .inl ((cs 0), 8, .inl g_33)), (ad, .inl ((cs 0), 72, .inl g_34))]) [0, 1, 6, 5, 2, 3, 4] rfl
    have hD := hD.sub (ws' := [(ox, .inr (9, [.ref ht, .ref hq, .ref og, .int rc, .ref hw, .ref om, .ref hp, .ref ha, .ref hf, .ref hw0, va_rf qh, va_rf qo])), (hw, .inr (8, [.ref hl0, .int wk, .int wc, .int wx, .int wn, .ref wa0, .ref wa1, .ref wa2, .ref wa3])), (hw0, .inl ((cs 0), 12, .inl g_921)), (ru3, .inl ((cs 4), 64, .inr (.inl g_927))), (ha, .inr (0, [.ref as, .ref ad, .int v_32])), (as, .inl ((cs 0), 8, .inl g_33)), (ad, .inl ((cs 0), 72, .inl g_34))]) [0, 1, 6, 5, 2, 3, 4] (by decide) rfl
    refine lv_lstore (lv' := [(9, .long x_926), (8, .int x_914), (7, .int v_83), (6, .int v_84), (4, .long z_85), (3, .int x_1), (0, .ref ox), (1, .ref hu), (2, .ref hl0)]) hx hb dX11_bestBy_140 hl (by decide) rfl (fun ls hl => ?_)
    refine lv_lload hx hb dX11_bestBy_142 (lv_at hl 0 rfl) ?_
    refine lv_lload hx hb dX11_bestBy_144 (lv_at hl 4 rfl) ?_
    refine W.lcmp hx hb dX11_bestBy_146 ?_
    refine lv_topi (fun x_928 e_929 => ?_)
    have r_930 : Rg (-1) 1 x_928 := Rg.of e_929 (cmp_r _ _)
    refine w_cut (σ := (Int32) × (Int64)) (fun x9 H locs ls => match x9 with | (v_934, z_935) => va_P D vwCl [(ox, .inr (9, [.ref ht, .ref hq, .ref og, .int rc, .ref hw, .ref om, .ref hp, .ref ha, .ref hf, .ref hw0, va_rf qh, va_rf qo])), (hw, .inr (8, [.ref hl0, .int wk, .int wc, .int wx, .int wn, .ref wa0, .ref wa1, .ref wa2, .ref wa3])), (hw0, .inl ((cs 0), 12, .inl g_921)), (ru3, .inl ((cs 4), 64, .inr (.inl g_927))), (ha, .inr (0, [.ref as, .ref ad, .int v_32])), (as, .inl ((cs 0), 8, .inl g_33)), (ad, .inl ((cs 0), 72, .inl g_34))] H ∧ va_D A [(ox, .inr (9, [.ref ht, .ref hq, .ref og, .int rc, .ref hw, .ref om, .ref hp, .ref ha, .ref hf, .ref hw0, va_rf qh, va_rf qo])), (hw, .inr (8, [.ref hl0, .int wk, .int wc, .int wx, .int wn, .ref wa0, .ref wa1, .ref wa2, .ref wa3])), (hw0, .inl ((cs 0), 12, .inl g_921)), (ru3, .inl ((cs 4), 64, .inr (.inl g_927))), (ha, .inr (0, [.ref as, .ref ad, .int v_32])), (as, .inl ((cs 0), 8, .inl g_33)), (ad, .inl ((cs 0), 72, .inl g_34))] ∧ va_S A s.heap H locs ∧ lv_has ls 11 [(9, .long x_926), (8, .int x_914), (7, .int v_83), (6, .int v_934), (4, .long z_935), (3, .int x_1), (0, .ref ox), (1, .ref hu), (2, .ref hl0)]) 158 (fun x9 => match x9 with | (v_934, z_935) => []) ?_ (fun hj_936 => ?_)
    · rintro ⟨v_934, z_935⟩ H locs ls ⟨hP, hD, hS, hl⟩
      have hPo := hR.at hS
      obtain ⟨x_937, e_938⟩ : ∃ z : Int32, z = v_83 + Int32.ofInt 1 := ⟨_, rfl⟩
      have r_939 : Rg 1 72 x_937 := Rg.add e_938 r_886 (Rg.c (c := Int32.ofInt 1) (k := 1) rfl) (by decide)
      refine lv_iinc (v := x_937) (lv' := [(7, .int x_937), (9, .long x_926), (8, .int x_914), (6, .int v_934), (4, .long z_935), (3, .int x_1), (0, .ref ox), (1, .ref hu), (2, .ref hl0)]) hx hb dX11_bestBy_158 hl (k := 2) rfl (e_938.symm) (by decide) rfl (fun ls hl => ?_)
      refine lv_goto (tgt := 101) hx hb dX11_bestBy_161 (by decide) ?_
      exact ih_883 (x_937, v_934, z_935, g_921, g_927) _ _ _ ⟨(Rg.wk (lo2 := 0) (hi2 := 72) r_939 (by decide)), hP, hD, hS, lv_sub hl [0, 3, 4, 5, 6, 7, 8] rfl⟩ (ms_up e_938 r_886 (Rg.c (c := Int32.ofInt 1) (k := 1) rfl) (by decide))
    · refine lv_if_le (tgt := 158) hx hb dX11_bestBy_147 (by decide) (fun c_931 => ?_) (fun c_931 => ?_)
      · have r_932 : Rg (-1) 0 x_928 := Rg.le_l c_931 r_930 (Rg.c (c := 0) (k := 0) rfl) (by decide)
        exact hj_936 (v_84, z_85) _ _ _ ⟨hP, hD, hS, lv_sub hl [0, 1, 2, 3, 4, 5, 6, 7, 8] rfl⟩
      · have r_933 : Rg 1 1 x_928 := Rg.lt_r (nle_lt c_931) (Rg.c (c := 0) (k := 0) rfl) r_930 (by decide)
        refine lv_lload hx hb dX11_bestBy_150 (lv_at hl 0 rfl) ?_
        refine lv_lstore (lv' := [(4, .long x_926), (9, .long x_926), (8, .int x_914), (7, .int v_83), (6, .int v_84), (3, .int x_1), (0, .ref ox), (1, .ref hu), (2, .ref hl0)]) hx hb dX11_bestBy_152 hl (by decide) rfl (fun ls hl => ?_)
        refine lv_iload hx hb dX11_bestBy_154 (lv_at hl 2 rfl) ?_
        refine lv_istore (lv' := [(6, .int x_914), (4, .long x_926), (9, .long x_926), (8, .int x_914), (7, .int v_83), (3, .int x_1), (0, .ref ox), (1, .ref hu), (2, .ref hl0)]) hx hb dX11_bestBy_156 hl (by decide) rfl (fun ls hl => ?_)
        exact hj_936 (x_914, x_926) _ _ _ ⟨hP, hD, hS, lv_sub hl [2, 3, 4, 0, 1, 5, 6, 7, 8] rfl⟩
