theorem dX5_numberRows_0 : decode cX5_numberRows 0 = .ok (.aload_n 0, 1) := by decide +kernel
theorem dX5_numberRows_1 : decode cX5_numberRows 1 = .ok (.getfield 18, 3) := by decide +kernel
theorem dX5_numberRows_4 : decode cX5_numberRows 4 = .ok (.iconst 0, 1) := by decide +kernel
theorem dX5_numberRows_5 : decode cX5_numberRows 5 = .ok (.invokestatic 117, 3) := by decide +kernel
theorem qq_4_209 : Cond.methodLink "WrongHole$Paths" 117 yJ7_fill_53178 ∈ TB := mk_tb (ti_4 (List.mem_of_getElem? (i := 209) rfl)) rfl
theorem dX5_numberRows_8 : decode cX5_numberRows 8 = .ok (.iconst 0, 1) := by decide +kernel
theorem dX5_numberRows_9 : decode cX5_numberRows 9 = .ok (.istore_n 2, 1) := by decide +kernel
theorem dX5_numberRows_10 : decode cX5_numberRows 10 = .ok (.iload_n 2, 1) := by decide +kernel
theorem dX5_numberRows_11 : decode cX5_numberRows 11 = .ok (.iconst 1, 1) := by decide +kernel
theorem dX5_numberRows_12 : decode cX5_numberRows 12 = .ok (.aload_n 1, 1) := by decide +kernel
theorem dX5_numberRows_13 : decode cX5_numberRows 13 = .ok (.getfield 110, 3) := by decide +kernel
theorem nq_2_37 : Cond.fieldLinkNest "WrongHole$Paths" 110 "WrongHole$Lift" "holes" "I" "WrongHole" ∈ NW := mk_nw (ti_2 (List.mem_of_getElem? (i := 37) rfl)) rfl
theorem dX5_numberRows_16 : decode cX5_numberRows 16 = .ok (.ishl, 1) := by decide +kernel
theorem dX5_numberRows_17 : decode cX5_numberRows 17 = .ok (.if_icmp .ge 43, 3) := by decide +kernel
theorem dX5_numberRows_60 : decode cX5_numberRows 60 = .ok (.aload_n 0, 1) := by decide +kernel
theorem dX5_numberRows_61 : decode cX5_numberRows 61 = .ok (.iconst 0, 1) := by decide +kernel
theorem dX5_numberRows_62 : decode cX5_numberRows 62 = .ok (.putfield 116, 3) := by decide +kernel
theorem dX5_numberRows_65 : decode cX5_numberRows 65 = .ok (.iconst 0, 1) := by decide +kernel
theorem dX5_numberRows_66 : decode cX5_numberRows 66 = .ok (.istore_n 2, 1) := by decide +kernel
theorem dX5_numberRows_67 : decode cX5_numberRows 67 = .ok (.iload_n 2, 1) := by decide +kernel
theorem dX5_numberRows_68 : decode cX5_numberRows 68 = .ok (.iconst 1, 1) := by decide +kernel
theorem dX5_numberRows_69 : decode cX5_numberRows 69 = .ok (.aload_n 1, 1) := by decide +kernel
theorem dX5_numberRows_70 : decode cX5_numberRows 70 = .ok (.getfield 107, 3) := by decide +kernel
theorem dX5_numberRows_73 : decode cX5_numberRows 73 = .ok (.ishl, 1) := by decide +kernel
theorem dX5_numberRows_74 : decode cX5_numberRows 74 = .ok (.if_icmp .ge 44, 3) := by decide +kernel
theorem dX5_numberRows_118 : decode cX5_numberRows 118 = .ok (.return_, 1) := by decide +kernel
theorem dX5_numberRows_77 : decode cX5_numberRows 77 = .ok (.iload_n 2, 1) := by decide +kernel
theorem dX5_numberRows_78 : decode cX5_numberRows 78 = .ok (.sipush 256, 3) := by decide +kernel
theorem dX5_numberRows_81 : decode cX5_numberRows 81 = .ok (.if_icmp .ge 37, 3) := by decide +kernel
theorem dX5_numberRows_84 : decode cX5_numberRows 84 = .ok (.aload_n 0, 1) := by decide +kernel
theorem dX5_numberRows_85 : decode cX5_numberRows 85 = .ok (.getfield 9, 3) := by decide +kernel
theorem dX5_numberRows_88 : decode cX5_numberRows 88 = .ok (.iload_n 2, 1) := by decide +kernel
theorem dX5_numberRows_89 : decode cX5_numberRows 89 = .ok (.aload_n 0, 1) := by decide +kernel
theorem dX5_numberRows_90 : decode cX5_numberRows 90 = .ok (.getfield 116, 3) := by decide +kernel
theorem dX5_numberRows_93 : decode cX5_numberRows 93 = .ok (.iastore, 1) := by decide +kernel
theorem dX5_numberRows_94 : decode cX5_numberRows 94 = .ok (.aload_n 0, 1) := by decide +kernel
theorem dX5_numberRows_95 : decode cX5_numberRows 95 = .ok (.dup, 1) := by decide +kernel
theorem dX5_numberRows_96 : decode cX5_numberRows 96 = .ok (.getfield 116, 3) := by decide +kernel
theorem dX5_numberRows_99 : decode cX5_numberRows 99 = .ok (.aload_n 0, 1) := by decide +kernel
theorem dX5_numberRows_100 : decode cX5_numberRows 100 = .ok (.getfield 18, 3) := by decide +kernel
theorem dX5_numberRows_103 : decode cX5_numberRows 103 = .ok (.iload_n 2, 1) := by decide +kernel
theorem dX5_numberRows_104 : decode cX5_numberRows 104 = .ok (.invokestatic 126, 3) := by decide +kernel
theorem qq_4_210 : Cond.methodLink "WrongHole$Paths" 126 yJ6_bitCount_0f7a4 ∈ TB := mk_tb (ti_4 (List.mem_of_getElem? (i := 210) rfl)) rfl
theorem dX5_numberRows_107 : decode cX5_numberRows 107 = .ok (.iaload, 1) := by decide +kernel
theorem dX5_numberRows_108 : decode cX5_numberRows 108 = .ok (.iadd, 1) := by decide +kernel
theorem dX5_numberRows_109 : decode cX5_numberRows 109 = .ok (.putfield 116, 3) := by decide +kernel
theorem dX5_numberRows_112 : decode cX5_numberRows 112 = .ok (.iinc 2 1, 3) := by decide +kernel
theorem dX5_numberRows_115 : decode cX5_numberRows 115 = .ok (.goto (-48), 3) := by decide +kernel
theorem dX5_numberRows_20 : decode cX5_numberRows 20 = .ok (.iload_n 2, 1) := by decide +kernel
theorem dX5_numberRows_21 : decode cX5_numberRows 21 = .ok (.sipush 256, 3) := by decide +kernel
theorem dX5_numberRows_24 : decode cX5_numberRows 24 = .ok (.if_icmp .ge 36, 3) := by decide +kernel
theorem dX5_numberRows_27 : decode cX5_numberRows 27 = .ok (.iload_n 2, 1) := by decide +kernel
theorem dX5_numberRows_28 : decode cX5_numberRows 28 = .ok (.invokestatic 126, 3) := by decide +kernel
theorem dX5_numberRows_31 : decode cX5_numberRows 31 = .ok (.istore_n 3, 1) := by decide +kernel
theorem dX5_numberRows_32 : decode cX5_numberRows 32 = .ok (.aload_n 0, 1) := by decide +kernel
theorem dX5_numberRows_33 : decode cX5_numberRows 33 = .ok (.getfield 15, 3) := by decide +kernel
theorem dX5_numberRows_36 : decode cX5_numberRows 36 = .ok (.iload_n 2, 1) := by decide +kernel
theorem dX5_numberRows_37 : decode cX5_numberRows 37 = .ok (.aload_n 0, 1) := by decide +kernel
theorem dX5_numberRows_38 : decode cX5_numberRows 38 = .ok (.getfield 18, 3) := by decide +kernel
theorem dX5_numberRows_41 : decode cX5_numberRows 41 = .ok (.iload_n 3, 1) := by decide +kernel
theorem dX5_numberRows_42 : decode cX5_numberRows 42 = .ok (.iaload, 1) := by decide +kernel
theorem dX5_numberRows_43 : decode cX5_numberRows 43 = .ok (.iastore, 1) := by decide +kernel
theorem dX5_numberRows_44 : decode cX5_numberRows 44 = .ok (.aload_n 0, 1) := by decide +kernel
theorem dX5_numberRows_45 : decode cX5_numberRows 45 = .ok (.getfield 18, 3) := by decide +kernel
theorem dX5_numberRows_48 : decode cX5_numberRows 48 = .ok (.iload_n 3, 1) := by decide +kernel
theorem dX5_numberRows_49 : decode cX5_numberRows 49 = .ok (.dup2, 1) := by decide +kernel
theorem dX5_numberRows_50 : decode cX5_numberRows 50 = .ok (.iaload, 1) := by decide +kernel
theorem dX5_numberRows_51 : decode cX5_numberRows 51 = .ok (.iconst 1, 1) := by decide +kernel
theorem dX5_numberRows_52 : decode cX5_numberRows 52 = .ok (.iadd, 1) := by decide +kernel
theorem dX5_numberRows_53 : decode cX5_numberRows 53 = .ok (.iastore, 1) := by decide +kernel
theorem dX5_numberRows_54 : decode cX5_numberRows 54 = .ok (.iinc 2 1, 3) := by decide +kernel
theorem dX5_numberRows_57 : decode cX5_numberRows 57 = .ok (.goto (-47), 3) := by decide +kernel
set_option maxHeartbeats 4000000 in
set_option maxRecDepth 100000 in
theorem c_P_numberRows (l : Launch) (D : va_G) (cs : Nat → ClassId) (X : XX) (sz : Nat) (hh : Nat) (ha : Nat) (po : Nat) (pr_ : Nat) (pa : Nat) (pf : Nat) (p5 : Nat) (p6 : Nat) (p7 : Nat) (p8 : Nat) (zs : Int32) (zw : Int32) (zo : Int32) (zr : Int32) (zc : Int32) (zl : Int32) (zm : Int32) (zn : Int32) (zf : Int32) (ql : Option Nat) (go : Nat → Int32) (gr : Nat → Int32) (gl : Nat → Int32) (hl0 : Nat) (lb : Int32) (lh : Int32) (lg : Int32) (lw : Int32) (lv : Int32) (lbs : Int32) (lti : Int32) (lts : Int32) (le : Int32) (lk : Int32) (la : Int32) (l0 : Nat) (l1 : Nat) (l2 : Nat) (l3 : Nat) (l4 : Nat) (l5 : Nat) (l6 : Nat) (l7 : Nat) (r_lb : Rg 0 8 lb) (r_lh : Rg 0 8 lh) (r_le : Rg 0 6 le) (a_go : ∀ j, j < 256 → Rg 0 65536 (go j)) (a_gr : ∀ j, j < 256 → Rg 0 256 (gr j)) : Met l yX5_numberRows (Cond.code yX5_numberRows cX5_numberRows 4 none :: TB) (RM 1 0 0) (va_Pc [.ref hh, .ref hl0] (PRE D cs X [(hh, .inr (4, [.ref ha, .ref po, .ref pr_, .ref pa, .ref pf, .ref p5, .ref p6, .ref p7, .ref p8, .int zs, .int zw, va_rf ql, .int zo, .int zr, .int zc, .int zl, .int zm, .int zn, .int zf])), (po, .inl ((cs 0), 256, .inl go)), (pr_, .inl ((cs 0), 256, .inl gr)), (pa, .inl ((cs 0), 9, .inl gl))] [(hl0, .inr (2, [.int lb, .int lh, .int lg, .int lw, .int lv, .int lbs, .int lti, .int lts, .int le, .int lk, .int la, .ref l0, .ref l1, .ref l2, .ref l3, .ref l4, .ref l5, .ref l6, .ref l7]))] sz)) (va_Qv (S := Unit) (fun _ => True) (fun _ t => ∃ (zs2 : Int32), ∃ (gon : Nat → Int32), ∃ (grn : Nat → Int32), ∃ (gln : Nat → Int32), (∀ j, j < 256 → Rg 0 65536 (gon j)) ∧ (∀ j, j < 256 → Rg 0 256 (grn j)) ∧ (zs2 = nI (rowsOf (cN lb) (cN lh))) ∧ va_P D vwCl [(hh, .inr (4, [.ref ha, .ref po, .ref pr_, .ref pa, .ref pf, .ref p5, .ref p6, .ref p7, .ref p8, .int zs2, .int zw, va_rf ql, .int zo, .int zr, .int zc, .int zl, .int zm, .int zn, .int zf])), (po, .inl ((cs 0), 256, .inl gon)), (pr_, .inl ((cs 0), 256, .inl grn)), (pa, .inl ((cs 0), 9, .inl gln))] t.heap ∧ va_D (va_A [(hh, .inr (4, [.ref ha, .ref po, .ref pr_, .ref pa, .ref pf, .ref p5, .ref p6, .ref p7, .ref p8, .int zs, .int zw, va_rf ql, .int zo, .int zr, .int zc, .int zl, .int zm, .int zn, .int zf])), (po, .inl ((cs 0), 256, .inl go)), (pr_, .inl ((cs 0), 256, .inl gr)), (pa, .inl ((cs 0), 9, .inl gl))] sz) [(hh, .inr (4, [.ref ha, .ref po, .ref pr_, .ref pa, .ref pf, .ref p5, .ref p6, .ref p7, .ref p8, .int zs2, .int zw, va_rf ql, .int zo, .int zr, .int zc, .int zl, .int zm, .int zn, .int zf])), (po, .inl ((cs 0), 256, .inl gon)), (pr_, .inl ((cs 0), 256, .inl grn)), (pa, .inl ((cs 0), 9, .inl gln))]) (va_A [(hh, .inr (4, [.ref ha, .ref po, .ref pr_, .ref pa, .ref pf, .ref p5, .ref p6, .ref p7, .ref p8, .int zs, .int zw, va_rf ql, .int zo, .int zr, .int zc, .int zl, .int zm, .int zn, .int zf])), (po, .inl ((cs 0), 256, .inl go)), (pr_, .inl ((cs 0), 256, .inl gr)), (pa, .inl ((cs 0), 9, .inl gl))] sz)) 0 0 (va_A [(hh, .inr (4, [.ref ha, .ref po, .ref pr_, .ref pa, .ref pf, .ref p5, .ref p6, .ref p7, .ref p8, .int zs, .int zw, va_rf ql, .int zo, .int zr, .int zc, .int zl, .int zm, .int zn, .int zf])), (po, .inl ((cs 0), 256, .inl go)), (pr_, .inl ((cs 0), 256, .inl gr)), (pa, .inl ((cs 0), 9, .inl gl))] sz) := by
  refine MET (y := yX5_numberRows) (cc := cX5_numberRows) (maxL := 4) (ret := none) (d := 1) (mc := 0) (ms := 0) (D := D) (cs := cs) (X := X) (ws := [(hh, .inr (4, [.ref ha, .ref po, .ref pr_, .ref pa, .ref pf, .ref p5, .ref p6, .ref p7, .ref p8, .int zs, .int zw, va_rf ql, .int zo, .int zr, .int zc, .int zl, .int zm, .int zn, .int zf])), (po, .inl ((cs 0), 256, .inl go)), (pr_, .inl ((cs 0), 256, .inl gr)), (pa, .inl ((cs 0), 9, .inl gl))]) (wo := [(hl0, .inr (2, [.int lb, .int lh, .int lg, .int lw, .int lv, .int lbs, .int lti, .int lts, .int le, .int lk, .int la, .ref l0, .ref l1, .ref l2, .ref l3, .ref l4, .ref l5, .ref l6, .ref l7]))]) (sz := sz) (av := [.ref hh, .ref hl0]) (Qc := fun A => va_Qv (S := Unit) (fun _ => True) (fun _ t => ∃ (zs2 : Int32), ∃ (gon : Nat → Int32), ∃ (grn : Nat → Int32), ∃ (gln : Nat → Int32), (∀ j, j < 256 → Rg 0 65536 (gon j)) ∧ (∀ j, j < 256 → Rg 0 256 (grn j)) ∧ (zs2 = nI (rowsOf (cN lb) (cN lh))) ∧ va_P D vwCl [(hh, .inr (4, [.ref ha, .ref po, .ref pr_, .ref pa, .ref pf, .ref p5, .ref p6, .ref p7, .ref p8, .int zs2, .int zw, va_rf ql, .int zo, .int zr, .int zc, .int zl, .int zm, .int zn, .int zf])), (po, .inl ((cs 0), 256, .inl gon)), (pr_, .inl ((cs 0), 256, .inl grn)), (pa, .inl ((cs 0), 9, .inl gln))] t.heap ∧ va_D A [(hh, .inr (4, [.ref ha, .ref po, .ref pr_, .ref pa, .ref pf, .ref p5, .ref p6, .ref p7, .ref p8, .int zs2, .int zw, va_rf ql, .int zo, .int zr, .int zc, .int zl, .int zm, .int zn, .int zf])), (po, .inl ((cs 0), 256, .inl gon)), (pr_, .inl ((cs 0), 256, .inl grn)), (pa, .inl ((cs 0), 9, .inl gln))]) A) (by decide) (Nat.le_of_ble_eq_true rfl) ?_
  intro p e s m below meth c ls A H hHe hx hb hr hml hown hts hlocks hnm hP hK hD hA hS hN hR hX hXs hl
  have hD : va_D A [(hh, .inr (4, [.ref ha, .ref po, .ref pr_, .ref pa, .ref pf, .ref p5, .ref p6, .ref p7, .ref p8, .int zs, .int zw, va_rf ql, .int zo, .int zr, .int zc, .int zl, .int zm, .int zn, .int zf])), (po, .inl ((cs 0), 256, .inl go)), (pr_, .inl ((cs 0), 256, .inl gr)), (pa, .inl ((cs 0), 9, .inl gl))] := hD
  have hPo := hR.at hS
  obtain ⟨locs, hlc⟩ : ∃ z : List Loc, z = [] := ⟨_, rfl⟩
  rw [← hlc] at hS ⊢
  have hown : s.vm.findClass "WrongHole$Paths" = some m.cls := hown
  have hT : ∀ w ∈ TB, w.before ([.ref hh, .ref hl0] : List Value).toArray s = true := fun w h => hts w (List.mem_cons_of_mem _ h)
  have hl : lv_has ls 4 [(0, .ref hh), (1, .ref hl0)] := hl
  have hP : va_P D vwCl [(hh, .inr (4, [.ref ha, .ref po, .ref pr_, .ref pa, .ref pf, .ref p5, .ref p6, .ref p7, .ref p8, .int zs, .int zw, va_rf ql, .int zo, .int zr, .int zc, .int zl, .int zm, .int zn, .int zf])), (po, .inl ((cs 0), 256, .inl go)), (pr_, .inl ((cs 0), 256, .inl gr)), (pa, .inl ((cs 0), 9, .inl gl))] H := hP
  refine lv_aload_n hx hb dX5_numberRows_0 rfl (lv_at hl 0 rfl) ?_
  refine va_get (D := D) (ci := 4) (v := .ref pa) (C := "WrongHole$Paths") (T := TX5) (N := 19) hx hb hts (iq_RX5 _) hown hK hP 0 rfl rfl 3 (by decide) (hT _ qq_4_139) (fun _ h9 => h9) rfl dX5_numberRows_1 ?_
  refine lv_iconst (v := 0) hx hb dX5_numberRows_4 (by decide) ?_
  have hPc := hP.sub (ws' := [(pa, .inl ((cs 0), 9, .inl gl))]) [3] rfl
  have hDc := hD.sub (ws' := [(pa, .inl ((cs 0), 9, .inl gl))]) [3] (by decide) rfl
  have hFc := va_free (wc := [(pa, .inl ((cs 0), 9, .inl gl))]) hD hS hA [3] rfl
  refine va_callv (va_runS (As := [.ref pa, .int 0]) (rest := []) ⟨hx, hb, hml, hown, hts⟩ (c_fill l D cs X H.size pa 9 gl 0 (by decide)) ⟨callB_of 2 hts (gd_C qq_1_97) rfl rfl rfl (hT _ qq_1_5) (hT _ qq_4_209) (by decide +kernel) (rm_R rfl rfl), (hT _ qq_1_96)⟩ (pr_S hPc hK hDc hN (hR.sub (wo' := []) [] rfl) hS hFc hX hXs) rfl rfl hl.1 rfl (lv_room (Nat.le_of_ble_eq_true rfl)) dX5_numberRows_5 ⟨Nat.le_of_ble_eq_true rfl, Nat.le_of_ble_eq_true rfl⟩) hS (fun q _ h => hFc q h) hFc (fun u_1 t_4 H1 locs ht9 hvm hw_2 hB_3 hz1 hk1 hS => ?_)
  obtain ⟨g_6, rp_7, hP1, hD1⟩ := hB_3
  rw [ht9] at hP1
  obtain ⟨hP, hD⟩ := va_join (wr := [(hh, .inr (4, [.ref ha, .ref po, .ref pr_, .ref pa, .ref pf, .ref p5, .ref p6, .ref p7, .ref p8, .int zs, .int zw, va_rf ql, .int zo, .int zr, .int zc, .int zl, .int zm, .int zn, .int zf])), (po, .inl ((cs 0), 256, .inl go)), (pr_, .inl ((cs 0), 256, .inl gr))]) (w1 := [(pa, .inl ((cs 0), 9, .inl g_6))]) hP hD [3] [0, 1, 2] rfl rfl (by decide) (by decide) hk1 hFc hP1 hD1
  generalize H1 = H at hP hS ⊢
  have hP : va_P D vwCl [(hh, .inr (4, [.ref ha, .ref po, .ref pr_, .ref pa, .ref pf, .ref p5, .ref p6, .ref p7, .ref p8, .int zs, .int zw, va_rf ql, .int zo, .int zr, .int zc, .int zl, .int zm, .int zn, .int zf])), (po, .inl ((cs 0), 256, .inl go)), (pr_, .inl ((cs 0), 256, .inl gr)), (pa, .inl ((cs 0), 9, .inl g_6))] H := hP
  have hD : va_D A [(hh, .inr (4, [.ref ha, .ref po, .ref pr_, .ref pa, .ref pf, .ref p5, .ref p6, .ref p7, .ref p8, .int zs, .int zw, va_rf ql, .int zo, .int zr, .int zc, .int zl, .int zm, .int zn, .int zf])), (po, .inl ((cs 0), 256, .inl go)), (pr_, .inl ((cs 0), 256, .inl gr)), (pa, .inl ((cs 0), 9, .inl g_6))] := hD
  have hPo := hR.at hS
  have ra_8 : ∀ j, j < 9 → Rg 0 0 (g_6 j) := fun j _ => Rg.of (rp_7 j) (Rg.c (c := 0) (k := 0) rfl)
  refine lv_iconst (v := 0) hx hb dX5_numberRows_8 (by decide) ?_
  refine lv_istore_n (lv' := [(2, .int 0), (0, .ref hh), (1, .ref hl0)]) hx hb dX5_numberRows_9 rfl hl (by decide) rfl (fun ls hl => ?_)
  refine w_wh (σ := (Int32) × (Nat → Int32) × (Nat → Int32)) (fun x9 H locs ls => match x9 with | (v_262, g_263, g_264) => Rg 0 256 v_262 ∧ (∀ j, j < 256 → Rg 0 256 (g_263 j)) ∧ ((∀ k, k < 9 → g_264 k = nI (alF (cN v_262) k)) ∧ cN v_262 ≤ 2 ^ cN lh) ∧ va_P D vwCl [(hh, .inr (4, [.ref ha, .ref po, .ref pr_, .ref pa, .ref pf, .ref p5, .ref p6, .ref p7, .ref p8, .int zs, .int zw, va_rf ql, .int zo, .int zr, .int zc, .int zl, .int zm, .int zn, .int zf])), (po, .inl ((cs 0), 256, .inl go)), (pr_, .inl ((cs 0), 256, .inl g_263)), (pa, .inl ((cs 0), 9, .inl g_264))] H ∧ va_D A [(hh, .inr (4, [.ref ha, .ref po, .ref pr_, .ref pa, .ref pf, .ref p5, .ref p6, .ref p7, .ref p8, .int zs, .int zw, va_rf ql, .int zo, .int zr, .int zc, .int zl, .int zm, .int zn, .int zf])), (po, .inl ((cs 0), 256, .inl go)), (pr_, .inl ((cs 0), 256, .inl g_263)), (pa, .inl ((cs 0), 9, .inl g_264))] ∧ va_S A s.heap H locs ∧ lv_has ls 4 [(2, .int v_262), (0, .ref hh), (1, .ref hl0)]) (fun x9 => match x9 with | (v_262, g_263, g_264) => (256 - Int32.toInt v_262).toNat) 10 ?_ (0, gr, g_6) H locs ls ⟨(Rg.wk (lo2 := 0) (hi2 := 256) (Rg.c (c := 0) (k := 0) rfl) (by decide)), a_gr, ⟨al_0 rp_7 rfl, Nat.zero_le _⟩, hP, hD, hS, lv_sub hl [0, 1, 2] rfl⟩
  rintro ⟨v_262, g_263, g_264⟩ H locs ls ⟨r_1302, ra_1303, iv_1304, hP, hD, hS, hl⟩ ih_1301
  have hPo := hR.at hS
  refine lv_iload_n hx hb dX5_numberRows_10 rfl (lv_at hl 0 rfl) ?_
  refine lv_iconst (v := 1) hx hb dX5_numberRows_11 (by decide) ?_
  refine lv_aload_n hx hb dX5_numberRows_12 rfl (lv_at hl 2 rfl) ?_
  refine va_getN (D := D) (ci := 2) (v := .int lh) (C := "WrongHole$Lift") (T := TX2) (N := 19) hx hb hts (iq_RX2 _) hown hK hPo 0 rfl rfl 1 (by decide) (NN.f hN nq_2_37) (fun _ h9 => h9) rfl dX5_numberRows_13 ?_
  refine lv_ishl hx hb dX5_numberRows_16 ?_
  refine lv_topi (fun x_1305 e_1306 => ?_)
  have r_1307 : Rg 0 256 x_1305 := Rg.shl (ha := 1) (k := 8) e_1306 (Rg.wk (Rg.c (c := 1) (k := 1) rfl) (by decide)) (Rg.wk r_lh (by decide)) (by decide) (by decide)
  refine lv_icmp_ge (tgt := 60) hx hb dX5_numberRows_17 (by decide) (fun c_1308 => ?_) (fun c_1308 => ?_)
  · have iv_1331 : ∀ k, k < 9 → g_264 k = nI (alF (2 ^ cN lh) k) := (al_exit (x := 0) (lh := 0) iv_1304.1 (by have h9 := le_cN c_1308 r_1307 r_1302 (by decide); rw [sh_x e_1306 r_lh (by decide), cN_of rfl (by have := pow_le (cN_lt (n := 9) r_lh (by decide)); omega)] at h9; have := iv_1304.2; omega))
    refine lv_aload_n hx hb dX5_numberRows_60 rfl (lv_at hl 1 rfl) ?_
    refine lv_iconst (v := 0) hx hb dX5_numberRows_61 (by decide) ?_
    refine va_put (D := D) (ci := 4) (v := .int 0) (ty := .int) (C := "WrongHole$Paths") (T := TX5) (N := 19) hx hb hts (iq_RX5 _) tyX5 tyX5_ok nmX5 hown hK hP hD hS 0 rfl rfl 9 (by decide) (hT _ qq_4_145) (fun _ h9 => h9) rfl (by decide +kernel) rfl rfl (Nat.le_of_ble_eq_true rfl) dX5_numberRows_62 (fun H locs hP hD hS => ?_)
    have hP : va_P D vwCl [(hh, .inr (4, [.ref ha, .ref po, .ref pr_, .ref pa, .ref pf, .ref p5, .ref p6, .ref p7, .ref p8, .int 0, .int zw, va_rf ql, .int zo, .int zr, .int zc, .int zl, .int zm, .int zn, .int zf])), (po, .inl ((cs 0), 256, .inl go)), (pr_, .inl ((cs 0), 256, .inl g_263)), (pa, .inl ((cs 0), 9, .inl g_264))] H := hP
    have hD : va_D A [(hh, .inr (4, [.ref ha, .ref po, .ref pr_, .ref pa, .ref pf, .ref p5, .ref p6, .ref p7, .ref p8, .int 0, .int zw, va_rf ql, .int zo, .int zr, .int zc, .int zl, .int zm, .int zn, .int zf])), (po, .inl ((cs 0), 256, .inl go)), (pr_, .inl ((cs 0), 256, .inl g_263)), (pa, .inl ((cs 0), 9, .inl g_264))] := hD
    have hPo := hR.at hS
    refine lv_iconst (v := 0) hx hb dX5_numberRows_65 (by decide) ?_
    refine lv_istore_n (lv' := [(2, .int 0), (0, .ref hh), (1, .ref hl0)]) hx hb dX5_numberRows_66 rfl hl (by decide) rfl (fun ls hl => ?_)
    refine w_wh (σ := (Int32) × (Int32) × (Nat → Int32)) (fun x9 H locs ls => match x9 with | (v_1362, v_1363, g_1364) => Rg 0 256 v_1362 ∧ Rg 0 65536 v_1363 ∧ (∀ j, j < 256 → Rg 0 65536 (g_1364 j)) ∧ (v_1363 = nI (szF (2 ^ cN lh) (cN v_1362)) ∧ cN v_1362 ≤ 2 ^ cN lb) ∧ va_P D vwCl [(hh, .inr (4, [.ref ha, .ref po, .ref pr_, .ref pa, .ref pf, .ref p5, .ref p6, .ref p7, .ref p8, .int v_1363, .int zw, va_rf ql, .int zo, .int zr, .int zc, .int zl, .int zm, .int zn, .int zf])), (po, .inl ((cs 0), 256, .inl g_1364)), (pr_, .inl ((cs 0), 256, .inl g_263)), (pa, .inl ((cs 0), 9, .inl g_264))] H ∧ va_D A [(hh, .inr (4, [.ref ha, .ref po, .ref pr_, .ref pa, .ref pf, .ref p5, .ref p6, .ref p7, .ref p8, .int v_1363, .int zw, va_rf ql, .int zo, .int zr, .int zc, .int zl, .int zm, .int zn, .int zf])), (po, .inl ((cs 0), 256, .inl g_1364)), (pr_, .inl ((cs 0), 256, .inl g_263)), (pa, .inl ((cs 0), 9, .inl g_264))] ∧ va_S A s.heap H locs ∧ lv_has ls 4 [(2, .int v_1362), (0, .ref hh), (1, .ref hl0)]) (fun x9 => match x9 with | (v_1362, v_1363, g_1364) => (256 - Int32.toInt v_1362).toNat) 67 ?_ (0, 0, go) H locs ls ⟨(Rg.wk (lo2 := 0) (hi2 := 256) (Rg.c (c := 0) (k := 0) rfl) (by decide)), (Rg.wk (lo2 := 0) (hi2 := 65536) (Rg.c (c := 0) (k := 0) rfl) (by decide)), a_go, ⟨rfl, Nat.zero_le _⟩, hP, hD, hS, lv_sub hl [0, 1, 2] rfl⟩
    rintro ⟨v_1362, v_1363, g_1364⟩ H locs ls ⟨r_1510, r_1511, ra_1512, iv_1513, hP, hD, hS, hl⟩ ih_1509
    have hPo := hR.at hS
    refine lv_iload_n hx hb dX5_numberRows_67 rfl (lv_at hl 0 rfl) ?_
    refine lv_iconst (v := 1) hx hb dX5_numberRows_68 (by decide) ?_
    refine lv_aload_n hx hb dX5_numberRows_69 rfl (lv_at hl 2 rfl) ?_
    refine va_getN (D := D) (ci := 2) (v := .int lb) (C := "WrongHole$Lift") (T := TX2) (N := 19) hx hb hts (iq_RX2 _) hown hK hPo 0 rfl rfl 0 (by decide) (NN.f hN nq_2_34) (fun _ h9 => h9) rfl dX5_numberRows_70 ?_
    refine lv_ishl hx hb dX5_numberRows_73 ?_
    refine lv_topi (fun x_1514 e_1515 => ?_)
    have r_1516 : Rg 0 256 x_1514 := Rg.shl (ha := 1) (k := 8) e_1515 (Rg.wk (Rg.c (c := 1) (k := 1) rfl) (by decide)) (Rg.wk r_lb (by decide)) (by decide) (by decide)
    refine lv_icmp_ge (tgt := 118) hx hb dX5_numberRows_74 (by decide) (fun c_1517 => ?_) (fun c_1517 => ?_)
    · refine W.widen (k := 0) (n := 0) (Nat.le_of_ble_eq_true rfl) (Nat.le_of_ble_eq_true rfl) ?_
      have hP9 := hP.sub (ws' := [(hh, .inr (4, [.ref ha, .ref po, .ref pr_, .ref pa, .ref pf, .ref p5, .ref p6, .ref p7, .ref p8, .int v_1363, .int zw, va_rf ql, .int zo, .int zr, .int zc, .int zl, .int zm, .int zn, .int zf])), (po, .inl ((cs 0), 256, .inl g_1364)), (pr_, .inl ((cs 0), 256, .inl g_263)), (pa, .inl ((cs 0), 9, .inl g_264))]) [0, 1, 2, 3] rfl
      have hD9 := hD.sub (ws' := [(hh, .inr (4, [.ref ha, .ref po, .ref pr_, .ref pa, .ref pf, .ref p5, .ref p6, .ref p7, .ref p8, .int v_1363, .int zw, va_rf ql, .int zo, .int zr, .int zc, .int zl, .int zm, .int zn, .int zf])), (po, .inl ((cs 0), 256, .inl g_1364)), (pr_, .inl ((cs 0), 256, .inl g_263)), (pa, .inl ((cs 0), 9, .inl g_264))]) [0, 1, 2, 3] (by decide) rfl
      exact W.vret hx hb hr (fun t9 ht9 hW9 => ⟨⟨(), rfl, trivial, ⟨v_1363, g_1364, g_263, g_264, ra_1512, ra_1303, (by rw [iv_1513.1, show cN v_1362 = 2 ^ cN lb from (by have h9 := le_cN c_1517 r_1516 r_1510 (by decide); rw [sh_x e_1515 r_lb (by decide), cN_of rfl (by have := pow_le (cN_lt (n := 9) r_lb (by decide)); omega)] at h9; have := iv_1513.2; omega)]; rfl), by rw [ht9]; exact hP9, hD9⟩⟩, hS.F ht9⟩) hS.2.2 dX5_numberRows_118
    · have r_1518 : Rg 0 255 v_1362 := Rg.lt_l (nle_lt c_1517) r_1510 r_1516 (by decide)
      have r_1519 : Rg 1 256 x_1514 := Rg.lt_r (nle_lt c_1517) r_1510 r_1516 (by decide)
      refine lv_iload_n hx hb dX5_numberRows_77 rfl (lv_at hl 0 rfl) ?_
      refine lv_sipush (v := 256) hx hb dX5_numberRows_78 (by decide) ?_
      refine lv_icmp_ge (tgt := 118) hx hb dX5_numberRows_81 (by decide) (fun c_1535 => False.elim (Rg.no_le c_1535 (Rg.c (c := 256) (k := 256) rfl) r_1518 (by decide))) (fun c_1535 => ?_)
      refine lv_aload_n hx hb dX5_numberRows_84 rfl (lv_at hl 1 rfl) ?_
      refine va_get (D := D) (ci := 4) (v := .ref po) (C := "WrongHole$Paths") (T := TX5) (N := 19) hx hb hts (iq_RX5 _) hown hK hP 0 rfl rfl 1 (by decide) (hT _ qq_4_137) (fun _ h9 => h9) rfl dX5_numberRows_85 ?_
      refine lv_iload_n hx hb dX5_numberRows_88 rfl (lv_at hl 0 rfl) ?_
      refine lv_aload_n hx hb dX5_numberRows_89 rfl (lv_at hl 1 rfl) ?_
      refine va_get (D := D) (ci := 4) (v := .int v_1363) (C := "WrongHole$Paths") (T := TX5) (N := 19) hx hb hts (iq_RX5 _) hown hK hP 0 rfl rfl 9 (by decide) (hT _ qq_4_145) (fun _ h9 => h9) rfl dX5_numberRows_90 ?_
      have hi_1536 : vp_in v_1362 256 := Rg.in r_1518 (by decide)
      refine va_iast hx hb hK hP hD hS 1 0 rfl rfl hi_1536 dX5_numberRows_93 (fun H locs hP hD hS => ?_)
      obtain ⟨g_1537, ra_1538, hP, hD⟩ : ∃ g_1537 : Nat → Int32, (∀ j, j < 256 → Rg 0 65536 (g_1537 j)) ∧ va_P D vwCl [(hh, .inr (4, [.ref ha, .ref po, .ref pr_, .ref pa, .ref pf, .ref p5, .ref p6, .ref p7, .ref p8, .int v_1363, .int zw, va_rf ql, .int zo, .int zr, .int zc, .int zl, .int zm, .int zn, .int zf])), (po, .inl ((cs 0), 256, .inl g_1537)), (pr_, .inl ((cs 0), 256, .inl g_263)), (pa, .inl ((cs 0), 9, .inl g_264))] H ∧ va_D A [(hh, .inr (4, [.ref ha, .ref po, .ref pr_, .ref pa, .ref pf, .ref p5, .ref p6, .ref p7, .ref p8, .int v_1363, .int zw, va_rf ql, .int zo, .int zr, .int zc, .int zl, .int zm, .int zn, .int zf])), (po, .inl ((cs 0), 256, .inl g_1537)), (pr_, .inl ((cs 0), 256, .inl g_263)), (pa, .inl ((cs 0), 9, .inl g_264))] := ⟨_, ar_upd ra_1512 (sz_rg iv_1513.1 (pow_le (cN_lt (n := 9) r_lh (by decide))) r_1510 (by decide)), hP, hD⟩
      have hPo := hR.at hS
      refine lv_aload_n hx hb dX5_numberRows_94 rfl (lv_at hl 1 rfl) ?_
      refine lv_dup hx hb dX5_numberRows_95 rfl ?_
      refine va_get (D := D) (ci := 4) (v := .int v_1363) (C := "WrongHole$Paths") (T := TX5) (N := 19) hx hb hts (iq_RX5 _) hown hK hP 0 rfl rfl 9 (by decide) (hT _ qq_4_145) (fun _ h9 => h9) rfl dX5_numberRows_96 ?_
      refine lv_aload_n hx hb dX5_numberRows_99 rfl (lv_at hl 1 rfl) ?_
      refine va_get (D := D) (ci := 4) (v := .ref pa) (C := "WrongHole$Paths") (T := TX5) (N := 19) hx hb hts (iq_RX5 _) hown hK hP 0 rfl rfl 3 (by decide) (hT _ qq_4_139) (fun _ h9 => h9) rfl dX5_numberRows_100 ?_
      refine lv_iload_n hx hb dX5_numberRows_103 rfl (lv_at hl 0 rfl) ?_
      have hPc := va_P.sub (ws' := []) hP [] rfl
      refine cl_V (W.runS (As := [.int v_1362]) (rest := [.ref pa, .int v_1363, .ref hh]) ⟨hx, hb, hml, hown, hts⟩ (c_bitCount_x l D cs v_1362 r_1518) ⟨callB_of 1 hts (gd_C qq_3_26) rfl rfl rfl (hT _ qq_1_17) (hT _ qq_4_210) (by decide +kernel) (rm_R rfl rfl), (hT _ qq_3_25)⟩ (pq_S hPc hK hN) rfl rfl hl.1 rfl (lv_room (Nat.le_of_ble_eq_true rfl)) dX5_numberRows_104 ⟨Nat.le_of_ble_eq_true rfl, Nat.le_of_ble_eq_true rfl⟩) ?_
      refine lv_topi (fun x_1539 e_1540 => ?_)
      have r_1541 : Rg 0 8 x_1539 := Rg.of e_1540 (pc_rg _)
      have hi_1542 : vp_in x_1539 9 := Rg.in r_1541 (by decide)
      refine va_iald hx hb hK hP 3 0 rfl rfl hi_1542 dX5_numberRows_107 ?_
      refine lv_topi (fun x_1543 e_1544 => ?_)
      have r_1545 : Rg 0 256 x_1543 := Rg.of e_1544 (al_rgH iv_1331 (pow_le (cN_lt (n := 9) r_lh (by decide))) r_1541)
      refine lv_iadd hx hb dX5_numberRows_108 ?_
      refine lv_topi (fun x_1546 e_1547 => ?_)
      have r_1548 : Rg 0 65792 x_1546 := Rg.add e_1547 (sz_rg iv_1513.1 (pow_le (cN_lt (n := 9) r_lh (by decide))) r_1510 (by decide)) r_1545 (by decide)
      refine va_put (D := D) (ci := 4) (v := .int x_1546) (ty := .int) (C := "WrongHole$Paths") (T := TX5) (N := 19) hx hb hts (iq_RX5 _) tyX5 tyX5_ok nmX5 hown hK hP hD hS 0 rfl rfl 9 (by decide) (hT _ qq_4_145) (fun _ h9 => h9) rfl (by decide +kernel) rfl rfl (Nat.le_of_ble_eq_true rfl) dX5_numberRows_109 (fun H locs hP hD hS => ?_)
      have hP : va_P D vwCl [(hh, .inr (4, [.ref ha, .ref po, .ref pr_, .ref pa, .ref pf, .ref p5, .ref p6, .ref p7, .ref p8, .int x_1546, .int zw, va_rf ql, .int zo, .int zr, .int zc, .int zl, .int zm, .int zn, .int zf])), (po, .inl ((cs 0), 256, .inl g_1537)), (pr_, .inl ((cs 0), 256, .inl g_263)), (pa, .inl ((cs 0), 9, .inl g_264))] H := hP
      have hD : va_D A [(hh, .inr (4, [.ref ha, .ref po, .ref pr_, .ref pa, .ref pf, .ref p5, .ref p6, .ref p7, .ref p8, .int x_1546, .int zw, va_rf ql, .int zo, .int zr, .int zc, .int zl, .int zm, .int zn, .int zf])), (po, .inl ((cs 0), 256, .inl g_1537)), (pr_, .inl ((cs 0), 256, .inl g_263)), (pa, .inl ((cs 0), 9, .inl g_264))] := hD
      have hPo := hR.at hS
      have hz_1549 := sz_step (lo := 0) (hi := 0) iv_1513.1 iv_1331 e_1540 e_1544 e_1547
      have r_1550 : Rg 0 65536 x_1546 := sz_rgN hz_1549 (pow_le (cN_lt (n := 9) r_lh (by decide))) (cN_lt (n := 256) r_1518 (by decide))
      obtain ⟨x_1551, e_1552⟩ : ∃ z : Int32, z = v_1362 + Int32.ofInt 1 := ⟨_, rfl⟩
      have r_1553 : Rg 1 256 x_1551 := Rg.add e_1552 r_1518 (Rg.c (c := Int32.ofInt 1) (k := 1) rfl) (by decide)
      refine lv_iinc (v := x_1551) (lv' := [(2, .int x_1551), (0, .ref hh), (1, .ref hl0)]) hx hb dX5_numberRows_112 hl (k := 0) rfl (e_1552.symm) (by decide) rfl (fun ls hl => ?_)
      refine lv_goto (tgt := 67) hx hb dX5_numberRows_115 (by decide) ?_
      exact ih_1509 (x_1551, x_1546, g_1537) _ _ _ ⟨(Rg.wk (lo2 := 0) (hi2 := 256) r_1553 (by decide)), r_1550, ra_1538, ⟨by rw [(cN_add (k := 1) e_1552 r_1518 (Rg.c (c := Int32.ofInt 1) (k := 1) rfl) (by decide))]; exact sz_step (lo := 0) (hi := 0) iv_1513.1 iv_1331 e_1540 e_1544 e_1547, by rw [(cN_add (k := 1) e_1552 r_1518 (Rg.c (c := Int32.ofInt 1) (k := 1) rfl) (by decide))]; exact (by have h9 := lt_cN (nle_lt c_1517) r_1518 r_1519 (by decide); rw [sh_x e_1515 r_lb (by decide), cN_of rfl (by have := pow_le (cN_lt (n := 9) r_lb (by decide)); omega)] at h9; omega)⟩, hP, hD, hS, lv_sub hl [0, 1, 2] rfl⟩ (ms_up e_1552 r_1518 (Rg.c (c := Int32.ofInt 1) (k := 1) rfl) (by decide))
  · have r_1309 : Rg 0 255 v_262 := Rg.lt_l (nle_lt c_1308) r_1302 r_1307 (by decide)
    have r_1310 : Rg 1 256 x_1305 := Rg.lt_r (nle_lt c_1308) r_1302 r_1307 (by decide)
    refine lv_iload_n hx hb dX5_numberRows_20 rfl (lv_at hl 0 rfl) ?_
    refine lv_sipush (v := 256) hx hb dX5_numberRows_21 (by decide) ?_
    refine lv_icmp_ge (tgt := 60) hx hb dX5_numberRows_24 (by decide) (fun c_1554 => False.elim (Rg.no_le c_1554 (Rg.c (c := 256) (k := 256) rfl) r_1309 (by decide))) (fun c_1554 => ?_)
    refine lv_iload_n hx hb dX5_numberRows_27 rfl (lv_at hl 0 rfl) ?_
    have hPc := va_P.sub (ws' := []) hP [] rfl
    refine cl_V (W.runS (As := [.int v_262]) (rest := []) ⟨hx, hb, hml, hown, hts⟩ (c_bitCount_x l D cs v_262 r_1309) ⟨callB_of 1 hts (gd_C qq_3_26) rfl rfl rfl (hT _ qq_1_17) (hT _ qq_4_210) (by decide +kernel) (rm_R rfl rfl), (hT _ qq_3_25)⟩ (pq_S hPc hK hN) rfl rfl hl.1 rfl (lv_room (Nat.le_of_ble_eq_true rfl)) dX5_numberRows_28 ⟨Nat.le_of_ble_eq_true rfl, Nat.le_of_ble_eq_true rfl⟩) ?_
    refine lv_topi (fun x_1555 e_1556 => ?_)
    have r_1557 : Rg 0 8 x_1555 := Rg.of e_1556 (pc_rg _)
    refine lv_istore_n (lv' := [(3, .int x_1555), (2, .int v_262), (0, .ref hh), (1, .ref hl0)]) hx hb dX5_numberRows_31 rfl hl (by decide) rfl (fun ls hl => ?_)
    refine lv_aload_n hx hb dX5_numberRows_32 rfl (lv_at hl 2 rfl) ?_
    refine va_get (D := D) (ci := 4) (v := .ref pr_) (C := "WrongHole$Paths") (T := TX5) (N := 19) hx hb hts (iq_RX5 _) hown hK hP 0 rfl rfl 2 (by decide) (hT _ qq_4_138) (fun _ h9 => h9) rfl dX5_numberRows_33 ?_
    refine lv_iload_n hx hb dX5_numberRows_36 rfl (lv_at hl 1 rfl) ?_
    refine lv_aload_n hx hb dX5_numberRows_37 rfl (lv_at hl 2 rfl) ?_
    refine va_get (D := D) (ci := 4) (v := .ref pa) (C := "WrongHole$Paths") (T := TX5) (N := 19) hx hb hts (iq_RX5 _) hown hK hP 0 rfl rfl 3 (by decide) (hT _ qq_4_139) (fun _ h9 => h9) rfl dX5_numberRows_38 ?_
    refine lv_iload_n hx hb dX5_numberRows_41 rfl (lv_at hl 0 rfl) ?_
    have hi_1558 : vp_in x_1555 9 := Rg.in r_1557 (by decide)
    refine va_iald hx hb hK hP 3 0 rfl rfl hi_1558 dX5_numberRows_42 ?_
    refine lv_topi (fun x_1559 e_1560 => ?_)
    have r_1561 : Rg 0 256 x_1559 := Rg.of e_1560 (al_rg iv_1304.1 r_1309 (by decide) r_1557)
    have hi_1562 : vp_in v_262 256 := Rg.in r_1309 (by decide)
    refine va_iast hx hb hK hP hD hS 2 0 rfl rfl hi_1562 dX5_numberRows_43 (fun H locs hP hD hS => ?_)
    obtain ⟨g_1563, ra_1564, hP, hD⟩ : ∃ g_1563 : Nat → Int32, (∀ j, j < 256 → Rg 0 256 (g_1563 j)) ∧ va_P D vwCl [(hh, .inr (4, [.ref ha, .ref po, .ref pr_, .ref pa, .ref pf, .ref p5, .ref p6, .ref p7, .ref p8, .int zs, .int zw, va_rf ql, .int zo, .int zr, .int zc, .int zl, .int zm, .int zn, .int zf])), (po, .inl ((cs 0), 256, .inl go)), (pr_, .inl ((cs 0), 256, .inl g_1563)), (pa, .inl ((cs 0), 9, .inl g_264))] H ∧ va_D A [(hh, .inr (4, [.ref ha, .ref po, .ref pr_, .ref pa, .ref pf, .ref p5, .ref p6, .ref p7, .ref p8, .int zs, .int zw, va_rf ql, .int zo, .int zr, .int zc, .int zl, .int zm, .int zn, .int zf])), (po, .inl ((cs 0), 256, .inl go)), (pr_, .inl ((cs 0), 256, .inl g_1563)), (pa, .inl ((cs 0), 9, .inl g_264))] := ⟨_, ar_upd ra_1303 r_1561, hP, hD⟩
    have hPo := hR.at hS
    refine lv_aload_n hx hb dX5_numberRows_44 rfl (lv_at hl 2 rfl) ?_
    refine va_get (D := D) (ci := 4) (v := .ref pa) (C := "WrongHole$Paths") (T := TX5) (N := 19) hx hb hts (iq_RX5 _) hown hK hP 0 rfl rfl 3 (by decide) (hT _ qq_4_139) (fun _ h9 => h9) rfl dX5_numberRows_45 ?_
    refine lv_iload_n hx hb dX5_numberRows_48 rfl (lv_at hl 0 rfl) ?_
    refine lv_dup2_11 hx hb dX5_numberRows_49 rfl rfl ?_
    have hi_1565 : vp_in x_1555 9 := Rg.in r_1557 (by decide)
    refine va_iald hx hb hK hP 3 0 rfl rfl hi_1565 dX5_numberRows_50 ?_
    refine lv_topi (fun x_1566 e_1567 => ?_)
    have r_1568 : Rg 0 256 x_1566 := Rg.of e_1567 (al_rg iv_1304.1 r_1309 (by decide) r_1557)
    refine lv_iconst (v := 1) hx hb dX5_numberRows_51 (by decide) ?_
    refine lv_iadd hx hb dX5_numberRows_52 ?_
    refine lv_topi (fun x_1569 e_1570 => ?_)
    have r_1571 : Rg 1 257 x_1569 := Rg.add e_1570 r_1568 (Rg.c (c := 1) (k := 1) rfl) (by decide)
    have hi_1572 : vp_in x_1555 9 := Rg.in r_1557 (by decide)
    refine va_iast hx hb hK hP hD hS 3 0 rfl rfl hi_1572 dX5_numberRows_53 (fun H locs hP hD hS => ?_)
    obtain ⟨g_1573, rb_1574, hP, hD⟩ : ∃ g_1573 : Nat → Int32, (∀ k, k < 9 → g_1573 k = nI (alF (cN v_262 + 1) k)) ∧ va_P D vwCl [(hh, .inr (4, [.ref ha, .ref po, .ref pr_, .ref pa, .ref pf, .ref p5, .ref p6, .ref p7, .ref p8, .int zs, .int zw, va_rf ql, .int zo, .int zr, .int zc, .int zl, .int zm, .int zn, .int zf])), (po, .inl ((cs 0), 256, .inl go)), (pr_, .inl ((cs 0), 256, .inl g_1563)), (pa, .inl ((cs 0), 9, .inl g_1573))] H ∧ va_D A [(hh, .inr (4, [.ref ha, .ref po, .ref pr_, .ref pa, .ref pf, .ref p5, .ref p6, .ref p7, .ref p8, .int zs, .int zw, va_rf ql, .int zo, .int zr, .int zc, .int zl, .int zm, .int zn, .int zf])), (po, .inl ((cs 0), 256, .inl go)), (pr_, .inl ((cs 0), 256, .inl g_1563)), (pa, .inl ((cs 0), 9, .inl g_1573))] := ⟨_, al_step iv_1304.1 r_1309 (by decide) e_1556 e_1567 e_1570, hP, hD⟩
    have hPo := hR.at hS
    obtain ⟨x_1575, e_1576⟩ : ∃ z : Int32, z = v_262 + Int32.ofInt 1 := ⟨_, rfl⟩
    have r_1577 : Rg 1 256 x_1575 := Rg.add e_1576 r_1309 (Rg.c (c := Int32.ofInt 1) (k := 1) rfl) (by decide)
    refine lv_iinc (v := x_1575) (lv' := [(2, .int x_1575), (3, .int x_1555), (0, .ref hh), (1, .ref hl0)]) hx hb dX5_numberRows_54 hl (k := 1) rfl (e_1576.symm) (by decide) rfl (fun ls hl => ?_)
    refine lv_goto (tgt := 10) hx hb dX5_numberRows_57 (by decide) ?_
    exact ih_1301 (x_1575, g_1563, g_1573) _ _ _ ⟨(Rg.wk (lo2 := 0) (hi2 := 256) r_1577 (by decide)), ra_1564, ⟨by rw [(cN_add (k := 1) e_1576 r_1309 (Rg.c (c := Int32.ofInt 1) (k := 1) rfl) (by decide))]; exact rb_1574, by rw [(cN_add (k := 1) e_1576 r_1309 (Rg.c (c := Int32.ofInt 1) (k := 1) rfl) (by decide))]; exact (by have h9 := lt_cN (nle_lt c_1308) r_1309 r_1310 (by decide); rw [sh_x e_1306 r_lh (by decide), cN_of rfl (by have := pow_le (cN_lt (n := 9) r_lh (by decide)); omega)] at h9; omega)⟩, hP, hD, hS, lv_sub hl [0, 2, 3] rfl⟩ (ms_up e_1576 r_1309 (Rg.c (c := Int32.ofInt 1) (k := 1) rfl) (by decide))
