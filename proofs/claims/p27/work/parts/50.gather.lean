set_option maxHeartbeats 4000000 in
set_option maxRecDepth 100000 in
theorem c_Acts_gather_x (l : Launch) (D : va_G) (cs : Nat → ClassId) (X : XX) (sz : Nat) (ha : Nat) (as : Nat) (ad : Nat) (ac : Int32) (gs : Nat → Int32) (gc : Nat → Int32) (hl0 : Nat) (lb : Int32) (lh : Int32) (lg : Int32) (lw : Int32) (lv : Int32) (lbs : Int32) (lti : Int32) (lts : Int32) (le : Int32) (lk : Int32) (la : Int32) (l0 : Nat) (l1 : Nat) (l2 : Nat) (l3 : Nat) (l4 : Nat) (l5 : Nat) (l6 : Nat) (l7 : Nat) (f5 : Nat → Int32) (a : Int32) (r_ac : Rg 0 72 ac) (r_lb : Rg 0 8 lb) (r_lh : Rg 0 8 lh) (r_le : Rg 0 6 le) (r_a : Rg 0 65535 a) : Met l yX0_gather (Cond.code yX0_gather cX0_gather 6 none :: TB) (RM 2 0 0) (va_Pc [.ref ha, .ref hl0, .int a] (PRE D cs X [(ha, .inr (0, [.ref as, .ref ad, .int ac])), (as, .inl ((cs 0), 8, .inl gs)), (ad, .inl ((cs 0), 72, .inl gc))] [(hl0, .inr (2, [.int lb, .int lh, .int lg, .int lw, .int lv, .int lbs, .int lti, .int lts, .int le, .int lk, .int la, .ref l0, .ref l1, .ref l2, .ref l3, .ref l4, .ref l5, .ref l6, .ref l7])), (l5, .inl ((cs 0), 8, .inl f5))] sz)) (va_Qv (S := Unit) (fun _ => True) (fun _ t => ∃ (ac2 : Int32), ∃ (gs2 : Nat → Int32), ∃ (gc2 : Nat → Int32), Rg 0 72 ac2 ∧ (∀ j, j < cN ac2 → OKC a (gc2 j)) ∧ va_P D vwCl [(ha, .inr (0, [.ref as, .ref ad, .int ac2])), (as, .inl ((cs 0), 8, .inl gs2)), (ad, .inl ((cs 0), 72, .inl gc2))] t.heap ∧ va_D (va_A [(ha, .inr (0, [.ref as, .ref ad, .int ac])), (as, .inl ((cs 0), 8, .inl gs)), (ad, .inl ((cs 0), 72, .inl gc))] sz) [(ha, .inr (0, [.ref as, .ref ad, .int ac2])), (as, .inl ((cs 0), 8, .inl gs2)), (ad, .inl ((cs 0), 72, .inl gc2))]) (va_A [(ha, .inr (0, [.ref as, .ref ad, .int ac])), (as, .inl ((cs 0), 8, .inl gs)), (ad, .inl ((cs 0), 72, .inl gc))] sz)) 0 0 (va_A [(ha, .inr (0, [.ref as, .ref ad, .int ac])), (as, .inl ((cs 0), 8, .inl gs)), (ad, .inl ((cs 0), 72, .inl gc))] sz) := by
  refine MET (y := yX0_gather) (cc := cX0_gather) (maxL := 6) (ret := none) (d := 2) (mc := 0) (ms := 0) (D := D) (cs := cs) (X := X) (ws := [(ha, .inr (0, [.ref as, .ref ad, .int ac])), (as, .inl ((cs 0), 8, .inl gs)), (ad, .inl ((cs 0), 72, .inl gc))]) (wo := [(hl0, .inr (2, [.int lb, .int lh, .int lg, .int lw, .int lv, .int lbs, .int lti, .int lts, .int le, .int lk, .int la, .ref l0, .ref l1, .ref l2, .ref l3, .ref l4, .ref l5, .ref l6, .ref l7])), (l5, .inl ((cs 0), 8, .inl f5))]) (sz := sz) (av := [.ref ha, .ref hl0, .int a]) (Qc := fun A => va_Qv (S := Unit) (fun _ => True) (fun _ t => ∃ (ac2 : Int32), ∃ (gs2 : Nat → Int32), ∃ (gc2 : Nat → Int32), Rg 0 72 ac2 ∧ (∀ j, j < cN ac2 → OKC a (gc2 j)) ∧ va_P D vwCl [(ha, .inr (0, [.ref as, .ref ad, .int ac2])), (as, .inl ((cs 0), 8, .inl gs2)), (ad, .inl ((cs 0), 72, .inl gc2))] t.heap ∧ va_D A [(ha, .inr (0, [.ref as, .ref ad, .int ac2])), (as, .inl ((cs 0), 8, .inl gs2)), (ad, .inl ((cs 0), 72, .inl gc2))]) A) (by decide) (Nat.le_of_ble_eq_true rfl) ?_
  intro p e s m below meth c ls A H hHe hx hb hr hml hown hts hlocks hnm hP hK hD hA hS hN hR hX hXs hl
  have hD : va_D A [(ha, .inr (0, [.ref as, .ref ad, .int ac])), (as, .inl ((cs 0), 8, .inl gs)), (ad, .inl ((cs 0), 72, .inl gc))] := hD
  have hPo := hR.at hS
  obtain ⟨locs, hlc⟩ : ∃ z : List Loc, z = [] := ⟨_, rfl⟩
  rw [← hlc] at hS ⊢
  have hown : s.vm.findClass "WrongHole$Acts" = some m.cls := hown
  have hT : ∀ w ∈ TB, w.before ([.ref ha, .ref hl0, .int a] : List Value).toArray s = true := fun w h => hts w (List.mem_cons_of_mem _ h)
  have hl : lv_has ls 6 [(0, .ref ha), (1, .ref hl0), (2, .int a)] := hl
  have hP : va_P D vwCl [(ha, .inr (0, [.ref as, .ref ad, .int ac])), (as, .inl ((cs 0), 8, .inl gs)), (ad, .inl ((cs 0), 72, .inl gc))] H := hP
  refine lv_aload_n hx hb dX0_gather_0 rfl (lv_at hl 0 rfl) ?_
  refine lv_aload_n hx hb dX0_gather_1 rfl (lv_at hl 1 rfl) ?_
  refine lv_iload_n hx hb dX0_gather_2 rfl (lv_at hl 2 rfl) ?_
  have hPc := hP.sub (ws' := [(ha, .inr (0, [.ref as, .ref ad, .int ac])), (as, .inl ((cs 0), 8, .inl gs)), (ad, .inl ((cs 0), 72, .inl gc))]) [0, 1, 2] rfl
  have hDc := hD.sub (ws' := [(ha, .inr (0, [.ref as, .ref ad, .int ac])), (as, .inl ((cs 0), 8, .inl gs)), (ad, .inl ((cs 0), 72, .inl gc))]) [0, 1, 2] (by decide) rfl
  have hFc := va_free (wc := [(ha, .inr (0, [.ref as, .ref ad, .int ac])), (as, .inl ((cs 0), 8, .inl gs)), (ad, .inl ((cs 0), 72, .inl gc))]) hD hS hA [0, 1, 2] rfl
  refine va_callv (va_runV (As := [.ref hl0, .int a]) (rest := []) ⟨hx, hb, hml, hown, hts⟩ (c_Acts_survey_x l D cs X H.size ha as ad ac gs gc hl0 lb lh lg lw lv lbs lti lts le lk la l0 l1 l2 l3 l4 l5 l6 l7 f5 a r_ac r_lb r_lh r_le r_a) ⟨callB_of 2 hts (gd_C qq_4_68) rfl rfl rfl (hT _ qq_1_7) (hT _ qq_4_65) (by decide +kernel) (rm_R rfl rfl), (hT _ qq_4_66), (hT _ qq_4_67)⟩ (pr_V hPc hK hDc hN (hR.sub (wo' := [(hl0, .inr (2, [.int lb, .int lh, .int lg, .int lw, .int lv, .int lbs, .int lti, .int lts, .int le, .int lk, .int la, .ref l0, .ref l1, .ref l2, .ref l3, .ref l4, .ref l5, .ref l6, .ref l7])), (l5, .inl ((cs 0), 8, .inl f5))]) [0, 1] rfl) hS hFc hX hXs (ci := 0) (q0 := 0) rfl rfl) rfl rfl hl.1 rfl (lv_room (Nat.le_of_ble_eq_true rfl)) dX0_gather_3 ⟨Nat.le_of_ble_eq_true rfl, Nat.le_of_ble_eq_true rfl⟩) hS (fun q _ h => hFc q h) hFc (fun u_1 t_4 H1 locs ht9 hvm hw_2 hB_3 hz1 hk1 hS => ?_)
  obtain ⟨v_6, g_7, g_8, r_9, rp_10, hP1, hD1⟩ := hB_3
  rw [ht9] at hP1
  obtain ⟨hP, hD⟩ := va_join (wr := []) (w1 := [(ha, .inr (0, [.ref as, .ref ad, .int v_6])), (as, .inl ((cs 0), 8, .inl g_7)), (ad, .inl ((cs 0), 72, .inl g_8))]) hP hD [0, 1, 2] [] rfl rfl (by decide) (by decide) hk1 hFc hP1 hD1
  generalize H1 = H at hP hS ⊢
  have hP : va_P D vwCl [(ha, .inr (0, [.ref as, .ref ad, .int v_6])), (as, .inl ((cs 0), 8, .inl g_7)), (ad, .inl ((cs 0), 72, .inl g_8))] H := hP
  have hD : va_D A [(ha, .inr (0, [.ref as, .ref ad, .int v_6])), (as, .inl ((cs 0), 8, .inl g_7)), (ad, .inl ((cs 0), 72, .inl g_8))] := hD
  have hPo := hR.at hS
  refine lv_aload_n hx hb dX0_gather_6 rfl (lv_at hl 0 rfl) ?_
  refine lv_iconst (v := 0) hx hb dX0_gather_7 (by decide) ?_
  refine va_put (D := D) (ci := 0) (v := .int 0) (ty := .int) (C := "WrongHole$Acts") (T := TX0) (N := 3) hx hb hts (iq_RX0 _) tyX0 tyX0_ok nmX0 hown hK hP hD hS 0 rfl rfl 2 (by decide) (hT _ qq_1_167) (fun _ h9 => h9) rfl (by decide +kernel) rfl rfl (Nat.le_of_ble_eq_true rfl) dX0_gather_8 (fun H locs hP hD hS => ?_)
  have hP : va_P D vwCl [(ha, .inr (0, [.ref as, .ref ad, .int 0])), (as, .inl ((cs 0), 8, .inl g_7)), (ad, .inl ((cs 0), 72, .inl g_8))] H := hP
  have hD : va_D A [(ha, .inr (0, [.ref as, .ref ad, .int 0])), (as, .inl ((cs 0), 8, .inl g_7)), (ad, .inl ((cs 0), 72, .inl g_8))] := hD
  have hPo := hR.at hS
  refine lv_iload_n hx hb dX0_gather_11 rfl (lv_at hl 2 rfl) ?_
  have hPc := va_P.sub (ws' := []) hP [] rfl
  refine cl_V (W.runS (As := [.int a]) (rest := []) ⟨hx, hb, hml, hown, hts⟩ (c_Rows_in_x l D cs a r_a) ⟨callB_of 1 hts (gd_C qq_2_230) rfl rfl rfl (hT _ qq_1_16) (hT _ qq_4_69) (by decide +kernel) (rm_R rfl rfl), (hT _ qq_2_229)⟩ (pq_S hPc hK hN) rfl rfl hl.1 rfl (lv_room (Nat.le_of_ble_eq_true rfl)) dX0_gather_12 ⟨Nat.le_of_ble_eq_true rfl, Nat.le_of_ble_eq_true rfl⟩) ?_
  refine lv_topi (fun x_11 e_12 => ?_)
  have r_13 : Rg 0 255 x_11 := Rg.of e_12 (rg_in r_a)
  refine lv_istore_n (lv' := [(3, .int x_11), (0, .ref ha), (1, .ref hl0), (2, .int a)]) hx hb dX0_gather_15 rfl hl (by decide) rfl (fun ls hl => ?_)
  refine lv_iconst (v := 0) hx hb dX0_gather_16 (by decide) ?_
  refine lv_istore (lv' := [(4, .int 0), (3, .int x_11), (0, .ref ha), (1, .ref hl0), (2, .int a)]) hx hb dX0_gather_17 hl (by decide) rfl (fun ls hl => ?_)
  refine w_wh (σ := (Int32) × (Int32) × (Nat → Int32)) (fun x9 H locs ls => match x9 with | (v_125, v_126, g_127) => Rg 0 8 v_125 ∧ Rg 0 72 v_126 ∧ (∀ j, j < cN v_126 → OKC a (g_127 j)) ∧ va_P D vwCl [(ha, .inr (0, [.ref as, .ref ad, .int v_126])), (as, .inl ((cs 0), 8, .inl g_7)), (ad, .inl ((cs 0), 72, .inl g_127))] H ∧ va_D A [(ha, .inr (0, [.ref as, .ref ad, .int v_126])), (as, .inl ((cs 0), 8, .inl g_7)), (ad, .inl ((cs 0), 72, .inl g_127))] ∧ va_S A s.heap H locs ∧ lv_has ls 6 [(4, .int v_125), (3, .int x_11), (0, .ref ha), (1, .ref hl0), (2, .int a)]) (fun x9 => match x9 with | (v_125, v_126, g_127) => (8 - Int32.toInt v_125).toNat) 19 ?_ (0, 0, g_8) H locs ls ⟨(Rg.wk (lo2 := 0) (hi2 := 8) (Rg.c (c := 0) (k := 0) rfl) (by decide)), (Rg.wk (lo2 := 0) (hi2 := 72) (Rg.c (c := 0) (k := 0) rfl) (by decide)), (fun j hj => absurd hj (Nat.not_lt_zero j)), hP, hD, hS, lv_sub hl [0, 1, 2, 3, 4] rfl⟩
  rintro ⟨v_125, v_126, g_127⟩ H locs ls ⟨r_11788, r_11789, iv_11790, hP, hD, hS, hl⟩ ih_11787
  have hPo := hR.at hS
  refine lv_iload hx hb dX0_gather_19 (lv_at hl 0 rfl) ?_
  refine lv_aload_n hx hb dX0_gather_21 rfl (lv_at hl 3 rfl) ?_
  refine va_getN (D := D) (ci := 2) (v := .int lb) (C := "WrongHole$Lift") (T := TX2) (N := 19) hx hb hts (iq_RX2 _) hown hK hPo 0 rfl rfl 0 (by decide) (NN.f hN nq_2_30) (fun _ h9 => h9) rfl dX0_gather_22 ?_
  refine lv_icmp_ge (tgt := 72) hx hb dX0_gather_25 (by decide) (fun c_11791 => ?_) (fun c_11791 => ?_)
  · refine lv_iconst (v := 0) hx hb dX0_gather_72 (by decide) ?_
    refine lv_istore (lv' := [(4, .int 0), (3, .int x_11), (0, .ref ha), (1, .ref hl0), (2, .int a)]) hx hb dX0_gather_73 hl (by decide) rfl (fun ls hl => ?_)
    refine w_wh (σ := (Int32) × (Int32) × (Nat → Int32)) (fun x9 H locs ls => match x9 with | (v_11987, v_11988, g_11989) => Rg 0 8 v_11987 ∧ Rg 0 72 v_11988 ∧ (∀ j, j < cN v_11988 → OKC a (g_11989 j)) ∧ va_P D vwCl [(ha, .inr (0, [.ref as, .ref ad, .int v_11988])), (as, .inl ((cs 0), 8, .inl g_7)), (ad, .inl ((cs 0), 72, .inl g_11989))] H ∧ va_D A [(ha, .inr (0, [.ref as, .ref ad, .int v_11988])), (as, .inl ((cs 0), 8, .inl g_7)), (ad, .inl ((cs 0), 72, .inl g_11989))] ∧ va_S A s.heap H locs ∧ lv_has ls 6 [(4, .int v_11987), (3, .int x_11), (0, .ref ha), (1, .ref hl0), (2, .int a)]) (fun x9 => match x9 with | (v_11987, v_11988, g_11989) => (8 - Int32.toInt v_11987).toNat) 75 ?_ (0, v_126, g_127) H locs ls ⟨(Rg.wk (lo2 := 0) (hi2 := 8) (Rg.c (c := 0) (k := 0) rfl) (by decide)), r_11789, iv_11790, hP, hD, hS, lv_sub hl [0, 1, 2, 3, 4] rfl⟩
    rintro ⟨v_11987, v_11988, g_11989⟩ H locs ls ⟨r_13167, r_13168, iv_13169, hP, hD, hS, hl⟩ ih_13166
    have hPo := hR.at hS
    refine lv_iload hx hb dX0_gather_75 (lv_at hl 0 rfl) ?_
    refine lv_aload_n hx hb dX0_gather_77 rfl (lv_at hl 3 rfl) ?_
    refine va_getN (D := D) (ci := 2) (v := .int lb) (C := "WrongHole$Lift") (T := TX2) (N := 19) hx hb hts (iq_RX2 _) hown hK hPo 0 rfl rfl 0 (by decide) (NN.f hN nq_2_30) (fun _ h9 => h9) rfl dX0_gather_78 ?_
    refine lv_icmp_ge (tgt := 148) hx hb dX0_gather_81 (by decide) (fun c_13170 => ?_) (fun c_13170 => ?_)
    · refine W.widen (k := 0) (n := 0) (Nat.le_of_ble_eq_true rfl) (Nat.le_of_ble_eq_true rfl) ?_
      have hP9 := hP.sub (ws' := [(ha, .inr (0, [.ref as, .ref ad, .int v_11988])), (as, .inl ((cs 0), 8, .inl g_7)), (ad, .inl ((cs 0), 72, .inl g_11989))]) [0, 1, 2] rfl
      have hD9 := hD.sub (ws' := [(ha, .inr (0, [.ref as, .ref ad, .int v_11988])), (as, .inl ((cs 0), 8, .inl g_7)), (ad, .inl ((cs 0), 72, .inl g_11989))]) [0, 1, 2] (by decide) rfl
      exact W.vret hx hb hr (fun t9 ht9 hW9 => ⟨⟨(), rfl, trivial, ⟨v_11988, g_7, g_11989, r_13168, iv_13169, by rw [ht9]; exact hP9, hD9⟩⟩, hS.F ht9⟩) hS.2.2 dX0_gather_148
    · have r_13171 : Rg 0 7 v_11987 := Rg.lt_l (nle_lt c_13170) r_13167 r_lb (by decide)
      have r_13172 : Rg 1 8 lb := Rg.lt_r (nle_lt c_13170) r_13167 r_lb (by decide)
      refine lv_iload_n hx hb dX0_gather_84 rfl (lv_at hl 1 rfl) ?_
      refine lv_iload hx hb dX0_gather_85 (lv_at hl 0 rfl) ?_
      refine lv_ishr hx hb dX0_gather_87 ?_
      refine lv_topi (fun x_13245 e_13246 => ?_)
      have r_13247 : Rg 0 255 x_13245 := Rg.shrn e_13246 r_13
      refine lv_iconst (v := 1) hx hb dX0_gather_88 (by decide) ?_
      refine lv_iand hx hb dX0_gather_89 ?_
      refine lv_topi (fun x_13248 e_13249 => ?_)
      have r_13250 : Rg 0 1 x_13248 := Rg.and e_13249 (Rg.c (c := 1) (k := 1) rfl) (by decide)
      refine w_cut (σ := (Int32)) (fun (v_13258 : Int32) H locs ls => Rg 0 1 v_13258 ∧ va_P D vwCl [(ha, .inr (0, [.ref as, .ref ad, .int v_11988])), (as, .inl ((cs 0), 8, .inl g_7)), (ad, .inl ((cs 0), 72, .inl g_11989))] H ∧ va_D A [(ha, .inr (0, [.ref as, .ref ad, .int v_11988])), (as, .inl ((cs 0), 8, .inl g_7)), (ad, .inl ((cs 0), 72, .inl g_11989))] ∧ va_S A s.heap H locs ∧ lv_has ls 6 [(4, .int v_11987), (3, .int x_11), (0, .ref ha), (1, .ref hl0), (2, .int a)]) 108 (fun (v_13258 : Int32) => [.int v_13258]) ?_ (fun hj_13259 => ?_)
      · rintro v_13258 H locs ls ⟨r_13260, hP, hD, hS, hl⟩
        have hPo := hR.at hS
        refine lv_istore (lv' := [(5, .int v_13258), (4, .int v_11987), (3, .int x_11), (0, .ref ha), (1, .ref hl0), (2, .int a)]) hx hb dX0_gather_108 hl (by decide) rfl (fun ls hl => ?_)
        refine lv_iload hx hb dX0_gather_110 (lv_at hl 0 rfl) ?_
        refine w_cut (σ := (Int32) × (Nat → Int32)) (fun x9 H locs ls => match x9 with | (v_13287, g_13288) => Rg 0 72 v_13287 ∧ (∀ j, j < cN v_13287 → OKC a (g_13288 j)) ∧ va_P D vwCl [(ha, .inr (0, [.ref as, .ref ad, .int v_13287])), (as, .inl ((cs 0), 8, .inl g_7)), (ad, .inl ((cs 0), 72, .inl g_13288))] H ∧ va_D A [(ha, .inr (0, [.ref as, .ref ad, .int v_13287])), (as, .inl ((cs 0), 8, .inl g_7)), (ad, .inl ((cs 0), 72, .inl g_13288))] ∧ va_S A s.heap H locs ∧ lv_has ls 6 [(5, .int v_13258), (4, .int v_11987), (3, .int x_11), (0, .ref ha), (1, .ref hl0), (2, .int a)]) 142 (fun x9 => match x9 with | (v_13287, g_13288) => []) ?_ (fun hj_13289 => ?_)
        · rintro ⟨v_13287, g_13288⟩ H locs ls ⟨r_13290, iv_13291, hP, hD, hS, hl⟩
          have hPo := hR.at hS
          obtain ⟨x_13292, e_13293⟩ : ∃ z : Int32, z = v_11987 + Int32.ofInt 1 := ⟨_, rfl⟩
          have r_13294 : Rg 1 8 x_13292 := Rg.add e_13293 r_13171 (Rg.c (c := Int32.ofInt 1) (k := 1) rfl) (by decide)
          refine lv_iinc (v := x_13292) (lv' := [(4, .int x_13292), (5, .int v_13258), (3, .int x_11), (0, .ref ha), (1, .ref hl0), (2, .int a)]) hx hb dX0_gather_142 hl (k := 1) rfl (e_13293.symm) (by decide) rfl (fun ls hl => ?_)
          refine lv_goto (tgt := 75) hx hb dX0_gather_145 (by decide) ?_
          exact ih_13166 (x_13292, v_13287, g_13288) _ _ _ ⟨(Rg.wk (lo2 := 0) (hi2 := 8) r_13294 (by decide)), r_13290, iv_13291, hP, hD, hS, lv_sub hl [0, 2, 3, 4, 5] rfl⟩ (ms_up e_13293 r_13171 (Rg.c (c := Int32.ofInt 1) (k := 1) rfl) (by decide))
        · refine lv_if_eq (tgt := 142) hx hb dX0_gather_112 (by decide) (fun c_13261 => ?_) (fun c_13261 => ?_)
          · have r_13262 : Rg 0 0 v_13258 := Rg.eq_l c_13261 r_13260 (Rg.c (c := 0) (k := 0) rfl) (by decide)
            exact hj_13289 (v_11988, g_11989) _ _ _ ⟨r_13168, iv_13169, hP, hD, hS, lv_sub hl [0, 1, 2, 3, 4, 5] rfl⟩
          · have r_13263 : Rg 1 1 v_13258 := Rg.ne c_13261 r_13260 (Rg.c (c := 0) (k := 0) rfl) (by decide)
            refine lv_aload_n hx hb dX0_gather_115 rfl (lv_at hl 4 rfl) ?_
            refine lv_iload_n hx hb dX0_gather_116 rfl (lv_at hl 2 rfl) ?_
            refine lv_iconst (v := 1) hx hb dX0_gather_117 (by decide) ?_
            refine lv_iload hx hb dX0_gather_118 (lv_at hl 1 rfl) ?_
            refine lv_ishl hx hb dX0_gather_120 ?_
            refine lv_topi (fun x_13295 e_13296 => ?_)
            have r_13297 : Rg 0 128 x_13295 := Rg.shl (ha := 1) (k := 7) e_13296 (Rg.wk (Rg.c (c := 1) (k := 1) rfl) (by decide)) (Rg.wk r_13171 (by decide)) (by decide) (by decide)
            refine lv_ior hx hb dX0_gather_121 ?_
            refine lv_topi (fun x_13298 e_13299 => ?_)
            have r_13300 : Rg 0 255 x_13298 := Rg.or (k := 8) e_13299 r_13 r_13297 (by decide) (by decide)
            have hPc := va_P.sub (ws' := [(hl0, .inr (2, [.int lb, .int lh, .int lg, .int lw, .int lv, .int lbs, .int lti, .int lts, .int le, .int lk, .int la, .ref l0, .ref l1, .ref l2, .ref l3, .ref l4, .ref l5, .ref l6, .ref l7]))]) hPo [0] rfl
            refine cl_P (W.runV (As := [.int x_13298]) (rest := []) ⟨hx, hb, hml, hown, hts⟩ (c_Lift_lawful l D cs hl0 lb lh lg lw lv lbs lti lts le lk la l0 l1 l2 l3 l4 l5 l6 l7 x_13298 (Rg.wk (lo2 := 0) (hi2 := 8) r_13172 (by decide)) r_lh r_le) ⟨callB_of 1 hts (gd_C qq_3_215) rfl rfl rfl (hT _ qq_1_11) (hT _ qq_4_71) (by decide +kernel) (rm_R rfl rfl), (hT _ qq_3_213), (hT _ qq_3_214)⟩ (pq_V hPc hK hN (ci := 2) (q0 := 0) rfl rfl) rfl rfl hl.1 rfl (lv_room (Nat.le_of_ble_eq_true rfl)) dX0_gather_122 ⟨Nat.le_of_ble_eq_true rfl, Nat.le_of_ble_eq_true rfl⟩) (fun v9 hz_13302 => ?_)
            obtain ⟨x_13301, rfl, r_13303⟩ := hz_13302
            refine lv_if_eq (tgt := 142) hx hb dX0_gather_125 (by decide) (fun c_13304 => ?_) (fun c_13304 => ?_)
            · have r_13305 : Rg 0 0 x_13301 := Rg.eq_l c_13304 r_13303 (Rg.c (c := 0) (k := 0) rfl) (by decide)
              exact hj_13289 (v_11988, g_11989) _ _ _ ⟨r_13168, iv_13169, hP, hD, hS, lv_sub hl [0, 1, 2, 3, 4, 5] rfl⟩
            · have r_13306 : Rg 1 1 x_13301 := Rg.ne c_13304 r_13303 (Rg.c (c := 0) (k := 0) rfl) (by decide)
              refine lv_aload_n hx hb dX0_gather_128 rfl (lv_at hl 3 rfl) ?_
              refine lv_iconst (v := 1) hx hb dX0_gather_129 (by decide) ?_
              refine lv_iload hx hb dX0_gather_130 (lv_at hl 1 rfl) ?_
              refine lv_aload_n hx hb dX0_gather_132 rfl (lv_at hl 3 rfl) ?_
              refine va_get (D := D) (ci := 0) (v := .ref as) (C := "WrongHole$Acts") (T := TX0) (N := 3) hx hb hts (iq_RX0 _) hown hK hP 0 rfl rfl 0 (by decide) (hT _ qq_1_162) (fun _ h9 => h9) rfl dX0_gather_133 ?_
              refine lv_iload hx hb dX0_gather_136 (lv_at hl 1 rfl) ?_
              have hi_13307 : vp_in v_11987 8 := Rg.in r_13171 (by decide)
              refine va_iald hx hb hK hP 1 0 rfl rfl hi_13307 dX0_gather_138 ?_
              refine lv_topi (fun x_13308 e_13309 => ?_)
              have hPc := hP.sub (ws' := [(ha, .inr (0, [.ref as, .ref ad, .int v_11988])), (as, .inl ((cs 0), 8, .inl g_7)), (ad, .inl ((cs 0), 72, .inl g_11989))]) [0, 1, 2] rfl
              have hDc := hD.sub (ws' := [(ha, .inr (0, [.ref as, .ref ad, .int v_11988])), (as, .inl ((cs 0), 8, .inl g_7)), (ad, .inl ((cs 0), 72, .inl g_11989))]) [0, 1, 2] (by decide) rfl
              have hFc := va_free (wc := [(ha, .inr (0, [.ref as, .ref ad, .int v_11988])), (as, .inl ((cs 0), 8, .inl g_7)), (ad, .inl ((cs 0), 72, .inl g_11989))]) hD hS hA [0, 1, 2] rfl
              refine va_callv (va_runV (As := [.int 1, .int v_11987, .int x_13308]) (rest := []) ⟨hx, hb, hml, hown, hts⟩ (c_Acts_add_1_x l D cs X H.size ha as ad v_11988 g_7 g_11989 a v_11987 x_13308 r_13168 r_13171 iv_13169 (by rw [e_13309]; exact rp_10 _ (lt_cN (nle_lt c_13170) r_13171 r_lb (by decide)))) ⟨callB_of 3 hts (gd_C qq_4_75) rfl rfl rfl (hT _ qq_1_7) (hT _ qq_4_72) (by decide +kernel) (rm_R rfl rfl), (hT _ qq_4_74), (hT _ qs_0_13)⟩ (pr_V hPc hK hDc hN (hR.sub (wo' := []) [] rfl) hS hFc hX hXs (ci := 0) (q0 := 0) rfl rfl) rfl rfl hl.1 rfl (lv_room (Nat.le_of_ble_eq_true rfl)) dX0_gather_139 ⟨Nat.le_of_ble_eq_true rfl, Nat.le_of_ble_eq_true rfl⟩) hS (fun q _ h => hFc q h) hFc (fun u_13310 t_13313 H1 locs ht9 hvm hw_13311 hB_13312 hz1 hk1 hS => ?_)
              obtain ⟨v_13315, g_13316, r_13317, rp_13318, hP1, hD1⟩ := hB_13312
              rw [ht9] at hP1
              obtain ⟨hP, hD⟩ := va_join (wr := []) (w1 := [(ha, .inr (0, [.ref as, .ref ad, .int v_13315])), (as, .inl ((cs 0), 8, .inl g_7)), (ad, .inl ((cs 0), 72, .inl g_13316))]) hP hD [0, 1, 2] [] rfl rfl (by decide) (by decide) hk1 hFc hP1 hD1
              generalize H1 = H at hP hS ⊢
              have hP : va_P D vwCl [(ha, .inr (0, [.ref as, .ref ad, .int v_13315])), (as, .inl ((cs 0), 8, .inl g_7)), (ad, .inl ((cs 0), 72, .inl g_13316))] H := hP
              have hD : va_D A [(ha, .inr (0, [.ref as, .ref ad, .int v_13315])), (as, .inl ((cs 0), 8, .inl g_7)), (ad, .inl ((cs 0), 72, .inl g_13316))] := hD
              have hPo := hR.at hS
              exact hj_13289 (v_13315, g_13316) _ _ _ ⟨r_13317, rp_13318, hP, hD, hS, lv_sub hl [0, 1, 2, 3, 4, 5] rfl⟩
      · refine lv_if_ne (tgt := 107) hx hb dX0_gather_90 (by decide) (fun c_13251 => ?_) (fun c_13251 => ?_)
        · have r_13252 : Rg 1 1 x_13248 := Rg.ne c_13251 r_13250 (Rg.c (c := 0) (k := 0) rfl) (by decide)
          refine lv_iconst (v := 0) hx hb dX0_gather_107 (by decide) ?_
          exact hj_13259 0 _ _ _ ⟨(Rg.wk (lo2 := 0) (hi2 := 1) (Rg.c (c := 0) (k := 0) rfl) (by decide)), hP, hD, hS, lv_sub hl [0, 1, 2, 3, 4] rfl⟩
        · have r_13253 : Rg 0 0 x_13248 := Rg.eq_l c_13251 r_13250 (Rg.c (c := 0) (k := 0) rfl) (by decide)
          refine lv_aload_n hx hb dX0_gather_93 rfl (lv_at hl 2 rfl) ?_
          refine va_get (D := D) (ci := 0) (v := .ref as) (C := "WrongHole$Acts") (T := TX0) (N := 3) hx hb hts (iq_RX0 _) hown hK hP 0 rfl rfl 0 (by decide) (hT _ qq_1_162) (fun _ h9 => h9) rfl dX0_gather_94 ?_
          refine lv_iload hx hb dX0_gather_97 (lv_at hl 0 rfl) ?_
          have hi_13319 : vp_in v_11987 8 := Rg.in r_13171 (by decide)
          refine va_iald hx hb hK hP 1 0 rfl rfl hi_13319 dX0_gather_99 ?_
          refine lv_topi (fun x_13320 e_13321 => ?_)
          refine lv_if_eq (tgt := 107) hx hb dX0_gather_100 (by decide) (fun c_13322 => ?_) (fun c_13322 => ?_)
          · have r_13323 : Rg 0 0 x_13320 := Rg.eq_l c_13322 (Rg.top x_13320) (Rg.c (c := 0) (k := 0) rfl) (by decide)
            refine lv_iconst (v := 0) hx hb dX0_gather_107 (by decide) ?_
            exact hj_13259 0 _ _ _ ⟨(Rg.wk (lo2 := 0) (hi2 := 1) (Rg.c (c := 0) (k := 0) rfl) (by decide)), hP, hD, hS, lv_sub hl [0, 1, 2, 3, 4] rfl⟩
          · refine lv_iconst (v := 1) hx hb dX0_gather_103 (by decide) ?_
            refine lv_goto (tgt := 108) hx hb dX0_gather_104 (by decide) ?_
            exact hj_13259 1 _ _ _ ⟨(Rg.wk (lo2 := 0) (hi2 := 1) (Rg.c (c := 1) (k := 1) rfl) (by decide)), hP, hD, hS, lv_sub hl [0, 1, 2, 3, 4] rfl⟩
  · have r_11792 : Rg 0 7 v_125 := Rg.lt_l (nle_lt c_11791) r_11788 r_lb (by decide)
    have r_11793 : Rg 1 8 lb := Rg.lt_r (nle_lt c_11791) r_11788 r_lb (by decide)
    refine lv_iload_n hx hb dX0_gather_28 rfl (lv_at hl 1 rfl) ?_
    refine lv_iload hx hb dX0_gather_29 (lv_at hl 0 rfl) ?_
    refine lv_ishr hx hb dX0_gather_31 ?_
    refine lv_topi (fun x_13324 e_13325 => ?_)
    have r_13326 : Rg 0 255 x_13324 := Rg.shrn e_13325 r_13
    refine lv_iconst (v := 1) hx hb dX0_gather_32 (by decide) ?_
    refine lv_iand hx hb dX0_gather_33 ?_
    refine lv_topi (fun x_13327 e_13328 => ?_)
    have r_13329 : Rg 0 1 x_13327 := Rg.and e_13328 (Rg.c (c := 1) (k := 1) rfl) (by decide)
    refine w_cut (σ := (Int32) × (Nat → Int32)) (fun x9 H locs ls => match x9 with | (v_13358, g_13359) => Rg 0 72 v_13358 ∧ (∀ j, j < cN v_13358 → OKC a (g_13359 j)) ∧ va_P D vwCl [(ha, .inr (0, [.ref as, .ref ad, .int v_13358])), (as, .inl ((cs 0), 8, .inl g_7)), (ad, .inl ((cs 0), 72, .inl g_13359))] H ∧ va_D A [(ha, .inr (0, [.ref as, .ref ad, .int v_13358])), (as, .inl ((cs 0), 8, .inl g_7)), (ad, .inl ((cs 0), 72, .inl g_13359))] ∧ va_S A s.heap H locs ∧ lv_has ls 6 [(4, .int v_125), (3, .int x_11), (0, .ref ha), (1, .ref hl0), (2, .int a)]) 66 (fun x9 => match x9 with | (v_13358, g_13359) => []) ?_ (fun hj_13360 => ?_)
    · rintro ⟨v_13358, g_13359⟩ H locs ls ⟨r_13361, iv_13362, hP, hD, hS, hl⟩
      have hPo := hR.at hS
      obtain ⟨x_13363, e_13364⟩ : ∃ z : Int32, z = v_125 + Int32.ofInt 1 := ⟨_, rfl⟩
      have r_13365 : Rg 1 8 x_13363 := Rg.add e_13364 r_11792 (Rg.c (c := Int32.ofInt 1) (k := 1) rfl) (by decide)
      refine lv_iinc (v := x_13363) (lv' := [(4, .int x_13363), (3, .int x_11), (0, .ref ha), (1, .ref hl0), (2, .int a)]) hx hb dX0_gather_66 hl (k := 0) rfl (e_13364.symm) (by decide) rfl (fun ls hl => ?_)
      refine lv_goto (tgt := 19) hx hb dX0_gather_69 (by decide) ?_
      exact ih_11787 (x_13363, v_13358, g_13359) _ _ _ ⟨(Rg.wk (lo2 := 0) (hi2 := 8) r_13365 (by decide)), r_13361, iv_13362, hP, hD, hS, lv_sub hl [0, 1, 2, 3, 4] rfl⟩ (ms_up e_13364 r_11792 (Rg.c (c := Int32.ofInt 1) (k := 1) rfl) (by decide))
    · refine lv_if_eq (tgt := 66) hx hb dX0_gather_34 (by decide) (fun c_13330 => ?_) (fun c_13330 => ?_)
      · have r_13331 : Rg 0 0 x_13327 := Rg.eq_l c_13330 r_13329 (Rg.c (c := 0) (k := 0) rfl) (by decide)
        exact hj_13360 (v_126, g_127) _ _ _ ⟨r_11789, iv_11790, hP, hD, hS, lv_sub hl [0, 1, 2, 3, 4] rfl⟩
      · have r_13332 : Rg 1 1 x_13327 := Rg.ne c_13330 r_13329 (Rg.c (c := 0) (k := 0) rfl) (by decide)
        refine lv_aload_n hx hb dX0_gather_37 rfl (lv_at hl 3 rfl) ?_
        refine lv_iload_n hx hb dX0_gather_38 rfl (lv_at hl 1 rfl) ?_
        refine lv_iconst (v := 1) hx hb dX0_gather_39 (by decide) ?_
        refine lv_iload hx hb dX0_gather_40 (lv_at hl 0 rfl) ?_
        refine lv_ishl hx hb dX0_gather_42 ?_
        refine lv_topi (fun x_13366 e_13367 => ?_)
        have r_13368 : Rg 0 128 x_13366 := Rg.shl (ha := 1) (k := 7) e_13367 (Rg.wk (Rg.c (c := 1) (k := 1) rfl) (by decide)) (Rg.wk r_11792 (by decide)) (by decide) (by decide)
        refine lv_iconst (v := (-1)) hx hb dX0_gather_43 (by decide) ?_
        refine lv_ixor hx hb dX0_gather_44 ?_
        refine lv_topi (fun x_13369 e_13370 => ?_)
        refine lv_iand hx hb dX0_gather_45 ?_
        refine lv_topi (fun x_13371 e_13372 => ?_)
        have r_13373 : Rg 0 255 x_13371 := Rg.andl e_13372 r_13 (by decide)
        have hPc := va_P.sub (ws' := [(hl0, .inr (2, [.int lb, .int lh, .int lg, .int lw, .int lv, .int lbs, .int lti, .int lts, .int le, .int lk, .int la, .ref l0, .ref l1, .ref l2, .ref l3, .ref l4, .ref l5, .ref l6, .ref l7]))]) hPo [0] rfl
        refine cl_P (W.runV (As := [.int x_13371]) (rest := []) ⟨hx, hb, hml, hown, hts⟩ (c_Lift_lawful l D cs hl0 lb lh lg lw lv lbs lti lts le lk la l0 l1 l2 l3 l4 l5 l6 l7 x_13371 (Rg.wk (lo2 := 0) (hi2 := 8) r_11793 (by decide)) r_lh r_le) ⟨callB_of 1 hts (gd_C qq_3_215) rfl rfl rfl (hT _ qq_1_11) (hT _ qq_4_71) (by decide +kernel) (rm_R rfl rfl), (hT _ qq_3_213), (hT _ qq_3_214)⟩ (pq_V hPc hK hN (ci := 2) (q0 := 0) rfl rfl) rfl rfl hl.1 rfl (lv_room (Nat.le_of_ble_eq_true rfl)) dX0_gather_46 ⟨Nat.le_of_ble_eq_true rfl, Nat.le_of_ble_eq_true rfl⟩) (fun v9 hz_13375 => ?_)
        obtain ⟨x_13374, rfl, r_13376⟩ := hz_13375
        refine lv_if_eq (tgt := 66) hx hb dX0_gather_49 (by decide) (fun c_13377 => ?_) (fun c_13377 => ?_)
        · have r_13378 : Rg 0 0 x_13374 := Rg.eq_l c_13377 r_13376 (Rg.c (c := 0) (k := 0) rfl) (by decide)
          exact hj_13360 (v_126, g_127) _ _ _ ⟨r_11789, iv_11790, hP, hD, hS, lv_sub hl [0, 1, 2, 3, 4] rfl⟩
        · have r_13379 : Rg 1 1 x_13374 := Rg.ne c_13377 r_13376 (Rg.c (c := 0) (k := 0) rfl) (by decide)
          refine lv_aload_n hx hb dX0_gather_52 rfl (lv_at hl 2 rfl) ?_
          refine lv_iconst (v := 0) hx hb dX0_gather_53 (by decide) ?_
          refine lv_iload hx hb dX0_gather_54 (lv_at hl 0 rfl) ?_
          refine lv_aload_n hx hb dX0_gather_56 rfl (lv_at hl 2 rfl) ?_
          refine va_get (D := D) (ci := 0) (v := .ref as) (C := "WrongHole$Acts") (T := TX0) (N := 3) hx hb hts (iq_RX0 _) hown hK hP 0 rfl rfl 0 (by decide) (hT _ qq_1_162) (fun _ h9 => h9) rfl dX0_gather_57 ?_
          refine lv_iload hx hb dX0_gather_60 (lv_at hl 0 rfl) ?_
          have hi_13380 : vp_in v_125 8 := Rg.in r_11792 (by decide)
          refine va_iald hx hb hK hP 1 0 rfl rfl hi_13380 dX0_gather_62 ?_
          refine lv_topi (fun x_13381 e_13382 => ?_)
          have hPc := hP.sub (ws' := [(ha, .inr (0, [.ref as, .ref ad, .int v_126])), (as, .inl ((cs 0), 8, .inl g_7)), (ad, .inl ((cs 0), 72, .inl g_127))]) [0, 1, 2] rfl
          have hDc := hD.sub (ws' := [(ha, .inr (0, [.ref as, .ref ad, .int v_126])), (as, .inl ((cs 0), 8, .inl g_7)), (ad, .inl ((cs 0), 72, .inl g_127))]) [0, 1, 2] (by decide) rfl
          have hFc := va_free (wc := [(ha, .inr (0, [.ref as, .ref ad, .int v_126])), (as, .inl ((cs 0), 8, .inl g_7)), (ad, .inl ((cs 0), 72, .inl g_127))]) hD hS hA [0, 1, 2] rfl
          refine va_callv (va_runV (As := [.int 0, .int v_125, .int x_13381]) (rest := []) ⟨hx, hb, hml, hown, hts⟩ (c_Acts_add_0_x l D cs X H.size ha as ad v_126 g_7 g_127 a v_125 x_13381 r_11789 r_11792 iv_11790 (by rw [e_13382]; exact rp_10 _ (lt_cN (nle_lt c_11791) r_11792 r_lb (by decide)))) ⟨callB_of 3 hts (gd_C qq_4_75) rfl rfl rfl (hT _ qq_1_7) (hT _ qq_4_72) (by decide +kernel) (rm_R rfl rfl), (hT _ qq_4_74), (hT _ qs_0_13)⟩ (pr_V hPc hK hDc hN (hR.sub (wo' := []) [] rfl) hS hFc hX hXs (ci := 0) (q0 := 0) rfl rfl) rfl rfl hl.1 rfl (lv_room (Nat.le_of_ble_eq_true rfl)) dX0_gather_63 ⟨Nat.le_of_ble_eq_true rfl, Nat.le_of_ble_eq_true rfl⟩) hS (fun q _ h => hFc q h) hFc (fun u_13383 t_13386 H1 locs ht9 hvm hw_13384 hB_13385 hz1 hk1 hS => ?_)
          obtain ⟨v_13388, g_13389, r_13390, rp_13391, hP1, hD1⟩ := hB_13385
          rw [ht9] at hP1
          obtain ⟨hP, hD⟩ := va_join (wr := []) (w1 := [(ha, .inr (0, [.ref as, .ref ad, .int v_13388])), (as, .inl ((cs 0), 8, .inl g_7)), (ad, .inl ((cs 0), 72, .inl g_13389))]) hP hD [0, 1, 2] [] rfl rfl (by decide) (by decide) hk1 hFc hP1 hD1
          generalize H1 = H at hP hS ⊢
          have hP : va_P D vwCl [(ha, .inr (0, [.ref as, .ref ad, .int v_13388])), (as, .inl ((cs 0), 8, .inl g_7)), (ad, .inl ((cs 0), 72, .inl g_13389))] H := hP
          have hD : va_D A [(ha, .inr (0, [.ref as, .ref ad, .int v_13388])), (as, .inl ((cs 0), 8, .inl g_7)), (ad, .inl ((cs 0), 72, .inl g_13389))] := hD
          have hPo := hR.at hS
          exact hj_13360 (v_13388, g_13389) _ _ _ ⟨r_13390, rp_13391, hP, hD, hS, lv_sub hl [0, 1, 2, 3, 4] rfl⟩
