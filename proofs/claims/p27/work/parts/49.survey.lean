set_option maxHeartbeats 4000000 in
set_option maxRecDepth 100000 in
theorem c_Acts_survey_x (l : Launch) (D : va_G) (cs : Nat → ClassId) (X : XX) (sz : Nat) (ha : Nat) (as : Nat) (ad : Nat) (ac : Int32) (gs : Nat → Int32) (gc : Nat → Int32) (hl0 : Nat) (lb : Int32) (lh : Int32) (lg : Int32) (lw : Int32) (lv : Int32) (lbs : Int32) (lti : Int32) (lts : Int32) (le : Int32) (lk : Int32) (la : Int32) (l0 : Nat) (l1 : Nat) (l2 : Nat) (l3 : Nat) (l4 : Nat) (l5 : Nat) (l6 : Nat) (l7 : Nat) (f5 : Nat → Int32) (a : Int32) (r_ac : Rg 0 72 ac) (r_lb : Rg 0 8 lb) (r_lh : Rg 0 8 lh) (r_le : Rg 0 6 le) (r_a : Rg 0 65535 a) : Met l yX0_survey (Cond.code yX0_survey cX0_survey 9 none :: TB) (RM 1 0 0) (va_Pc [.ref ha, .ref hl0, .int a] (PRE D cs X [(ha, .inr (0, [.ref as, .ref ad, .int ac])), (as, .inl ((cs 0), 8, .inl gs)), (ad, .inl ((cs 0), 72, .inl gc))] [(hl0, .inr (2, [.int lb, .int lh, .int lg, .int lw, .int lv, .int lbs, .int lti, .int lts, .int le, .int lk, .int la, .ref l0, .ref l1, .ref l2, .ref l3, .ref l4, .ref l5, .ref l6, .ref l7])), (l5, .inl ((cs 0), 8, .inl f5))] sz)) (va_Qv (S := Unit) (fun _ => True) (fun _ t => ∃ (ac2 : Int32), ∃ (gs2 : Nat → Int32), ∃ (gc2 : Nat → Int32), Rg 0 72 ac2 ∧ (∀ j, j < cN lb → SPK a j (gs2 j)) ∧ va_P D vwCl [(ha, .inr (0, [.ref as, .ref ad, .int ac2])), (as, .inl ((cs 0), 8, .inl gs2)), (ad, .inl ((cs 0), 72, .inl gc2))] t.heap ∧ va_D (va_A [(ha, .inr (0, [.ref as, .ref ad, .int ac])), (as, .inl ((cs 0), 8, .inl gs)), (ad, .inl ((cs 0), 72, .inl gc))] sz) [(ha, .inr (0, [.ref as, .ref ad, .int ac2])), (as, .inl ((cs 0), 8, .inl gs2)), (ad, .inl ((cs 0), 72, .inl gc2))]) (va_A [(ha, .inr (0, [.ref as, .ref ad, .int ac])), (as, .inl ((cs 0), 8, .inl gs)), (ad, .inl ((cs 0), 72, .inl gc))] sz)) 0 0 (va_A [(ha, .inr (0, [.ref as, .ref ad, .int ac])), (as, .inl ((cs 0), 8, .inl gs)), (ad, .inl ((cs 0), 72, .inl gc))] sz) := by
  refine MET (y := yX0_survey) (cc := cX0_survey) (maxL := 9) (ret := none) (d := 1) (mc := 0) (ms := 0) (D := D) (cs := cs) (X := X) (ws := [(ha, .inr (0, [.ref as, .ref ad, .int ac])), (as, .inl ((cs 0), 8, .inl gs)), (ad, .inl ((cs 0), 72, .inl gc))]) (wo := [(hl0, .inr (2, [.int lb, .int lh, .int lg, .int lw, .int lv, .int lbs, .int lti, .int lts, .int le, .int lk, .int la, .ref l0, .ref l1, .ref l2, .ref l3, .ref l4, .ref l5, .ref l6, .ref l7])), (l5, .inl ((cs 0), 8, .inl f5))]) (sz := sz) (av := [.ref ha, .ref hl0, .int a]) (Qc := fun A => va_Qv (S := Unit) (fun _ => True) (fun _ t => ∃ (ac2 : Int32), ∃ (gs2 : Nat → Int32), ∃ (gc2 : Nat → Int32), Rg 0 72 ac2 ∧ (∀ j, j < cN lb → SPK a j (gs2 j)) ∧ va_P D vwCl [(ha, .inr (0, [.ref as, .ref ad, .int ac2])), (as, .inl ((cs 0), 8, .inl gs2)), (ad, .inl ((cs 0), 72, .inl gc2))] t.heap ∧ va_D A [(ha, .inr (0, [.ref as, .ref ad, .int ac2])), (as, .inl ((cs 0), 8, .inl gs2)), (ad, .inl ((cs 0), 72, .inl gc2))]) A) (by decide) (Nat.le_of_ble_eq_true rfl) ?_
  intro p e s m below meth c ls A H hHe hx hb hr hml hown hts hlocks hnm hP hK hD hA hS hN hR hX hXs hl
  have hD : va_D A [(ha, .inr (0, [.ref as, .ref ad, .int ac])), (as, .inl ((cs 0), 8, .inl gs)), (ad, .inl ((cs 0), 72, .inl gc))] := hD
  have hPo := hR.at hS
  obtain ⟨locs, hlc⟩ : ∃ z : List Loc, z = [] := ⟨_, rfl⟩
  rw [← hlc] at hS ⊢
  have hown : s.vm.findClass "WrongHole$Acts" = some m.cls := hown
  have hT : ∀ w ∈ TB, w.before ([.ref ha, .ref hl0, .int a] : List Value).toArray s = true := fun w h => hts w (List.mem_cons_of_mem _ h)
  have hl : lv_has ls 9 [(0, .ref ha), (1, .ref hl0), (2, .int a)] := hl
  have hP : va_P D vwCl [(ha, .inr (0, [.ref as, .ref ad, .int ac])), (as, .inl ((cs 0), 8, .inl gs)), (ad, .inl ((cs 0), 72, .inl gc))] H := hP
  refine lv_iload_n hx hb dX0_survey_0 rfl (lv_at hl 2 rfl) ?_
  have hPc := va_P.sub (ws' := []) hP [] rfl
  refine cl_V (W.runS (As := [.int a]) (rest := []) ⟨hx, hb, hml, hown, hts⟩ (c_Rows_in_x l D cs a r_a) ⟨callB_of 1 hts (gd_C qq_2_230) rfl rfl rfl (hT _ qq_1_16) (hT _ qq_4_69) (by decide +kernel) (rm_R rfl rfl), (hT _ qq_2_229)⟩ (pq_S hPc hK hN) rfl rfl hl.1 rfl (lv_room (Nat.le_of_ble_eq_true rfl)) dX0_survey_1 ⟨Nat.le_of_ble_eq_true rfl, Nat.le_of_ble_eq_true rfl⟩) ?_
  refine lv_topi (fun x_1 e_2 => ?_)
  have r_3 : Rg 0 255 x_1 := Rg.of e_2 (rg_in r_a)
  refine lv_istore_n (lv' := [(3, .int x_1), (0, .ref ha), (1, .ref hl0), (2, .int a)]) hx hb dX0_survey_4 rfl hl (by decide) rfl (fun ls hl => ?_)
  refine lv_iload_n hx hb dX0_survey_5 rfl (lv_at hl 3 rfl) ?_
  have hPc := va_P.sub (ws' := []) hP [] rfl
  refine cl_V (W.runS (As := [.int a]) (rest := []) ⟨hx, hb, hml, hown, hts⟩ (c_Rows_held_x l D cs a r_a) ⟨callB_of 1 hts (gd_C qq_3_0) rfl rfl rfl (hT _ qq_1_16) (hT _ qq_4_70) (by decide +kernel) (rm_R rfl rfl), (hT _ qq_2_239)⟩ (pq_S hPc hK hN) rfl rfl hl.1 rfl (lv_room (Nat.le_of_ble_eq_true rfl)) dX0_survey_6 ⟨Nat.le_of_ble_eq_true rfl, Nat.le_of_ble_eq_true rfl⟩) ?_
  refine lv_topi (fun x_4 e_5 => ?_)
  have r_6 : Rg 0 255 x_4 := Rg.of e_5 (rg_held _)
  refine lv_istore (lv' := [(4, .int x_4), (3, .int x_1), (0, .ref ha), (1, .ref hl0), (2, .int a)]) hx hb dX0_survey_9 hl (by decide) rfl (fun ls hl => ?_)
  refine lv_iconst (v := 0) hx hb dX0_survey_11 (by decide) ?_
  refine lv_istore (lv' := [(5, .int 0), (4, .int x_4), (3, .int x_1), (0, .ref ha), (1, .ref hl0), (2, .int a)]) hx hb dX0_survey_12 hl (by decide) rfl (fun ls hl => ?_)
  refine lv_iconst (v := 0) hx hb dX0_survey_14 (by decide) ?_
  refine lv_istore (lv' := [(6, .int 0), (5, .int 0), (4, .int x_4), (3, .int x_1), (0, .ref ha), (1, .ref hl0), (2, .int a)]) hx hb dX0_survey_15 hl (by decide) rfl (fun ls hl => ?_)
  refine w_wh (σ := (Int32) × (Int32) × (Int32) × (Nat → Int32)) (fun x9 H locs ls => match x9 with | (v_164, v_165, v_166, g_167) => Rg 0 8 v_164 ∧ (SVI a v_166 v_165 ∧ ∀ j, j < cN v_164 → SPK a j (g_167 j)) ∧ va_P D vwCl [(ha, .inr (0, [.ref as, .ref ad, .int ac])), (as, .inl ((cs 0), 8, .inl g_167)), (ad, .inl ((cs 0), 72, .inl gc))] H ∧ va_D A [(ha, .inr (0, [.ref as, .ref ad, .int ac])), (as, .inl ((cs 0), 8, .inl g_167)), (ad, .inl ((cs 0), 72, .inl gc))] ∧ va_S A s.heap H locs ∧ lv_has ls 9 [(6, .int v_164), (5, .int v_165), (4, .int v_166), (3, .int x_1), (0, .ref ha), (1, .ref hl0), (2, .int a)]) (fun x9 => match x9 with | (v_164, v_165, v_166, g_167) => (8 - Int32.toInt v_164).toNat) 17 ?_ (0, 0, x_4, gs) H locs ls ⟨(Rg.wk (lo2 := 0) (hi2 := 8) (Rg.c (c := 0) (k := 0) rfl) (by decide)), ⟨SVI_0 e_5, fun j hj => absurd hj (Nat.not_lt_zero j)⟩, hP, hD, hS, lv_sub hl [0, 1, 2, 3, 4, 5, 6] rfl⟩
  rintro ⟨v_164, v_165, v_166, g_167⟩ H locs ls ⟨r_874, iv_875, hP, hD, hS, hl⟩ ih_873
  have hPo := hR.at hS
  refine lv_iload hx hb dX0_survey_17 (lv_at hl 0 rfl) ?_
  refine lv_aload_n hx hb dX0_survey_19 rfl (lv_at hl 5 rfl) ?_
  refine va_getN (D := D) (ci := 2) (v := .int lb) (C := "WrongHole$Lift") (T := TX2) (N := 19) hx hb hts (iq_RX2 _) hown hK hPo 0 rfl rfl 0 (by decide) (NN.f hN nq_2_30) (fun _ h9 => h9) rfl dX0_survey_20 ?_
  refine lv_icmp_ge (tgt := 115) hx hb dX0_survey_23 (by decide) (fun c_876 => ?_) (fun c_876 => ?_)
  · refine W.widen (k := 0) (n := 0) (Nat.le_of_ble_eq_true rfl) (Nat.le_of_ble_eq_true rfl) ?_
    have hP9 := hP.sub (ws' := [(ha, .inr (0, [.ref as, .ref ad, .int ac])), (as, .inl ((cs 0), 8, .inl g_167)), (ad, .inl ((cs 0), 72, .inl gc))]) [0, 1, 2] rfl
    have hD9 := hD.sub (ws' := [(ha, .inr (0, [.ref as, .ref ad, .int ac])), (as, .inl ((cs 0), 8, .inl g_167)), (ad, .inl ((cs 0), 72, .inl gc))]) [0, 1, 2] (by decide) rfl
    exact W.vret hx hb hr (fun t9 ht9 hW9 => ⟨⟨(), rfl, trivial, ⟨ac, g_167, gc, r_ac, (fun j hj => iv_875.2 j (Nat.lt_of_lt_of_le hj (le_cN c_876 r_lb r_874 (by decide)))), by rw [ht9]; exact hP9, hD9⟩⟩, hS.F ht9⟩) hS.2.2 dX0_survey_115
  · have r_877 : Rg 0 7 v_164 := Rg.lt_l (nle_lt c_876) r_874 r_lb (by decide)
    have r_878 : Rg 1 8 lb := Rg.lt_r (nle_lt c_876) r_874 r_lb (by decide)
    refine lv_iload hx hb dX0_survey_26 (lv_at hl 2 rfl) ?_
    refine lv_iload hx hb dX0_survey_28 (lv_at hl 2 rfl) ?_
    refine lv_ineg hx hb dX0_survey_30 ?_
    refine lv_topi (fun x_948 e_949 => ?_)
    refine lv_iand hx hb dX0_survey_31 ?_
    refine lv_topi (fun x_950 e_951 => ?_)
    refine lv_istore (lv' := [(7, .int x_950), (6, .int v_164), (5, .int v_165), (4, .int v_166), (3, .int x_1), (0, .ref ha), (1, .ref hl0), (2, .int a)]) hx hb dX0_survey_32 hl (by decide) rfl (fun ls hl => ?_)
    refine lv_iload_n hx hb dX0_survey_34 rfl (lv_at hl 4 rfl) ?_
    refine lv_iload hx hb dX0_survey_35 (lv_at hl 1 rfl) ?_
    refine lv_ishr hx hb dX0_survey_37 ?_
    refine lv_topi (fun x_952 e_953 => ?_)
    have r_954 : Rg 0 255 x_952 := Rg.shrn e_953 r_3
    refine lv_iconst (v := 1) hx hb dX0_survey_38 (by decide) ?_
    refine lv_iand hx hb dX0_survey_39 ?_
    refine lv_topi (fun x_955 e_956 => ?_)
    have r_957 : Rg 0 1 x_955 := Rg.and e_956 (Rg.c (c := 1) (k := 1) rfl) (by decide)
    refine w_cut (σ := (Int32) × (Int32) × (Nat → Int32)) (fun x9 H locs ls => match x9 with | (v_986, v_987, g_988) => (SVI a v_987 v_986 ∧ ∀ j, j < cN v_164 + 1 → SPK a j (g_988 j)) ∧ va_P D vwCl [(ha, .inr (0, [.ref as, .ref ad, .int ac])), (as, .inl ((cs 0), 8, .inl g_988)), (ad, .inl ((cs 0), 72, .inl gc))] H ∧ va_D A [(ha, .inr (0, [.ref as, .ref ad, .int ac])), (as, .inl ((cs 0), 8, .inl g_988)), (ad, .inl ((cs 0), 72, .inl gc))] ∧ va_S A s.heap H locs ∧ lv_has ls 9 [(7, .int x_950), (6, .int v_164), (5, .int v_986), (4, .int v_987), (3, .int x_1), (0, .ref ha), (1, .ref hl0), (2, .int a)]) 109 (fun x9 => match x9 with | (v_986, v_987, g_988) => []) ?_ (fun hj_989 => ?_)
    · rintro ⟨v_986, v_987, g_988⟩ H locs ls ⟨iv_990, hP, hD, hS, hl⟩
      have hPo := hR.at hS
      obtain ⟨x_991, e_992⟩ : ∃ z : Int32, z = v_164 + Int32.ofInt 1 := ⟨_, rfl⟩
      have r_993 : Rg 1 8 x_991 := Rg.add e_992 r_877 (Rg.c (c := Int32.ofInt 1) (k := 1) rfl) (by decide)
      refine lv_iinc (v := x_991) (lv' := [(6, .int x_991), (7, .int x_950), (5, .int v_986), (4, .int v_987), (3, .int x_1), (0, .ref ha), (1, .ref hl0), (2, .int a)]) hx hb dX0_survey_109 hl (k := 1) rfl (e_992.symm) (by decide) rfl (fun ls hl => ?_)
      refine lv_goto (tgt := 17) hx hb dX0_survey_112 (by decide) ?_
      exact ih_873 (x_991, v_986, v_987, g_988) _ _ _ ⟨(Rg.wk (lo2 := 0) (hi2 := 8) r_993 (by decide)), ⟨iv_990.1, by rw [(cN_add (k := 1) e_992 r_877 (Rg.c (c := Int32.ofInt 1) (k := 1) rfl) (by decide))]; exact iv_990.2⟩, hP, hD, hS, lv_sub hl [0, 2, 3, 4, 5, 6, 7] rfl⟩ (ms_up e_992 r_877 (Rg.c (c := Int32.ofInt 1) (k := 1) rfl) (by decide))
    · refine lv_if_eq (tgt := 70) hx hb dX0_survey_40 (by decide) (fun c_958 => ?_) (fun c_958 => ?_)
      · have r_959 : Rg 0 0 x_955 := Rg.eq_l c_958 r_957 (Rg.c (c := 0) (k := 0) rfl) (by decide)
        refine lv_iload hx hb dX0_survey_70 (lv_at hl 0 rfl) ?_
        refine w_cut (σ := (Int32)) (fun (v_998 : Int32) H locs ls => (v_998 = nI (ahF x_950)) ∧ va_P D vwCl [(ha, .inr (0, [.ref as, .ref ad, .int ac])), (as, .inl ((cs 0), 8, .inl g_167)), (ad, .inl ((cs 0), 72, .inl gc))] H ∧ va_D A [(ha, .inr (0, [.ref as, .ref ad, .int ac])), (as, .inl ((cs 0), 8, .inl g_167)), (ad, .inl ((cs 0), 72, .inl gc))] ∧ va_S A s.heap H locs ∧ lv_has ls 9 [(7, .int x_950), (6, .int v_164), (5, .int v_165), (4, .int v_166), (3, .int x_1), (0, .ref ha), (1, .ref hl0), (2, .int a)]) 85 (fun (v_998 : Int32) => [.int v_998]) ?_ (fun hj_999 => ?_)
        · rintro v_998 H locs ls ⟨iv_1000, hP, hD, hS, hl⟩
          have hPo := hR.at hS
          refine lv_istore (lv' := [(8, .int v_998), (7, .int x_950), (6, .int v_164), (5, .int v_165), (4, .int v_166), (3, .int x_1), (0, .ref ha), (1, .ref hl0), (2, .int a)]) hx hb dX0_survey_85 hl (by decide) rfl (fun ls hl => ?_)
          refine lv_aload_n hx hb dX0_survey_87 rfl (lv_at hl 6 rfl) ?_
          refine va_get (D := D) (ci := 0) (v := .ref as) (C := "WrongHole$Acts") (T := TX0) (N := 3) hx hb hts (iq_RX0 _) hown hK hP 0 rfl rfl 0 (by decide) (hT _ qq_1_162) (fun _ h9 => h9) rfl dX0_survey_88 ?_
          refine lv_iload hx hb dX0_survey_91 (lv_at hl 2 rfl) ?_
          refine lv_iload hx hb dX0_survey_93 (lv_at hl 0 rfl) ?_
          refine lv_iload hx hb dX0_survey_95 (lv_at hl 3 rfl) ?_
          refine lv_iconst (v := (-1)) hx hb dX0_survey_97 (by decide) ?_
          refine lv_ixor hx hb dX0_survey_98 ?_
          refine lv_topi (fun x_1001 e_1002 => ?_)
          refine lv_iand hx hb dX0_survey_99 ?_
          refine lv_topi (fun x_1003 e_1004 => ?_)
          refine lv_aload_n hx hb dX0_survey_100 rfl (lv_at hl 7 rfl) ?_
          refine va_getN (D := D) (ci := 2) (v := .ref l5) (C := "WrongHole$Lift") (T := TX2) (N := 19) hx hb hts (iq_RX2 _) hown hK hPo 0 rfl rfl 16 (by decide) (NN.f hN nq_2_80) (fun _ h9 => h9) rfl dX0_survey_101 ?_
          refine lv_iload hx hb dX0_survey_104 (lv_at hl 2 rfl) ?_
          have hi_1005 : vp_in v_164 8 := Rg.in r_877 (by decide)
          refine va_iald hx hb hK hPo 1 0 rfl rfl hi_1005 dX0_survey_106 ?_
          refine lv_topi (fun x_1006 e_1007 => ?_)
          refine lv_iand hx hb dX0_survey_107 ?_
          refine lv_topi (fun x_1008 e_1009 => ?_)
          have hi_1010 : vp_in v_164 8 := Rg.in r_877 (by decide)
          refine va_iast hx hb hK hP hD hS 1 0 rfl rfl hi_1010 dX0_survey_108 (fun H locs hP hD hS => ?_)
          obtain ⟨g_1011, rb_1012, hP, hD⟩ : ∃ g_1011 : Nat → Int32, (∀ j, j < cN v_164 + 1 → SPK a j (g_1011 j)) ∧ va_P D vwCl [(ha, .inr (0, [.ref as, .ref ad, .int ac])), (as, .inl ((cs 0), 8, .inl g_1011)), (ad, .inl ((cs 0), 72, .inl gc))] H ∧ va_D A [(ha, .inr (0, [.ref as, .ref ad, .int ac])), (as, .inl ((cs 0), 8, .inl g_1011)), (ad, .inl ((cs 0), 72, .inl gc))] := ⟨_, sp_updS iv_875.2 (sv_C iv_875.1 e_949 e_951 iv_1000 e_1002 e_1004 e_1009 (by have h9 := (bt_0 e_956 e_953 r_3 r_877 (by decide) c_958); rw [c_in e_2 r_a] at h9; exact h9)), hP, hD⟩
          have hPo := hR.at hS
          exact hj_989 (v_165, v_166, g_1011) _ _ _ ⟨⟨iv_875.1, rb_1012⟩, hP, hD, hS, lv_sub hl [1, 2, 3, 4, 5, 6, 7, 8] rfl⟩
        · refine lv_if_ne (tgt := 81) hx hb dX0_survey_72 (by decide) (fun c_994 => ?_) (fun c_994 => ?_)
          · refine lv_iload hx hb dX0_survey_81 (lv_at hl 0 rfl) ?_
            refine lv_iconst (v := 1) hx hb dX0_survey_83 (by decide) ?_
            refine lv_isub hx hb dX0_survey_84 ?_
            refine lv_topi (fun x_1013 e_1014 => ?_)
            exact hj_999 x_1013 _ _ _ ⟨(ah_1 c_994 (sv_nx iv_875.1 e_949 e_951) e_1014), hP, hD, hS, lv_sub hl [0, 1, 2, 3, 4, 5, 6, 7] rfl⟩
          · have r_995 : Rg 0 0 x_950 := Rg.eq_l c_994 (Rg.top x_950) (Rg.c (c := 0) (k := 0) rfl) (by decide)
            refine lv_sipush (v := 255) hx hb dX0_survey_75 (by decide) ?_
            refine lv_goto (tgt := 85) hx hb dX0_survey_78 (by decide) ?_
            exact hj_999 255 _ _ _ ⟨(ah_0 c_994), hP, hD, hS, lv_sub hl [0, 1, 2, 3, 4, 5, 6, 7] rfl⟩
      · have r_960 : Rg 1 1 x_955 := Rg.ne c_958 r_957 (Rg.c (c := 0) (k := 0) rfl) (by decide)
        refine lv_aload_n hx hb dX0_survey_43 rfl (lv_at hl 5 rfl) ?_
        refine va_get (D := D) (ci := 0) (v := .ref as) (C := "WrongHole$Acts") (T := TX0) (N := 3) hx hb hts (iq_RX0 _) hown hK hP 0 rfl rfl 0 (by decide) (hT _ qq_1_162) (fun _ h9 => h9) rfl dX0_survey_44 ?_
        refine lv_iload hx hb dX0_survey_47 (lv_at hl 1 rfl) ?_
        refine lv_iload hx hb dX0_survey_49 (lv_at hl 0 rfl) ?_
        have hi_1015 : vp_in v_164 8 := Rg.in r_877 (by decide)
        refine va_iast hx hb hK hP hD hS 1 0 rfl rfl hi_1015 dX0_survey_51 (fun H locs hP hD hS => ?_)
        obtain ⟨g_1016, rb_1017, hP, hD⟩ : ∃ g_1016 : Nat → Int32, (∀ j, j < cN v_164 + 1 → SPK a j (g_1016 j)) ∧ va_P D vwCl [(ha, .inr (0, [.ref as, .ref ad, .int ac])), (as, .inl ((cs 0), 8, .inl g_1016)), (ad, .inl ((cs 0), 72, .inl gc))] H ∧ va_D A [(ha, .inr (0, [.ref as, .ref ad, .int ac])), (as, .inl ((cs 0), 8, .inl g_1016)), (ad, .inl ((cs 0), 72, .inl gc))] := ⟨_, sp_updS iv_875.2 (sv_A iv_875.1 e_949 e_951 (by have h9 := (bt_1 e_956 e_953 r_3 r_877 (by decide) c_958); rw [c_in e_2 r_a] at h9; exact h9)), hP, hD⟩
        have hPo := hR.at hS
        refine lv_iload hx hb dX0_survey_52 (lv_at hl 3 rfl) ?_
        refine lv_iload hx hb dX0_survey_54 (lv_at hl 0 rfl) ?_
        refine lv_ixor hx hb dX0_survey_56 ?_
        refine lv_topi (fun x_1018 e_1019 => ?_)
        refine lv_istore (lv' := [(4, .int x_1018), (7, .int x_950), (6, .int v_164), (5, .int v_165), (3, .int x_1), (0, .ref ha), (1, .ref hl0), (2, .int a)]) hx hb dX0_survey_57 hl (by decide) rfl (fun ls hl => ?_)
        refine lv_iload hx hb dX0_survey_59 (lv_at hl 1 rfl) ?_
        refine lv_iconst (v := 1) hx hb dX0_survey_61 (by decide) ?_
        refine lv_ishl hx hb dX0_survey_62 ?_
        refine lv_topi (fun x_1020 e_1021 => ?_)
        refine lv_iconst (v := 1) hx hb dX0_survey_63 (by decide) ?_
        refine lv_isub hx hb dX0_survey_64 ?_
        refine lv_topi (fun x_1022 e_1023 => ?_)
        refine lv_istore (lv' := [(5, .int x_1022), (4, .int x_1018), (7, .int x_950), (6, .int v_164), (3, .int x_1), (0, .ref ha), (1, .ref hl0), (2, .int a)]) hx hb dX0_survey_65 hl (by decide) rfl (fun ls hl => ?_)
        refine lv_goto (tgt := 109) hx hb dX0_survey_67 (by decide) ?_
        exact hj_989 (x_1022, x_1018, g_1016) _ _ _ ⟨⟨sv_B iv_875.1 e_949 e_951 e_1019 e_1021 e_1023, rb_1017⟩, hP, hD, hS, lv_sub hl [2, 3, 0, 1, 4, 5, 6, 7] rfl⟩
set_option maxHeartbeats 4000000 in
set_option maxRecDepth 100000 in
theorem c_Acts_add_0_x (l : Launch) (D : va_G) (cs : Nat → ClassId) (X : XX) (sz : Nat) (ha : Nat) (as : Nat) (ad : Nat) (ac : Int32) (gs : Nat → Int32) (gc : Nat → Int32) (a : Int32) (b : Int32) (h : Int32) (r_ac : Rg 0 72 ac) (r_b : Rg 0 7 b) (hor : ∀ j, j < cN ac → OKC a (gc j)) (hsp : SPK a (cN b) h) : Met l yX0_add (Cond.code yX0_add cX0_add 5 none :: TB) (RM 1 0 0) (va_Pc [.ref ha, .int 0, .int b, .int h] (PRE D cs X [(ha, .inr (0, [.ref as, .ref ad, .int ac])), (as, .inl ((cs 0), 8, .inl gs)), (ad, .inl ((cs 0), 72, .inl gc))] [] sz)) (va_Qv (S := Unit) (fun _ => True) (fun _ t => ∃ (ac2 : Int32), ∃ (gc2 : Nat → Int32), Rg 0 72 ac2 ∧ (∀ j, j < cN ac2 → OKC a (gc2 j)) ∧ va_P D vwCl [(ha, .inr (0, [.ref as, .ref ad, .int ac2])), (as, .inl ((cs 0), 8, .inl gs)), (ad, .inl ((cs 0), 72, .inl gc2))] t.heap ∧ va_D (va_A [(ha, .inr (0, [.ref as, .ref ad, .int ac])), (as, .inl ((cs 0), 8, .inl gs)), (ad, .inl ((cs 0), 72, .inl gc))] sz) [(ha, .inr (0, [.ref as, .ref ad, .int ac2])), (as, .inl ((cs 0), 8, .inl gs)), (ad, .inl ((cs 0), 72, .inl gc2))]) (va_A [(ha, .inr (0, [.ref as, .ref ad, .int ac])), (as, .inl ((cs 0), 8, .inl gs)), (ad, .inl ((cs 0), 72, .inl gc))] sz)) 0 0 (va_A [(ha, .inr (0, [.ref as, .ref ad, .int ac])), (as, .inl ((cs 0), 8, .inl gs)), (ad, .inl ((cs 0), 72, .inl gc))] sz) := by
  refine MET (y := yX0_add) (cc := cX0_add) (maxL := 5) (ret := none) (d := 1) (mc := 0) (ms := 0) (D := D) (cs := cs) (X := X) (ws := [(ha, .inr (0, [.ref as, .ref ad, .int ac])), (as, .inl ((cs 0), 8, .inl gs)), (ad, .inl ((cs 0), 72, .inl gc))]) (wo := []) (sz := sz) (av := [.ref ha, .int 0, .int b, .int h]) (Qc := fun A => va_Qv (S := Unit) (fun _ => True) (fun _ t => ∃ (ac2 : Int32), ∃ (gc2 : Nat → Int32), Rg 0 72 ac2 ∧ (∀ j, j < cN ac2 → OKC a (gc2 j)) ∧ va_P D vwCl [(ha, .inr (0, [.ref as, .ref ad, .int ac2])), (as, .inl ((cs 0), 8, .inl gs)), (ad, .inl ((cs 0), 72, .inl gc2))] t.heap ∧ va_D A [(ha, .inr (0, [.ref as, .ref ad, .int ac2])), (as, .inl ((cs 0), 8, .inl gs)), (ad, .inl ((cs 0), 72, .inl gc2))]) A) (by decide) (Nat.le_of_ble_eq_true rfl) ?_
  intro p e s m below meth c ls A H hHe hx hb hr hml hown hts hlocks hnm hP hK hD hA hS hN hR hX hXs hl
  have hD : va_D A [(ha, .inr (0, [.ref as, .ref ad, .int ac])), (as, .inl ((cs 0), 8, .inl gs)), (ad, .inl ((cs 0), 72, .inl gc))] := hD
  obtain ⟨locs, hlc⟩ : ∃ z : List Loc, z = [] := ⟨_, rfl⟩
  rw [← hlc] at hS ⊢
  have hown : s.vm.findClass "WrongHole$Acts" = some m.cls := hown
  have hT : ∀ w ∈ TB, w.before ([.ref ha, .int 0, .int b, .int h] : List Value).toArray s = true := fun w h => hts w (List.mem_cons_of_mem _ h)
  have hl : lv_has ls 5 [(0, .ref ha), (1, .int 0), (2, .int b), (3, .int h)] := hl
  have hP : va_P D vwCl [(ha, .inr (0, [.ref as, .ref ad, .int ac])), (as, .inl ((cs 0), 8, .inl gs)), (ad, .inl ((cs 0), 72, .inl gc))] H := hP
  refine lv_iconst (v := 0) hx hb dX0_add_0 (by decide) ?_
  refine lv_istore (lv' := [(4, .int 0), (0, .ref ha), (1, .int 0), (2, .int b), (3, .int h)]) hx hb dX0_add_1 hl (by decide) rfl (fun ls hl => ?_)
  refine w_wh (σ := (Int32) × (Int32) × (Nat → Int32)) (fun x9 H locs ls => match x9 with | (v_59, v_60, g_61) => Rg 0 8 v_59 ∧ Rg 0 72 v_60 ∧ (∀ j, j < cN v_60 → OKC a (g_61 j)) ∧ va_P D vwCl [(ha, .inr (0, [.ref as, .ref ad, .int v_60])), (as, .inl ((cs 0), 8, .inl gs)), (ad, .inl ((cs 0), 72, .inl g_61))] H ∧ va_D A [(ha, .inr (0, [.ref as, .ref ad, .int v_60])), (as, .inl ((cs 0), 8, .inl gs)), (ad, .inl ((cs 0), 72, .inl g_61))] ∧ va_S A s.heap H locs ∧ lv_has ls 5 [(4, .int v_59), (0, .ref ha), (1, .int 0), (2, .int b), (3, .int h)]) (fun x9 => match x9 with | (v_59, v_60, g_61) => (8 - Int32.toInt v_59).toNat) 3 ?_ (0, ac, gc) H locs ls ⟨(Rg.wk (lo2 := 0) (hi2 := 8) (Rg.c (c := 0) (k := 0) rfl) (by decide)), r_ac, hor, hP, hD, hS, lv_sub hl [0, 1, 2, 3, 4] rfl⟩
  rintro ⟨v_59, v_60, g_61⟩ H locs ls ⟨r_459, r_460, iv_461, hP, hD, hS, hl⟩ ih_458
  refine lv_iload hx hb dX0_add_3 (lv_at hl 0 rfl) ?_
  refine lv_bipush (v := 8) hx hb dX0_add_5 (by decide) ?_
  refine lv_icmp_ge (tgt := 60) hx hb dX0_add_7 (by decide) (fun c_462 => ?_) (fun c_462 => ?_)
  · have r_463 : Rg 8 8 v_59 := Rg.le_r c_462 (Rg.c (c := 8) (k := 8) rfl) r_459 (by decide)
    refine W.widen (k := 0) (n := 0) (Nat.le_of_ble_eq_true rfl) (Nat.le_of_ble_eq_true rfl) ?_
    have hP9 := hP.sub (ws' := [(ha, .inr (0, [.ref as, .ref ad, .int v_60])), (as, .inl ((cs 0), 8, .inl gs)), (ad, .inl ((cs 0), 72, .inl g_61))]) [0, 1, 2] rfl
    have hD9 := hD.sub (ws' := [(ha, .inr (0, [.ref as, .ref ad, .int v_60])), (as, .inl ((cs 0), 8, .inl gs)), (ad, .inl ((cs 0), 72, .inl g_61))]) [0, 1, 2] (by decide) rfl
    exact W.vret hx hb hr (fun t9 ht9 hW9 => ⟨⟨(), rfl, trivial, ⟨v_60, g_61, r_460, iv_461, by rw [ht9]; exact hP9, hD9⟩⟩, hS.F ht9⟩) hS.2.2 dX0_add_60
  · have r_464 : Rg 0 7 v_59 := Rg.lt_l (nle_lt c_462) r_459 (Rg.c (c := 8) (k := 8) rfl) (by decide)
    refine lv_aload_n hx hb dX0_add_10 rfl (lv_at hl 1 rfl) ?_
    refine va_get (D := D) (ci := 0) (v := .int v_60) (C := "WrongHole$Acts") (T := TX0) (N := 3) hx hb hts (iq_RX0 _) hown hK hP 0 rfl rfl 2 (by decide) (hT _ qq_1_167) (fun _ h9 => h9) rfl dX0_add_11 ?_
    refine lv_bipush (v := 72) hx hb dX0_add_14 (by decide) ?_
    refine lv_icmp_ge (tgt := 60) hx hb dX0_add_16 (by decide) (fun c_498 => ?_) (fun c_498 => ?_)
    · have r_499 : Rg 72 72 v_60 := Rg.le_r c_498 (Rg.c (c := 72) (k := 72) rfl) r_460 (by decide)
      refine W.widen (k := 0) (n := 0) (Nat.le_of_ble_eq_true rfl) (Nat.le_of_ble_eq_true rfl) ?_
      have hP9 := hP.sub (ws' := [(ha, .inr (0, [.ref as, .ref ad, .int v_60])), (as, .inl ((cs 0), 8, .inl gs)), (ad, .inl ((cs 0), 72, .inl g_61))]) [0, 1, 2] rfl
      have hD9 := hD.sub (ws' := [(ha, .inr (0, [.ref as, .ref ad, .int v_60])), (as, .inl ((cs 0), 8, .inl gs)), (ad, .inl ((cs 0), 72, .inl g_61))]) [0, 1, 2] (by decide) rfl
      exact W.vret hx hb hr (fun t9 ht9 hW9 => ⟨⟨(), rfl, trivial, ⟨v_60, g_61, (Rg.wk (lo2 := 0) (hi2 := 72) r_499 (by decide)), iv_461, by rw [ht9]; exact hP9, hD9⟩⟩, hS.F ht9⟩) hS.2.2 dX0_add_60
    · have r_500 : Rg 0 71 v_60 := Rg.lt_l (nle_lt c_498) r_460 (Rg.c (c := 72) (k := 72) rfl) (by decide)
      refine lv_iload_n hx hb dX0_add_19 rfl (lv_at hl 4 rfl) ?_
      refine lv_iload hx hb dX0_add_20 (lv_at hl 0 rfl) ?_
      refine lv_ishr hx hb dX0_add_22 ?_
      refine lv_topi (fun x_531 e_532 => ?_)
      have r_533 : Rg 0 255 x_531 := Rg.shrn e_532 hsp.1
      refine lv_iconst (v := 1) hx hb dX0_add_23 (by decide) ?_
      refine lv_iand hx hb dX0_add_24 ?_
      refine lv_topi (fun x_534 e_535 => ?_)
      have r_536 : Rg 0 1 x_534 := Rg.and e_535 (Rg.c (c := 1) (k := 1) rfl) (by decide)
      refine w_cut (σ := (Int32) × (Nat → Int32)) (fun x9 H locs ls => match x9 with | (v_548, g_549) => Rg 0 72 v_548 ∧ (∀ j, j < cN v_548 → OKC a (g_549 j)) ∧ va_P D vwCl [(ha, .inr (0, [.ref as, .ref ad, .int v_548])), (as, .inl ((cs 0), 8, .inl gs)), (ad, .inl ((cs 0), 72, .inl g_549))] H ∧ va_D A [(ha, .inr (0, [.ref as, .ref ad, .int v_548])), (as, .inl ((cs 0), 8, .inl gs)), (ad, .inl ((cs 0), 72, .inl g_549))] ∧ va_S A s.heap H locs ∧ lv_has ls 5 [(4, .int v_59), (0, .ref ha), (1, .int 0), (2, .int b), (3, .int h)]) 54 (fun x9 => match x9 with | (v_548, g_549) => []) ?_ (fun hj_550 => ?_)
      · rintro ⟨v_548, g_549⟩ H locs ls ⟨r_551, iv_552, hP, hD, hS, hl⟩
        obtain ⟨x_553, e_554⟩ : ∃ z : Int32, z = v_59 + Int32.ofInt 1 := ⟨_, rfl⟩
        have r_555 : Rg 1 8 x_553 := Rg.add e_554 r_464 (Rg.c (c := Int32.ofInt 1) (k := 1) rfl) (by decide)
        refine lv_iinc (v := x_553) (lv' := [(4, .int x_553), (0, .ref ha), (1, .int 0), (2, .int b), (3, .int h)]) hx hb dX0_add_54 hl (k := 0) rfl (e_554.symm) (by decide) rfl (fun ls hl => ?_)
        refine lv_goto (tgt := 3) hx hb dX0_add_57 (by decide) ?_
        exact ih_458 (x_553, v_548, g_549) _ _ _ ⟨(Rg.wk (lo2 := 0) (hi2 := 8) r_555 (by decide)), r_551, iv_552, hP, hD, hS, lv_sub hl [0, 1, 2, 3, 4] rfl⟩ (ms_up e_554 r_464 (Rg.c (c := Int32.ofInt 1) (k := 1) rfl) (by decide))
      · refine lv_if_eq (tgt := 54) hx hb dX0_add_25 (by decide) (fun c_537 => ?_) (fun c_537 => ?_)
        · have r_538 : Rg 0 0 x_534 := Rg.eq_l c_537 r_536 (Rg.c (c := 0) (k := 0) rfl) (by decide)
          exact hj_550 (v_60, g_61) _ _ _ ⟨(Rg.wk (lo2 := 0) (hi2 := 72) r_500 (by decide)), iv_461, hP, hD, hS, lv_sub hl [0, 1, 2, 3, 4] rfl⟩
        · have r_539 : Rg 1 1 x_534 := Rg.ne c_537 r_536 (Rg.c (c := 0) (k := 0) rfl) (by decide)
          refine lv_aload_n hx hb dX0_add_28 rfl (lv_at hl 1 rfl) ?_
          refine va_get (D := D) (ci := 0) (v := .ref ad) (C := "WrongHole$Acts") (T := TX0) (N := 3) hx hb hts (iq_RX0 _) hown hK hP 0 rfl rfl 1 (by decide) (hT _ qq_1_164) (fun _ h9 => h9) rfl dX0_add_29 ?_
          refine lv_aload_n hx hb dX0_add_32 rfl (lv_at hl 1 rfl) ?_
          refine va_get (D := D) (ci := 0) (v := .int v_60) (C := "WrongHole$Acts") (T := TX0) (N := 3) hx hb hts (iq_RX0 _) hown hK hP 0 rfl rfl 2 (by decide) (hT _ qq_1_167) (fun _ h9 => h9) rfl dX0_add_33 ?_
          refine lv_iload_n hx hb dX0_add_36 rfl (lv_at hl 2 rfl) ?_
          refine lv_iload_n hx hb dX0_add_37 rfl (lv_at hl 3 rfl) ?_
          refine lv_iload hx hb dX0_add_38 (lv_at hl 0 rfl) ?_
          have hPc := va_P.sub (ws' := []) hP [] rfl
          refine cl_V (W.runS (As := [.int 0, .int b, .int v_59]) (rest := [.int v_60, .ref ad]) ⟨hx, hb, hml, hown, hts⟩ (c_Rows_actOf_0 l D cs b v_59 r_b r_464) ⟨callB_of 3 hts (gd_C qq_3_33) rfl rfl rfl (hT _ qq_1_16) (hT _ qq_4_76) (by decide +kernel) (rm_R rfl rfl), (hT _ qq_3_32)⟩ (pq_S hPc hK hN) rfl rfl hl.1 rfl (lv_room (Nat.le_of_ble_eq_true rfl)) dX0_add_40 ⟨Nat.le_of_ble_eq_true rfl, Nat.le_of_ble_eq_true rfl⟩) ?_
          refine lv_topi (fun x_556 e_557 => ?_)
          have r_558 : Rg 0 127 x_556 := Rg.of e_557 (act_rg (d := 0) (by decide) r_b r_464)
          have hi_559 : vp_in v_60 72 := Rg.in r_500 (by decide)
          refine va_iast hx hb hK hP hD hS 2 0 rfl rfl hi_559 dX0_add_43 (fun H locs hP hD hS => ?_)
          obtain ⟨g_560, rb_561, hP, hD⟩ : ∃ g_560 : Nat → Int32, (∀ j, j < cN v_60 + 1 → OKC a (g_560 j)) ∧ va_P D vwCl [(ha, .inr (0, [.ref as, .ref ad, .int v_60])), (as, .inl ((cs 0), 8, .inl gs)), (ad, .inl ((cs 0), 72, .inl g_560))] H ∧ va_D A [(ha, .inr (0, [.ref as, .ref ad, .int v_60])), (as, .inl ((cs 0), 8, .inl gs)), (ad, .inl ((cs 0), 72, .inl g_560))] := ⟨_, ok_upd iv_461 (okc_of (d := 0) (by decide) e_557 r_b r_464 (by rw [hsp.2 (cN v_59) (cN_lt r_464 (by decide)) (bt_1 e_535 e_532 hsp.1 r_464 (by decide) c_537)])), hP, hD⟩
          refine lv_aload_n hx hb dX0_add_44 rfl (lv_at hl 1 rfl) ?_
          refine lv_dup hx hb dX0_add_45 rfl ?_
          refine va_get (D := D) (ci := 0) (v := .int v_60) (C := "WrongHole$Acts") (T := TX0) (N := 3) hx hb hts (iq_RX0 _) hown hK hP 0 rfl rfl 2 (by decide) (hT _ qq_1_167) (fun _ h9 => h9) rfl dX0_add_46 ?_
          refine lv_iconst (v := 1) hx hb dX0_add_49 (by decide) ?_
          refine lv_iadd hx hb dX0_add_50 ?_
          refine lv_topi (fun x_562 e_563 => ?_)
          have r_564 : Rg 1 72 x_562 := Rg.add e_563 r_500 (Rg.c (c := 1) (k := 1) rfl) (by decide)
          refine va_put (D := D) (ci := 0) (v := .int x_562) (ty := .int) (C := "WrongHole$Acts") (T := TX0) (N := 3) hx hb hts (iq_RX0 _) tyX0 tyX0_ok nmX0 hown hK hP hD hS 0 rfl rfl 2 (by decide) (hT _ qq_1_167) (fun _ h9 => h9) rfl (by decide +kernel) rfl rfl (Nat.le_of_ble_eq_true rfl) dX0_add_51 (fun H locs hP hD hS => ?_)
          have hP : va_P D vwCl [(ha, .inr (0, [.ref as, .ref ad, .int x_562])), (as, .inl ((cs 0), 8, .inl gs)), (ad, .inl ((cs 0), 72, .inl g_560))] H := hP
          have hD : va_D A [(ha, .inr (0, [.ref as, .ref ad, .int x_562])), (as, .inl ((cs 0), 8, .inl gs)), (ad, .inl ((cs 0), 72, .inl g_560))] := hD
          exact hj_550 (x_562, g_560) _ _ _ ⟨(Rg.wk (lo2 := 0) (hi2 := 72) r_564 (by decide)), (by rw [cN_add (k := 1) e_563 r_500 (Rg.c (c := 1) (k := 1) rfl) (by decide)]; exact rb_561), hP, hD, hS, lv_sub hl [0, 1, 2, 3, 4] rfl⟩
set_option maxHeartbeats 4000000 in
set_option maxRecDepth 100000 in
theorem c_Acts_add_1_x (l : Launch) (D : va_G) (cs : Nat → ClassId) (X : XX) (sz : Nat) (ha : Nat) (as : Nat) (ad : Nat) (ac : Int32) (gs : Nat → Int32) (gc : Nat → Int32) (a : Int32) (b : Int32) (h : Int32) (r_ac : Rg 0 72 ac) (r_b : Rg 0 7 b) (hor : ∀ j, j < cN ac → OKC a (gc j)) (hsp : SPK a (cN b) h) : Met l yX0_add (Cond.code yX0_add cX0_add 5 none :: TB) (RM 1 0 0) (va_Pc [.ref ha, .int 1, .int b, .int h] (PRE D cs X [(ha, .inr (0, [.ref as, .ref ad, .int ac])), (as, .inl ((cs 0), 8, .inl gs)), (ad, .inl ((cs 0), 72, .inl gc))] [] sz)) (va_Qv (S := Unit) (fun _ => True) (fun _ t => ∃ (ac2 : Int32), ∃ (gc2 : Nat → Int32), Rg 0 72 ac2 ∧ (∀ j, j < cN ac2 → OKC a (gc2 j)) ∧ va_P D vwCl [(ha, .inr (0, [.ref as, .ref ad, .int ac2])), (as, .inl ((cs 0), 8, .inl gs)), (ad, .inl ((cs 0), 72, .inl gc2))] t.heap ∧ va_D (va_A [(ha, .inr (0, [.ref as, .ref ad, .int ac])), (as, .inl ((cs 0), 8, .inl gs)), (ad, .inl ((cs 0), 72, .inl gc))] sz) [(ha, .inr (0, [.ref as, .ref ad, .int ac2])), (as, .inl ((cs 0), 8, .inl gs)), (ad, .inl ((cs 0), 72, .inl gc2))]) (va_A [(ha, .inr (0, [.ref as, .ref ad, .int ac])), (as, .inl ((cs 0), 8, .inl gs)), (ad, .inl ((cs 0), 72, .inl gc))] sz)) 0 0 (va_A [(ha, .inr (0, [.ref as, .ref ad, .int ac])), (as, .inl ((cs 0), 8, .inl gs)), (ad, .inl ((cs 0), 72, .inl gc))] sz) := by
  refine MET (y := yX0_add) (cc := cX0_add) (maxL := 5) (ret := none) (d := 1) (mc := 0) (ms := 0) (D := D) (cs := cs) (X := X) (ws := [(ha, .inr (0, [.ref as, .ref ad, .int ac])), (as, .inl ((cs 0), 8, .inl gs)), (ad, .inl ((cs 0), 72, .inl gc))]) (wo := []) (sz := sz) (av := [.ref ha, .int 1, .int b, .int h]) (Qc := fun A => va_Qv (S := Unit) (fun _ => True) (fun _ t => ∃ (ac2 : Int32), ∃ (gc2 : Nat → Int32), Rg 0 72 ac2 ∧ (∀ j, j < cN ac2 → OKC a (gc2 j)) ∧ va_P D vwCl [(ha, .inr (0, [.ref as, .ref ad, .int ac2])), (as, .inl ((cs 0), 8, .inl gs)), (ad, .inl ((cs 0), 72, .inl gc2))] t.heap ∧ va_D A [(ha, .inr (0, [.ref as, .ref ad, .int ac2])), (as, .inl ((cs 0), 8, .inl gs)), (ad, .inl ((cs 0), 72, .inl gc2))]) A) (by decide) (Nat.le_of_ble_eq_true rfl) ?_
  intro p e s m below meth c ls A H hHe hx hb hr hml hown hts hlocks hnm hP hK hD hA hS hN hR hX hXs hl
  have hD : va_D A [(ha, .inr (0, [.ref as, .ref ad, .int ac])), (as, .inl ((cs 0), 8, .inl gs)), (ad, .inl ((cs 0), 72, .inl gc))] := hD
  obtain ⟨locs, hlc⟩ : ∃ z : List Loc, z = [] := ⟨_, rfl⟩
  rw [← hlc] at hS ⊢
  have hown : s.vm.findClass "WrongHole$Acts" = some m.cls := hown
  have hT : ∀ w ∈ TB, w.before ([.ref ha, .int 1, .int b, .int h] : List Value).toArray s = true := fun w h => hts w (List.mem_cons_of_mem _ h)
  have hl : lv_has ls 5 [(0, .ref ha), (1, .int 1), (2, .int b), (3, .int h)] := hl
  have hP : va_P D vwCl [(ha, .inr (0, [.ref as, .ref ad, .int ac])), (as, .inl ((cs 0), 8, .inl gs)), (ad, .inl ((cs 0), 72, .inl gc))] H := hP
  refine lv_iconst (v := 0) hx hb dX0_add_0 (by decide) ?_
  refine lv_istore (lv' := [(4, .int 0), (0, .ref ha), (1, .int 1), (2, .int b), (3, .int h)]) hx hb dX0_add_1 hl (by decide) rfl (fun ls hl => ?_)
  refine w_wh (σ := (Int32) × (Int32) × (Nat → Int32)) (fun x9 H locs ls => match x9 with | (v_59, v_60, g_61) => Rg 0 8 v_59 ∧ Rg 0 72 v_60 ∧ (∀ j, j < cN v_60 → OKC a (g_61 j)) ∧ va_P D vwCl [(ha, .inr (0, [.ref as, .ref ad, .int v_60])), (as, .inl ((cs 0), 8, .inl gs)), (ad, .inl ((cs 0), 72, .inl g_61))] H ∧ va_D A [(ha, .inr (0, [.ref as, .ref ad, .int v_60])), (as, .inl ((cs 0), 8, .inl gs)), (ad, .inl ((cs 0), 72, .inl g_61))] ∧ va_S A s.heap H locs ∧ lv_has ls 5 [(4, .int v_59), (0, .ref ha), (1, .int 1), (2, .int b), (3, .int h)]) (fun x9 => match x9 with | (v_59, v_60, g_61) => (8 - Int32.toInt v_59).toNat) 3 ?_ (0, ac, gc) H locs ls ⟨(Rg.wk (lo2 := 0) (hi2 := 8) (Rg.c (c := 0) (k := 0) rfl) (by decide)), r_ac, hor, hP, hD, hS, lv_sub hl [0, 1, 2, 3, 4] rfl⟩
  rintro ⟨v_59, v_60, g_61⟩ H locs ls ⟨r_459, r_460, iv_461, hP, hD, hS, hl⟩ ih_458
  refine lv_iload hx hb dX0_add_3 (lv_at hl 0 rfl) ?_
  refine lv_bipush (v := 8) hx hb dX0_add_5 (by decide) ?_
  refine lv_icmp_ge (tgt := 60) hx hb dX0_add_7 (by decide) (fun c_462 => ?_) (fun c_462 => ?_)
  · have r_463 : Rg 8 8 v_59 := Rg.le_r c_462 (Rg.c (c := 8) (k := 8) rfl) r_459 (by decide)
    refine W.widen (k := 0) (n := 0) (Nat.le_of_ble_eq_true rfl) (Nat.le_of_ble_eq_true rfl) ?_
    have hP9 := hP.sub (ws' := [(ha, .inr (0, [.ref as, .ref ad, .int v_60])), (as, .inl ((cs 0), 8, .inl gs)), (ad, .inl ((cs 0), 72, .inl g_61))]) [0, 1, 2] rfl
    have hD9 := hD.sub (ws' := [(ha, .inr (0, [.ref as, .ref ad, .int v_60])), (as, .inl ((cs 0), 8, .inl gs)), (ad, .inl ((cs 0), 72, .inl g_61))]) [0, 1, 2] (by decide) rfl
    exact W.vret hx hb hr (fun t9 ht9 hW9 => ⟨⟨(), rfl, trivial, ⟨v_60, g_61, r_460, iv_461, by rw [ht9]; exact hP9, hD9⟩⟩, hS.F ht9⟩) hS.2.2 dX0_add_60
  · have r_464 : Rg 0 7 v_59 := Rg.lt_l (nle_lt c_462) r_459 (Rg.c (c := 8) (k := 8) rfl) (by decide)
    refine lv_aload_n hx hb dX0_add_10 rfl (lv_at hl 1 rfl) ?_
    refine va_get (D := D) (ci := 0) (v := .int v_60) (C := "WrongHole$Acts") (T := TX0) (N := 3) hx hb hts (iq_RX0 _) hown hK hP 0 rfl rfl 2 (by decide) (hT _ qq_1_167) (fun _ h9 => h9) rfl dX0_add_11 ?_
    refine lv_bipush (v := 72) hx hb dX0_add_14 (by decide) ?_
    refine lv_icmp_ge (tgt := 60) hx hb dX0_add_16 (by decide) (fun c_498 => ?_) (fun c_498 => ?_)
    · have r_499 : Rg 72 72 v_60 := Rg.le_r c_498 (Rg.c (c := 72) (k := 72) rfl) r_460 (by decide)
      refine W.widen (k := 0) (n := 0) (Nat.le_of_ble_eq_true rfl) (Nat.le_of_ble_eq_true rfl) ?_
      have hP9 := hP.sub (ws' := [(ha, .inr (0, [.ref as, .ref ad, .int v_60])), (as, .inl ((cs 0), 8, .inl gs)), (ad, .inl ((cs 0), 72, .inl g_61))]) [0, 1, 2] rfl
      have hD9 := hD.sub (ws' := [(ha, .inr (0, [.ref as, .ref ad, .int v_60])), (as, .inl ((cs 0), 8, .inl gs)), (ad, .inl ((cs 0), 72, .inl g_61))]) [0, 1, 2] (by decide) rfl
      exact W.vret hx hb hr (fun t9 ht9 hW9 => ⟨⟨(), rfl, trivial, ⟨v_60, g_61, (Rg.wk (lo2 := 0) (hi2 := 72) r_499 (by decide)), iv_461, by rw [ht9]; exact hP9, hD9⟩⟩, hS.F ht9⟩) hS.2.2 dX0_add_60
    · have r_500 : Rg 0 71 v_60 := Rg.lt_l (nle_lt c_498) r_460 (Rg.c (c := 72) (k := 72) rfl) (by decide)
      refine lv_iload_n hx hb dX0_add_19 rfl (lv_at hl 4 rfl) ?_
      refine lv_iload hx hb dX0_add_20 (lv_at hl 0 rfl) ?_
      refine lv_ishr hx hb dX0_add_22 ?_
      refine lv_topi (fun x_531 e_532 => ?_)
      have r_533 : Rg 0 255 x_531 := Rg.shrn e_532 hsp.1
      refine lv_iconst (v := 1) hx hb dX0_add_23 (by decide) ?_
      refine lv_iand hx hb dX0_add_24 ?_
      refine lv_topi (fun x_534 e_535 => ?_)
      have r_536 : Rg 0 1 x_534 := Rg.and e_535 (Rg.c (c := 1) (k := 1) rfl) (by decide)
      refine w_cut (σ := (Int32) × (Nat → Int32)) (fun x9 H locs ls => match x9 with | (v_548, g_549) => Rg 0 72 v_548 ∧ (∀ j, j < cN v_548 → OKC a (g_549 j)) ∧ va_P D vwCl [(ha, .inr (0, [.ref as, .ref ad, .int v_548])), (as, .inl ((cs 0), 8, .inl gs)), (ad, .inl ((cs 0), 72, .inl g_549))] H ∧ va_D A [(ha, .inr (0, [.ref as, .ref ad, .int v_548])), (as, .inl ((cs 0), 8, .inl gs)), (ad, .inl ((cs 0), 72, .inl g_549))] ∧ va_S A s.heap H locs ∧ lv_has ls 5 [(4, .int v_59), (0, .ref ha), (1, .int 1), (2, .int b), (3, .int h)]) 54 (fun x9 => match x9 with | (v_548, g_549) => []) ?_ (fun hj_550 => ?_)
      · rintro ⟨v_548, g_549⟩ H locs ls ⟨r_551, iv_552, hP, hD, hS, hl⟩
        obtain ⟨x_553, e_554⟩ : ∃ z : Int32, z = v_59 + Int32.ofInt 1 := ⟨_, rfl⟩
        have r_555 : Rg 1 8 x_553 := Rg.add e_554 r_464 (Rg.c (c := Int32.ofInt 1) (k := 1) rfl) (by decide)
        refine lv_iinc (v := x_553) (lv' := [(4, .int x_553), (0, .ref ha), (1, .int 1), (2, .int b), (3, .int h)]) hx hb dX0_add_54 hl (k := 0) rfl (e_554.symm) (by decide) rfl (fun ls hl => ?_)
        refine lv_goto (tgt := 3) hx hb dX0_add_57 (by decide) ?_
        exact ih_458 (x_553, v_548, g_549) _ _ _ ⟨(Rg.wk (lo2 := 0) (hi2 := 8) r_555 (by decide)), r_551, iv_552, hP, hD, hS, lv_sub hl [0, 1, 2, 3, 4] rfl⟩ (ms_up e_554 r_464 (Rg.c (c := Int32.ofInt 1) (k := 1) rfl) (by decide))
      · refine lv_if_eq (tgt := 54) hx hb dX0_add_25 (by decide) (fun c_537 => ?_) (fun c_537 => ?_)
        · have r_538 : Rg 0 0 x_534 := Rg.eq_l c_537 r_536 (Rg.c (c := 0) (k := 0) rfl) (by decide)
          exact hj_550 (v_60, g_61) _ _ _ ⟨(Rg.wk (lo2 := 0) (hi2 := 72) r_500 (by decide)), iv_461, hP, hD, hS, lv_sub hl [0, 1, 2, 3, 4] rfl⟩
        · have r_539 : Rg 1 1 x_534 := Rg.ne c_537 r_536 (Rg.c (c := 0) (k := 0) rfl) (by decide)
          refine lv_aload_n hx hb dX0_add_28 rfl (lv_at hl 1 rfl) ?_
          refine va_get (D := D) (ci := 0) (v := .ref ad) (C := "WrongHole$Acts") (T := TX0) (N := 3) hx hb hts (iq_RX0 _) hown hK hP 0 rfl rfl 1 (by decide) (hT _ qq_1_164) (fun _ h9 => h9) rfl dX0_add_29 ?_
          refine lv_aload_n hx hb dX0_add_32 rfl (lv_at hl 1 rfl) ?_
          refine va_get (D := D) (ci := 0) (v := .int v_60) (C := "WrongHole$Acts") (T := TX0) (N := 3) hx hb hts (iq_RX0 _) hown hK hP 0 rfl rfl 2 (by decide) (hT _ qq_1_167) (fun _ h9 => h9) rfl dX0_add_33 ?_
          refine lv_iload_n hx hb dX0_add_36 rfl (lv_at hl 2 rfl) ?_
          refine lv_iload_n hx hb dX0_add_37 rfl (lv_at hl 3 rfl) ?_
          refine lv_iload hx hb dX0_add_38 (lv_at hl 0 rfl) ?_
          have hPc := va_P.sub (ws' := []) hP [] rfl
          refine cl_V (W.runS (As := [.int 1, .int b, .int v_59]) (rest := [.int v_60, .ref ad]) ⟨hx, hb, hml, hown, hts⟩ (c_Rows_actOf_1 l D cs b v_59 r_b r_464) ⟨callB_of 3 hts (gd_C qq_3_33) rfl rfl rfl (hT _ qq_1_16) (hT _ qq_4_76) (by decide +kernel) (rm_R rfl rfl), (hT _ qq_3_32)⟩ (pq_S hPc hK hN) rfl rfl hl.1 rfl (lv_room (Nat.le_of_ble_eq_true rfl)) dX0_add_40 ⟨Nat.le_of_ble_eq_true rfl, Nat.le_of_ble_eq_true rfl⟩) ?_
          refine lv_topi (fun x_556 e_557 => ?_)
          have r_558 : Rg 0 127 x_556 := Rg.of e_557 (act_rg (d := 1) (by decide) r_b r_464)
          have hi_559 : vp_in v_60 72 := Rg.in r_500 (by decide)
          refine va_iast hx hb hK hP hD hS 2 0 rfl rfl hi_559 dX0_add_43 (fun H locs hP hD hS => ?_)
          obtain ⟨g_560, rb_561, hP, hD⟩ : ∃ g_560 : Nat → Int32, (∀ j, j < cN v_60 + 1 → OKC a (g_560 j)) ∧ va_P D vwCl [(ha, .inr (0, [.ref as, .ref ad, .int v_60])), (as, .inl ((cs 0), 8, .inl gs)), (ad, .inl ((cs 0), 72, .inl g_560))] H ∧ va_D A [(ha, .inr (0, [.ref as, .ref ad, .int v_60])), (as, .inl ((cs 0), 8, .inl gs)), (ad, .inl ((cs 0), 72, .inl g_560))] := ⟨_, ok_upd iv_461 (okc_of (d := 1) (by decide) e_557 r_b r_464 (by rw [hsp.2 (cN v_59) (cN_lt r_464 (by decide)) (bt_1 e_535 e_532 hsp.1 r_464 (by decide) c_537)])), hP, hD⟩
          refine lv_aload_n hx hb dX0_add_44 rfl (lv_at hl 1 rfl) ?_
          refine lv_dup hx hb dX0_add_45 rfl ?_
          refine va_get (D := D) (ci := 0) (v := .int v_60) (C := "WrongHole$Acts") (T := TX0) (N := 3) hx hb hts (iq_RX0 _) hown hK hP 0 rfl rfl 2 (by decide) (hT _ qq_1_167) (fun _ h9 => h9) rfl dX0_add_46 ?_
          refine lv_iconst (v := 1) hx hb dX0_add_49 (by decide) ?_
          refine lv_iadd hx hb dX0_add_50 ?_
          refine lv_topi (fun x_562 e_563 => ?_)
          have r_564 : Rg 1 72 x_562 := Rg.add e_563 r_500 (Rg.c (c := 1) (k := 1) rfl) (by decide)
          refine va_put (D := D) (ci := 0) (v := .int x_562) (ty := .int) (C := "WrongHole$Acts") (T := TX0) (N := 3) hx hb hts (iq_RX0 _) tyX0 tyX0_ok nmX0 hown hK hP hD hS 0 rfl rfl 2 (by decide) (hT _ qq_1_167) (fun _ h9 => h9) rfl (by decide +kernel) rfl rfl (Nat.le_of_ble_eq_true rfl) dX0_add_51 (fun H locs hP hD hS => ?_)
          have hP : va_P D vwCl [(ha, .inr (0, [.ref as, .ref ad, .int x_562])), (as, .inl ((cs 0), 8, .inl gs)), (ad, .inl ((cs 0), 72, .inl g_560))] H := hP
          have hD : va_D A [(ha, .inr (0, [.ref as, .ref ad, .int x_562])), (as, .inl ((cs 0), 8, .inl gs)), (ad, .inl ((cs 0), 72, .inl g_560))] := hD
          exact hj_550 (x_562, g_560) _ _ _ ⟨(Rg.wk (lo2 := 0) (hi2 := 72) r_564 (by decide)), (by rw [cN_add (k := 1) e_563 r_500 (Rg.c (c := 1) (k := 1) rfl) (by decide)]; exact rb_561), hP, hD, hS, lv_sub hl [0, 1, 2, 3, 4] rfl⟩
