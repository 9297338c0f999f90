theorem dX11_feed_0 : decode cX11_feed 0 = .ok (.aload_n 0, 1) := by decide +kernel
theorem dX11_feed_1 : decode cX11_feed 1 = .ok (.getfield 10, 3) := by decide +kernel
theorem qq_1_202 : Cond.fieldLink "WrongHole" 10 "WrongHole" "tape" "LWrongHole$Text;" ∈ TB := mk_tb (ti_1 (List.mem_of_getElem? (i := 202) rfl)) rfl
theorem dX11_feed_4 : decode cX11_feed 4 = .ok (.bipush 20, 2) := by decide +kernel
theorem dX11_feed_6 : decode cX11_feed 6 = .ok (.invokevirtual 65, 3) := by decide +kernel
theorem qq_2_6 : Cond.code yX9_hasRoom cX9_hasRoom 2 (some .boolean) ∈ TB := mk_tb (ti_2 (List.mem_of_getElem? (i := 6) rfl)) rfl
theorem qq_2_3 : Cond.methodLink "WrongHole" 65 yX9_hasRoom ∈ TB := mk_tb (ti_2 (List.mem_of_getElem? (i := 3) rfl)) rfl
theorem qq_2_4 : Cond.instanceMethod yX9_hasRoom ∈ TB := mk_tb (ti_2 (List.mem_of_getElem? (i := 4) rfl)) rfl
theorem qq_2_5 : Cond.selects "WrongHole$Text" yX9_hasRoom yX9_hasRoom ∈ TB := mk_tb (ti_2 (List.mem_of_getElem? (i := 5) rfl)) rfl
theorem dX11_feed_9 : decode cX11_feed 9 = .ok (.ifCond .ne 5, 3) := by decide +kernel
theorem dX11_feed_14 : decode cX11_feed 14 = .ok (.aload_n 0, 1) := by decide +kernel
theorem dX11_feed_15 : decode cX11_feed 15 = .ok (.getfield 10, 3) := by decide +kernel
theorem dX11_feed_18 : decode cX11_feed 18 = .ok (.iload_n 1, 1) := by decide +kernel
theorem dX11_feed_19 : decode cX11_feed 19 = .ok (.invokevirtual 69, 3) := by decide +kernel
theorem qq_2_10 : Cond.code yX9_append cX9_append 3 none ∈ TB := mk_tb (ti_2 (List.mem_of_getElem? (i := 10) rfl)) rfl
theorem qq_2_7 : Cond.methodLink "WrongHole" 69 yX9_append ∈ TB := mk_tb (ti_2 (List.mem_of_getElem? (i := 7) rfl)) rfl
theorem qq_2_8 : Cond.instanceMethod yX9_append ∈ TB := mk_tb (ti_2 (List.mem_of_getElem? (i := 8) rfl)) rfl
theorem qq_2_9 : Cond.selects "WrongHole$Text" yX9_append yX9_append ∈ TB := mk_tb (ti_2 (List.mem_of_getElem? (i := 9) rfl)) rfl
theorem dX11_feed_22 : decode cX11_feed 22 = .ok (.aload_n 0, 1) := by decide +kernel
theorem dX11_feed_23 : decode cX11_feed 23 = .ok (.getfield 10, 3) := by decide +kernel
theorem dX11_feed_26 : decode cX11_feed 26 = .ok (.iload_n 2, 1) := by decide +kernel
theorem dX11_feed_27 : decode cX11_feed 27 = .ok (.invokevirtual 69, 3) := by decide +kernel
theorem dX11_feed_30 : decode cX11_feed 30 = .ok (.aload_n 0, 1) := by decide +kernel
theorem dX11_feed_31 : decode cX11_feed 31 = .ok (.getfield 10, 3) := by decide +kernel
theorem dX11_feed_34 : decode cX11_feed 34 = .ok (.iload_n 3, 1) := by decide +kernel
theorem dX11_feed_35 : decode cX11_feed 35 = .ok (.invokevirtual 69, 3) := by decide +kernel
theorem dX11_feed_38 : decode cX11_feed 38 = .ok (.aload_n 0, 1) := by decide +kernel
theorem dX11_feed_39 : decode cX11_feed 39 = .ok (.getfield 10, 3) := by decide +kernel
theorem dX11_feed_42 : decode cX11_feed 42 = .ok (.iload 4, 2) := by decide +kernel
theorem dX11_feed_44 : decode cX11_feed 44 = .ok (.invokevirtual 69, 3) := by decide +kernel
theorem dX11_feed_47 : decode cX11_feed 47 = .ok (.aload_n 0, 1) := by decide +kernel
theorem dX11_feed_48 : decode cX11_feed 48 = .ok (.getfield 10, 3) := by decide +kernel
theorem dX11_feed_51 : decode cX11_feed 51 = .ok (.iload 5, 2) := by decide +kernel
theorem dX11_feed_53 : decode cX11_feed 53 = .ok (.invokevirtual 69, 3) := by decide +kernel
theorem dX11_feed_56 : decode cX11_feed 56 = .ok (.aload_n 0, 1) := by decide +kernel
theorem dX11_feed_57 : decode cX11_feed 57 = .ok (.getfield 10, 3) := by decide +kernel
theorem dX11_feed_60 : decode cX11_feed 60 = .ok (.getfield 73, 3) := by decide +kernel
theorem nq_1_38 : Cond.fieldLinkNest "WrongHole" 73 "WrongHole$Text" "length" "I" "WrongHole" ∈ NW := mk_nw (ti_1 (List.mem_of_getElem? (i := 38) rfl)) rfl
theorem dX11_feed_63 : decode cX11_feed 63 = .ok (.ireturn, 1) := by decide +kernel
theorem dX11_feed_12 : decode cX11_feed 12 = .ok (.iconst (-1), 1) := by decide +kernel
theorem dX11_feed_13 : decode cX11_feed 13 = .ok (.ireturn, 1) := by decide +kernel
set_option maxHeartbeats 4000000 in
set_option maxRecDepth 100000 in
theorem c_W_feed (l : Launch) (D : va_G) (cs : Nat → ClassId) (X : XX) (sz : Nat) (ox : Nat) (ht : Nat) (hq : Nat) (og : Nat) (rc : Int32) (hw : Nat) (om : Nat) (hp : Nat) (ha : Nat) (hf : Nat) (hw0 : Nat) (qh : Option Nat) (qo : Option Nat) (hs : Nat) (tl : Int32) (tk : Int32) (tp : Int32) (tb : Int32) (tv : Int32) (tn : Int32) (tf : Int32) (gt : Nat → Int32) (a : Int32) (b : Int32) (h : Int32) (x : Int32) (y : Int32) (r_tl : Rg 0 400 tl) (r_tp : Rg 0 400 tp) (r_tb : Rg 0 400 tb) : Met l yX11_feed (Cond.code yX11_feed cX11_feed 6 (some .int) :: TB) (RM 1 0 0) (va_Pc [.ref ox, .int a, .int b, .int h, .int x, .int y] (PRE D cs X [(ox, .inr (9, [.ref ht, .ref hq, .ref og, .int rc, .ref hw, .ref om, .ref hp, .ref ha, .ref hf, .ref hw0, va_rf qh, va_rf qo])), (ht, .inr (7, [.ref hs, .int tl, .int tk, .int tp, .int tb, .int tv, .int tn, .int tf])), (hs, .inl ((cs 1), 400, .inl gt))] [] sz)) (va_Qi (S := Unit) (fun r _ => True) (fun _ t => ∃ (tl2 : Int32), ∃ (gt2 : Nat → Int32), Rg 0 400 tl2 ∧ va_P D vwCl [(ox, .inr (9, [.ref ht, .ref hq, .ref og, .int rc, .ref hw, .ref om, .ref hp, .ref ha, .ref hf, .ref hw0, va_rf qh, va_rf qo])), (ht, .inr (7, [.ref hs, .int tl2, .int tk, .int tp, .int tb, .int tv, .int tn, .int tf])), (hs, .inl ((cs 1), 400, .inl gt2))] t.heap ∧ va_D (va_A [(ox, .inr (9, [.ref ht, .ref hq, .ref og, .int rc, .ref hw, .ref om, .ref hp, .ref ha, .ref hf, .ref hw0, va_rf qh, va_rf qo])), (ht, .inr (7, [.ref hs, .int tl, .int tk, .int tp, .int tb, .int tv, .int tn, .int tf])), (hs, .inl ((cs 1), 400, .inl gt))] sz) [(ox, .inr (9, [.ref ht, .ref hq, .ref og, .int rc, .ref hw, .ref om, .ref hp, .ref ha, .ref hf, .ref hw0, va_rf qh, va_rf qo])), (ht, .inr (7, [.ref hs, .int tl2, .int tk, .int tp, .int tb, .int tv, .int tn, .int tf])), (hs, .inl ((cs 1), 400, .inl gt2))]) (va_A [(ox, .inr (9, [.ref ht, .ref hq, .ref og, .int rc, .ref hw, .ref om, .ref hp, .ref ha, .ref hf, .ref hw0, va_rf qh, va_rf qo])), (ht, .inr (7, [.ref hs, .int tl, .int tk, .int tp, .int tb, .int tv, .int tn, .int tf])), (hs, .inl ((cs 1), 400, .inl gt))] sz)) 0 0 (va_A [(ox, .inr (9, [.ref ht, .ref hq, .ref og, .int rc, .ref hw, .ref om, .ref hp, .ref ha, .ref hf, .ref hw0, va_rf qh, va_rf qo])), (ht, .inr (7, [.ref hs, .int tl, .int tk, .int tp, .int tb, .int tv, .int tn, .int tf])), (hs, .inl ((cs 1), 400, .inl gt))] sz) := by
  refine MET (y := yX11_feed) (cc := cX11_feed) (maxL := 6) (ret := (some .int)) (d := 1) (mc := 0) (ms := 0) (D := D) (cs := cs) (X := X) (ws := [(ox, .inr (9, [.ref ht, .ref hq, .ref og, .int rc, .ref hw, .ref om, .ref hp, .ref ha, .ref hf, .ref hw0, va_rf qh, va_rf qo])), (ht, .inr (7, [.ref hs, .int tl, .int tk, .int tp, .int tb, .int tv, .int tn, .int tf])), (hs, .inl ((cs 1), 400, .inl gt))]) (wo := []) (sz := sz) (av := [.ref ox, .int a, .int b, .int h, .int x, .int y]) (Qc := fun A => va_Qi (S := Unit) (fun r _ => True) (fun _ t => ∃ (tl2 : Int32), ∃ (gt2 : Nat → Int32), Rg 0 400 tl2 ∧ va_P D vwCl [(ox, .inr (9, [.ref ht, .ref hq, .ref og, .int rc, .ref hw, .ref om, .ref hp, .ref ha, .ref hf, .ref hw0, va_rf qh, va_rf qo])), (ht, .inr (7, [.ref hs, .int tl2, .int tk, .int tp, .int tb, .int tv, .int tn, .int tf])), (hs, .inl ((cs 1), 400, .inl gt2))] t.heap ∧ va_D A [(ox, .inr (9, [.ref ht, .ref hq, .ref og, .int rc, .ref hw, .ref om, .ref hp, .ref ha, .ref hf, .ref hw0, va_rf qh, va_rf qo])), (ht, .inr (7, [.ref hs, .int tl2, .int tk, .int tp, .int tb, .int tv, .int tn, .int tf])), (hs, .inl ((cs 1), 400, .inl gt2))]) A) (by decide) (Nat.le_of_ble_eq_true rfl) ?_
  intro p e s m below meth c ls A H hHe hx hb hr hml hown hts hlocks hnm hP hK hD hA hS hN hR hX hXs hl
  have hD : va_D A [(ox, .inr (9, [.ref ht, .ref hq, .ref og, .int rc, .ref hw, .ref om, .ref hp, .ref ha, .ref hf, .ref hw0, va_rf qh, va_rf qo])), (ht, .inr (7, [.ref hs, .int tl, .int tk, .int tp, .int tb, .int tv, .int tn, .int tf])), (hs, .inl ((cs 1), 400, .inl gt))] := hD
  obtain ⟨locs, hlc⟩ : ∃ z : List Loc, z = [] := ⟨_, rfl⟩
  rw [← hlc] at hS ⊢
  have hown : s.vm.findClass "WrongHole" = some m.cls := hown
  have hT : ∀ w ∈ TB, w.before ([.ref ox, .int a, .int b, .int h, .int x, .int y] : List Value).toArray s = true := fun w h => hts w (List.mem_cons_of_mem _ h)
  have hl : lv_has ls 6 [(0, .ref ox), (1, .int a), (2, .int b), (3, .int h), (4, .int x), (5, .int y)] := hl
  have hP : va_P D vwCl [(ox, .inr (9, [.ref ht, .ref hq, .ref og, .int rc, .ref hw, .ref om, .ref hp, .ref ha, .ref hf, .ref hw0, va_rf qh, va_rf qo])), (ht, .inr (7, [.ref hs, .int tl, .int tk, .int tp, .int tb, .int tv, .int tn, .int tf])), (hs, .inl ((cs 1), 400, .inl gt))] H := hP
  refine lv_aload_n hx hb dX11_feed_0 rfl (lv_at hl 0 rfl) ?_
  refine va_get (D := D) (ci := 9) (v := .ref ht) (C := "WrongHole") (T := TX11) (N := 12) hx hb hts (iq_RX11 _) hown hK hP 0 rfl rfl 0 (by decide) (hT _ qq_1_202) (fun _ h9 => h9) rfl dX11_feed_1 ?_
  refine lv_bipush (v := 20) hx hb dX11_feed_4 (by decide) ?_
  have hPc := va_P.sub (ws' := [(ht, .inr (7, [.ref hs, .int tl, .int tk, .int tp, .int tb, .int tv, .int tn, .int tf])), (hs, .inl ((cs 1), 400, .inl gt))]) hP [1, 2] rfl
  refine cl_P (W.runV (As := [.int 20]) (rest := []) ⟨hx, hb, hml, hown, hts⟩ (c_Text_hasRoom l D cs ht hs tl tk tp tb tv tn tf gt 20 r_tl r_tp r_tb) ⟨callB_of 1 hts (gd_C qq_2_6) rfl rfl rfl (hT _ qq_1_2) (hT _ qq_2_3) (by decide +kernel) (rm_R rfl rfl), (hT _ qq_2_4), (hT _ qq_2_5)⟩ (pq_V hPc hK hN (ci := 7) (q0 := 0) rfl rfl) rfl rfl hl.1 rfl (lv_room (Nat.le_of_ble_eq_true rfl)) dX11_feed_6 ⟨Nat.le_of_ble_eq_true rfl, Nat.le_of_ble_eq_true rfl⟩) (fun v9 hz_2 => ?_)
  obtain ⟨x_1, rfl, r_3⟩ := hz_2
  refine lv_if_ne (tgt := 14) hx hb dX11_feed_9 (by decide) (fun c_4 => ?_) (fun c_4 => ?_)
  · have r_5 : Rg 1 1 x_1 := Rg.ne c_4 r_3 (Rg.c (c := 0) (k := 0) rfl) (by decide)
    refine lv_aload_n hx hb dX11_feed_14 rfl (lv_at hl 0 rfl) ?_
    refine va_get (D := D) (ci := 9) (v := .ref ht) (C := "WrongHole") (T := TX11) (N := 12) hx hb hts (iq_RX11 _) hown hK hP 0 rfl rfl 0 (by decide) (hT _ qq_1_202) (fun _ h9 => h9) rfl dX11_feed_15 ?_
    refine lv_iload_n hx hb dX11_feed_18 rfl (lv_at hl 1 rfl) ?_
    have hPc := hP.sub (ws' := [(ht, .inr (7, [.ref hs, .int tl, .int tk, .int tp, .int tb, .int tv, .int tn, .int tf])), (hs, .inl ((cs 1), 400, .inl gt))]) [1, 2] rfl
    have hDc := hD.sub (ws' := [(ht, .inr (7, [.ref hs, .int tl, .int tk, .int tp, .int tb, .int tv, .int tn, .int tf])), (hs, .inl ((cs 1), 400, .inl gt))]) [1, 2] (by decide) rfl
    have hFc := va_free (wc := [(ht, .inr (7, [.ref hs, .int tl, .int tk, .int tp, .int tb, .int tv, .int tn, .int tf])), (hs, .inl ((cs 1), 400, .inl gt))]) hD hS hA [1, 2] rfl
    refine va_callv (va_runV (As := [.int a]) (rest := []) ⟨hx, hb, hml, hown, hts⟩ (c_Text_append l D cs X H.size ht hs tl tk tp tb tv tn tf gt a r_tl) ⟨callB_of 1 hts (gd_C qq_2_10) rfl rfl rfl (hT _ qq_1_2) (hT _ qq_2_7) (by decide +kernel) (rm_R rfl rfl), (hT _ qq_2_8), (hT _ qq_2_9)⟩ (pr_V hPc hK hDc hN (hR.sub (wo' := []) [] rfl) hS hFc hX hXs (ci := 7) (q0 := 0) rfl rfl) rfl rfl hl.1 rfl (lv_room (Nat.le_of_ble_eq_true rfl)) dX11_feed_19 ⟨Nat.le_of_ble_eq_true rfl, Nat.le_of_ble_eq_true rfl⟩) hS (fun q _ h => hFc q h) hFc (fun u_7 t_10 H1 locs ht9 hvm hw_8 hB_9 hz1 hk1 hS => ?_)
    obtain ⟨v_12, g_13, r_14, hP1, hD1⟩ := hB_9
    rw [ht9] at hP1
    obtain ⟨hP, hD⟩ := va_join (wr := [(ox, .inr (9, [.ref ht, .ref hq, .ref og, .int rc, .ref hw, .ref om, .ref hp, .ref ha, .ref hf, .ref hw0, va_rf qh, va_rf qo]))]) (w1 := [(ht, .inr (7, [.ref hs, .int v_12, .int tk, .int tp, .int tb, .int tv, .int tn, .int tf])), (hs, .inl ((cs 1), 400, .inl g_13))]) hP hD [1, 2] [0] rfl rfl (by decide) (by decide) hk1 hFc hP1 hD1
    generalize H1 = H at hP hS ⊢
    have hP : va_P D vwCl [(ox, .inr (9, [.ref ht, .ref hq, .ref og, .int rc, .ref hw, .ref om, .ref hp, .ref ha, .ref hf, .ref hw0, va_rf qh, va_rf qo])), (ht, .inr (7, [.ref hs, .int v_12, .int tk, .int tp, .int tb, .int tv, .int tn, .int tf])), (hs, .inl ((cs 1), 400, .inl g_13))] H := hP
    have hD : va_D A [(ox, .inr (9, [.ref ht, .ref hq, .ref og, .int rc, .ref hw, .ref om, .ref hp, .ref ha, .ref hf, .ref hw0, va_rf qh, va_rf qo])), (ht, .inr (7, [.ref hs, .int v_12, .int tk, .int tp, .int tb, .int tv, .int tn, .int tf])), (hs, .inl ((cs 1), 400, .inl g_13))] := hD
    refine lv_aload_n hx hb dX11_feed_22 rfl (lv_at hl 0 rfl) ?_
    refine va_get (D := D) (ci := 9) (v := .ref ht) (C := "WrongHole") (T := TX11) (N := 12) hx hb hts (iq_RX11 _) hown hK hP 0 rfl rfl 0 (by decide) (hT _ qq_1_202) (fun _ h9 => h9) rfl dX11_feed_23 ?_
    refine lv_iload_n hx hb dX11_feed_26 rfl (lv_at hl 2 rfl) ?_
    have hPc := hP.sub (ws' := [(ht, .inr (7, [.ref hs, .int v_12, .int tk, .int tp, .int tb, .int tv, .int tn, .int tf])), (hs, .inl ((cs 1), 400, .inl g_13))]) [1, 2] rfl
    have hDc := hD.sub (ws' := [(ht, .inr (7, [.ref hs, .int v_12, .int tk, .int tp, .int tb, .int tv, .int tn, .int tf])), (hs, .inl ((cs 1), 400, .inl g_13))]) [1, 2] (by decide) rfl
    have hFc := va_free (wc := [(ht, .inr (7, [.ref hs, .int v_12, .int tk, .int tp, .int tb, .int tv, .int tn, .int tf])), (hs, .inl ((cs 1), 400, .inl g_13))]) hD hS hA [1, 2] rfl
    refine va_callv (va_runV (As := [.int b]) (rest := []) ⟨hx, hb, hml, hown, hts⟩ (c_Text_append l D cs X H.size ht hs v_12 tk tp tb tv tn tf g_13 b r_14) ⟨callB_of 1 hts (gd_C qq_2_10) rfl rfl rfl (hT _ qq_1_2) (hT _ qq_2_7) (by decide +kernel) (rm_R rfl rfl), (hT _ qq_2_8), (hT _ qq_2_9)⟩ (pr_V hPc hK hDc hN (hR.sub (wo' := []) [] rfl) hS hFc hX hXs (ci := 7) (q0 := 0) rfl rfl) rfl rfl hl.1 rfl (lv_room (Nat.le_of_ble_eq_true rfl)) dX11_feed_27 ⟨Nat.le_of_ble_eq_true rfl, Nat.le_of_ble_eq_true rfl⟩) hS (fun q _ h => hFc q h) hFc (fun u_15 t_18 H1 locs ht9 hvm hw_16 hB_17 hz1 hk1 hS => ?_)
    obtain ⟨v_20, g_21, r_22, hP1, hD1⟩ := hB_17
    rw [ht9] at hP1
    obtain ⟨hP, hD⟩ := va_join (wr := [(ox, .inr (9, [.ref ht, .ref hq, .ref og, .int rc, .ref hw, .ref om, .ref hp, .ref ha, .ref hf, .ref hw0, va_rf qh, va_rf qo]))]) (w1 := [(ht, .inr (7, [.ref hs, .int v_20, .int tk, .int tp, .int tb, .int tv, .int tn, .int tf])), (hs, .inl ((cs 1), 400, .inl g_21))]) hP hD [1, 2] [0] rfl rfl (by decide) (by decide) hk1 hFc hP1 hD1
    generalize H1 = H at hP hS ⊢
    have hP : va_P D vwCl [(ox, .inr (9, [.ref ht, .ref hq, .ref og, .int rc, .ref hw, .ref om, .ref hp, .ref ha, .ref hf, .ref hw0, va_rf qh, va_rf qo])), (ht, .inr (7, [.ref hs, .int v_20, .int tk, .int tp, .int tb, .int tv, .int tn, .int tf])), (hs, .inl ((cs 1), 400, .inl g_21))] H := hP
    have hD : va_D A [(ox, .inr (9, [.ref ht, .ref hq, .ref og, .int rc, .ref hw, .ref om, .ref hp, .ref ha, .ref hf, .ref hw0, va_rf qh, va_rf qo])), (ht, .inr (7, [.ref hs, .int v_20, .int tk, .int tp, .int tb, .int tv, .int tn, .int tf])), (hs, .inl ((cs 1), 400, .inl g_21))] := hD
    refine lv_aload_n hx hb dX11_feed_30 rfl (lv_at hl 0 rfl) ?_
    refine va_get (D := D) (ci := 9) (v := .ref ht) (C := "WrongHole") (T := TX11) (N := 12) hx hb hts (iq_RX11 _) hown hK hP 0 rfl rfl 0 (by decide) (hT _ qq_1_202) (fun _ h9 => h9) rfl dX11_feed_31 ?_
    refine lv_iload_n hx hb dX11_feed_34 rfl (lv_at hl 3 rfl) ?_
    have hPc := hP.sub (ws' := [(ht, .inr (7, [.ref hs, .int v_20, .int tk, .int tp, .int tb, .int tv, .int tn, .int tf])), (hs, .inl ((cs 1), 400, .inl g_21))]) [1, 2] rfl
    have hDc := hD.sub (ws' := [(ht, .inr (7, [.ref hs, .int v_20, .int tk, .int tp, .int tb, .int tv, .int tn, .int tf])), (hs, .inl ((cs 1), 400, .inl g_21))]) [1, 2] (by decide) rfl
    have hFc := va_free (wc := [(ht, .inr (7, [.ref hs, .int v_20, .int tk, .int tp, .int tb, .int tv, .int tn, .int tf])), (hs, .inl ((cs 1), 400, .inl g_21))]) hD hS hA [1, 2] rfl
    refine va_callv (va_runV (As := [.int h]) (rest := []) ⟨hx, hb, hml, hown, hts⟩ (c_Text_append l D cs X H.size ht hs v_20 tk tp tb tv tn tf g_21 h r_22) ⟨callB_of 1 hts (gd_C qq_2_10) rfl rfl rfl (hT _ qq_1_2) (hT _ qq_2_7) (by decide +kernel) (rm_R rfl rfl), (hT _ qq_2_8), (hT _ qq_2_9)⟩ (pr_V hPc hK hDc hN (hR.sub (wo' := []) [] rfl) hS hFc hX hXs (ci := 7) (q0 := 0) rfl rfl) rfl rfl hl.1 rfl (lv_room (Nat.le_of_ble_eq_true rfl)) dX11_feed_35 ⟨Nat.le_of_ble_eq_true rfl, Nat.le_of_ble_eq_true rfl⟩) hS (fun q _ h => hFc q h) hFc (fun u_23 t_26 H1 locs ht9 hvm hw_24 hB_25 hz1 hk1 hS => ?_)
    obtain ⟨v_28, g_29, r_30, hP1, hD1⟩ := hB_25
    rw [ht9] at hP1
    obtain ⟨hP, hD⟩ := va_join (wr := [(ox, .inr (9, [.ref ht, .ref hq, .ref og, .int rc, .ref hw, .ref om, .ref hp, .ref ha, .ref hf, .ref hw0, va_rf qh, va_rf qo]))]) (w1 := [(ht, .inr (7, [.ref hs, .int v_28, .int tk, .int tp, .int tb, .int tv, .int tn, .int tf])), (hs, .inl ((cs 1), 400, .inl g_29))]) hP hD [1, 2] [0] rfl rfl (by decide) (by decide) hk1 hFc hP1 hD1
    generalize H1 = H at hP hS ⊢
    have hP : va_P D vwCl [(ox, .inr (9, [.ref ht, .ref hq, .ref og, .int rc, .ref hw, .ref om, .ref hp, .ref ha, .ref hf, .ref hw0, va_rf qh, va_rf qo])), (ht, .inr (7, [.ref hs, .int v_28, .int tk, .int tp, .int tb, .int tv, .int tn, .int tf])), (hs, .inl ((cs 1), 400, .inl g_29))] H := hP
    have hD : va_D A [(ox, .inr (9, [.ref ht, .ref hq, .ref og, .int rc, .ref hw, .ref om, .ref hp, .ref ha, .ref hf, .ref hw0, va_rf qh, va_rf qo])), (ht, .inr (7, [.ref hs, .int v_28, .int tk, .int tp, .int tb, .int tv, .int tn, .int tf])), (hs, .inl ((cs 1), 400, .inl g_29))] := hD
    refine lv_aload_n hx hb dX11_feed_38 rfl (lv_at hl 0 rfl) ?_
    refine va_get (D := D) (ci := 9) (v := .ref ht) (C := "WrongHole") (T := TX11) (N := 12) hx hb hts (iq_RX11 _) hown hK hP 0 rfl rfl 0 (by decide) (hT _ qq_1_202) (fun _ h9 => h9) rfl dX11_feed_39 ?_
    refine lv_iload hx hb dX11_feed_42 (lv_at hl 4 rfl) ?_
    have hPc := hP.sub (ws' := [(ht, .inr (7, [.ref hs, .int v_28, .int tk, .int tp, .int tb, .int tv, .int tn, .int tf])), (hs, .inl ((cs 1), 400, .inl g_29))]) [1, 2] rfl
    have hDc := hD.sub (ws' := [(ht, .inr (7, [.ref hs, .int v_28, .int tk, .int tp, .int tb, .int tv, .int tn, .int tf])), (hs, .inl ((cs 1), 400, .inl g_29))]) [1, 2] (by decide) rfl
    have hFc := va_free (wc := [(ht, .inr (7, [.ref hs, .int v_28, .int tk, .int tp, .int tb, .int tv, .int tn, .int tf])), (hs, .inl ((cs 1), 400, .inl g_29))]) hD hS hA [1, 2] rfl
    refine va_callv (va_runV (As := [.int x]) (rest := []) ⟨hx, hb, hml, hown, hts⟩ (c_Text_append l D cs X H.size ht hs v_28 tk tp tb tv tn tf g_29 x r_30) ⟨callB_of 1 hts (gd_C qq_2_10) rfl rfl rfl (hT _ qq_1_2) (hT _ qq_2_7) (by decide +kernel) (rm_R rfl rfl), (hT _ qq_2_8), (hT _ qq_2_9)⟩ (pr_V hPc hK hDc hN (hR.sub (wo' := []) [] rfl) hS hFc hX hXs (ci := 7) (q0 := 0) rfl rfl) rfl rfl hl.1 rfl (lv_room (Nat.le_of_ble_eq_true rfl)) dX11_feed_44 ⟨Nat.le_of_ble_eq_true rfl, Nat.le_of_ble_eq_true rfl⟩) hS (fun q _ h => hFc q h) hFc (fun u_31 t_34 H1 locs ht9 hvm hw_32 hB_33 hz1 hk1 hS => ?_)
    obtain ⟨v_36, g_37, r_38, hP1, hD1⟩ := hB_33
    rw [ht9] at hP1
    obtain ⟨hP, hD⟩ := va_join (wr := [(ox, .inr (9, [.ref ht, .ref hq, .ref og, .int rc, .ref hw, .ref om, .ref hp, .ref ha, .ref hf, .ref hw0, va_rf qh, va_rf qo]))]) (w1 := [(ht, .inr (7, [.ref hs, .int v_36, .int tk, .int tp, .int tb, .int tv, .int tn, .int tf])), (hs, .inl ((cs 1), 400, .inl g_37))]) hP hD [1, 2] [0] rfl rfl (by decide) (by decide) hk1 hFc hP1 hD1
    generalize H1 = H at hP hS ⊢
    have hP : va_P D vwCl [(ox, .inr (9, [.ref ht, .ref hq, .ref og, .int rc, .ref hw, .ref om, .ref hp, .ref ha, .ref hf, .ref hw0, va_rf qh, va_rf qo])), (ht, .inr (7, [.ref hs, .int v_36, .int tk, .int tp, .int tb, .int tv, .int tn, .int tf])), (hs, .inl ((cs 1), 400, .inl g_37))] H := hP
    have hD : va_D A [(ox, .inr (9, [.ref ht, .ref hq, .ref og, .int rc, .ref hw, .ref om, .ref hp, .ref ha, .ref hf, .ref hw0, va_rf qh, va_rf qo])), (ht, .inr (7, [.ref hs, .int v_36, .int tk, .int tp, .int tb, .int tv, .int tn, .int tf])), (hs, .inl ((cs 1), 400, .inl g_37))] := hD
    refine lv_aload_n hx hb dX11_feed_47 rfl (lv_at hl 0 rfl) ?_
    refine va_get (D := D) (ci := 9) (v := .ref ht) (C := "WrongHole") (T := TX11) (N := 12) hx hb hts (iq_RX11 _) hown hK hP 0 rfl rfl 0 (by decide) (hT _ qq_1_202) (fun _ h9 => h9) rfl dX11_feed_48 ?_
    refine lv_iload hx hb dX11_feed_51 (lv_at hl 5 rfl) ?_
    have hPc := hP.sub (ws' := [(ht, .inr (7, [.ref hs, .int v_36, .int tk, .int tp, .int tb, .int tv, .int tn, .int tf])), (hs, .inl ((cs 1), 400, .inl g_37))]) [1, 2] rfl
    have hDc := hD.sub (ws' := [(ht, .inr (7, [.ref hs, .int v_36, .int tk, .int tp, .int tb, .int tv, .int tn, .int tf])), (hs, .inl ((cs 1), 400, .inl g_37))]) [1, 2] (by decide) rfl
    have hFc := va_free (wc := [(ht, .inr (7, [.ref hs, .int v_36, .int tk, .int tp, .int tb, .int tv, .int tn, .int tf])), (hs, .inl ((cs 1), 400, .inl g_37))]) hD hS hA [1, 2] rfl
    refine va_callv (va_runV (As := [.int y]) (rest := []) ⟨hx, hb, hml, hown, hts⟩ (c_Text_append l D cs X H.size ht hs v_36 tk tp tb tv tn tf g_37 y r_38) ⟨callB_of 1 hts (gd_C qq_2_10) rfl rfl rfl (hT _ qq_1_2) (hT _ qq_2_7) (by decide +kernel) (rm_R rfl rfl), (hT _ qq_2_8), (hT _ qq_2_9)⟩ (pr_V hPc hK hDc hN (hR.sub (wo' := []) [] rfl) hS hFc hX hXs (ci := 7) (q0 := 0) rfl rfl) rfl rfl hl.1 rfl (lv_room (Nat.le_of_ble_eq_true rfl)) dX11_feed_53 ⟨Nat.le_of_ble_eq_true rfl, Nat.le_of_ble_eq_true rfl⟩) hS (fun q _ h => hFc q h) hFc (fun u_39 t_42 H1 locs ht9 hvm hw_40 hB_41 hz1 hk1 hS => ?_)
    obtain ⟨v_44, g_45, r_46, hP1, hD1⟩ := hB_41
    rw [ht9] at hP1
    obtain ⟨hP, hD⟩ := va_join (wr := [(ox, .inr (9, [.ref ht, .ref hq, .ref og, .int rc, .ref hw, .ref om, .ref hp, .ref ha, .ref hf, .ref hw0, va_rf qh, va_rf qo]))]) (w1 := [(ht, .inr (7, [.ref hs, .int v_44, .int tk, .int tp, .int tb, .int tv, .int tn, .int tf])), (hs, .inl ((cs 1), 400, .inl g_45))]) hP hD [1, 2] [0] rfl rfl (by decide) (by decide) hk1 hFc hP1 hD1
    generalize H1 = H at hP hS ⊢
    have hP : va_P D vwCl [(ox, .inr (9, [.ref ht, .ref hq, .ref og, .int rc, .ref hw, .ref om, .ref hp, .ref ha, .ref hf, .ref hw0, va_rf qh, va_rf qo])), (ht, .inr (7, [.ref hs, .int v_44, .int tk, .int tp, .int tb, .int tv, .int tn, .int tf])), (hs, .inl ((cs 1), 400, .inl g_45))] H := hP
    have hD : va_D A [(ox, .inr (9, [.ref ht, .ref hq, .ref og, .int rc, .ref hw, .ref om, .ref hp, .ref ha, .ref hf, .ref hw0, va_rf qh, va_rf qo])), (ht, .inr (7, [.ref hs, .int v_44, .int tk, .int tp, .int tb, .int tv, .int tn, .int tf])), (hs, .inl ((cs 1), 400, .inl g_45))] := hD
    refine lv_aload_n hx hb dX11_feed_56 rfl (lv_at hl 0 rfl) ?_
    refine va_get (D := D) (ci := 9) (v := .ref ht) (C := "WrongHole") (T := TX11) (N := 12) hx hb hts (iq_RX11 _) hown hK hP 0 rfl rfl 0 (by decide) (hT _ qq_1_202) (fun _ h9 => h9) rfl dX11_feed_57 ?_
    refine va_getN (D := D) (ci := 7) (v := .int v_44) (C := "WrongHole$Text") (T := TX9) (N := 8) hx hb hts (iq_RX9 _) hown hK hP 1 rfl rfl 1 (by decide) (NN.f hN nq_1_38) (fun _ h9 => h9) rfl dX11_feed_60 ?_
    refine W.widen (k := 0) (n := 0) (Nat.le_of_ble_eq_true rfl) (Nat.le_of_ble_eq_true rfl) ?_
    have hP9 := hP.sub (ws' := [(ox, .inr (9, [.ref ht, .ref hq, .ref og, .int rc, .ref hw, .ref om, .ref hp, .ref ha, .ref hf, .ref hw0, va_rf qh, va_rf qo])), (ht, .inr (7, [.ref hs, .int v_44, .int tk, .int tp, .int tb, .int tv, .int tn, .int tf])), (hs, .inl ((cs 1), 400, .inl g_45))]) [0, 1, 2] rfl
    have hD9 := hD.sub (ws' := [(ox, .inr (9, [.ref ht, .ref hq, .ref og, .int rc, .ref hw, .ref om, .ref hp, .ref ha, .ref hf, .ref hw0, va_rf qh, va_rf qo])), (ht, .inr (7, [.ref hs, .int v_44, .int tk, .int tp, .int tb, .int tv, .int tn, .int tf])), (hs, .inl ((cs 1), 400, .inl g_45))]) [0, 1, 2] (by decide) rfl
    exact W.iret (v := v_44) hx hb hr (fun t9 ht9 hW9 => ⟨⟨_, (), rfl, trivial, ⟨v_44, g_45, r_46, by rw [ht9]; exact hP9, hD9⟩⟩, hS.F ht9⟩) hS.2.2 dX11_feed_63
  · have r_6 : Rg 0 0 x_1 := Rg.eq_l c_4 r_3 (Rg.c (c := 0) (k := 0) rfl) (by decide)
    refine lv_iconst (v := (-1)) hx hb dX11_feed_12 (by decide) ?_
    refine W.widen (k := 0) (n := 0) (Nat.le_of_ble_eq_true rfl) (Nat.le_of_ble_eq_true rfl) ?_
    have hP9 := hP.sub (ws' := [(ox, .inr (9, [.ref ht, .ref hq, .ref og, .int rc, .ref hw, .ref om, .ref hp, .ref ha, .ref hf, .ref hw0, va_rf qh, va_rf qo])), (ht, .inr (7, [.ref hs, .int tl, .int tk, .int tp, .int tb, .int tv, .int tn, .int tf])), (hs, .inl ((cs 1), 400, .inl gt))]) [0, 1, 2] rfl
    have hD9 := hD.sub (ws' := [(ox, .inr (9, [.ref ht, .ref hq, .ref og, .int rc, .ref hw, .ref om, .ref hp, .ref ha, .ref hf, .ref hw0, va_rf qh, va_rf qo])), (ht, .inr (7, [.ref hs, .int tl, .int tk, .int tp, .int tb, .int tv, .int tn, .int tf])), (hs, .inl ((cs 1), 400, .inl gt))]) [0, 1, 2] (by decide) rfl
    exact W.iret (v := (-1)) hx hb hr (fun t9 ht9 hW9 => ⟨⟨_, (), rfl, trivial, ⟨tl, gt, r_tl, by rw [ht9]; exact hP9, hD9⟩⟩, hS.F ht9⟩) hS.2.2 dX11_feed_13
theorem dX11_end_0 : decode cX11_end 0 = .ok (.iload_n 1, 1) := by decide +kernel
theorem dX11_end_1 : decode cX11_end 1 = .ok (.ifCond .lt 14, 3) := by decide +kernel
theorem dX11_end_15 : decode cX11_end 15 = .ok (.iconst (-1), 1) := by decide +kernel
theorem dX11_end_16 : decode cX11_end 16 = .ok (.ireturn, 1) := by decide +kernel
theorem dX11_end_4 : decode cX11_end 4 = .ok (.iload_n 1, 1) := by decide +kernel
theorem dX11_end_5 : decode cX11_end 5 = .ok (.aload_n 0, 1) := by decide +kernel
theorem dX11_end_6 : decode cX11_end 6 = .ok (.getfield 10, 3) := by decide +kernel
theorem dX11_end_9 : decode cX11_end 9 = .ok (.getfield 73, 3) := by decide +kernel
theorem dX11_end_12 : decode cX11_end 12 = .ok (.if_icmp .le 5, 3) := by decide +kernel
theorem dX11_end_17 : decode cX11_end 17 = .ok (.aload_n 0, 1) := by decide +kernel
theorem dX11_end_18 : decode cX11_end 18 = .ok (.getfield 10, 3) := by decide +kernel
theorem dX11_end_21 : decode cX11_end 21 = .ok (.iload_n 1, 1) := by decide +kernel
theorem dX11_end_22 : decode cX11_end 22 = .ok (.putfield 73, 3) := by decide +kernel
theorem dX11_end_25 : decode cX11_end 25 = .ok (.iload_n 1, 1) := by decide +kernel
theorem dX11_end_26 : decode cX11_end 26 = .ok (.ireturn, 1) := by decide +kernel
set_option maxHeartbeats 4000000 in
set_option maxRecDepth 100000 in
theorem c_W_end (l : Launch) (D : va_G) (cs : Nat → ClassId) (X : XX) (sz : Nat) (ox : Nat) (ht : Nat) (hq : Nat) (og : Nat) (rc : Int32) (hw : Nat) (om : Nat) (hp : Nat) (ha : Nat) (hf : Nat) (hw0 : Nat) (qh : Option Nat) (qo : Option Nat) (hs : Nat) (tl : Int32) (tk : Int32) (tp : Int32) (tb : Int32) (tv : Int32) (tn : Int32) (tf : Int32) (gt : Nat → Int32) (a : Int32) (r_tl : Rg 0 400 tl) (r_tp : Rg 0 400 tp) (r_tb : Rg 0 400 tb) : Met l yX11_end (Cond.code yX11_end cX11_end 2 (some .int) :: TB) (RM 0 0 0) (va_Pc [.ref ox, .int a] (PRE D cs X [(ox, .inr (9, [.ref ht, .ref hq, .ref og, .int rc, .ref hw, .ref om, .ref hp, .ref ha, .ref hf, .ref hw0, va_rf qh, va_rf qo])), (ht, .inr (7, [.ref hs, .int tl, .int tk, .int tp, .int tb, .int tv, .int tn, .int tf])), (hs, .inl ((cs 1), 400, .inl gt))] [] sz)) (va_Qi (S := Unit) (fun r _ => True) (fun _ t => ∃ (tl2 : Int32), Rg 0 400 tl2 ∧ va_P D vwCl [(ox, .inr (9, [.ref ht, .ref hq, .ref og, .int rc, .ref hw, .ref om, .ref hp, .ref ha, .ref hf, .ref hw0, va_rf qh, va_rf qo])), (ht, .inr (7, [.ref hs, .int tl2, .int tk, .int tp, .int tb, .int tv, .int tn, .int tf])), (hs, .inl ((cs 1), 400, .inl gt))] t.heap ∧ va_D (va_A [(ox, .inr (9, [.ref ht, .ref hq, .ref og, .int rc, .ref hw, .ref om, .ref hp, .ref ha, .ref hf, .ref hw0, va_rf qh, va_rf qo])), (ht, .inr (7, [.ref hs, .int tl, .int tk, .int tp, .int tb, .int tv, .int tn, .int tf])), (hs, .inl ((cs 1), 400, .inl gt))] sz) [(ox, .inr (9, [.ref ht, .ref hq, .ref og, .int rc, .ref hw, .ref om, .ref hp, .ref ha, .ref hf, .ref hw0, va_rf qh, va_rf qo])), (ht, .inr (7, [.ref hs, .int tl2, .int tk, .int tp, .int tb, .int tv, .int tn, .int tf])), (hs, .inl ((cs 1), 400, .inl gt))]) (va_A [(ox, .inr (9, [.ref ht, .ref hq, .ref og, .int rc, .ref hw, .ref om, .ref hp, .ref ha, .ref hf, .ref hw0, va_rf qh, va_rf qo])), (ht, .inr (7, [.ref hs, .int tl, .int tk, .int tp, .int tb, .int tv, .int tn, .int tf])), (hs, .inl ((cs 1), 400, .inl gt))] sz)) 0 0 (va_A [(ox, .inr (9, [.ref ht, .ref hq, .ref og, .int rc, .ref hw, .ref om, .ref hp, .ref ha, .ref hf, .ref hw0, va_rf qh, va_rf qo])), (ht, .inr (7, [.ref hs, .int tl, .int tk, .int tp, .int tb, .int tv, .int tn, .int tf])), (hs, .inl ((cs 1), 400, .inl gt))] sz) := by
  refine MET (y := yX11_end) (cc := cX11_end) (maxL := 2) (ret := (some .int)) (d := 0) (mc := 0) (ms := 0) (D := D) (cs := cs) (X := X) (ws := [(ox, .inr (9, [.ref ht, .ref hq, .ref og, .int rc, .ref hw, .ref om, .ref hp, .ref ha, .ref hf, .ref hw0, va_rf qh, va_rf qo])), (ht, .inr (7, [.ref hs, .int tl, .int tk, .int tp, .int tb, .int tv, .int tn, .int tf])), (hs, .inl ((cs 1), 400, .inl gt))]) (wo := []) (sz := sz) (av := [.ref ox, .int a]) (Qc := fun A => va_Qi (S := Unit) (fun r _ => True) (fun _ t => ∃ (tl2 : Int32), Rg 0 400 tl2 ∧ va_P D vwCl [(ox, .inr (9, [.ref ht, .ref hq, .ref og, .int rc, .ref hw, .ref om, .ref hp, .ref ha, .ref hf, .ref hw0, va_rf qh, va_rf qo])), (ht, .inr (7, [.ref hs, .int tl2, .int tk, .int tp, .int tb, .int tv, .int tn, .int tf])), (hs, .inl ((cs 1), 400, .inl gt))] t.heap ∧ va_D A [(ox, .inr (9, [.ref ht, .ref hq, .ref og, .int rc, .ref hw, .ref om, .ref hp, .ref ha, .ref hf, .ref hw0, va_rf qh, va_rf qo])), (ht, .inr (7, [.ref hs, .int tl2, .int tk, .int tp, .int tb, .int tv, .int tn, .int tf])), (hs, .inl ((cs 1), 400, .inl gt))]) A) (by decide) (Nat.le_of_ble_eq_true rfl) ?_
  intro p e s m below meth c ls A H hHe hx hb hr hml hown hts hlocks hnm hP hK hD hA hS hN hR hX hXs hl
  have hD : va_D A [(ox, .inr (9, [.ref ht, .ref hq, .ref og, .int rc, .ref hw, .ref om, .ref hp, .ref ha, .ref hf, .ref hw0, va_rf qh, va_rf qo])), (ht, .inr (7, [.ref hs, .int tl, .int tk, .int tp, .int tb, .int tv, .int tn, .int tf])), (hs, .inl ((cs 1), 400, .inl gt))] := hD
  obtain ⟨locs, hlc⟩ : ∃ z : List Loc, z = [] := ⟨_, rfl⟩
  rw [← hlc] at hS ⊢
  have hown : s.vm.findClass "WrongHole" = some m.cls := hown
  have hT : ∀ w ∈ TB, w.before ([.ref ox, .int a] : List Value).toArray s = true := fun w h => hts w (List.mem_cons_of_mem _ h)
  have hl : lv_has ls 2 [(0, .ref ox), (1, .int a)] := hl
  have hP : va_P D vwCl [(ox, .inr (9, [.ref ht, .ref hq, .ref og, .int rc, .ref hw, .ref om, .ref hp, .ref ha, .ref hf, .ref hw0, va_rf qh, va_rf qo])), (ht, .inr (7, [.ref hs, .int tl, .int tk, .int tp, .int tb, .int tv, .int tn, .int tf])), (hs, .inl ((cs 1), 400, .inl gt))] H := hP
  refine lv_iload_n hx hb dX11_end_0 rfl (lv_at hl 1 rfl) ?_
  refine lv_if_lt (tgt := 15) hx hb dX11_end_1 (by decide) (fun c_1 => ?_) (fun c_1 => ?_)
  · have r_2 : Rg (-2147483648) (-1) a := Rg.lt_l c_1 (Rg.top a) (Rg.c (c := 0) (k := 0) rfl) (by decide)
    refine lv_iconst (v := (-1)) hx hb dX11_end_15 (by decide) ?_
    refine W.widen (k := 0) (n := 0) (Nat.le_of_ble_eq_true rfl) (Nat.le_of_ble_eq_true rfl) ?_
    have hP9 := hP.sub (ws' := [(ox, .inr (9, [.ref ht, .ref hq, .ref og, .int rc, .ref hw, .ref om, .ref hp, .ref ha, .ref hf, .ref hw0, va_rf qh, va_rf qo])), (ht, .inr (7, [.ref hs, .int tl, .int tk, .int tp, .int tb, .int tv, .int tn, .int tf])), (hs, .inl ((cs 1), 400, .inl gt))]) [0, 1, 2] rfl
    have hD9 := hD.sub (ws' := [(ox, .inr (9, [.ref ht, .ref hq, .ref og, .int rc, .ref hw, .ref om, .ref hp, .ref ha, .ref hf, .ref hw0, va_rf qh, va_rf qo])), (ht, .inr (7, [.ref hs, .int tl, .int tk, .int tp, .int tb, .int tv, .int tn, .int tf])), (hs, .inl ((cs 1), 400, .inl gt))]) [0, 1, 2] (by decide) rfl
    exact W.iret (v := (-1)) hx hb hr (fun t9 ht9 hW9 => ⟨⟨_, (), rfl, trivial, ⟨tl, r_tl, by rw [ht9]; exact hP9, hD9⟩⟩, hS.F ht9⟩) hS.2.2 dX11_end_16
  · have r_3 : Rg 0 2147483647 a := Rg.le_r (nlt_le c_1) (Rg.c (c := 0) (k := 0) rfl) (Rg.top a) (by decide)
    refine lv_iload_n hx hb dX11_end_4 rfl (lv_at hl 1 rfl) ?_
    refine lv_aload_n hx hb dX11_end_5 rfl (lv_at hl 0 rfl) ?_
    refine va_get (D := D) (ci := 9) (v := .ref ht) (C := "WrongHole") (T := TX11) (N := 12) hx hb hts (iq_RX11 _) hown hK hP 0 rfl rfl 0 (by decide) (hT _ qq_1_202) (fun _ h9 => h9) rfl dX11_end_6 ?_
    refine va_getN (D := D) (ci := 7) (v := .int tl) (C := "WrongHole$Text") (T := TX9) (N := 8) hx hb hts (iq_RX9 _) hown hK hP 1 rfl rfl 1 (by decide) (NN.f hN nq_1_38) (fun _ h9 => h9) rfl dX11_end_9 ?_
    refine lv_icmp_le (tgt := 17) hx hb dX11_end_12 (by decide) (fun c_4 => ?_) (fun c_4 => ?_)
    · have r_5 : Rg 0 400 a := Rg.le_l c_4 r_3 r_tl (by decide)
      refine lv_aload_n hx hb dX11_end_17 rfl (lv_at hl 0 rfl) ?_
      refine va_get (D := D) (ci := 9) (v := .ref ht) (C := "WrongHole") (T := TX11) (N := 12) hx hb hts (iq_RX11 _) hown hK hP 0 rfl rfl 0 (by decide) (hT _ qq_1_202) (fun _ h9 => h9) rfl dX11_end_18 ?_
      refine lv_iload_n hx hb dX11_end_21 rfl (lv_at hl 1 rfl) ?_
      refine va_putN (D := D) (ci := 7) (v := .int a) (ty := .int) (C := "WrongHole$Text") (T := TX9) (N := 8) hx hb hts (iq_RX9 _) tyX9 tyX9_ok nmX9 hown hK hP hD hS 1 rfl rfl 1 (by decide) (NN.f hN nq_1_38) (fun _ h9 => h9) rfl (by decide +kernel) rfl rfl (Nat.le_of_ble_eq_true rfl) dX11_end_22 (fun H locs hP hD hS => ?_)
      have hP : va_P D vwCl [(ox, .inr (9, [.ref ht, .ref hq, .ref og, .int rc, .ref hw, .ref om, .ref hp, .ref ha, .ref hf, .ref hw0, va_rf qh, va_rf qo])), (ht, .inr (7, [.ref hs, .int a, .int tk, .int tp, .int tb, .int tv, .int tn, .int tf])), (hs, .inl ((cs 1), 400, .inl gt))] H := hP
      have hD : va_D A [(ox, .inr (9, [.ref ht, .ref hq, .ref og, .int rc, .ref hw, .ref om, .ref hp, .ref ha, .ref hf, .ref hw0, va_rf qh, va_rf qo])), (ht, .inr (7, [.ref hs, .int a, .int tk, .int tp, .int tb, .int tv, .int tn, .int tf])), (hs, .inl ((cs 1), 400, .inl gt))] := hD
      refine lv_iload_n hx hb dX11_end_25 rfl (lv_at hl 1 rfl) ?_
      refine W.widen (k := 0) (n := 0) (Nat.le_of_ble_eq_true rfl) (Nat.le_of_ble_eq_true rfl) ?_
      have hP9 := hP.sub (ws' := [(ox, .inr (9, [.ref ht, .ref hq, .ref og, .int rc, .ref hw, .ref om, .ref hp, .ref ha, .ref hf, .ref hw0, va_rf qh, va_rf qo])), (ht, .inr (7, [.ref hs, .int a, .int tk, .int tp, .int tb, .int tv, .int tn, .int tf])), (hs, .inl ((cs 1), 400, .inl gt))]) [0, 1, 2] rfl
      have hD9 := hD.sub (ws' := [(ox, .inr (9, [.ref ht, .ref hq, .ref og, .int rc, .ref hw, .ref om, .ref hp, .ref ha, .ref hf, .ref hw0, va_rf qh, va_rf qo])), (ht, .inr (7, [.ref hs, .int a, .int tk, .int tp, .int tb, .int tv, .int tn, .int tf])), (hs, .inl ((cs 1), 400, .inl gt))]) [0, 1, 2] (by decide) rfl
      exact W.iret (v := a) hx hb hr (fun t9 ht9 hW9 => ⟨⟨_, (), rfl, trivial, ⟨a, r_5, by rw [ht9]; exact hP9, hD9⟩⟩, hS.F ht9⟩) hS.2.2 dX11_end_26
    · have r_6 : Rg 1 2147483647 a := Rg.lt_r (nle_lt c_4) r_tl r_3 (by decide)
      refine lv_iconst (v := (-1)) hx hb dX11_end_15 (by decide) ?_
      refine W.widen (k := 0) (n := 0) (Nat.le_of_ble_eq_true rfl) (Nat.le_of_ble_eq_true rfl) ?_
      have hP9 := hP.sub (ws' := [(ox, .inr (9, [.ref ht, .ref hq, .ref og, .int rc, .ref hw, .ref om, .ref hp, .ref ha, .ref hf, .ref hw0, va_rf qh, va_rf qo])), (ht, .inr (7, [.ref hs, .int tl, .int tk, .int tp, .int tb, .int tv, .int tn, .int tf])), (hs, .inl ((cs 1), 400, .inl gt))]) [0, 1, 2] rfl
      have hD9 := hD.sub (ws' := [(ox, .inr (9, [.ref ht, .ref hq, .ref og, .int rc, .ref hw, .ref om, .ref hp, .ref ha, .ref hf, .ref hw0, va_rf qh, va_rf qo])), (ht, .inr (7, [.ref hs, .int tl, .int tk, .int tp, .int tb, .int tv, .int tn, .int tf])), (hs, .inl ((cs 1), 400, .inl gt))]) [0, 1, 2] (by decide) rfl
      exact W.iret (v := (-1)) hx hb hr (fun t9 ht9 hW9 => ⟨⟨_, (), rfl, trivial, ⟨tl, r_tl, by rw [ht9]; exact hP9, hD9⟩⟩, hS.F ht9⟩) hS.2.2 dX11_end_16
set_option maxHeartbeats 4000000 in
set_option maxRecDepth 100000 in
theorem c_Rule_reckon_w (l : Launch) (D : va_G) (cs : Nat → ClassId) (X : XX) (sz : Nat) (hu : Nat) (ru1 : Nat) (ru2 : Nat) (ru3 : Nat) (n1 : Nat) (n2 : Nat) (gc_ : Nat → Int32) (gb_ : Nat → Int32) (gs_ : Nat → Int64) (hw0 : Nat) (gw : Nat → Int32) (a : Int32) (b : Int32) (hn1 : n1 ≤ 400) (hn2 : n2 ≤ 25) (r_a : Rg 0 400 a) (r_b : Rg 0 400 b) : Met l yX7_reckon (Cond.code yX7_reckon cX7_reckon 8 (some .long) :: TB) (RM 1 0 0) (va_Pc [.ref hu, .int a, .int b, .ref hw0] (PRE D cs X [(ru3, .inl ((cs 4), 64, .inr (.inl gs_))), (hw0, .inl ((cs 0), 12, .inl gw))] [(hu, .inr (5, [.ref ru1, .ref ru2, .ref ru3])), (ru1, .inl ((cs 0), n1, .inl gc_)), (ru2, .inl ((cs 0), n2, .inl gb_))] sz)) (va_Ql (S := Unit) (fun _ _ => True) (fun _ t => ∃ (gs2 : Nat → Int64), va_P D vwCl [(ru3, .inl ((cs 4), 64, .inr (.inl gs2))), (hw0, .inl ((cs 0), 12, .inl gw))] t.heap ∧ va_D (va_A [(ru3, .inl ((cs 4), 64, .inr (.inl gs_))), (hw0, .inl ((cs 0), 12, .inl gw))] sz) [(ru3, .inl ((cs 4), 64, .inr (.inl gs2))), (hw0, .inl ((cs 0), 12, .inl gw))]) (va_A [(ru3, .inl ((cs 4), 64, .inr (.inl gs_))), (hw0, .inl ((cs 0), 12, .inl gw))] sz)) 0 0 (va_A [(ru3, .inl ((cs 4), 64, .inr (.inl gs_))), (hw0, .inl ((cs 0), 12, .inl gw))] sz) := by
  refine MET (y := yX7_reckon) (cc := cX7_reckon) (maxL := 8) (ret := (some .long)) (d := 1) (mc := 0) (ms := 0) (D := D) (cs := cs) (X := X) (ws := [(ru3, .inl ((cs 4), 64, .inr (.inl gs_))), (hw0, .inl ((cs 0), 12, .inl gw))]) (wo := [(hu, .inr (5, [.ref ru1, .ref ru2, .ref ru3])), (ru1, .inl ((cs 0), n1, .inl gc_)), (ru2, .inl ((cs 0), n2, .inl gb_))]) (sz := sz) (av := [.ref hu, .int a, .int b, .ref hw0]) (Qc := fun A => va_Ql (S := Unit) (fun _ _ => True) (fun _ t => ∃ (gs2 : Nat → Int64), va_P D vwCl [(ru3, .inl ((cs 4), 64, .inr (.inl gs2))), (hw0, .inl ((cs 0), 12, .inl gw))] t.heap ∧ va_D A [(ru3, .inl ((cs 4), 64, .inr (.inl gs2))), (hw0, .inl ((cs 0), 12, .inl gw))]) A) (by decide) (Nat.le_of_ble_eq_true rfl) ?_
  intro p e s m below meth c ls A H hHe hx hb hr hml hown hts hlocks hnm hP hK hD hA hS hN hR hX hXs hl
  have hD : va_D A [(ru3, .inl ((cs 4), 64, .inr (.inl gs_))), (hw0, .inl ((cs 0), 12, .inl gw))] := hD
  have hPo := hR.at hS
  obtain ⟨locs, hlc⟩ : ∃ z : List Loc, z = [] := ⟨_, rfl⟩
  rw [← hlc] at hS ⊢
  have hown : s.vm.findClass "WrongHole$Rule" = some m.cls := hown
  have hT : ∀ w ∈ TB, w.before ([.ref hu, .int a, .int b, .ref hw0] : List Value).toArray s = true := fun w h => hts w (List.mem_cons_of_mem _ h)
  have hl : lv_has ls 8 [(0, .ref hu), (1, .int a), (2, .int b), (3, .ref hw0)] := hl
  have hP : va_P D vwCl [(ru3, .inl ((cs 4), 64, .inr (.inl gs_))), (hw0, .inl ((cs 0), 12, .inl gw))] H := hP
  refine lv_iconst (v := 0) hx hb dX7_reckon_0 (by decide) ?_
  refine lv_istore (lv' := [(4, .int 0), (0, .ref hu), (1, .int a), (2, .int b), (3, .ref hw0)]) hx hb dX7_reckon_1 hl (by decide) rfl (fun ls hl => ?_)
  refine lv_iload_n hx hb dX7_reckon_3 rfl (lv_at hl 2 rfl) ?_
  refine lv_istore (lv' := [(5, .int a), (4, .int 0), (0, .ref hu), (1, .int a), (2, .int b), (3, .ref hw0)]) hx hb dX7_reckon_4 hl (by decide) rfl (fun ls hl => ?_)
  refine w_wh (σ := (Int32) × (Int32) × (Nat → Int64)) (fun x9 H locs ls => match x9 with | (v_141, v_142, g_143) => Rg 0 400 v_141 ∧ Rg 0 64 v_142 ∧ va_P D vwCl [(ru3, .inl ((cs 4), 64, .inr (.inl g_143))), (hw0, .inl ((cs 0), 12, .inl gw))] H ∧ va_D A [(ru3, .inl ((cs 4), 64, .inr (.inl g_143))), (hw0, .inl ((cs 0), 12, .inl gw))] ∧ va_S A s.heap H locs ∧ lv_has ls 8 [(5, .int v_141), (4, .int v_142), (0, .ref hu), (1, .int a), (2, .int b), (3, .ref hw0)]) (fun x9 => match x9 with | (v_141, v_142, g_143) => (400 - Int32.toInt v_141).toNat) 6 ?_ (a, 0, gs_) H locs ls ⟨r_a, (Rg.wk (lo2 := 0) (hi2 := 64) (Rg.c (c := 0) (k := 0) rfl) (by decide)), hP, hD, hS, lv_sub hl [0, 1, 2, 3, 4, 5] rfl⟩
  rintro ⟨v_141, v_142, g_143⟩ H locs ls ⟨r_5029, r_5030, hP, hD, hS, hl⟩ ih_5028
  have hPo := hR.at hS
  refine lv_iload hx hb dX7_reckon_6 (lv_at hl 0 rfl) ?_
  refine lv_iload_n hx hb dX7_reckon_8 rfl (lv_at hl 4 rfl) ?_
  refine w_cut (σ := Unit) (fun _ H locs ls => va_P D vwCl [(ru3, .inl ((cs 4), 64, .inr (.inl g_143))), (hw0, .inl ((cs 0), 12, .inl gw))] H ∧ va_D A [(ru3, .inl ((cs 4), 64, .inr (.inl g_143))), (hw0, .inl ((cs 0), 12, .inl gw))] ∧ va_S A s.heap H locs ∧ lv_has ls 8 [(5, .int v_141), (4, .int v_142), (0, .ref hu), (1, .int a), (2, .int b), (3, .ref hw0)]) 178 (fun _ => []) ?_ (fun hj_5184 => ?_)
  · rintro _ H locs ls ⟨hP, hD, hS, hl⟩
    have hPo := hR.at hS
    refine lv_iload hx hb dX7_reckon_178 (lv_at hl 1 rfl) ?_
    refine lv_iconst (v := 1) hx hb dX7_reckon_180 (by decide) ?_
    refine lv_icmp_lt (tgt := 196) hx hb dX7_reckon_181 (by decide) (fun c_5185 => ?_) (fun c_5185 => ?_)
    · have r_5186 : Rg 0 0 v_142 := Rg.lt_l c_5185 r_5030 (Rg.c (c := 1) (k := 1) rfl) (by decide)
      refine lv_lconst (v := 0) hx hb dX7_reckon_196 (by decide) ?_
      refine W.widen (k := 0) (n := 0) (Nat.le_of_ble_eq_true rfl) (Nat.le_of_ble_eq_true rfl) ?_
      have hP9 := hP.sub (ws' := [(ru3, .inl ((cs 4), 64, .inr (.inl g_143))), (hw0, .inl ((cs 0), 12, .inl gw))]) [0, 1] rfl
      have hD9 := hD.sub (ws' := [(ru3, .inl ((cs 4), 64, .inr (.inl g_143))), (hw0, .inl ((cs 0), 12, .inl gw))]) [0, 1] (by decide) rfl
      exact W.lret (v := 0) hx hb hr (fun t9 ht9 hW9 => ⟨⟨_, (), rfl, trivial, ⟨g_143, by rw [ht9]; exact hP9, hD9⟩⟩, hS.F ht9⟩) hS.2.2 dX7_reckon_197
    · have r_5187 : Rg 1 64 v_142 := Rg.le_r (nlt_le c_5185) (Rg.c (c := 1) (k := 1) rfl) r_5030 (by decide)
      refine lv_aload_n hx hb dX7_reckon_184 rfl (lv_at hl 2 rfl) ?_
      refine va_get (D := D) (ci := 5) (v := .ref ru3) (C := "WrongHole$Rule") (T := TX7) (N := 3) hx hb hts (iq_RX7 _) hown hK hPo 0 rfl rfl 2 (by decide) (hT _ qq_3_148) (fun _ h9 => h9) rfl dX7_reckon_185 ?_
      refine lv_iload hx hb dX7_reckon_188 (lv_at hl 1 rfl) ?_
      refine lv_iconst (v := 1) hx hb dX7_reckon_190 (by decide) ?_
      refine lv_isub hx hb dX7_reckon_191 ?_
      refine lv_topi (fun x_5193 e_5194 => ?_)
      have r_5195 : Rg 0 63 x_5193 := Rg.sub e_5194 r_5187 (Rg.c (c := 1) (k := 1) rfl) (by decide)
      have hi_5196 : vp_in x_5193 64 := Rg.in r_5195 (by decide)
      refine va_lald hx hb hK hP 0 4 rfl rfl hi_5196 dX7_reckon_192 ?_
      refine lv_topl (fun x_5197 e_5198 => ?_)
      refine lv_goto (tgt := 197) hx hb dX7_reckon_193 (by decide) ?_
      refine W.widen (k := 0) (n := 0) (Nat.le_of_ble_eq_true rfl) (Nat.le_of_ble_eq_true rfl) ?_
      have hP9 := hP.sub (ws' := [(ru3, .inl ((cs 4), 64, .inr (.inl g_143))), (hw0, .inl ((cs 0), 12, .inl gw))]) [0, 1] rfl
      have hD9 := hD.sub (ws' := [(ru3, .inl ((cs 4), 64, .inr (.inl g_143))), (hw0, .inl ((cs 0), 12, .inl gw))]) [0, 1] (by decide) rfl
      exact W.lret (v := x_5197) hx hb hr (fun t9 ht9 hW9 => ⟨⟨_, (), rfl, trivial, ⟨g_143, by rw [ht9]; exact hP9, hD9⟩⟩, hS.F ht9⟩) hS.2.2 dX7_reckon_197
  · refine lv_icmp_ge (tgt := 178) hx hb dX7_reckon_9 (by decide) (fun c_5031 => ?_) (fun c_5031 => ?_)
    · exact hj_5184 () _ _ _ ⟨hP, hD, hS, lv_sub hl [0, 1, 2, 3, 4, 5] rfl⟩
    · have r_5032 : Rg 0 399 v_141 := Rg.lt_l (nle_lt c_5031) r_5029 r_b (by decide)
      have r_5033 : Rg 1 400 b := Rg.lt_r (nle_lt c_5031) r_5029 r_b (by decide)
      refine lv_iload hx hb dX7_reckon_12 (lv_at hl 0 rfl) ?_
      refine lv_aload_n hx hb dX7_reckon_14 rfl (lv_at hl 2 rfl) ?_
      refine va_get (D := D) (ci := 5) (v := .ref ru1) (C := "WrongHole$Rule") (T := TX7) (N := 3) hx hb hts (iq_RX7 _) hown hK hPo 0 rfl rfl 0 (by decide) (hT _ qq_3_146) (fun _ h9 => h9) rfl dX7_reckon_15 ?_
      refine va_alen (v := nI n1) hx hb hK hPo 1 0 rfl rfl rfl dX7_reckon_18 ?_
      refine lv_icmp_ge (tgt := 178) hx hb dX7_reckon_19 (by decide) (fun c_5199 => ?_) (fun c_5199 => ?_)
      · have r_5200 : Rg (-2147483648) 399 (nI n1) := Rg.le_l c_5199 (Rg.top (nI n1)) r_5032 (by decide)
        exact hj_5184 () _ _ _ ⟨hP, hD, hS, lv_sub hl [0, 1, 2, 3, 4, 5] rfl⟩
      · have r_5201 : Rg 1 2147483647 (nI n1) := Rg.lt_r (nle_lt c_5199) r_5032 (Rg.top (nI n1)) (by decide)
        refine lv_aload_n hx hb dX7_reckon_22 rfl (lv_at hl 2 rfl) ?_
        refine va_get (D := D) (ci := 5) (v := .ref ru1) (C := "WrongHole$Rule") (T := TX7) (N := 3) hx hb hts (iq_RX7 _) hown hK hPo 0 rfl rfl 0 (by decide) (hT _ qq_3_146) (fun _ h9 => h9) rfl dX7_reckon_23 ?_
        refine lv_iload hx hb dX7_reckon_26 (lv_at hl 0 rfl) ?_
        have hi_5202 : vp_in v_141 n1 := in_ge c_5199 r_5032 (by decide) (Nat.lt_of_le_of_lt hn1 (by decide))
        refine va_iald hx hb hK hPo 1 0 rfl rfl hi_5202 dX7_reckon_28 ?_
        refine lv_topi (fun x_5203 e_5204 => ?_)
        refine lv_bipush (v := 15) hx hb dX7_reckon_29 (by decide) ?_
        refine lv_iand hx hb dX7_reckon_31 ?_
        refine lv_topi (fun x_5205 e_5206 => ?_)
        have r_5207 : Rg 0 15 x_5205 := Rg.and e_5206 (Rg.c (c := 15) (k := 15) rfl) (by decide)
        refine lv_istore (lv' := [(6, .int x_5205), (5, .int v_141), (4, .int v_142), (0, .ref hu), (1, .int a), (2, .int b), (3, .ref hw0)]) hx hb dX7_reckon_32 hl (by decide) rfl (fun ls hl => ?_)
        refine lv_aload_n hx hb dX7_reckon_34 rfl (lv_at hl 3 rfl) ?_
        refine va_get (D := D) (ci := 5) (v := .ref ru1) (C := "WrongHole$Rule") (T := TX7) (N := 3) hx hb hts (iq_RX7 _) hown hK hPo 0 rfl rfl 0 (by decide) (hT _ qq_3_146) (fun _ h9 => h9) rfl dX7_reckon_35 ?_
        refine lv_iload hx hb dX7_reckon_38 (lv_at hl 1 rfl) ?_
        have hi_5208 : vp_in v_141 n1 := in_ge c_5199 r_5032 (by decide) (Nat.lt_of_le_of_lt hn1 (by decide))
        refine va_iald hx hb hK hPo 1 0 rfl rfl hi_5208 dX7_reckon_40 ?_
        refine lv_topi (fun x_5209 e_5210 => ?_)
        refine lv_iconst (v := 4) hx hb dX7_reckon_41 (by decide) ?_
        refine lv_ishr hx hb dX7_reckon_42 ?_
        refine lv_topi (fun x_5211 e_5212 => ?_)
        refine lv_istore (lv' := [(7, .int x_5211), (6, .int x_5205), (5, .int v_141), (4, .int v_142), (0, .ref hu), (1, .int a), (2, .int b), (3, .ref hw0)]) hx hb dX7_reckon_43 hl (by decide) rfl (fun ls hl => ?_)
        refine lv_iload hx hb dX7_reckon_45 (lv_at hl 1 rfl) ?_
        refine lv_iconst (v := 1) hx hb dX7_reckon_47 (by decide) ?_
        refine w_cut (σ := (Int32) × (Nat → Int64)) (fun x9 H locs ls => match x9 with | (v_5281, g_5282) => Rg 0 64 v_5281 ∧ va_P D vwCl [(ru3, .inl ((cs 4), 64, .inr (.inl g_5282))), (hw0, .inl ((cs 0), 12, .inl gw))] H ∧ va_D A [(ru3, .inl ((cs 4), 64, .inr (.inl g_5282))), (hw0, .inl ((cs 0), 12, .inl gw))] ∧ va_S A s.heap H locs ∧ lv_has ls 8 [(7, .int x_5211), (6, .int x_5205), (5, .int v_141), (4, .int v_5281), (0, .ref hu), (1, .int a), (2, .int b), (3, .ref hw0)]) 172 (fun x9 => match x9 with | (v_5281, g_5282) => []) ?_ (fun hj_5283 => ?_)
        · rintro ⟨v_5281, g_5282⟩ H locs ls ⟨r_5284, hP, hD, hS, hl⟩
          have hPo := hR.at hS
          obtain ⟨x_5285, e_5286⟩ : ∃ z : Int32, z = v_141 + Int32.ofInt 1 := ⟨_, rfl⟩
          have r_5287 : Rg 1 400 x_5285 := Rg.add e_5286 r_5032 (Rg.c (c := Int32.ofInt 1) (k := 1) rfl) (by decide)
          refine lv_iinc (v := x_5285) (lv' := [(5, .int x_5285), (7, .int x_5211), (6, .int x_5205), (4, .int v_5281), (0, .ref hu), (1, .int a), (2, .int b), (3, .ref hw0)]) hx hb dX7_reckon_172 hl (k := 2) rfl (e_5286.symm) (by decide) rfl (fun ls hl => ?_)
          refine lv_goto (tgt := 6) hx hb dX7_reckon_175 (by decide) ?_
          exact ih_5028 (x_5285, v_5281, g_5282) _ _ _ ⟨(Rg.wk (lo2 := 0) (hi2 := 400) r_5287 (by decide)), r_5284, hP, hD, hS, lv_sub hl [0, 3, 4, 5, 6, 7] rfl⟩ (ms_up e_5286 r_5032 (Rg.c (c := Int32.ofInt 1) (k := 1) rfl) (by decide))
        · refine lv_icmp_gt (tgt := 89) hx hb dX7_reckon_48 (by decide) (fun c_5213 => ?_) (fun c_5213 => ?_)
          · have r_5214 : Rg 2 15 x_5205 := Rg.lt_r c_5213 (Rg.c (c := 1) (k := 1) rfl) r_5207 (by decide)
            refine lv_iload hx hb dX7_reckon_89 (lv_at hl 1 rfl) ?_
            refine lv_bipush (v := 12) hx hb dX7_reckon_91 (by decide) ?_
            refine lv_icmp_ne (tgt := 133) hx hb dX7_reckon_93 (by decide) (fun c_5288 => ?_) (fun c_5288 => ?_)
            · refine lv_iload hx hb dX7_reckon_133 (lv_at hl 3 rfl) ?_
              refine lv_iconst (v := 2) hx hb dX7_reckon_135 (by decide) ?_
              refine lv_icmp_lt (tgt := 172) hx hb dX7_reckon_136 (by decide) (fun c_5290 => ?_) (fun c_5290 => ?_)
              · have r_5291 : Rg 0 1 v_142 := Rg.lt_l c_5290 r_5030 (Rg.c (c := 2) (k := 2) rfl) (by decide)
                exact hj_5283 (v_142, g_143) _ _ _ ⟨(Rg.wk (lo2 := 0) (hi2 := 64) r_5291 (by decide)), hP, hD, hS, lv_sub hl [0, 1, 2, 3, 4, 5, 6, 7] rfl⟩
              · have r_5292 : Rg 2 64 v_142 := Rg.le_r (nlt_le c_5290) (Rg.c (c := 2) (k := 2) rfl) r_5030 (by decide)
                obtain ⟨x_5293, e_5294⟩ : ∃ z : Int32, z = v_142 + Int32.ofInt (-1) := ⟨_, rfl⟩
                have r_5295 : Rg 1 63 x_5293 := Rg.add e_5294 r_5292 (Rg.c (c := Int32.ofInt (-1)) (k := (-1)) rfl) (by decide)
                refine lv_iinc (v := x_5293) (lv' := [(4, .int x_5293), (7, .int x_5211), (6, .int x_5205), (5, .int v_141), (0, .ref hu), (1, .int a), (2, .int b), (3, .ref hw0)]) hx hb dX7_reckon_139 hl (k := 3) rfl (e_5294.symm) (by decide) rfl (fun ls hl => ?_)
                refine lv_aload_n hx hb dX7_reckon_142 rfl (lv_at hl 4 rfl) ?_
                refine va_get (D := D) (ci := 5) (v := .ref ru3) (C := "WrongHole$Rule") (T := TX7) (N := 3) hx hb hts (iq_RX7 _) hown hK hPo 0 rfl rfl 2 (by decide) (hT _ qq_3_148) (fun _ h9 => h9) rfl dX7_reckon_143 ?_
                refine lv_iload hx hb dX7_reckon_146 (lv_at hl 0 rfl) ?_
                refine lv_iconst (v := 1) hx hb dX7_reckon_148 (by decide) ?_
                refine lv_isub hx hb dX7_reckon_149 ?_
                refine lv_topi (fun x_5296 e_5297 => ?_)
                have r_5298 : Rg 0 62 x_5296 := Rg.sub e_5297 r_5295 (Rg.c (c := 1) (k := 1) rfl) (by decide)
                refine lv_iload hx hb dX7_reckon_150 (lv_at hl 2 rfl) ?_
                refine lv_aload_n hx hb dX7_reckon_152 rfl (lv_at hl 4 rfl) ?_
                refine va_get (D := D) (ci := 5) (v := .ref ru3) (C := "WrongHole$Rule") (T := TX7) (N := 3) hx hb hts (iq_RX7 _) hown hK hPo 0 rfl rfl 2 (by decide) (hT _ qq_3_148) (fun _ h9 => h9) rfl dX7_reckon_153 ?_
                refine lv_iload hx hb dX7_reckon_156 (lv_at hl 0 rfl) ?_
                refine lv_iconst (v := 1) hx hb dX7_reckon_158 (by decide) ?_
                refine lv_isub hx hb dX7_reckon_159 ?_
                refine lv_topi (fun x_5299 e_5300 => ?_)
                have r_5301 : Rg 0 62 x_5299 := Rg.sub e_5300 r_5295 (Rg.c (c := 1) (k := 1) rfl) (by decide)
                have hi_5302 : vp_in x_5299 64 := Rg.in r_5301 (by decide)
                refine va_lald hx hb hK hP 0 4 rfl rfl hi_5302 dX7_reckon_160 ?_
                refine lv_topl (fun x_5303 e_5304 => ?_)
                refine lv_aload_n hx hb dX7_reckon_161 rfl (lv_at hl 4 rfl) ?_
                refine va_get (D := D) (ci := 5) (v := .ref ru3) (C := "WrongHole$Rule") (T := TX7) (N := 3) hx hb hts (iq_RX7 _) hown hK hPo 0 rfl rfl 2 (by decide) (hT _ qq_3_148) (fun _ h9 => h9) rfl dX7_reckon_162 ?_
                refine lv_iload hx hb dX7_reckon_165 (lv_at hl 0 rfl) ?_
                have hi_5305 : vp_in x_5293 64 := Rg.in r_5295 (by decide)
                refine va_lald hx hb hK hP 0 4 rfl rfl hi_5305 dX7_reckon_167 ?_
                refine lv_topl (fun x_5306 e_5307 => ?_)
                have hPc := va_P.sub (ws' := []) hP [] rfl
                refine cl_P (W.runS (As := [.int x_5205, .long x_5303, .long x_5306]) (rest := [.int x_5296, .ref ru3]) ⟨hx, hb, hml, hown, hts⟩ (c_Rule_join l D cs x_5205 x_5303 x_5306) ⟨callB_of 3 hts (gd_C qq_4_100) rfl rfl rfl (hT _ qq_1_18) (hT _ qq_4_98) (by decide +kernel) (rm_R rfl rfl), (hT _ qq_4_99)⟩ (pq_S hPc hK hN) rfl rfl hl.1 rfl (lv_room (Nat.le_of_ble_eq_true rfl)) dX7_reckon_168 ⟨Nat.le_of_ble_eq_true rfl, Nat.le_of_ble_eq_true rfl⟩) (fun v9 hz_5309 => ?_)
                obtain ⟨x_5308, rfl⟩ := hz_5309
                have hi_5311 : vp_in x_5296 64 := Rg.in r_5298 (by decide)
                refine va_last hx hb hK hP hD hS 0 4 rfl rfl hi_5311 dX7_reckon_171 (fun H locs hP hD hS => ?_)
                obtain ⟨g_5312, hP, hD⟩ : ∃ g_5312 : Nat → Int64, va_P D vwCl [(ru3, .inl ((cs 4), 64, .inr (.inl g_5312))), (hw0, .inl ((cs 0), 12, .inl gw))] H ∧ va_D A [(ru3, .inl ((cs 4), 64, .inr (.inl g_5312))), (hw0, .inl ((cs 0), 12, .inl gw))] := ⟨_, hP, hD⟩
                have hPo := hR.at hS
                exact hj_5283 (x_5293, g_5312) _ _ _ ⟨(Rg.wk (lo2 := 0) (hi2 := 64) r_5295 (by decide)), hP, hD, hS, lv_sub hl [1, 2, 3, 0, 4, 5, 6, 7] rfl⟩
            · have r_5289 : Rg 12 12 x_5205 := Rg.eq_l c_5288 r_5214 (Rg.c (c := 12) (k := 12) rfl) (by decide)
              refine lv_iload hx hb dX7_reckon_96 (lv_at hl 3 rfl) ?_
              refine lv_iconst (v := 1) hx hb dX7_reckon_98 (by decide) ?_
              refine lv_icmp_lt (tgt := 172) hx hb dX7_reckon_99 (by decide) (fun c_5313 => ?_) (fun c_5313 => ?_)
              · have r_5314 : Rg 0 0 v_142 := Rg.lt_l c_5313 r_5030 (Rg.c (c := 1) (k := 1) rfl) (by decide)
                exact hj_5283 (v_142, g_143) _ _ _ ⟨(Rg.wk (lo2 := 0) (hi2 := 64) r_5314 (by decide)), hP, hD, hS, lv_sub hl [0, 1, 2, 3, 4, 5, 6, 7] rfl⟩
              · have r_5315 : Rg 1 64 v_142 := Rg.le_r (nlt_le c_5313) (Rg.c (c := 1) (k := 1) rfl) r_5030 (by decide)
                refine lv_aload_n hx hb dX7_reckon_102 rfl (lv_at hl 4 rfl) ?_
                refine va_get (D := D) (ci := 5) (v := .ref ru3) (C := "WrongHole$Rule") (T := TX7) (N := 3) hx hb hts (iq_RX7 _) hown hK hPo 0 rfl rfl 2 (by decide) (hT _ qq_3_148) (fun _ h9 => h9) rfl dX7_reckon_103 ?_
                refine lv_iload hx hb dX7_reckon_106 (lv_at hl 3 rfl) ?_
                refine lv_iconst (v := 1) hx hb dX7_reckon_108 (by decide) ?_
                refine lv_isub hx hb dX7_reckon_109 ?_
                refine lv_topi (fun x_5316 e_5317 => ?_)
                have r_5318 : Rg 0 63 x_5316 := Rg.sub e_5317 r_5315 (Rg.c (c := 1) (k := 1) rfl) (by decide)
                refine lv_aload_n hx hb dX7_reckon_110 rfl (lv_at hl 4 rfl) ?_
                refine va_get (D := D) (ci := 5) (v := .ref ru3) (C := "WrongHole$Rule") (T := TX7) (N := 3) hx hb hts (iq_RX7 _) hown hK hPo 0 rfl rfl 2 (by decide) (hT _ qq_3_148) (fun _ h9 => h9) rfl dX7_reckon_111 ?_
                refine lv_iload hx hb dX7_reckon_114 (lv_at hl 3 rfl) ?_
                refine lv_iconst (v := 1) hx hb dX7_reckon_116 (by decide) ?_
                refine lv_isub hx hb dX7_reckon_117 ?_
                refine lv_topi (fun x_5319 e_5320 => ?_)
                have r_5321 : Rg 0 63 x_5319 := Rg.sub e_5320 r_5315 (Rg.c (c := 1) (k := 1) rfl) (by decide)
                have hi_5322 : vp_in x_5319 64 := Rg.in r_5321 (by decide)
                refine va_lald hx hb hK hP 0 4 rfl rfl hi_5322 dX7_reckon_118 ?_
                refine lv_topl (fun x_5323 e_5324 => ?_)
                refine lv_lconst (v := 0) hx hb dX7_reckon_119 (by decide) ?_
                refine W.lcmp hx hb dX7_reckon_120 ?_
                refine lv_topi (fun x_5325 e_5326 => ?_)
                have r_5327 : Rg (-1) 1 x_5325 := Rg.of e_5326 (cmp_r _ _)
                refine w_cut (σ := (Int64)) (fun (z_5330 : Int64) H locs ls => va_P D vwCl [(ru3, .inl ((cs 4), 64, .inr (.inl g_143))), (hw0, .inl ((cs 0), 12, .inl gw))] H ∧ va_D A [(ru3, .inl ((cs 4), 64, .inr (.inl g_143))), (hw0, .inl ((cs 0), 12, .inl gw))] ∧ va_S A s.heap H locs ∧ lv_has ls 8 [(7, .int x_5211), (6, .int x_5205), (5, .int v_141), (4, .int v_142), (0, .ref hu), (1, .int a), (2, .int b), (3, .ref hw0)]) 129 (fun (z_5330 : Int64) => [.long z_5330, .int x_5316, .ref ru3]) ?_ (fun hj_5331 => ?_)
                · rintro z_5330 H locs ls ⟨hP, hD, hS, hl⟩
                  have hPo := hR.at hS
                  have hi_5332 : vp_in x_5316 64 := Rg.in r_5318 (by decide)
                  refine va_last hx hb hK hP hD hS 0 4 rfl rfl hi_5332 dX7_reckon_129 (fun H locs hP hD hS => ?_)
                  obtain ⟨g_5333, hP, hD⟩ : ∃ g_5333 : Nat → Int64, va_P D vwCl [(ru3, .inl ((cs 4), 64, .inr (.inl g_5333))), (hw0, .inl ((cs 0), 12, .inl gw))] H ∧ va_D A [(ru3, .inl ((cs 4), 64, .inr (.inl g_5333))), (hw0, .inl ((cs 0), 12, .inl gw))] := ⟨_, hP, hD⟩
                  have hPo := hR.at hS
                  refine lv_goto (tgt := 172) hx hb dX7_reckon_130 (by decide) ?_
                  exact hj_5283 (v_142, g_5333) _ _ _ ⟨(Rg.wk (lo2 := 0) (hi2 := 64) r_5315 (by decide)), hP, hD, hS, lv_sub hl [0, 1, 2, 3, 4, 5, 6, 7] rfl⟩
                · refine lv_if_ne (tgt := 128) hx hb dX7_reckon_121 (by decide) (fun c_5328 => ?_) (fun c_5328 => ?_)
                  · refine lv_lconst (v := 0) hx hb dX7_reckon_128 (by decide) ?_
                    exact hj_5331 0 _ _ _ ⟨hP, hD, hS, lv_sub hl [0, 1, 2, 3, 4, 5, 6, 7] rfl⟩
                  · have r_5329 : Rg 0 0 x_5325 := Rg.eq_l c_5328 r_5327 (Rg.c (c := 0) (k := 0) rfl) (by decide)
                    refine lv_lconst (v := 1) hx hb dX7_reckon_124 (by decide) ?_
                    refine lv_goto (tgt := 129) hx hb dX7_reckon_125 (by decide) ?_
                    exact hj_5331 1 _ _ _ ⟨hP, hD, hS, lv_sub hl [0, 1, 2, 3, 4, 5, 6, 7] rfl⟩
          · have r_5215 : Rg 0 1 x_5205 := Rg.le_l (nlt_le c_5213) r_5207 (Rg.c (c := 1) (k := 1) rfl) (by decide)
            refine lv_iload hx hb dX7_reckon_51 (lv_at hl 3 rfl) ?_
            refine lv_bipush (v := 64) hx hb dX7_reckon_53 (by decide) ?_
            refine lv_icmp_ge (tgt := 172) hx hb dX7_reckon_55 (by decide) (fun c_5334 => ?_) (fun c_5334 => ?_)
            · have r_5335 : Rg 64 64 v_142 := Rg.le_r c_5334 (Rg.c (c := 64) (k := 64) rfl) r_5030 (by decide)
              exact hj_5283 (v_142, g_143) _ _ _ ⟨(Rg.wk (lo2 := 0) (hi2 := 64) r_5335 (by decide)), hP, hD, hS, lv_sub hl [0, 1, 2, 3, 4, 5, 6, 7] rfl⟩
            · have r_5336 : Rg 0 63 v_142 := Rg.lt_l (nle_lt c_5334) r_5030 (Rg.c (c := 64) (k := 64) rfl) (by decide)
              refine lv_aload_n hx hb dX7_reckon_58 rfl (lv_at hl 4 rfl) ?_
              refine va_get (D := D) (ci := 5) (v := .ref ru3) (C := "WrongHole$Rule") (T := TX7) (N := 3) hx hb hts (iq_RX7 _) hown hK hPo 0 rfl rfl 2 (by decide) (hT _ qq_3_148) (fun _ h9 => h9) rfl dX7_reckon_59 ?_
              refine lv_iload hx hb dX7_reckon_62 (lv_at hl 3 rfl) ?_
              refine lv_iload hx hb dX7_reckon_64 (lv_at hl 1 rfl) ?_
              refine w_cut (σ := (Int64)) (fun (z_5347 : Int64) H locs ls => va_P D vwCl [(ru3, .inl ((cs 4), 64, .inr (.inl g_143))), (hw0, .inl ((cs 0), 12, .inl gw))] H ∧ va_D A [(ru3, .inl ((cs 4), 64, .inr (.inl g_143))), (hw0, .inl ((cs 0), 12, .inl gw))] ∧ va_S A s.heap H locs ∧ lv_has ls 8 [(7, .int x_5211), (6, .int x_5205), (5, .int v_141), (4, .int v_142), (0, .ref hu), (1, .int a), (2, .int b), (3, .ref hw0)]) 82 (fun (z_5347 : Int64) => [.long z_5347, .int v_142, .ref ru3]) ?_ (fun hj_5348 => ?_)
              · rintro z_5347 H locs ls ⟨hP, hD, hS, hl⟩
                have hPo := hR.at hS
                have hi_5349 : vp_in v_142 64 := Rg.in r_5336 (by decide)
                refine va_last hx hb hK hP hD hS 0 4 rfl rfl hi_5349 dX7_reckon_82 (fun H locs hP hD hS => ?_)
                obtain ⟨g_5350, hP, hD⟩ : ∃ g_5350 : Nat → Int64, va_P D vwCl [(ru3, .inl ((cs 4), 64, .inr (.inl g_5350))), (hw0, .inl ((cs 0), 12, .inl gw))] H ∧ va_D A [(ru3, .inl ((cs 4), 64, .inr (.inl g_5350))), (hw0, .inl ((cs 0), 12, .inl gw))] := ⟨_, hP, hD⟩
                have hPo := hR.at hS
                obtain ⟨x_5351, e_5352⟩ : ∃ z : Int32, z = v_142 + Int32.ofInt 1 := ⟨_, rfl⟩
                have r_5353 : Rg 1 64 x_5351 := Rg.add e_5352 r_5336 (Rg.c (c := Int32.ofInt 1) (k := 1) rfl) (by decide)
                refine lv_iinc (v := x_5351) (lv' := [(4, .int x_5351), (7, .int x_5211), (6, .int x_5205), (5, .int v_141), (0, .ref hu), (1, .int a), (2, .int b), (3, .ref hw0)]) hx hb dX7_reckon_83 hl (k := 3) rfl (e_5352.symm) (by decide) rfl (fun ls hl => ?_)
                refine lv_goto (tgt := 172) hx hb dX7_reckon_86 (by decide) ?_
                exact hj_5283 (x_5351, g_5350) _ _ _ ⟨(Rg.wk (lo2 := 0) (hi2 := 64) r_5353 (by decide)), hP, hD, hS, lv_sub hl [1, 2, 3, 0, 4, 5, 6, 7] rfl⟩
              · refine lv_if_ne (tgt := 75) hx hb dX7_reckon_66 (by decide) (fun c_5337 => ?_) (fun c_5337 => ?_)
                · have r_5338 : Rg 1 1 x_5205 := Rg.ne c_5337 r_5215 (Rg.c (c := 0) (k := 0) rfl) (by decide)
                  refine lv_aload_n hx hb dX7_reckon_75 rfl (lv_at hl 7 rfl) ?_
                  refine lv_iload hx hb dX7_reckon_76 (lv_at hl 0 rfl) ?_
                  have hPc := va_P.sub (ws' := [(hw0, .inl ((cs 0), 12, .inl gw))]) hP [1] rfl
                  refine cl_P (W.runS (As := [.ref hw0, .int x_5211]) (rest := [.int v_142, .ref ru3]) ⟨hx, hb, hml, hown, hts⟩ (c_Rule_wordAt l D cs hw0 gw x_5211) ⟨callB_of 2 hts (gd_C qq_4_97) rfl rfl rfl (hT _ qq_1_18) (hT _ qq_4_95) (by decide +kernel) (rm_R rfl rfl), (hT _ qq_4_96)⟩ (pq_S hPc hK hN) rfl rfl hl.1 rfl (lv_room (Nat.le_of_ble_eq_true rfl)) dX7_reckon_78 ⟨Nat.le_of_ble_eq_true rfl, Nat.le_of_ble_eq_true rfl⟩) (fun v9 hz_5355 => ?_)
                  obtain ⟨x_5354, rfl⟩ := hz_5355
                  refine lv_i2l (v := Int32.toInt64 x_5354) hx hb dX7_reckon_81 rfl ?_
                  refine lv_topl (fun x_5357 e_5358 => ?_)
                  exact hj_5348 x_5357 _ _ _ ⟨hP, hD, hS, lv_sub hl [0, 1, 2, 3, 4, 5, 6, 7] rfl⟩
                · have r_5339 : Rg 0 0 x_5205 := Rg.eq_l c_5337 r_5215 (Rg.c (c := 0) (k := 0) rfl) (by decide)
                  refine lv_iload hx hb dX7_reckon_69 (lv_at hl 0 rfl) ?_
                  refine lv_i2l (v := Int32.toInt64 x_5211) hx hb dX7_reckon_71 rfl ?_
                  refine lv_topl (fun x_5359 e_5360 => ?_)
                  refine lv_goto (tgt := 82) hx hb dX7_reckon_72 (by decide) ?_
                  exact hj_5348 x_5359 _ _ _ ⟨hP, hD, hS, lv_sub hl [0, 1, 2, 3, 4, 5, 6, 7] rfl⟩
set_option maxHeartbeats 4000000 in
set_option maxRecDepth 100000 in
theorem c_Rule_sumFor_w (l : Launch) (D : va_G) (cs : Nat → ClassId) (X : XX) (sz : Nat) (hu : Nat) (ru1 : Nat) (ru2 : Nat) (ru3 : Nat) (n1 : Nat) (n2 : Nat) (gc_ : Nat → Int32) (gb_ : Nat → Int32) (gs_ : Nat → Int64) (hw0 : Nat) (gw : Nat → Int32) (hn1 : n1 ≤ 400) (hn2 : n2 ≤ 25) (a_gb_ : ∀ j, j < n2 → Rg 0 400 (gb_ j)) : Met l yX7_sumFor (Cond.code yX7_sumFor cX7_sumFor 5 (some .long) :: TB) (RM 2 0 0) (va_Pc [.ref hu, .ref hw0] (PRE D cs X [(ru3, .inl ((cs 4), 64, .inr (.inl gs_))), (hw0, .inl ((cs 0), 12, .inl gw))] [(hu, .inr (5, [.ref ru1, .ref ru2, .ref ru3])), (ru1, .inl ((cs 0), n1, .inl gc_)), (ru2, .inl ((cs 0), n2, .inl gb_))] sz)) (va_Ql (S := Unit) (fun _ _ => True) (fun _ t => ∃ (gs2 : Nat → Int64), va_P D vwCl [(ru3, .inl ((cs 4), 64, .inr (.inl gs2))), (hw0, .inl ((cs 0), 12, .inl gw))] t.heap ∧ va_D (va_A [(ru3, .inl ((cs 4), 64, .inr (.inl gs_))), (hw0, .inl ((cs 0), 12, .inl gw))] sz) [(ru3, .inl ((cs 4), 64, .inr (.inl gs2))), (hw0, .inl ((cs 0), 12, .inl gw))]) (va_A [(ru3, .inl ((cs 4), 64, .inr (.inl gs_))), (hw0, .inl ((cs 0), 12, .inl gw))] sz)) 0 0 (va_A [(ru3, .inl ((cs 4), 64, .inr (.inl gs_))), (hw0, .inl ((cs 0), 12, .inl gw))] sz) := by
  refine MET (y := yX7_sumFor) (cc := cX7_sumFor) (maxL := 5) (ret := (some .long)) (d := 2) (mc := 0) (ms := 0) (D := D) (cs := cs) (X := X) (ws := [(ru3, .inl ((cs 4), 64, .inr (.inl gs_))), (hw0, .inl ((cs 0), 12, .inl gw))]) (wo := [(hu, .inr (5, [.ref ru1, .ref ru2, .ref ru3])), (ru1, .inl ((cs 0), n1, .inl gc_)), (ru2, .inl ((cs 0), n2, .inl gb_))]) (sz := sz) (av := [.ref hu, .ref hw0]) (Qc := fun A => va_Ql (S := Unit) (fun _ _ => True) (fun _ t => ∃ (gs2 : Nat → Int64), va_P D vwCl [(ru3, .inl ((cs 4), 64, .inr (.inl gs2))), (hw0, .inl ((cs 0), 12, .inl gw))] t.heap ∧ va_D A [(ru3, .inl ((cs 4), 64, .inr (.inl gs2))), (hw0, .inl ((cs 0), 12, .inl gw))]) A) (by decide) (Nat.le_of_ble_eq_true rfl) ?_
  intro p e s m below meth c ls A H hHe hx hb hr hml hown hts hlocks hnm hP hK hD hA hS hN hR hX hXs hl
  have hD : va_D A [(ru3, .inl ((cs 4), 64, .inr (.inl gs_))), (hw0, .inl ((cs 0), 12, .inl gw))] := hD
  have hPo := hR.at hS
  obtain ⟨locs, hlc⟩ : ∃ z : List Loc, z = [] := ⟨_, rfl⟩
  rw [← hlc] at hS ⊢
  have hown : s.vm.findClass "WrongHole$Rule" = some m.cls := hown
  have hT : ∀ w ∈ TB, w.before ([.ref hu, .ref hw0] : List Value).toArray s = true := fun w h => hts w (List.mem_cons_of_mem _ h)
  have hl : lv_has ls 5 [(0, .ref hu), (1, .ref hw0)] := hl
  have hP : va_P D vwCl [(ru3, .inl ((cs 4), 64, .inr (.inl gs_))), (hw0, .inl ((cs 0), 12, .inl gw))] H := hP
  refine lv_iconst (v := 0) hx hb dX7_sumFor_0 (by decide) ?_
  refine lv_istore_n (lv' := [(2, .int 0), (0, .ref hu), (1, .ref hw0)]) hx hb dX7_sumFor_1 rfl hl (by decide) rfl (fun ls hl => ?_)
  refine w_wh (σ := (Int32) × (Nat → Int64)) (fun x9 H locs ls => match x9 with | (v_40, g_41) => Rg 0 24 v_40 ∧ va_P D vwCl [(ru3, .inl ((cs 4), 64, .inr (.inl g_41))), (hw0, .inl ((cs 0), 12, .inl gw))] H ∧ va_D A [(ru3, .inl ((cs 4), 64, .inr (.inl g_41))), (hw0, .inl ((cs 0), 12, .inl gw))] ∧ va_S A s.heap H locs ∧ lv_has ls 5 [(2, .int v_40), (0, .ref hu), (1, .ref hw0)]) (fun x9 => match x9 with | (v_40, g_41) => (23 - Int32.toInt v_40).toNat) 2 ?_ (0, gs_) H locs ls ⟨(Rg.wk (lo2 := 0) (hi2 := 24) (Rg.c (c := 0) (k := 0) rfl) (by decide)), hP, hD, hS, lv_sub hl [0, 1, 2] rfl⟩
  rintro ⟨v_40, g_41⟩ H locs ls ⟨r_251, hP, hD, hS, hl⟩ ih_250
  have hPo := hR.at hS
  refine lv_iload_n hx hb dX7_sumFor_2 rfl (lv_at hl 0 rfl) ?_
  refine lv_iconst (v := 2) hx hb dX7_sumFor_3 (by decide) ?_
  refine lv_iadd hx hb dX7_sumFor_4 ?_
  refine lv_topi (fun x_252 e_253 => ?_)
  have r_254 : Rg 2 26 x_252 := Rg.add e_253 r_251 (Rg.c (c := 2) (k := 2) rfl) (by decide)
  refine lv_aload_n hx hb dX7_sumFor_5 rfl (lv_at hl 1 rfl) ?_
  refine va_get (D := D) (ci := 5) (v := .ref ru2) (C := "WrongHole$Rule") (T := TX7) (N := 3) hx hb hts (iq_RX7 _) hown hK hPo 0 rfl rfl 1 (by decide) (hT _ qq_3_147) (fun _ h9 => h9) rfl dX7_sumFor_6 ?_
  refine va_alen (v := nI n2) hx hb hK hPo 2 0 rfl rfl rfl dX7_sumFor_9 ?_
  refine lv_icmp_ge (tgt := 70) hx hb dX7_sumFor_10 (by decide) (fun c_255 => ?_) (fun c_255 => ?_)
  · refine lv_lconst (v := 0) hx hb dX7_sumFor_70 (by decide) ?_
    refine W.widen (k := 0) (n := 0) (Nat.le_of_ble_eq_true rfl) (Nat.le_of_ble_eq_true rfl) ?_
    have hP9 := hP.sub (ws' := [(ru3, .inl ((cs 4), 64, .inr (.inl g_41))), (hw0, .inl ((cs 0), 12, .inl gw))]) [0, 1] rfl
    have hD9 := hD.sub (ws' := [(ru3, .inl ((cs 4), 64, .inr (.inl g_41))), (hw0, .inl ((cs 0), 12, .inl gw))]) [0, 1] (by decide) rfl
    exact W.lret (v := 0) hx hb hr (fun t9 ht9 hW9 => ⟨⟨_, (), rfl, trivial, ⟨g_41, by rw [ht9]; exact hP9, hD9⟩⟩, hS.F ht9⟩) hS.2.2 dX7_sumFor_71
  · have r_256 : Rg 2 24 x_252 := Rg.lt_l (nle_lt c_255) r_254 (nI_rg (hi := 25) (Int.ofNat_le.mpr hn2) (by decide)) (by decide)
    have r_257 : Rg 0 22 v_40 := Rg.unadd e_253 r_251 (Rg.c (c := 2) (k := 2) rfl) r_256 (by decide)
    have r_258 : Rg 3 25 (nI n2) := Rg.lt_r (nle_lt c_255) r_254 (nI_rg (hi := 25) (Int.ofNat_le.mpr hn2) (by decide)) (by decide)
    refine lv_aload_n hx hb dX7_sumFor_13 rfl (lv_at hl 1 rfl) ?_
    refine va_get (D := D) (ci := 5) (v := .ref ru2) (C := "WrongHole$Rule") (T := TX7) (N := 3) hx hb hts (iq_RX7 _) hown hK hPo 0 rfl rfl 1 (by decide) (hT _ qq_3_147) (fun _ h9 => h9) rfl dX7_sumFor_14 ?_
    refine lv_iload_n hx hb dX7_sumFor_17 rfl (lv_at hl 0 rfl) ?_
    refine lv_iconst (v := 1) hx hb dX7_sumFor_18 (by decide) ?_
    refine lv_iadd hx hb dX7_sumFor_19 ?_
    refine lv_topi (fun x_259 e_260 => ?_)
    have r_261 : Rg 1 23 x_259 := Rg.add e_260 r_257 (Rg.c (c := 1) (k := 1) rfl) (by decide)
    have hi_262 : vp_in x_259 n2 := in_b e_253 c_255 e_260 r_257 (Rg.c (c := 2) (k := 2) rfl) (Rg.c (c := 1) (k := 1) rfl) (by decide) (Nat.lt_of_le_of_lt hn2 (by decide))
    refine va_iald hx hb hK hPo 2 0 rfl rfl hi_262 dX7_sumFor_20 ?_
    refine lv_topi (fun x_263 e_264 => ?_)
    have r_265 : Rg 0 400 x_263 := Rg.of e_264 (a_gb_ _ (in_lt hi_262))
    refine lv_istore_n (lv' := [(3, .int x_263), (2, .int v_40), (0, .ref hu), (1, .ref hw0)]) hx hb dX7_sumFor_21 rfl hl (by decide) rfl (fun ls hl => ?_)
    refine lv_aload_n hx hb dX7_sumFor_22 rfl (lv_at hl 2 rfl) ?_
    refine va_get (D := D) (ci := 5) (v := .ref ru2) (C := "WrongHole$Rule") (T := TX7) (N := 3) hx hb hts (iq_RX7 _) hown hK hPo 0 rfl rfl 1 (by decide) (hT _ qq_3_147) (fun _ h9 => h9) rfl dX7_sumFor_23 ?_
    refine lv_iload_n hx hb dX7_sumFor_26 rfl (lv_at hl 1 rfl) ?_
    refine lv_iconst (v := 2) hx hb dX7_sumFor_27 (by decide) ?_
    refine lv_iadd hx hb dX7_sumFor_28 ?_
    refine lv_topi (fun x_266 e_267 => ?_)
    have r_268 : Rg 2 24 x_266 := Rg.add e_267 r_257 (Rg.c (c := 2) (k := 2) rfl) (by decide)
    have hi_269 : vp_in x_266 n2 := in_b e_253 c_255 e_267 r_257 (Rg.c (c := 2) (k := 2) rfl) (Rg.c (c := 2) (k := 2) rfl) (by decide) (Nat.lt_of_le_of_lt hn2 (by decide))
    refine va_iald hx hb hK hPo 2 0 rfl rfl hi_269 dX7_sumFor_29 ?_
    refine lv_topi (fun x_270 e_271 => ?_)
    have r_272 : Rg 0 400 x_270 := Rg.of e_271 (a_gb_ _ (in_lt hi_269))
    refine lv_istore (lv' := [(4, .int x_270), (3, .int x_263), (2, .int v_40), (0, .ref hu), (1, .ref hw0)]) hx hb dX7_sumFor_30 hl (by decide) rfl (fun ls hl => ?_)
    refine lv_iload_n hx hb dX7_sumFor_32 rfl (lv_at hl 1 rfl) ?_
    refine lv_iload hx hb dX7_sumFor_33 (lv_at hl 0 rfl) ?_
    refine lv_icmp_eq (tgt := 51) hx hb dX7_sumFor_35 (by decide) (fun c_273 => ?_) (fun c_273 => ?_)
    · refine lv_aload_n hx hb dX7_sumFor_51 rfl (lv_at hl 3 rfl) ?_
      refine lv_aload_n hx hb dX7_sumFor_52 rfl (lv_at hl 3 rfl) ?_
      refine va_get (D := D) (ci := 5) (v := .ref ru2) (C := "WrongHole$Rule") (T := TX7) (N := 3) hx hb hts (iq_RX7 _) hown hK hPo 0 rfl rfl 1 (by decide) (hT _ qq_3_147) (fun _ h9 => h9) rfl dX7_sumFor_53 ?_
      refine lv_iload_n hx hb dX7_sumFor_56 rfl (lv_at hl 2 rfl) ?_
      have hi_274 : vp_in v_40 n2 := in_b0 e_253 c_255 r_257 (Rg.c (c := 2) (k := 2) rfl) (by decide) (Nat.lt_of_le_of_lt hn2 (by decide))
      refine va_iald hx hb hK hPo 2 0 rfl rfl hi_274 dX7_sumFor_57 ?_
      refine lv_topi (fun x_275 e_276 => ?_)
      have r_277 : Rg 0 400 x_275 := Rg.of e_276 (a_gb_ _ (in_lt hi_274))
      refine lv_iload_n hx hb dX7_sumFor_58 rfl (lv_at hl 1 rfl) ?_
      refine lv_aload_n hx hb dX7_sumFor_59 rfl (lv_at hl 4 rfl) ?_
      have hPc := hP.sub (ws' := [(ru3, .inl ((cs 4), 64, .inr (.inl g_41))), (hw0, .inl ((cs 0), 12, .inl gw))]) [0, 1] rfl
      have hDc := hD.sub (ws' := [(ru3, .inl ((cs 4), 64, .inr (.inl g_41))), (hw0, .inl ((cs 0), 12, .inl gw))]) [0, 1] (by decide) rfl
      have hFc := va_free (wc := [(ru3, .inl ((cs 4), 64, .inr (.inl g_41))), (hw0, .inl ((cs 0), 12, .inl gw))]) hD hS hA [0, 1] rfl
      refine va_calll (va_runV (As := [.int x_275, .int x_263, .ref hw0]) (rest := []) ⟨hx, hb, hml, hown, hts⟩ (c_Rule_reckon_w l D cs X H.size hu ru1 ru2 ru3 n1 n2 gc_ gb_ g_41 hw0 gw x_275 x_263 hn1 hn2 r_277 r_265) ⟨callB_of 3 hts (gd_C qq_4_94) rfl rfl rfl (hT _ qq_1_18) (hT _ qq_4_91) (by decide +kernel) (rm_R rfl rfl), (hT _ qq_4_93), (hT _ qs_0_15)⟩ (pr_W hPc hK hDc hN (hR.sub (wo' := [(hu, .inr (5, [.ref ru1, .ref ru2, .ref ru3])), (ru1, .inl ((cs 0), n1, .inl gc_)), (ru2, .inl ((cs 0), n2, .inl gb_))]) [0, 1, 2] rfl) hS hFc hX hXs (ci := 5) (q0 := 0) rfl rfl) rfl rfl hl.1 rfl (lv_room (Nat.le_of_ble_eq_true rfl)) dX7_sumFor_60 ⟨Nat.le_of_ble_eq_true rfl, Nat.le_of_ble_eq_true rfl⟩) hS (fun q _ h => hFc q h) hFc (fun x_282 u_278 t_281 H1 locs ht9 hvm hw_279 hB_280 hz1 hk1 hS => ?_)
      obtain ⟨g_283, hP1, hD1⟩ := hB_280
      rw [ht9] at hP1
      obtain ⟨hP, hD⟩ := va_join (wr := []) (w1 := [(ru3, .inl ((cs 4), 64, .inr (.inl g_283))), (hw0, .inl ((cs 0), 12, .inl gw))]) hP hD [0, 1] [] rfl rfl (by decide) (by decide) hk1 hFc hP1 hD1
      generalize H1 = H at hP hS ⊢
      have hP : va_P D vwCl [(ru3, .inl ((cs 4), 64, .inr (.inl g_283))), (hw0, .inl ((cs 0), 12, .inl gw))] H := hP
      have hD : va_D A [(ru3, .inl ((cs 4), 64, .inr (.inl g_283))), (hw0, .inl ((cs 0), 12, .inl gw))] := hD
      have hPo := hR.at hS
      refine W.widen (k := 0) (n := 0) (Nat.le_of_ble_eq_true rfl) (Nat.le_of_ble_eq_true rfl) ?_
      have hP9 := hP.sub (ws' := [(ru3, .inl ((cs 4), 64, .inr (.inl g_283))), (hw0, .inl ((cs 0), 12, .inl gw))]) [0, 1] rfl
      have hD9 := hD.sub (ws' := [(ru3, .inl ((cs 4), 64, .inr (.inl g_283))), (hw0, .inl ((cs 0), 12, .inl gw))]) [0, 1] (by decide) rfl
      exact W.lret (v := x_282) hx hb hr (fun t9 ht9 hW9 => ⟨⟨_, (), rfl, trivial, ⟨g_283, by rw [ht9]; exact hP9, hD9⟩⟩, hS.F ht9⟩) hS.2.2 dX7_sumFor_63
    · refine lv_aload_n hx hb dX7_sumFor_38 rfl (lv_at hl 3 rfl) ?_
      refine lv_iload_n hx hb dX7_sumFor_39 rfl (lv_at hl 1 rfl) ?_
      refine lv_iload hx hb dX7_sumFor_40 (lv_at hl 0 rfl) ?_
      refine lv_aload_n hx hb dX7_sumFor_42 rfl (lv_at hl 4 rfl) ?_
      have hPc := hP.sub (ws' := [(ru3, .inl ((cs 4), 64, .inr (.inl g_41))), (hw0, .inl ((cs 0), 12, .inl gw))]) [0, 1] rfl
      have hDc := hD.sub (ws' := [(ru3, .inl ((cs 4), 64, .inr (.inl g_41))), (hw0, .inl ((cs 0), 12, .inl gw))]) [0, 1] (by decide) rfl
      have hFc := va_free (wc := [(ru3, .inl ((cs 4), 64, .inr (.inl g_41))), (hw0, .inl ((cs 0), 12, .inl gw))]) hD hS hA [0, 1] rfl
      refine va_calll (va_runV (As := [.int x_263, .int x_270, .ref hw0]) (rest := []) ⟨hx, hb, hml, hown, hts⟩ (c_Rule_reckon_w l D cs X H.size hu ru1 ru2 ru3 n1 n2 gc_ gb_ g_41 hw0 gw x_263 x_270 hn1 hn2 r_265 r_272) ⟨callB_of 3 hts (gd_C qq_4_94) rfl rfl rfl (hT _ qq_1_18) (hT _ qq_4_91) (by decide +kernel) (rm_R rfl rfl), (hT _ qq_4_93), (hT _ qs_0_15)⟩ (pr_W hPc hK hDc hN (hR.sub (wo' := [(hu, .inr (5, [.ref ru1, .ref ru2, .ref ru3])), (ru1, .inl ((cs 0), n1, .inl gc_)), (ru2, .inl ((cs 0), n2, .inl gb_))]) [0, 1, 2] rfl) hS hFc hX hXs (ci := 5) (q0 := 0) rfl rfl) rfl rfl hl.1 rfl (lv_room (Nat.le_of_ble_eq_true rfl)) dX7_sumFor_43 ⟨Nat.le_of_ble_eq_true rfl, Nat.le_of_ble_eq_true rfl⟩) hS (fun q _ h => hFc q h) hFc (fun x_288 u_284 t_287 H1 locs ht9 hvm hw_285 hB_286 hz1 hk1 hS => ?_)
      obtain ⟨g_289, hP1, hD1⟩ := hB_286
      rw [ht9] at hP1
      obtain ⟨hP, hD⟩ := va_join (wr := []) (w1 := [(ru3, .inl ((cs 4), 64, .inr (.inl g_289))), (hw0, .inl ((cs 0), 12, .inl gw))]) hP hD [0, 1] [] rfl rfl (by decide) (by decide) hk1 hFc hP1 hD1
      generalize H1 = H at hP hS ⊢
      have hP : va_P D vwCl [(ru3, .inl ((cs 4), 64, .inr (.inl g_289))), (hw0, .inl ((cs 0), 12, .inl gw))] H := hP
      have hD : va_D A [(ru3, .inl ((cs 4), 64, .inr (.inl g_289))), (hw0, .inl ((cs 0), 12, .inl gw))] := hD
      have hPo := hR.at hS
      refine lv_lconst (v := 0) hx hb dX7_sumFor_46 (by decide) ?_
      refine W.lcmp hx hb dX7_sumFor_47 ?_
      refine lv_topi (fun x_290 e_291 => ?_)
      have r_292 : Rg (-1) 1 x_290 := Rg.of e_291 (cmp_r _ _)
      refine lv_if_eq (tgt := 64) hx hb dX7_sumFor_48 (by decide) (fun c_293 => ?_) (fun c_293 => ?_)
      · have r_294 : Rg 0 0 x_290 := Rg.eq_l c_293 r_292 (Rg.c (c := 0) (k := 0) rfl) (by decide)
        obtain ⟨x_295, e_296⟩ : ∃ z : Int32, z = v_40 + Int32.ofInt 2 := ⟨_, rfl⟩
        have r_297 : Rg 2 24 x_295 := Rg.add e_296 r_257 (Rg.c (c := Int32.ofInt 2) (k := 2) rfl) (by decide)
        refine lv_iinc (v := x_295) (lv' := [(2, .int x_295), (4, .int x_270), (3, .int x_263), (0, .ref hu), (1, .ref hw0)]) hx hb dX7_sumFor_64 hl (k := 2) rfl (e_296.symm) (by decide) rfl (fun ls hl => ?_)
        refine lv_goto (tgt := 2) hx hb dX7_sumFor_67 (by decide) ?_
        exact ih_250 (x_295, g_289) _ _ _ ⟨(Rg.wk (lo2 := 0) (hi2 := 24) r_297 (by decide)), hP, hD, hS, lv_sub hl [0, 3, 4] rfl⟩ (ms_up e_296 r_257 (Rg.c (c := Int32.ofInt 2) (k := 2) rfl) (by decide))
      · refine lv_aload_n hx hb dX7_sumFor_51 rfl (lv_at hl 3 rfl) ?_
        refine lv_aload_n hx hb dX7_sumFor_52 rfl (lv_at hl 3 rfl) ?_
        refine va_get (D := D) (ci := 5) (v := .ref ru2) (C := "WrongHole$Rule") (T := TX7) (N := 3) hx hb hts (iq_RX7 _) hown hK hPo 0 rfl rfl 1 (by decide) (hT _ qq_3_147) (fun _ h9 => h9) rfl dX7_sumFor_53 ?_
        refine lv_iload_n hx hb dX7_sumFor_56 rfl (lv_at hl 2 rfl) ?_
        have hi_298 : vp_in v_40 n2 := in_b0 e_253 c_255 r_257 (Rg.c (c := 2) (k := 2) rfl) (by decide) (Nat.lt_of_le_of_lt hn2 (by decide))
        refine va_iald hx hb hK hPo 2 0 rfl rfl hi_298 dX7_sumFor_57 ?_
        refine lv_topi (fun x_299 e_300 => ?_)
        have r_301 : Rg 0 400 x_299 := Rg.of e_300 (a_gb_ _ (in_lt hi_298))
        refine lv_iload_n hx hb dX7_sumFor_58 rfl (lv_at hl 1 rfl) ?_
        refine lv_aload_n hx hb dX7_sumFor_59 rfl (lv_at hl 4 rfl) ?_
        have hPc := hP.sub (ws' := [(ru3, .inl ((cs 4), 64, .inr (.inl g_289))), (hw0, .inl ((cs 0), 12, .inl gw))]) [0, 1] rfl
        have hDc := hD.sub (ws' := [(ru3, .inl ((cs 4), 64, .inr (.inl g_289))), (hw0, .inl ((cs 0), 12, .inl gw))]) [0, 1] (by decide) rfl
        have hFc := va_free (wc := [(ru3, .inl ((cs 4), 64, .inr (.inl g_289))), (hw0, .inl ((cs 0), 12, .inl gw))]) hD hS hA [0, 1] rfl
        refine va_calll (va_runV (As := [.int x_299, .int x_263, .ref hw0]) (rest := []) ⟨hx, hb, hml, hown, hts⟩ (c_Rule_reckon_w l D cs X H.size hu ru1 ru2 ru3 n1 n2 gc_ gb_ g_289 hw0 gw x_299 x_263 hn1 hn2 r_301 r_265) ⟨callB_of 3 hts (gd_C qq_4_94) rfl rfl rfl (hT _ qq_1_18) (hT _ qq_4_91) (by decide +kernel) (rm_R rfl rfl), (hT _ qq_4_93), (hT _ qs_0_15)⟩ (pr_W hPc hK hDc hN (hR.sub (wo' := [(hu, .inr (5, [.ref ru1, .ref ru2, .ref ru3])), (ru1, .inl ((cs 0), n1, .inl gc_)), (ru2, .inl ((cs 0), n2, .inl gb_))]) [0, 1, 2] rfl) hS hFc hX hXs (ci := 5) (q0 := 0) rfl rfl) rfl rfl hl.1 rfl (lv_room (Nat.le_of_ble_eq_true rfl)) dX7_sumFor_60 ⟨Nat.le_of_ble_eq_true rfl, Nat.le_of_ble_eq_true rfl⟩) hS (fun q _ h => hFc q h) hFc (fun x_306 u_302 t_305 H1 locs ht9 hvm hw_303 hB_304 hz1 hk1 hS => ?_)
        obtain ⟨g_307, hP1, hD1⟩ := hB_304
        rw [ht9] at hP1
        obtain ⟨hP, hD⟩ := va_join (wr := []) (w1 := [(ru3, .inl ((cs 4), 64, .inr (.inl g_307))), (hw0, .inl ((cs 0), 12, .inl gw))]) hP hD [0, 1] [] rfl rfl (by decide) (by decide) hk1 hFc hP1 hD1
        generalize H1 = H at hP hS ⊢
        have hP : va_P D vwCl [(ru3, .inl ((cs 4), 64, .inr (.inl g_307))), (hw0, .inl ((cs 0), 12, .inl gw))] H := hP
        have hD : va_D A [(ru3, .inl ((cs 4), 64, .inr (.inl g_307))), (hw0, .inl ((cs 0), 12, .inl gw))] := hD
        have hPo := hR.at hS
        refine W.widen (k := 0) (n := 0) (Nat.le_of_ble_eq_true rfl) (Nat.le_of_ble_eq_true rfl) ?_
        have hP9 := hP.sub (ws' := [(ru3, .inl ((cs 4), 64, .inr (.inl g_307))), (hw0, .inl ((cs 0), 12, .inl gw))]) [0, 1] rfl
        have hD9 := hD.sub (ws' := [(ru3, .inl ((cs 4), 64, .inr (.inl g_307))), (hw0, .inl ((cs 0), 12, .inl gw))]) [0, 1] (by decide) rfl
        exact W.lret (v := x_306) hx hb hr (fun t9 ht9 hW9 => ⟨⟨_, (), rfl, trivial, ⟨g_307, by rw [ht9]; exact hP9, hD9⟩⟩, hS.F ht9⟩) hS.2.2 dX7_sumFor_63
