set_option maxHeartbeats 4000000 in
set_option maxRecDepth 100000 in
theorem c_W_roundsAmong_y (l : Launch) (D : va_G) (cs : Nat → ClassId) (ox : Nat) (ht : Nat) (hq : Nat) (og : Nat) (rc : Int32) (hw : Nat) (om : Nat) (hp : Nat) (ha : Nat) (hf : Nat) (hw0 : Nat) (qh : Option Nat) (qo : Option Nat) (wk : Int32) (wc : Int32) (wx : Int32) (wn : Int32) (wa0 : Nat) (wa1 : Nat) (wa2 : Nat) (wa3 : Nat) (ql : Option Nat) (wf3 : Nat → Int32) (a : Int32) (r_a : Rg 1 10 a) (hstn : STN (F10 wf3) (cN a)) : Met l yX11_roundsAmong (Cond.code yX11_roundsAmong cX11_roundsAmong 6 (some .int) :: TB) (RM 0 0 0) (va_Pc [.ref ox, .int a] (PRR D cs [(ox, .inr (9, [.ref ht, .ref hq, .ref og, .int rc, .ref hw, .ref om, .ref hp, .ref ha, .ref hf, .ref hw0, va_rf qh, va_rf qo])), (hw, .inr (8, [va_rf ql, .int wk, .int wc, .int wx, .int wn, .ref wa0, .ref wa1, .ref wa2, .ref wa3])), (wa3, .inl ((cs 0), 10, .inl wf3))])) (QP (fun v => ∃ x : Int32, v = .int x ∧ x = nI (rdG (F10 wf3) (cN a) (cN a)))) 0 0 (fun _ => False) := by
  refine MER (y := yX11_roundsAmong) (cc := cX11_roundsAmong) (maxL := 6) (ret := (some .int)) (d := 0) (D := D) (cs := cs) (ws := [(ox, .inr (9, [.ref ht, .ref hq, .ref og, .int rc, .ref hw, .ref om, .ref hp, .ref ha, .ref hf, .ref hw0, va_rf qh, va_rf qo])), (hw, .inr (8, [va_rf ql, .int wk, .int wc, .int wx, .int wn, .ref wa0, .ref wa1, .ref wa2, .ref wa3])), (wa3, .inl ((cs 0), 10, .inl wf3))]) (av := [.ref ox, .int a]) (Qc := QP (fun v => ∃ x : Int32, v = .int x ∧ x = nI (rdG (F10 wf3) (cN a) (cN a)))) (by decide) (Nat.le_of_ble_eq_true rfl) ?_
  intro p e s m below meth c ls H hHe hx hb hr hml hown hts hlocks hP hK hN hl
  obtain ⟨locs, hlc⟩ : ∃ z : List Loc, z = [] := ⟨_, rfl⟩
  rw [← hlc]
  have hown : s.vm.findClass "WrongHole" = some m.cls := hown
  have hT : ∀ w ∈ TB, w.before ([.ref ox, .int a] : List Value).toArray s = true := fun w h => hts w (List.mem_cons_of_mem _ h)
  have hl : lv_has ls 6 [(0, .ref ox), (1, .int a)] := hl
  have hP : va_P D vwCl [(ox, .inr (9, [.ref ht, .ref hq, .ref og, .int rc, .ref hw, .ref om, .ref hp, .ref ha, .ref hf, .ref hw0, va_rf qh, va_rf qo])), (hw, .inr (8, [va_rf ql, .int wk, .int wc, .int wx, .int wn, .ref wa0, .ref wa1, .ref wa2, .ref wa3])), (wa3, .inl ((cs 0), 10, .inl wf3))] H := hP
  refine lv_iconst (v := 0) hx hb dX11_roundsAmong_0 (by decide) ?_
  refine lv_istore_n (lv' := [(2, .int 0), (0, .ref ox), (1, .int a)]) hx hb dX11_roundsAmong_1 rfl hl (by decide) rfl (fun ls hl => ?_)
  refine lv_iconst (v := 0) hx hb dX11_roundsAmong_2 (by decide) ?_
  refine lv_istore_n (lv' := [(3, .int 0), (2, .int 0), (0, .ref ox), (1, .int a)]) hx hb dX11_roundsAmong_3 rfl hl (by decide) rfl (fun ls hl => ?_)
  refine w_wh (σ := (Int32) × (Int32)) (fun x9 H locs ls => match x9 with | (v_178, v_179) => Rg 0 10 v_178 ∧ (v_179 = nI (rdG (F10 wf3) (cN a) (cN v_178)) ∧ cN v_178 ≤ cN a) ∧ H = s.heap ∧ locs = [] ∧ va_P D vwCl [(ox, .inr (9, [.ref ht, .ref hq, .ref og, .int rc, .ref hw, .ref om, .ref hp, .ref ha, .ref hf, .ref hw0, va_rf qh, va_rf qo])), (hw, .inr (8, [va_rf ql, .int wk, .int wc, .int wx, .int wn, .ref wa0, .ref wa1, .ref wa2, .ref wa3])), (wa3, .inl ((cs 0), 10, .inl wf3))] H ∧ lv_has ls 6 [(3, .int v_178), (2, .int v_179), (0, .ref ox), (1, .int a)]) (fun x9 => match x9 with | (v_178, v_179) => (10 - Int32.toInt v_178).toNat) 4 ?_ (0, 0) H locs ls ⟨(Rg.wk (lo2 := 0) (hi2 := 10) (Rg.c (c := 0) (k := 0) rfl) (by decide)), ⟨rfl, Nat.zero_le _⟩, hHe, hlc, hP, lv_sub hl [0, 1, 2, 3] rfl⟩
  rintro ⟨v_178, v_179⟩ H locs ls ⟨r_1157, iv_1158, hHe, hlc, hP, hl⟩ ih_1156
  refine lv_iload_n hx hb dX11_roundsAmong_4 rfl (lv_at hl 0 rfl) ?_
  refine lv_iload_n hx hb dX11_roundsAmong_5 rfl (lv_at hl 3 rfl) ?_
  refine lv_icmp_ge (tgt := 94) hx hb dX11_roundsAmong_6 (by decide) (fun c_1159 => ?_) (fun c_1159 => ?_)
  · have r_1160 : Rg 1 10 v_178 := Rg.le_r c_1159 r_a r_1157 (by decide)
    refine lv_iload_n hx hb dX11_roundsAmong_94 rfl (lv_at hl 1 rfl) ?_
    exact W.iret (v := v_179) hx hb hr (fun t9 ht9 hW9 => ⟨⟨_, rfl, _, rfl, (by have h9 := le_cN c_1159 r_a r_1160 (by decide); have h8 := iv_1158; have h7 : cN v_178 = cN a := (by omega); rw [h7] at h8; exact h8.1)⟩, ht9.trans hHe⟩) (fun _ h9 => by rw [hlc] at h9; exact absurd h9 List.not_mem_nil) dX11_roundsAmong_95
  · have r_1161 : Rg 0 9 v_178 := Rg.lt_l (nle_lt c_1159) r_1157 r_a (by decide)
    refine lv_iload_n hx hb dX11_roundsAmong_9 rfl (lv_at hl 0 rfl) ?_
    refine lv_bipush (v := 10) hx hb dX11_roundsAmong_10 (by decide) ?_
    refine lv_icmp_ge (tgt := 94) hx hb dX11_roundsAmong_12 (by decide) (fun c_1162 => False.elim (Rg.no_le c_1162 (Rg.c (c := 10) (k := 10) rfl) r_1161 (by decide))) (fun c_1162 => ?_)
    refine lv_aload_n hx hb dX11_roundsAmong_15 rfl (lv_at hl 2 rfl) ?_
    refine va_get (D := D) (ci := 9) (v := .ref hw) (C := "WrongHole") (T := TX11) (N := 12) hx hb hts (iq_RX11 _) hown hK hP 0 rfl rfl 4 (by decide) (hT _ qq_1_206) (fun _ h9 => h9) rfl dX11_roundsAmong_16 ?_
    refine va_getN (D := D) (ci := 8) (v := .ref wa3) (C := "WrongHole$Worn") (T := TX10) (N := 9) hx hb hts (iq_RX10 _) hown hK hP 1 rfl rfl 8 (by decide) (NN.f hN nq_1_115) (fun _ h9 => h9) rfl dX11_roundsAmong_19 ?_
    refine lv_iload_n hx hb dX11_roundsAmong_22 rfl (lv_at hl 0 rfl) ?_
    have hi_1163 : vp_in v_178 10 := Rg.in r_1161 (by decide)
    refine va_iald hx hb hK hP 2 0 rfl rfl hi_1163 dX11_roundsAmong_23 ?_
    refine lv_topi (fun x_1164 e_1165 => ?_)
    have r_1166 : Rg (-1) 9 x_1164 := Rg.of e_1165 (f10_rg hstn r_1161 (by decide))
    refine lv_istore (lv' := [(4, .int x_1164), (3, .int v_178), (2, .int v_179), (0, .ref ox), (1, .int a)]) hx hb dX11_roundsAmong_24 hl (by decide) rfl (fun ls hl => ?_)
    refine lv_iconst (v := 0) hx hb dX11_roundsAmong_26 (by decide) ?_
    refine lv_istore (lv' := [(5, .int 0), (4, .int x_1164), (3, .int v_178), (2, .int v_179), (0, .ref ox), (1, .int a)]) hx hb dX11_roundsAmong_27 hl (by decide) rfl (fun ls hl => ?_)
    refine w_wh (σ := (Int32) × (Int32)) (fun x9 H locs ls => match x9 with | (v_1197, v_1198) => Rg 0 10 v_1197 ∧ Rg (-1) 9 v_1198 ∧ (v_1198 = CH (F10 wf3) v_178 (cN v_1197) ∧ cN v_1197 ≤ cN a) ∧ H = s.heap ∧ locs = [] ∧ va_P D vwCl [(ox, .inr (9, [.ref ht, .ref hq, .ref og, .int rc, .ref hw, .ref om, .ref hp, .ref ha, .ref hf, .ref hw0, va_rf qh, va_rf qo])), (hw, .inr (8, [va_rf ql, .int wk, .int wc, .int wx, .int wn, .ref wa0, .ref wa1, .ref wa2, .ref wa3])), (wa3, .inl ((cs 0), 10, .inl wf3))] H ∧ lv_has ls 6 [(5, .int v_1197), (4, .int v_1198), (3, .int v_178), (2, .int v_179), (0, .ref ox), (1, .int a)]) (fun x9 => match x9 with | (v_1197, v_1198) => (10 - Int32.toInt v_1197).toNat) 29 ?_ (0, x_1164) H locs ls ⟨(Rg.wk (lo2 := 0) (hi2 := 10) (Rg.c (c := 0) (k := 0) rfl) (by decide)), r_1166, ⟨(show x_1164 = (F10 wf3) (cN v_178) from by rw [f10 (cN_lt (n := 10) r_1161 (by decide))]; exact e_1165), Nat.zero_le _⟩, hHe, hlc, hP, lv_sub hl [0, 1, 2, 3, 4, 5] rfl⟩
    rintro ⟨v_1197, v_1198⟩ H locs ls ⟨r_1364, r_1365, iv_1366, hHe, hlc, hP, hl⟩ ih_1363
    refine lv_iload hx hb dX11_roundsAmong_29 (lv_at hl 0 rfl) ?_
    refine lv_iload_n hx hb dX11_roundsAmong_31 rfl (lv_at hl 5 rfl) ?_
    refine w_cut (σ := Unit) (fun _ H locs ls => (v_1198 = CH (F10 wf3) v_178 (cN a)) ∧ H = s.heap ∧ locs = [] ∧ va_P D vwCl [(ox, .inr (9, [.ref ht, .ref hq, .ref og, .int rc, .ref hw, .ref om, .ref hp, .ref ha, .ref hf, .ref hw0, va_rf qh, va_rf qo])), (hw, .inr (8, [va_rf ql, .int wk, .int wc, .int wx, .int wn, .ref wa0, .ref wa1, .ref wa2, .ref wa3])), (wa3, .inl ((cs 0), 10, .inl wf3))] H ∧ lv_has ls 6 [(5, .int v_1197), (4, .int v_1198), (3, .int v_178), (2, .int v_179), (0, .ref ox), (1, .int a)]) 66 (fun _ => []) ?_ (fun hj_1380 => ?_)
    · rintro _ H locs ls ⟨iv_1381, hHe, hlc, hP, hl⟩
      refine lv_iload hx hb dX11_roundsAmong_66 (lv_at hl 1 rfl) ?_
      refine lv_iload_n hx hb dX11_roundsAmong_68 rfl (lv_at hl 2 rfl) ?_
      refine lv_icmp_ne (tgt := 88) hx hb dX11_roundsAmong_69 (by decide) (fun c_1382 => ?_) (fun c_1382 => ?_)
      · obtain ⟨x_1384, e_1385⟩ : ∃ z : Int32, z = v_178 + Int32.ofInt 1 := ⟨_, rfl⟩
        have r_1386 : Rg 1 10 x_1384 := Rg.add e_1385 r_1161 (Rg.c (c := Int32.ofInt 1) (k := 1) rfl) (by decide)
        refine lv_iinc (v := x_1384) (lv' := [(3, .int x_1384), (5, .int v_1197), (4, .int v_1198), (2, .int v_179), (0, .ref ox), (1, .int a)]) hx hb dX11_roundsAmong_88 hl (k := 2) rfl (e_1385.symm) (by decide) rfl (fun ls hl => ?_)
        refine lv_goto (tgt := 4) hx hb dX11_roundsAmong_91 (by decide) ?_
        exact ih_1156 (x_1384, v_179) _ _ _ ⟨(Rg.wk (lo2 := 0) (hi2 := 10) r_1386 (by decide)), (by rw [(cN_add (k := 1) e_1385 r_1161 (Rg.c (c := Int32.ofInt 1) (k := 1) rfl) (by decide))]; exact ⟨by rw [rg_n (Or.inl (by rw [← cN_nI r_1161 (by decide), ← iv_1381]; exact c_1382))]; exact iv_1158.1, (lt_cN (nle_lt c_1159) r_1161 r_a (by decide))⟩), hHe, hlc, hP, lv_sub hl [0, 3, 4, 5] rfl⟩ (ms_up e_1385 r_1161 (Rg.c (c := Int32.ofInt 1) (k := 1) rfl) (by decide))
      · have r_1383 : Rg 0 9 v_1198 := Rg.eq_l c_1382 r_1365 r_1161 (by decide)
        refine lv_aload_n hx hb dX11_roundsAmong_72 rfl (lv_at hl 4 rfl) ?_
        refine va_get (D := D) (ci := 9) (v := .ref hw) (C := "WrongHole") (T := TX11) (N := 12) hx hb hts (iq_RX11 _) hown hK hP 0 rfl rfl 4 (by decide) (hT _ qq_1_206) (fun _ h9 => h9) rfl dX11_roundsAmong_73 ?_
        refine va_getN (D := D) (ci := 8) (v := .ref wa3) (C := "WrongHole$Worn") (T := TX10) (N := 9) hx hb hts (iq_RX10 _) hown hK hP 1 rfl rfl 8 (by decide) (NN.f hN nq_1_115) (fun _ h9 => h9) rfl dX11_roundsAmong_76 ?_
        refine lv_iload_n hx hb dX11_roundsAmong_79 rfl (lv_at hl 2 rfl) ?_
        have hi_1387 : vp_in v_178 10 := Rg.in r_1161 (by decide)
        refine va_iald hx hb hK hP 2 0 rfl rfl hi_1387 dX11_roundsAmong_80 ?_
        refine lv_topi (fun x_1388 e_1389 => ?_)
        have r_1390 : Rg (-1) 9 x_1388 := Rg.of e_1389 (f10_rg hstn r_1161 (by decide))
        refine lv_iload_n hx hb dX11_roundsAmong_81 rfl (lv_at hl 2 rfl) ?_
        refine lv_icmp_eq (tgt := 88) hx hb dX11_roundsAmong_82 (by decide) (fun c_1391 => ?_) (fun c_1391 => ?_)
        · have r_1392 : Rg 0 9 x_1388 := Rg.eq_l c_1391 r_1390 r_1161 (by decide)
          obtain ⟨x_1393, e_1394⟩ : ∃ z : Int32, z = v_178 + Int32.ofInt 1 := ⟨_, rfl⟩
          have r_1395 : Rg 1 10 x_1393 := Rg.add e_1394 r_1161 (Rg.c (c := Int32.ofInt 1) (k := 1) rfl) (by decide)
          refine lv_iinc (v := x_1393) (lv' := [(3, .int x_1393), (5, .int v_1197), (4, .int v_1198), (2, .int v_179), (0, .ref ox), (1, .int a)]) hx hb dX11_roundsAmong_88 hl (k := 2) rfl (e_1394.symm) (by decide) rfl (fun ls hl => ?_)
          refine lv_goto (tgt := 4) hx hb dX11_roundsAmong_91 (by decide) ?_
          exact ih_1156 (x_1393, v_179) _ _ _ ⟨(Rg.wk (lo2 := 0) (hi2 := 10) r_1395 (by decide)), (by rw [(cN_add (k := 1) e_1394 r_1161 (Rg.c (c := Int32.ofInt 1) (k := 1) rfl) (by decide))]; exact ⟨by rw [rg_n (Or.inr (by rw [← (show x_1388 = (F10 wf3) (cN v_178) from by rw [f10 (cN_lt (n := 10) r_1161 (by decide))]; exact e_1389), ← cN_nI r_1161 (by decide)]; exact c_1391))]; exact iv_1158.1, (lt_cN (nle_lt c_1159) r_1161 r_a (by decide))⟩), hHe, hlc, hP, lv_sub hl [0, 3, 4, 5] rfl⟩ (ms_up e_1394 r_1161 (Rg.c (c := Int32.ofInt 1) (k := 1) rfl) (by decide))
        · obtain ⟨x_1396, e_1397⟩ : ∃ z : Int32, z = v_179 + Int32.ofInt 1 := ⟨_, rfl⟩
          refine lv_iinc (v := x_1396) (lv' := [(2, .int x_1396), (5, .int v_1197), (4, .int v_1198), (3, .int v_178), (0, .ref ox), (1, .int a)]) hx hb dX11_roundsAmong_85 hl (k := 3) rfl (e_1397.symm) (by decide) rfl (fun ls hl => ?_)
          obtain ⟨x_1398, e_1399⟩ : ∃ z : Int32, z = v_178 + Int32.ofInt 1 := ⟨_, rfl⟩
          have r_1400 : Rg 1 10 x_1398 := Rg.add e_1399 r_1161 (Rg.c (c := Int32.ofInt 1) (k := 1) rfl) (by decide)
          refine lv_iinc (v := x_1398) (lv' := [(3, .int x_1398), (2, .int x_1396), (5, .int v_1197), (4, .int v_1198), (0, .ref ox), (1, .int a)]) hx hb dX11_roundsAmong_88 hl (k := 3) rfl (e_1399.symm) (by decide) rfl (fun ls hl => ?_)
          refine lv_goto (tgt := 4) hx hb dX11_roundsAmong_91 (by decide) ?_
          exact ih_1156 (x_1398, x_1396) _ _ _ ⟨(Rg.wk (lo2 := 0) (hi2 := 10) r_1400 (by decide)), (by rw [(cN_add (k := 1) e_1399 r_1161 (Rg.c (c := Int32.ofInt 1) (k := 1) rfl) (by decide))]; exact ⟨by rw [rg_y (by rw [← cN_nI r_1161 (by decide), ← iv_1381]; exact c_1382) (by rw [← (show x_1388 = (F10 wf3) (cN v_178) from by rw [f10 (cN_lt (n := 10) r_1161 (by decide))]; exact e_1389), ← cN_nI r_1161 (by decide)]; exact c_1391), e_1397, iv_1158.1, nI_succ]; rfl, (lt_cN (nle_lt c_1159) r_1161 r_a (by decide))⟩), hHe, hlc, hP, lv_sub hl [0, 1, 4, 5] rfl⟩ (ms_up e_1399 r_1161 (Rg.c (c := Int32.ofInt 1) (k := 1) rfl) (by decide))
    · refine lv_icmp_ge (tgt := 66) hx hb dX11_roundsAmong_32 (by decide) (fun c_1367 => ?_) (fun c_1367 => ?_)
      · have r_1368 : Rg 1 10 v_1197 := Rg.le_r c_1367 r_a r_1364 (by decide)
        exact hj_1380 () _ _ _ ⟨(CH_fin iv_1366.1 iv_1366.2 (Or.inl (le_cN c_1367 r_a r_1368 (by decide)))), hHe, hlc, hP, lv_sub hl [0, 1, 2, 3, 4, 5] rfl⟩
      · have r_1369 : Rg 0 9 v_1197 := Rg.lt_l (nle_lt c_1367) r_1364 r_a (by decide)
        refine lv_iload hx hb dX11_roundsAmong_35 (lv_at hl 1 rfl) ?_
        refine lv_iload_n hx hb dX11_roundsAmong_37 rfl (lv_at hl 2 rfl) ?_
        refine lv_icmp_le (tgt := 66) hx hb dX11_roundsAmong_38 (by decide) (fun c_1401 => ?_) (fun c_1401 => ?_)
        · exact hj_1380 () _ _ _ ⟨(CH_fin iv_1366.1 iv_1366.2 (Or.inr c_1401)), hHe, hlc, hP, lv_sub hl [0, 1, 2, 3, 4, 5] rfl⟩
        · have r_1402 : Rg 0 8 v_178 := Rg.lt_l (nle_lt c_1401) r_1161 r_1365 (by decide)
          have r_1403 : Rg 1 9 v_1198 := Rg.lt_r (nle_lt c_1401) r_1161 r_1365 (by decide)
          refine lv_iload hx hb dX11_roundsAmong_41 (lv_at hl 1 rfl) ?_
          refine lv_bipush (v := 10) hx hb dX11_roundsAmong_43 (by decide) ?_
          refine lv_icmp_ge (tgt := 66) hx hb dX11_roundsAmong_45 (by decide) (fun c_1404 => False.elim (Rg.no_le c_1404 (Rg.c (c := 10) (k := 10) rfl) r_1403 (by decide))) (fun c_1404 => ?_)
          refine lv_aload_n hx hb dX11_roundsAmong_48 rfl (lv_at hl 4 rfl) ?_
          refine va_get (D := D) (ci := 9) (v := .ref hw) (C := "WrongHole") (T := TX11) (N := 12) hx hb hts (iq_RX11 _) hown hK hP 0 rfl rfl 4 (by decide) (hT _ qq_1_206) (fun _ h9 => h9) rfl dX11_roundsAmong_49 ?_
          refine va_getN (D := D) (ci := 8) (v := .ref wa3) (C := "WrongHole$Worn") (T := TX10) (N := 9) hx hb hts (iq_RX10 _) hown hK hP 1 rfl rfl 8 (by decide) (NN.f hN nq_1_115) (fun _ h9 => h9) rfl dX11_roundsAmong_52 ?_
          refine lv_iload hx hb dX11_roundsAmong_55 (lv_at hl 1 rfl) ?_
          have hi_1405 : vp_in v_1198 10 := Rg.in r_1403 (by decide)
          refine va_iald hx hb hK hP 2 0 rfl rfl hi_1405 dX11_roundsAmong_57 ?_
          refine lv_topi (fun x_1406 e_1407 => ?_)
          have r_1408 : Rg (-1) 9 x_1406 := Rg.of e_1407 (f10_rg hstn r_1403 (by decide))
          refine lv_istore (lv' := [(4, .int x_1406), (5, .int v_1197), (3, .int v_178), (2, .int v_179), (0, .ref ox), (1, .int a)]) hx hb dX11_roundsAmong_58 hl (by decide) rfl (fun ls hl => ?_)
          obtain ⟨x_1409, e_1410⟩ : ∃ z : Int32, z = v_1197 + Int32.ofInt 1 := ⟨_, rfl⟩
          have r_1411 : Rg 1 10 x_1409 := Rg.add e_1410 r_1369 (Rg.c (c := Int32.ofInt 1) (k := 1) rfl) (by decide)
          refine lv_iinc (v := x_1409) (lv' := [(5, .int x_1409), (4, .int x_1406), (3, .int v_178), (2, .int v_179), (0, .ref ox), (1, .int a)]) hx hb dX11_roundsAmong_60 hl (k := 1) rfl (e_1410.symm) (by decide) rfl (fun ls hl => ?_)
          refine lv_goto (tgt := 29) hx hb dX11_roundsAmong_63 (by decide) ?_
          exact ih_1363 (x_1409, x_1406) _ _ _ ⟨(Rg.wk (lo2 := 0) (hi2 := 10) r_1411 (by decide)), r_1408, (by rw [(cN_add (k := 1) e_1410 r_1369 (Rg.c (c := Int32.ofInt 1) (k := 1) rfl) (by decide))]; exact ⟨by rw [CH_s (by rw [← iv_1366.1]; exact c_1401), ← iv_1366.1]; exact (show x_1406 = (F10 wf3) (cN v_1198) from by rw [f10 (cN_lt (n := 10) (Rg.wk (lo2 := 0) (hi2 := 9) r_1403 (by decide)) (by decide))]; exact e_1407), lt_cN (nle_lt c_1367) r_1369 r_a (by decide)⟩), hHe, hlc, hP, lv_sub hl [0, 1, 2, 3, 4, 5] rfl⟩ (ms_up e_1410 r_1369 (Rg.c (c := Int32.ofInt 1) (k := 1) rfl) (by decide))
