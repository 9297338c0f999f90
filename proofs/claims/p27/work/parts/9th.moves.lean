set_option maxHeartbeats 4000000 in
set_option maxRecDepth 100000 in
theorem c_W_moves_y (l : Launch) (D : va_G) (cs : Nat → ClassId) (ox : Nat) (ht : Nat) (hq : Nat) (og : Nat) (rc : Int32) (hw : Nat) (om : Nat) (hp : Nat) (ha : Nat) (hf : Nat) (hw0 : Nat) (qh : Option Nat) (qo : Option Nat) (wk : Int32) (wc : Int32) (wx : Int32) (wn : Int32) (wa0 : Nat) (wa1 : Nat) (wa2 : Nat) (wa3 : Nat) (ql : Option Nat) (wf3 : Nat → Int32) (a : Int32) (hst0 : STN (F10 wf3) 0) : Met l yX11_moves (Cond.code yX11_moves cX11_moves 5 (some .int) :: TB) (RM 1 0 0) (va_Pc [.ref ox, .int a] (PRR D cs [(ox, .inr (9, [.ref ht, .ref hq, .ref og, .int rc, .ref hw, .ref om, .ref hp, .ref ha, .ref hf, .ref hw0, va_rf qh, va_rf qo])), (hw, .inr (8, [va_rf ql, .int wk, .int wc, .int wx, .int wn, .ref wa0, .ref wa1, .ref wa2, .ref wa3])), (wa3, .inl ((cs 0), 10, .inl wf3))])) (QP (fun v => ∃ x : Int32, v = .int x ∧ MVR (F10 wf3) a x)) 0 0 (fun _ => False) := by
  refine MER (y := yX11_moves) (cc := cX11_moves) (maxL := 5) (ret := (some .int)) (d := 1) (D := D) (cs := cs) (ws := [(ox, .inr (9, [.ref ht, .ref hq, .ref og, .int rc, .ref hw, .ref om, .ref hp, .ref ha, .ref hf, .ref hw0, va_rf qh, va_rf qo])), (hw, .inr (8, [va_rf ql, .int wk, .int wc, .int wx, .int wn, .ref wa0, .ref wa1, .ref wa2, .ref wa3])), (wa3, .inl ((cs 0), 10, .inl wf3))]) (av := [.ref ox, .int a]) (Qc := QP (fun v => ∃ x : Int32, v = .int x ∧ MVR (F10 wf3) a x)) (by decide) (Nat.le_of_ble_eq_true rfl) ?_
  intro p e s m below meth c ls H hHe hx hb hr hml hown hts hlocks hP hK hN hl
  obtain ⟨locs, hlc⟩ : ∃ z : List Loc, z = [] := ⟨_, rfl⟩
  rw [← hlc]
  have hown : s.vm.findClass "WrongHole" = some m.cls := hown
  have hT : ∀ w ∈ TB, w.before ([.ref ox, .int a] : List Value).toArray s = true := fun w h => hts w (List.mem_cons_of_mem _ h)
  have hl : lv_has ls 5 [(0, .ref ox), (1, .int a)] := hl
  have hP : va_P D vwCl [(ox, .inr (9, [.ref ht, .ref hq, .ref og, .int rc, .ref hw, .ref om, .ref hp, .ref ha, .ref hf, .ref hw0, va_rf qh, va_rf qo])), (hw, .inr (8, [va_rf ql, .int wk, .int wc, .int wx, .int wn, .ref wa0, .ref wa1, .ref wa2, .ref wa3])), (wa3, .inl ((cs 0), 10, .inl wf3))] H := hP
  refine lv_iload_n hx hb dX11_moves_0 rfl (lv_at hl 1 rfl) ?_
  refine lv_iconst (v := 1) hx hb dX11_moves_1 (by decide) ?_
  refine lv_icmp_lt (tgt := 11) hx hb dX11_moves_2 (by decide) (fun c_1 => ?_) (fun c_1 => ?_)
  · have r_2 : Rg (-2147483648) 0 a := Rg.lt_l c_1 (Rg.top a) (Rg.c (c := 1) (k := 1) rfl) (by decide)
    refine lv_iconst (v := (-1)) hx hb dX11_moves_11 (by decide) ?_
    exact W.iret (v := (-1)) hx hb hr (fun t9 ht9 hW9 => ⟨⟨_, rfl, _, rfl, ⟨fun _ => rfl, fun h9 => absurd h9 (fun h7 => by obtain ⟨h1, h2⟩ := h7; have h8 := c_1; rw [i_lt] at h8; have e1 : Int32.toInt 1 = 1 := rfl; have e2 : Int32.toInt 10 = 10 := rfl; omega)⟩⟩, ht9.trans hHe⟩) (fun _ h9 => by rw [hlc] at h9; exact absurd h9 List.not_mem_nil) dX11_moves_12
  · have r_3 : Rg 1 2147483647 a := Rg.le_r (nlt_le c_1) (Rg.c (c := 1) (k := 1) rfl) (Rg.top a) (by decide)
    refine lv_iload_n hx hb dX11_moves_5 rfl (lv_at hl 1 rfl) ?_
    refine lv_bipush (v := 10) hx hb dX11_moves_6 (by decide) ?_
    refine lv_icmp_le (tgt := 13) hx hb dX11_moves_8 (by decide) (fun c_4 => ?_) (fun c_4 => ?_)
    · have r_5 : Rg 1 10 a := Rg.le_l c_4 r_3 (Rg.c (c := 10) (k := 10) rfl) (by decide)
      have r_a1 : Rg 1 10 a := r_5
      refine lv_iconst (v := 0) hx hb dX11_moves_13 (by decide) ?_
      refine lv_istore_n (lv' := [(2, .int 0), (0, .ref ox), (1, .int a)]) hx hb dX11_moves_14 rfl hl (by decide) rfl (fun ls hl => ?_)
      refine lv_iconst (v := 0) hx hb dX11_moves_15 (by decide) ?_
      refine lv_istore_n (lv' := [(3, .int 0), (2, .int 0), (0, .ref ox), (1, .int a)]) hx hb dX11_moves_16 rfl hl (by decide) rfl (fun ls hl => ?_)
      refine lv_iconst (v := 0) hx hb dX11_moves_17 (by decide) ?_
      refine lv_istore (lv' := [(4, .int 0), (3, .int 0), (2, .int 0), (0, .ref ox), (1, .int a)]) hx hb dX11_moves_18 hl (by decide) rfl (fun ls hl => ?_)
      refine w_wh (σ := (Int32) × (Int32) × (Int32)) (fun x9 H locs ls => match x9 with | (v_25, v_26, v_27) => Rg 0 10 v_25 ∧ (v_27 = nI (awF (F10 wf3) (cN v_25)) ∧ v_26 = nI (emF (F10 wf3) (cN v_25)) ∧ (∀ i9, i9 < cN v_25 → (F10 wf3) i9 < a) ∧ cN v_25 ≤ cN a) ∧ H = s.heap ∧ locs = [] ∧ va_P D vwCl [(ox, .inr (9, [.ref ht, .ref hq, .ref og, .int rc, .ref hw, .ref om, .ref hp, .ref ha, .ref hf, .ref hw0, va_rf qh, va_rf qo])), (hw, .inr (8, [va_rf ql, .int wk, .int wc, .int wx, .int wn, .ref wa0, .ref wa1, .ref wa2, .ref wa3])), (wa3, .inl ((cs 0), 10, .inl wf3))] H ∧ lv_has ls 5 [(4, .int v_25), (3, .int v_26), (2, .int v_27), (0, .ref ox), (1, .int a)]) (fun x9 => match x9 with | (v_25, v_26, v_27) => (10 - Int32.toInt v_25).toNat) 20 ?_ (0, 0, 0) H locs ls ⟨(Rg.wk (lo2 := 0) (hi2 := 10) (Rg.c (c := 0) (k := 0) rfl) (by decide)), ⟨rfl, rfl, fun i9 h9 => absurd h9 (Nat.not_lt_zero i9), Nat.zero_le _⟩, hHe, hlc, hP, lv_sub hl [0, 1, 2, 3, 4] rfl⟩
      rintro ⟨v_25, v_26, v_27⟩ H locs ls ⟨r_221, iv_222, hHe, hlc, hP, hl⟩ ih_220
      refine lv_iload hx hb dX11_moves_20 (lv_at hl 0 rfl) ?_
      refine lv_iload_n hx hb dX11_moves_22 rfl (lv_at hl 4 rfl) ?_
      refine lv_icmp_ge (tgt := 86) hx hb dX11_moves_23 (by decide) (fun c_223 => ?_) (fun c_223 => ?_)
      · have r_224 : Rg 1 10 v_25 := Rg.le_r c_223 r_5 r_221 (by decide)
        refine lv_iload_n hx hb dX11_moves_86 rfl (lv_at hl 1 rfl) ?_
        refine lv_if_ne (tgt := 97) hx hb dX11_moves_87 (by decide) (fun c_226 => ?_) (fun c_226 => ?_)
        · refine lv_iload_n hx hb dX11_moves_97 rfl (lv_at hl 2 rfl) ?_
          refine lv_aload_n hx hb dX11_moves_98 rfl (lv_at hl 3 rfl) ?_
          refine lv_iload_n hx hb dX11_moves_99 rfl (lv_at hl 4 rfl) ?_
          have hPc := va_P.sub (ws' := [(ox, .inr (9, [.ref ht, .ref hq, .ref og, .int rc, .ref hw, .ref om, .ref hp, .ref ha, .ref hf, .ref hw0, va_rf qh, va_rf qo])), (hw, .inr (8, [va_rf ql, .int wk, .int wc, .int wx, .int wn, .ref wa0, .ref wa1, .ref wa2, .ref wa3])), (wa3, .inl ((cs 0), 10, .inl wf3))]) hP [0, 1, 2] rfl
          refine cl_P (W.runV (As := [.int a]) (rest := [.int v_27]) ⟨hx, hb, hml, hown, hts⟩ (c_W_roundsAmong_y l D cs ox ht hq og rc hw om hp ha hf hw0 qh qo wk wc wx wn wa0 wa1 wa2 wa3 ql wf3 a r_5 (by have hk9 : cN v_25 = cN a := (by have h9 := le_cN c_223 r_a1 r_224 (by decide); have h8 := iv_222.2.2.2; omega); have hi9 := iv_222.2.2.1; rw [hk9] at hi9; exact STN.of hst0 r_a1 hi9)) ⟨callB_of 1 hts (gd_C qq_5_110) rfl rfl rfl (hT _ qq_1_1) (hT _ qq_5_107) (by decide +kernel) (rm_R rfl rfl), (hT _ qq_5_109), (hT _ qs_1_13)⟩ (pq_V hPc hK hN (ci := 9) (q0 := 0) rfl rfl) rfl rfl hl.1 rfl (lv_room (Nat.le_of_ble_eq_true rfl)) dX11_moves_100 ⟨Nat.le_of_ble_eq_true rfl, Nat.le_of_ble_eq_true rfl⟩) (fun v9 hz_229 => ?_)
          obtain ⟨x_228, rfl, r_230⟩ := hz_229
          refine lv_iadd hx hb dX11_moves_103 ?_
          refine lv_topi (fun x_231 e_232 => ?_)
          exact W.iret (v := x_231) hx hb hr (fun t9 ht9 hW9 => ⟨⟨_, rfl, _, rfl, (by have hk9 : cN v_25 = cN a := (by have h9 := le_cN c_223 r_a1 r_224 (by decide); have h8 := iv_222.2.2.2; omega); have hi9 := iv_222; rw [hk9] at hi9; have hb9 := cN_le (n := 10) r_a1 (by decide); have ha9 := aw_le (F10 wf3) (cN a); have he9 := em_le (F10 wf3) (cN a); exact ⟨fun h9 => absurd r_a1 h9, fun _ => ⟨fun h9 => absurd h9 (fun q9 => Exists.elim q9 (fun i9 p9 => p9.2 (hi9.2.2.1 i9 p9.1))), fun h9 => by rw [mv_sum (Or.inr (fz_1 hi9.2.1 c_226)), e_232, hi9.1, r_230, rd_eq hb9 _ (Nat.le_refl _), nI_add]⟩⟩)⟩, ht9.trans hHe⟩) (fun _ h9 => by rw [hlc] at h9; exact absurd h9 List.not_mem_nil) dX11_moves_104
        · have r_227 : Rg 0 0 v_26 := Rg.eq_l c_226 (Rg.top v_26) (Rg.c (c := 0) (k := 0) rfl) (by decide)
          refine lv_iload_n hx hb dX11_moves_90 rfl (lv_at hl 2 rfl) ?_
          refine lv_if_le (tgt := 97) hx hb dX11_moves_91 (by decide) (fun c_233 => ?_) (fun c_233 => ?_)
          · have r_234 : Rg (-2147483648) 0 v_27 := Rg.le_l c_233 (Rg.top v_27) (Rg.c (c := 0) (k := 0) rfl) (by decide)
            refine lv_iload_n hx hb dX11_moves_97 rfl (lv_at hl 2 rfl) ?_
            refine lv_aload_n hx hb dX11_moves_98 rfl (lv_at hl 3 rfl) ?_
            refine lv_iload_n hx hb dX11_moves_99 rfl (lv_at hl 4 rfl) ?_
            have hPc := va_P.sub (ws' := [(ox, .inr (9, [.ref ht, .ref hq, .ref og, .int rc, .ref hw, .ref om, .ref hp, .ref ha, .ref hf, .ref hw0, va_rf qh, va_rf qo])), (hw, .inr (8, [va_rf ql, .int wk, .int wc, .int wx, .int wn, .ref wa0, .ref wa1, .ref wa2, .ref wa3])), (wa3, .inl ((cs 0), 10, .inl wf3))]) hP [0, 1, 2] rfl
            refine cl_P (W.runV (As := [.int a]) (rest := [.int v_27]) ⟨hx, hb, hml, hown, hts⟩ (c_W_roundsAmong_y l D cs ox ht hq og rc hw om hp ha hf hw0 qh qo wk wc wx wn wa0 wa1 wa2 wa3 ql wf3 a r_5 (by have hk9 : cN v_25 = cN a := (by have h9 := le_cN c_223 r_a1 r_224 (by decide); have h8 := iv_222.2.2.2; omega); have hi9 := iv_222.2.2.1; rw [hk9] at hi9; exact STN.of hst0 r_a1 hi9)) ⟨callB_of 1 hts (gd_C qq_5_110) rfl rfl rfl (hT _ qq_1_1) (hT _ qq_5_107) (by decide +kernel) (rm_R rfl rfl), (hT _ qq_5_109), (hT _ qs_1_13)⟩ (pq_V hPc hK hN (ci := 9) (q0 := 0) rfl rfl) rfl rfl hl.1 rfl (lv_room (Nat.le_of_ble_eq_true rfl)) dX11_moves_100 ⟨Nat.le_of_ble_eq_true rfl, Nat.le_of_ble_eq_true rfl⟩) (fun v9 hz_237 => ?_)
            obtain ⟨x_236, rfl, r_238⟩ := hz_237
            refine lv_iadd hx hb dX11_moves_103 ?_
            refine lv_topi (fun x_239 e_240 => ?_)
            exact W.iret (v := x_239) hx hb hr (fun t9 ht9 hW9 => ⟨⟨_, rfl, _, rfl, (by have hk9 : cN v_25 = cN a := (by have h9 := le_cN c_223 r_a1 r_224 (by decide); have h8 := iv_222.2.2.2; omega); have hi9 := iv_222; rw [hk9] at hi9; have hb9 := cN_le (n := 10) r_a1 (by decide); have ha9 := aw_le (F10 wf3) (cN a); have he9 := em_le (F10 wf3) (cN a); exact ⟨fun h9 => absurd r_a1 h9, fun _ => ⟨fun h9 => absurd h9 (fun q9 => Exists.elim q9 (fun i9 p9 => p9.2 (hi9.2.2.1 i9 p9.1))), fun h9 => by rw [mv_sum (Or.inl (le_0 hi9.1 c_233 (by omega))), e_240, hi9.1, r_238, rd_eq hb9 _ (Nat.le_refl _), nI_add]⟩⟩)⟩, ht9.trans hHe⟩) (fun _ h9 => by rw [hlc] at h9; exact absurd h9 List.not_mem_nil) dX11_moves_104
          · have r_235 : Rg 1 2147483647 v_27 := Rg.lt_r (nle_lt c_233) (Rg.c (c := 0) (k := 0) rfl) (Rg.top v_27) (by decide)
            refine lv_bipush (v := (-2)) hx hb dX11_moves_94 (by decide) ?_
            exact W.iret (v := (-2)) hx hb hr (fun t9 ht9 hW9 => ⟨⟨_, rfl, _, rfl, (by have hk9 : cN v_25 = cN a := (by have h9 := le_cN c_223 r_a1 r_224 (by decide); have h8 := iv_222.2.2.2; omega); have hi9 := iv_222; rw [hk9] at hi9; have hb9 := cN_le (n := 10) r_a1 (by decide); have ha9 := aw_le (F10 wf3) (cN a); have he9 := em_le (F10 wf3) (cN a); exact ⟨fun h9 => absurd r_a1 h9, fun _ => ⟨fun h9 => absurd h9 (fun q9 => Exists.elim q9 (fun i9 p9 => p9.2 (hi9.2.2.1 i9 p9.1))), fun _ => by unfold mvF; rw [if_neg (fun q9 => c_233 (by rw [hi9.1, q9]; decide)), if_pos (fz_0 hi9.2.1 c_226 (by omega))]⟩⟩)⟩, ht9.trans hHe⟩) (fun _ h9 => by rw [hlc] at h9; exact absurd h9 List.not_mem_nil) dX11_moves_96
      · have r_225 : Rg 0 9 v_25 := Rg.lt_l (nle_lt c_223) r_221 r_5 (by decide)
        refine lv_aload_n hx hb dX11_moves_26 rfl (lv_at hl 3 rfl) ?_
        refine va_get (D := D) (ci := 9) (v := .ref hw) (C := "WrongHole") (T := TX11) (N := 12) hx hb hts (iq_RX11 _) hown hK hP 0 rfl rfl 4 (by decide) (hT _ qq_1_206) (fun _ h9 => h9) rfl dX11_moves_27 ?_
        refine va_getN (D := D) (ci := 8) (v := .ref wa3) (C := "WrongHole$Worn") (T := TX10) (N := 9) hx hb hts (iq_RX10 _) hown hK hP 1 rfl rfl 8 (by decide) (NN.f hN nq_1_115) (fun _ h9 => h9) rfl dX11_moves_30 ?_
        refine lv_iload hx hb dX11_moves_33 (lv_at hl 0 rfl) ?_
        have hi_241 : vp_in v_25 10 := Rg.in r_225 (by decide)
        refine va_iald hx hb hK hP 2 0 rfl rfl hi_241 dX11_moves_35 ?_
        refine lv_topi (fun x_242 e_243 => ?_)
        have r_244 : Rg (-1) 9 x_242 := Rg.of e_243 (f10_rg hst0 r_225 (by decide))
        refine lv_iload_n hx hb dX11_moves_36 rfl (lv_at hl 4 rfl) ?_
        refine lv_icmp_lt (tgt := 42) hx hb dX11_moves_37 (by decide) (fun c_245 => ?_) (fun c_245 => ?_)
        · refine lv_aload_n hx hb dX11_moves_42 rfl (lv_at hl 3 rfl) ?_
          refine va_get (D := D) (ci := 9) (v := .ref hw) (C := "WrongHole") (T := TX11) (N := 12) hx hb hts (iq_RX11 _) hown hK hP 0 rfl rfl 4 (by decide) (hT _ qq_1_206) (fun _ h9 => h9) rfl dX11_moves_43 ?_
          refine va_getN (D := D) (ci := 8) (v := .ref wa3) (C := "WrongHole$Worn") (T := TX10) (N := 9) hx hb hts (iq_RX10 _) hown hK hP 1 rfl rfl 8 (by decide) (NN.f hN nq_1_115) (fun _ h9 => h9) rfl dX11_moves_46 ?_
          refine lv_iload hx hb dX11_moves_49 (lv_at hl 0 rfl) ?_
          have hi_248 : vp_in v_25 10 := Rg.in r_225 (by decide)
          refine va_iald hx hb hK hP 2 0 rfl rfl hi_248 dX11_moves_51 ?_
          refine lv_topi (fun x_249 e_250 => ?_)
          have r_251 : Rg (-1) 9 x_249 := Rg.of e_250 (f10_rg hst0 r_225 (by decide))
          refine lv_iconst (v := (-1)) hx hb dX11_moves_52 (by decide) ?_
          refine lv_icmp_ne (tgt := 62) hx hb dX11_moves_53 (by decide) (fun c_252 => ?_) (fun c_252 => ?_)
          · have r_253 : Rg 0 9 x_249 := Rg.ne c_252 r_251 (Rg.c (c := (-1)) (k := (-1)) rfl) (by decide)
            refine lv_aload_n hx hb dX11_moves_62 rfl (lv_at hl 3 rfl) ?_
            refine va_get (D := D) (ci := 9) (v := .ref hw) (C := "WrongHole") (T := TX11) (N := 12) hx hb hts (iq_RX11 _) hown hK hP 0 rfl rfl 4 (by decide) (hT _ qq_1_206) (fun _ h9 => h9) rfl dX11_moves_63 ?_
            refine va_getN (D := D) (ci := 8) (v := .ref wa3) (C := "WrongHole$Worn") (T := TX10) (N := 9) hx hb hts (iq_RX10 _) hown hK hP 1 rfl rfl 8 (by decide) (NN.f hN nq_1_115) (fun _ h9 => h9) rfl dX11_moves_66 ?_
            refine lv_iload hx hb dX11_moves_69 (lv_at hl 0 rfl) ?_
            have hi_255 : vp_in v_25 10 := Rg.in r_225 (by decide)
            refine va_iald hx hb hK hP 2 0 rfl rfl hi_255 dX11_moves_71 ?_
            refine lv_topi (fun x_256 e_257 => ?_)
            have r_258 : Rg (-1) 9 x_256 := Rg.of e_257 (f10_rg hst0 r_225 (by decide))
            refine lv_iload hx hb dX11_moves_72 (lv_at hl 0 rfl) ?_
            refine lv_icmp_eq (tgt := 80) hx hb dX11_moves_74 (by decide) (fun c_259 => ?_) (fun c_259 => ?_)
            · have r_260 : Rg 0 9 x_256 := Rg.eq_l c_259 r_258 r_225 (by decide)
              obtain ⟨x_261, e_262⟩ : ∃ z : Int32, z = v_25 + Int32.ofInt 1 := ⟨_, rfl⟩
              have r_263 : Rg 1 10 x_261 := Rg.add e_262 r_225 (Rg.c (c := Int32.ofInt 1) (k := 1) rfl) (by decide)
              refine lv_iinc (v := x_261) (lv' := [(4, .int x_261), (3, .int v_26), (2, .int v_27), (0, .ref ox), (1, .int a)]) hx hb dX11_moves_80 hl (k := 0) rfl (e_262.symm) (by decide) rfl (fun ls hl => ?_)
              refine lv_goto (tgt := 20) hx hb dX11_moves_83 (by decide) ?_
              exact ih_220 (x_261, v_26, v_27) _ _ _ ⟨(Rg.wk (lo2 := 0) (hi2 := 10) r_263 (by decide)), (by rw [(cN_add (k := 1) e_262 r_225 (Rg.c (c := Int32.ofInt 1) (k := 1) rfl) (by decide))]; exact ⟨by rw [aw_n (Or.inr (by rw [← (show x_256 = (F10 wf3) (cN v_25) from by rw [f10 (cN_lt (n := 10) r_225 (by decide))]; exact e_257), ← cN_nI r_225 (by decide)]; exact c_259))]; exact iv_222.1, (by rw [em_n (by rw [← (show x_249 = (F10 wf3) (cN v_25) from by rw [f10 (cN_lt (n := 10) r_225 (by decide))]; exact e_250)]; exact nn_rg r_253 (by decide))]; exact iv_222.2.1), (fun i9 h9 => if q9 : i9 = cN v_25 then (by rw [q9, ← (show x_242 = (F10 wf3) (cN v_25) from by rw [f10 (cN_lt (n := 10) r_225 (by decide))]; exact e_243)]; exact c_245) else iv_222.2.2.1 i9 (by omega)), lt_cN (nle_lt c_223) r_225 r_a1 (by decide)⟩), hHe, hlc, hP, lv_sub hl [0, 1, 2, 3, 4] rfl⟩ (ms_up e_262 r_225 (Rg.c (c := Int32.ofInt 1) (k := 1) rfl) (by decide))
            · obtain ⟨x_264, e_265⟩ : ∃ z : Int32, z = v_27 + Int32.ofInt 1 := ⟨_, rfl⟩
              refine lv_iinc (v := x_264) (lv' := [(2, .int x_264), (4, .int v_25), (3, .int v_26), (0, .ref ox), (1, .int a)]) hx hb dX11_moves_77 hl (k := 2) rfl (e_265.symm) (by decide) rfl (fun ls hl => ?_)
              obtain ⟨x_266, e_267⟩ : ∃ z : Int32, z = v_25 + Int32.ofInt 1 := ⟨_, rfl⟩
              have r_268 : Rg 1 10 x_266 := Rg.add e_267 r_225 (Rg.c (c := Int32.ofInt 1) (k := 1) rfl) (by decide)
              refine lv_iinc (v := x_266) (lv' := [(4, .int x_266), (2, .int x_264), (3, .int v_26), (0, .ref ox), (1, .int a)]) hx hb dX11_moves_80 hl (k := 1) rfl (e_267.symm) (by decide) rfl (fun ls hl => ?_)
              refine lv_goto (tgt := 20) hx hb dX11_moves_83 (by decide) ?_
              exact ih_220 (x_266, v_26, x_264) _ _ _ ⟨(Rg.wk (lo2 := 0) (hi2 := 10) r_268 (by decide)), (by rw [(cN_add (k := 1) e_267 r_225 (Rg.c (c := Int32.ofInt 1) (k := 1) rfl) (by decide))]; exact ⟨by rw [aw_y (by rw [← (show x_249 = (F10 wf3) (cN v_25) from by rw [f10 (cN_lt (n := 10) r_225 (by decide))]; exact e_250)]; exact nn_rg r_253 (by decide)) (by rw [← (show x_256 = (F10 wf3) (cN v_25) from by rw [f10 (cN_lt (n := 10) r_225 (by decide))]; exact e_257), ← cN_nI r_225 (by decide)]; exact c_259), e_265, iv_222.1, nI_succ]; rfl, (by rw [em_n (by rw [← (show x_249 = (F10 wf3) (cN v_25) from by rw [f10 (cN_lt (n := 10) r_225 (by decide))]; exact e_250)]; exact nn_rg r_253 (by decide))]; exact iv_222.2.1), (fun i9 h9 => if q9 : i9 = cN v_25 then (by rw [q9, ← (show x_242 = (F10 wf3) (cN v_25) from by rw [f10 (cN_lt (n := 10) r_225 (by decide))]; exact e_243)]; exact c_245) else iv_222.2.2.1 i9 (by omega)), lt_cN (nle_lt c_223) r_225 r_a1 (by decide)⟩), hHe, hlc, hP, lv_sub hl [0, 2, 1, 3, 4] rfl⟩ (ms_up e_267 r_225 (Rg.c (c := Int32.ofInt 1) (k := 1) rfl) (by decide))
          · have r_254 : Rg (-1) (-1) x_249 := Rg.eq_l c_252 r_251 (Rg.c (c := (-1)) (k := (-1)) rfl) (by decide)
            obtain ⟨x_269, e_270⟩ : ∃ z : Int32, z = v_26 + Int32.ofInt 1 := ⟨_, rfl⟩
            refine lv_iinc (v := x_269) (lv' := [(3, .int x_269), (4, .int v_25), (2, .int v_27), (0, .ref ox), (1, .int a)]) hx hb dX11_moves_56 hl (k := 1) rfl (e_270.symm) (by decide) rfl (fun ls hl => ?_)
            refine lv_goto (tgt := 80) hx hb dX11_moves_59 (by decide) ?_
            obtain ⟨x_271, e_272⟩ : ∃ z : Int32, z = v_25 + Int32.ofInt 1 := ⟨_, rfl⟩
            have r_273 : Rg 1 10 x_271 := Rg.add e_272 r_225 (Rg.c (c := Int32.ofInt 1) (k := 1) rfl) (by decide)
            refine lv_iinc (v := x_271) (lv' := [(4, .int x_271), (3, .int x_269), (2, .int v_27), (0, .ref ox), (1, .int a)]) hx hb dX11_moves_80 hl (k := 1) rfl (e_272.symm) (by decide) rfl (fun ls hl => ?_)
            refine lv_goto (tgt := 20) hx hb dX11_moves_83 (by decide) ?_
            exact ih_220 (x_271, x_269, v_27) _ _ _ ⟨(Rg.wk (lo2 := 0) (hi2 := 10) r_273 (by decide)), (by rw [(cN_add (k := 1) e_272 r_225 (Rg.c (c := Int32.ofInt 1) (k := 1) rfl) (by decide))]; exact ⟨by rw [aw_n (Or.inl (by rw [← (show x_249 = (F10 wf3) (cN v_25) from by rw [f10 (cN_lt (n := 10) r_225 (by decide))]; exact e_250), c_252]; decide))]; exact iv_222.1, by rw [em_y (by rw [← (show x_249 = (F10 wf3) (cN v_25) from by rw [f10 (cN_lt (n := 10) r_225 (by decide))]; exact e_250), c_252]; decide), e_270, iv_222.2.1, nI_succ]; rfl, (fun i9 h9 => if q9 : i9 = cN v_25 then (by rw [q9, ← (show x_242 = (F10 wf3) (cN v_25) from by rw [f10 (cN_lt (n := 10) r_225 (by decide))]; exact e_243)]; exact c_245) else iv_222.2.2.1 i9 (by omega)), lt_cN (nle_lt c_223) r_225 r_a1 (by decide)⟩), hHe, hlc, hP, lv_sub hl [0, 1, 2, 3, 4] rfl⟩ (ms_up e_272 r_225 (Rg.c (c := Int32.ofInt 1) (k := 1) rfl) (by decide))
        · have r_246 : Rg 1 9 a := Rg.le_l (nlt_le c_245) r_5 r_244 (by decide)
          have r_247 : Rg 1 9 x_242 := Rg.le_r (nlt_le c_245) r_5 r_244 (by decide)
          refine lv_iconst (v := (-1)) hx hb dX11_moves_40 (by decide) ?_
          exact W.iret (v := (-1)) hx hb hr (fun t9 ht9 hW9 => ⟨⟨_, rfl, _, rfl, ⟨fun h9 => absurd r_a1 h9, fun _ => ⟨fun _ => rfl, fun h9 => absurd (h9 (cN v_25) (lt_cN (nle_lt c_223) r_225 r_a1 (by decide))) (by rw [← (show x_242 = (F10 wf3) (cN v_25) from by rw [f10 (cN_lt (n := 10) r_225 (by decide))]; exact e_243)]; exact c_245)⟩⟩⟩, ht9.trans hHe⟩) (fun _ h9 => by rw [hlc] at h9; exact absurd h9 List.not_mem_nil) dX11_moves_41
    · have r_6 : Rg 11 2147483647 a := Rg.lt_r (nle_lt c_4) (Rg.c (c := 10) (k := 10) rfl) r_3 (by decide)
      refine lv_iconst (v := (-1)) hx hb dX11_moves_11 (by decide) ?_
      exact W.iret (v := (-1)) hx hb hr (fun t9 ht9 hW9 => ⟨⟨_, rfl, _, rfl, ⟨fun _ => rfl, fun h9 => absurd h9 (fun h7 => by obtain ⟨h1, h2⟩ := h7; have h8 := c_4; rw [i_le] at h8; have e1 : Int32.toInt 1 = 1 := rfl; have e2 : Int32.toInt 10 = 10 := rfl; omega)⟩⟩, ht9.trans hHe⟩) (fun _ h9 => by rw [hlc] at h9; exact absurd h9 List.not_mem_nil) dX11_moves_12
