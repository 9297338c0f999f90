set_option maxHeartbeats 4000000 in
set_option maxRecDepth 100000 in
theorem c_M_moves_y (l : Launch) (D : va_G) (cs : Nat → ClassId) (m0 : Nat) (mtp : Nat) (sta : Int32) (sru : Int32) (msg : Nat) (mln : Nat) (mcl : Nat) (mcs : Nat) (mrd : Nat) (snx : Int32) (swr : Int32) (snu : Int32) (ste : Int32) (sma : Int32) (sde : Int32) (sli : Int32) (mop : Nat) (sod : Int32) (mst : Nat) (sto : Int32) (mwd : Nat) (msd : Nat) (sx_ : Int32) (mws : Nat) (sun : Int32) (mfr : Nat) (mqu : Nat) (miw : Nat) (sfi : Int32) (swa : Int32) (sdx : Int64) (mim : Nat) (mix : Nat) (mmd : Nat) (gsd : Nat → Int32) (a : Int32) (hsi : SI gsd) : Met l yX12_moves (Cond.code yX12_moves cX12_moves 7 (some .int) :: TB) (RM 1 0 0) (va_Pc [.ref m0, .int a] (PRR D cs [(m0, .inr (10, (.ref mtp :: .int sta :: .int sru :: .ref msg :: .ref mln :: .ref mcl :: .ref mcs :: .ref mrd :: .int snx :: .int swr :: .int snu :: .int ste :: .int sma :: .int sde :: .int sli :: .ref mop :: .int sod :: .ref mst :: .int sto :: .ref mwd :: .ref msd :: .int sx_ :: .ref mws :: .int sun :: .ref mfr :: .ref mqu :: .ref miw :: .int sfi :: .int swa :: .long sdx :: .ref mim :: .ref mix :: .ref mmd :: []))), (msd, .inl ((cs 0), 133, .inl gsd))])) (QP (fun v => ∃ x : Int32, v = .int x ∧ MVR (F10 (fun k => gsd (92 + k))) a x)) 0 0 (fun _ => False) := by
  refine MER (y := yX12_moves) (cc := cX12_moves) (maxL := 7) (ret := (some .int)) (d := 1) (D := D) (cs := cs) (ws := [(m0, .inr (10, (.ref mtp :: .int sta :: .int sru :: .ref msg :: .ref mln :: .ref mcl :: .ref mcs :: .ref mrd :: .int snx :: .int swr :: .int snu :: .int ste :: .int sma :: .int sde :: .int sli :: .ref mop :: .int sod :: .ref mst :: .int sto :: .ref mwd :: .ref msd :: .int sx_ :: .ref mws :: .int sun :: .ref mfr :: .ref mqu :: .ref miw :: .int sfi :: .int swa :: .long sdx :: .ref mim :: .ref mix :: .ref mmd :: []))), (msd, .inl ((cs 0), 133, .inl gsd))]) (av := [.ref m0, .int a]) (Qc := QP (fun v => ∃ x : Int32, v = .int x ∧ MVR (F10 (fun k => gsd (92 + k))) a x)) (by decide) (Nat.le_of_ble_eq_true rfl) ?_
  intro p e s m below meth c ls H hHe hx hb hr hml hown hts hlocks hP hK hN hl
  obtain ⟨locs, hlc⟩ : ∃ z : List Loc, z = [] := ⟨_, rfl⟩
  rw [← hlc]
  have hown : s.vm.findClass "WrongHoleModel" = some m.cls := hown
  have hT : ∀ w ∈ TB, w.before ([.ref m0, .int a] : List Value).toArray s = true := fun w h => hts w (List.mem_cons_of_mem _ h)
  have hl : lv_has ls 7 [(0, .ref m0), (1, .int a)] := hl
  have hP : va_P D vwCl [(m0, .inr (10, (.ref mtp :: .int sta :: .int sru :: .ref msg :: .ref mln :: .ref mcl :: .ref mcs :: .ref mrd :: .int snx :: .int swr :: .int snu :: .int ste :: .int sma :: .int sde :: .int sli :: .ref mop :: .int sod :: .ref mst :: .int sto :: .ref mwd :: .ref msd :: .int sx_ :: .ref mws :: .int sun :: .ref mfr :: .ref mqu :: .ref miw :: .int sfi :: .int swa :: .long sdx :: .ref mim :: .ref mix :: .ref mmd :: []))), (msd, .inl ((cs 0), 133, .inl gsd))] H := hP
  refine lv_iload_n hx hb dX12_moves_0 rfl (lv_at hl 1 rfl) ?_
  refine lv_i2l (v := Int32.toInt64 a) hx hb dX12_moves_1 rfl ?_
  refine lv_topl (fun x_1 e_2 => ?_)
  refine lv_lconst (v := 1) hx hb dX12_moves_2 (by decide) ?_
  refine lv_ldc2 (v := 10) hx hb hown (hT _ qq_8_69) dX12_moves_3 ?_
  have hPc := va_P.sub (ws' := []) hP [] rfl
  refine cl_P (W.runS (As := [.long x_1, .long 1, .long 10]) (rest := []) ⟨hx, hb, hml, hown, hts⟩ (c_M_in_y l D cs x_1 1 10) ⟨callB_of 3 hts (gd_C qq_6_97) rfl rfl rfl (hT _ qq_1_9) (hT _ qq_6_95) (by decide +kernel) (rm_R rfl rfl), (hT _ qq_6_96)⟩ (pq_S hPc hK hN) rfl rfl hl.1 rfl (lv_room (Nat.le_of_ble_eq_true rfl)) dX12_moves_6 ⟨Nat.le_of_ble_eq_true rfl, Nat.le_of_ble_eq_true rfl⟩) (fun v9 hz_4 => ?_)
  obtain ⟨x_3, rfl, r_5⟩ := hz_4
  refine lv_if_ne (tgt := 14) hx hb dX12_moves_9 (by decide) (fun c_6 => ?_) (fun c_6 => ?_)
  · have r_7 : Rg 1 1 x_3 := Rg.ne c_6 r_5.1 (Rg.c (c := 0) (k := 0) rfl) (by decide)
    have r_8 : Rg 1 10 a := in_rg e_2 ((inY r_5).2 c_6) (by decide) (by decide)
    have r_a1 : Rg 1 10 a := r_8
    refine lv_iconst (v := 0) hx hb dX12_moves_14 (by decide) ?_
    refine lv_istore_n (lv' := [(2, .int 0), (0, .ref m0), (1, .int a)]) hx hb dX12_moves_15 rfl hl (by decide) rfl (fun ls hl => ?_)
    refine lv_iconst (v := 0) hx hb dX12_moves_16 (by decide) ?_
    refine lv_istore_n (lv' := [(3, .int 0), (2, .int 0), (0, .ref m0), (1, .int a)]) hx hb dX12_moves_17 rfl hl (by decide) rfl (fun ls hl => ?_)
    refine lv_iconst (v := 0) hx hb dX12_moves_18 (by decide) ?_
    refine lv_istore (lv' := [(4, .int 0), (3, .int 0), (2, .int 0), (0, .ref m0), (1, .int a)]) hx hb dX12_moves_19 hl (by decide) rfl (fun ls hl => ?_)
    refine lv_iconst (v := 0) hx hb dX12_moves_21 (by decide) ?_
    refine lv_istore (lv' := [(5, .int 0), (4, .int 0), (3, .int 0), (2, .int 0), (0, .ref m0), (1, .int a)]) hx hb dX12_moves_22 hl (by decide) rfl (fun ls hl => ?_)
    refine w_wh (σ := (Int32) × (Int32) × (Int32) × (Int32)) (fun x9 H locs ls => match x9 with | (v_30, v_31, v_32, v_33) => Rg 0 10 v_30 ∧ (v_33 = nI (awF (F10 (fun k => gsd (92 + k))) (cN v_30)) ∧ v_32 = nI (emF (F10 (fun k => gsd (92 + k))) (cN v_30)) ∧ (STN (F10 (fun k => gsd (92 + k))) (cN a) → v_31 = nI (rdF (F10 (fun k => gsd (92 + k))) (cN a) (cN v_30))) ∧ (∀ i9, i9 < cN v_30 → (F10 (fun k => gsd (92 + k))) i9 < a) ∧ cN v_30 ≤ cN a) ∧ H = s.heap ∧ locs = [] ∧ va_P D vwCl [(m0, .inr (10, (.ref mtp :: .int sta :: .int sru :: .ref msg :: .ref mln :: .ref mcl :: .ref mcs :: .ref mrd :: .int snx :: .int swr :: .int snu :: .int ste :: .int sma :: .int sde :: .int sli :: .ref mop :: .int sod :: .ref mst :: .int sto :: .ref mwd :: .ref msd :: .int sx_ :: .ref mws :: .int sun :: .ref mfr :: .ref mqu :: .ref miw :: .int sfi :: .int swa :: .long sdx :: .ref mim :: .ref mix :: .ref mmd :: []))), (msd, .inl ((cs 0), 133, .inl gsd))] H ∧ lv_has ls 7 [(5, .int v_30), (4, .int v_31), (3, .int v_32), (2, .int v_33), (0, .ref m0), (1, .int a)]) (fun x9 => match x9 with | (v_30, v_31, v_32, v_33) => (10 - Int32.toInt v_30).toNat) 24 ?_ (0, 0, 0, 0) H locs ls ⟨(Rg.wk (lo2 := 0) (hi2 := 10) (Rg.c (c := 0) (k := 0) rfl) (by decide)), ⟨rfl, rfl, fun _ => rfl, fun i9 h9 => absurd h9 (Nat.not_lt_zero i9), Nat.zero_le _⟩, hHe, hlc, hP, lv_sub hl [0, 1, 2, 3, 4, 5] rfl⟩
    rintro ⟨v_30, v_31, v_32, v_33⟩ H locs ls ⟨r_243, iv_244, hHe, hlc, hP, hl⟩ ih_242
    refine lv_iload hx hb dX12_moves_24 (lv_at hl 0 rfl) ?_
    refine lv_iload_n hx hb dX12_moves_26 rfl (lv_at hl 5 rfl) ?_
    refine lv_icmp_ge (tgt := 106) hx hb dX12_moves_27 (by decide) (fun c_245 => ?_) (fun c_245 => ?_)
    · have r_246 : Rg 1 10 v_30 := Rg.le_r c_245 r_8 r_243 (by decide)
      refine lv_iload_n hx hb dX12_moves_106 rfl (lv_at hl 3 rfl) ?_
      refine lv_if_ne (tgt := 114) hx hb dX12_moves_107 (by decide) (fun c_248 => ?_) (fun c_248 => ?_)
      · refine lv_iload_n hx hb dX12_moves_114 rfl (lv_at hl 2 rfl) ?_
        refine lv_if_ne (tgt := 123) hx hb dX12_moves_115 (by decide) (fun c_250 => ?_) (fun c_250 => ?_)
        · refine lv_iload_n hx hb dX12_moves_123 rfl (lv_at hl 3 rfl) ?_
          refine lv_iload hx hb dX12_moves_124 (lv_at hl 1 rfl) ?_
          refine lv_iadd hx hb dX12_moves_126 ?_
          refine lv_topi (fun x_252 e_253 => ?_)
          exact W.iret (v := x_252) hx hb hr (fun t9 ht9 hW9 => ⟨⟨_, rfl, _, rfl, (by have hk9 := (show cN v_30 = cN a from by have h9 := le_cN c_245 r_a1 r_246 (by decide); have h8 := iv_244.2.2.2.2; omega); have hi9 := iv_244; rw [hk9] at hi9; exact ⟨fun h9 => absurd r_a1 h9, fun _ => ⟨fun h9 => absurd h9 (fun q9 => Exists.elim q9 (fun i9 p9 => p9.2 (hi9.2.2.2.1 i9 p9.1))), fun h9 => by unfold mvF; rw [if_neg (fz_1 hi9.1 c_248), if_neg (fz_1 hi9.2.1 c_250), e_253, hi9.1, hi9.2.2.1 (STN.of hsi.stn r_a1 h9), nI_add]⟩⟩)⟩, ht9.trans hHe⟩) (fun _ h9 => by rw [hlc] at h9; exact absurd h9 List.not_mem_nil) dX12_moves_127
        · have r_251 : Rg 0 0 v_32 := Rg.eq_l c_250 (Rg.top v_32) (Rg.c (c := 0) (k := 0) rfl) (by decide)
          refine lv_bipush (v := (-2)) hx hb dX12_moves_118 (by decide) ?_
          refine lv_goto (tgt := 127) hx hb dX12_moves_120 (by decide) ?_
          exact W.iret (v := (-2)) hx hb hr (fun t9 ht9 hW9 => ⟨⟨_, rfl, _, rfl, (by have hk9 := (show cN v_30 = cN a from by have h9 := le_cN c_245 r_a1 r_246 (by decide); have h8 := iv_244.2.2.2.2; omega); have hi9 := iv_244; rw [hk9] at hi9; exact ⟨fun h9 => absurd r_a1 h9, fun _ => ⟨fun h9 => absurd h9 (fun q9 => Exists.elim q9 (fun i9 p9 => p9.2 (hi9.2.2.2.1 i9 p9.1))), fun _ => by unfold mvF; rw [if_neg (fz_1 hi9.1 c_248), if_pos (fz_0 hi9.2.1 c_250 (by have h9 := em_le (F10 (fun k => gsd (92 + k))) (cN a); have h8 := cN_le (n := 10) r_a1 (by decide); omega))]⟩⟩)⟩, ht9.trans hHe⟩) (fun _ h9 => by rw [hlc] at h9; exact absurd h9 List.not_mem_nil) dX12_moves_127
      · have r_249 : Rg 0 0 v_33 := Rg.eq_l c_248 (Rg.top v_33) (Rg.c (c := 0) (k := 0) rfl) (by decide)
        refine lv_iconst (v := 0) hx hb dX12_moves_110 (by decide) ?_
        refine lv_goto (tgt := 127) hx hb dX12_moves_111 (by decide) ?_
        exact W.iret (v := 0) hx hb hr (fun t9 ht9 hW9 => ⟨⟨_, rfl, _, rfl, (by have hk9 := (show cN v_30 = cN a from by have h9 := le_cN c_245 r_a1 r_246 (by decide); have h8 := iv_244.2.2.2.2; omega); have hi9 := iv_244; rw [hk9] at hi9; exact ⟨fun h9 => absurd r_a1 h9, fun _ => ⟨fun h9 => absurd h9 (fun q9 => Exists.elim q9 (fun i9 p9 => p9.2 (hi9.2.2.2.1 i9 p9.1))), fun _ => by unfold mvF; rw [if_pos (fz_0 hi9.1 c_248 (by have h9 := aw_le (F10 (fun k => gsd (92 + k))) (cN a); have h8 := cN_le (n := 10) r_a1 (by decide); omega))]⟩⟩)⟩, ht9.trans hHe⟩) (fun _ h9 => by rw [hlc] at h9; exact absurd h9 List.not_mem_nil) dX12_moves_127
    · have r_247 : Rg 0 9 v_30 := Rg.lt_l (nle_lt c_245) r_243 r_8 (by decide)
      refine lv_aload_n hx hb dX12_moves_30 rfl (lv_at hl 4 rfl) ?_
      refine va_get (D := D) (ci := 10) (v := .ref msd) (C := "WrongHoleModel") (T := TX12) (N := 33) hx hb hts (iq_RX12 _) hown hK hP 0 rfl rfl 20 (by decide) (hT _ qq_5_172) (fun _ h9 => h9) rfl dX12_moves_31 ?_
      refine lv_bipush (v := 92) hx hb dX12_moves_34 (by decide) ?_
      refine lv_iload hx hb dX12_moves_36 (lv_at hl 0 rfl) ?_
      refine lv_iadd hx hb dX12_moves_38 ?_
      refine lv_topi (fun x_254 e_255 => ?_)
      have r_256 : Rg 92 101 x_254 := Rg.add e_255 (Rg.c (c := 92) (k := 92) rfl) r_247 (by decide)
      have hi_257 : vp_in x_254 133 := Rg.in r_256 (by decide)
      refine va_iald hx hb hK hP 1 0 rfl rfl hi_257 dX12_moves_39 ?_
      refine lv_topi (fun x_258 e_259 => ?_)
      have r_260 : Rg (-1) 9 x_258 := Rg.of e_259 (hsi.ls r_256 (by decide))
      refine lv_istore (lv' := [(6, .int x_258), (5, .int v_30), (4, .int v_31), (3, .int v_32), (2, .int v_33), (0, .ref m0), (1, .int a)]) hx hb dX12_moves_40 hl (by decide) rfl (fun ls hl => ?_)
      refine lv_iload hx hb dX12_moves_42 (lv_at hl 0 rfl) ?_
      refine lv_iload_n hx hb dX12_moves_44 rfl (lv_at hl 6 rfl) ?_
      refine lv_icmp_lt (tgt := 50) hx hb dX12_moves_45 (by decide) (fun c_261 => ?_) (fun c_261 => ?_)
      · refine lv_iload_n hx hb dX12_moves_50 rfl (lv_at hl 3 rfl) ?_
        refine lv_iload hx hb dX12_moves_51 (lv_at hl 0 rfl) ?_
        refine lv_if_ge (tgt := 60) hx hb dX12_moves_53 (by decide) (fun c_264 => ?_) (fun c_264 => ?_)
        · have r_265 : Rg 0 9 x_258 := Rg.le_r c_264 (Rg.c (c := 0) (k := 0) rfl) r_260 (by decide)
          refine lv_iconst (v := 0) hx hb dX12_moves_60 (by decide) ?_
          refine lv_iadd hx hb dX12_moves_61 ?_
          refine lv_topi (fun x_267 e_268 => ?_)
          refine lv_istore_n (lv' := [(3, .int x_267), (6, .int x_258), (5, .int v_30), (4, .int v_31), (2, .int v_33), (0, .ref m0), (1, .int a)]) hx hb dX12_moves_62 rfl hl (by decide) rfl (fun ls hl => ?_)
          refine lv_iload hx hb dX12_moves_63 (lv_at hl 1 rfl) ?_
          refine lv_if_lt (tgt := 100) hx hb dX12_moves_65 (by decide) (fun c_269 => False.elim (Rg.no_lt c_269 r_265 (Rg.c (c := 0) (k := 0) rfl) (by decide))) (fun c_269 => ?_)
          refine lv_iload hx hb dX12_moves_68 (lv_at hl 1 rfl) ?_
          refine lv_iload hx hb dX12_moves_70 (lv_at hl 2 rfl) ?_
          refine lv_icmp_ne (tgt := 78) hx hb dX12_moves_72 (by decide) (fun c_270 => ?_) (fun c_270 => ?_)
          · obtain ⟨x_271, e_272⟩ : ∃ z : Int32, z = v_33 + Int32.ofInt 1 := ⟨_, rfl⟩
            refine lv_iinc (v := x_271) (lv' := [(2, .int x_271), (3, .int x_267), (6, .int x_258), (5, .int v_30), (4, .int v_31), (0, .ref m0), (1, .int a)]) hx hb dX12_moves_78 hl (k := 4) rfl (e_272.symm) (by decide) rfl (fun ls hl => ?_)
            refine lv_iload hx hb dX12_moves_81 (lv_at hl 4 rfl) ?_
            refine lv_aload_n hx hb dX12_moves_83 rfl (lv_at hl 5 rfl) ?_
            refine lv_iload hx hb dX12_moves_84 (lv_at hl 3 rfl) ?_
            have hPc := va_P.sub (ws' := [(m0, .inr (10, (.ref mtp :: .int sta :: .int sru :: .ref msg :: .ref mln :: .ref mcl :: .ref mcs :: .ref mrd :: .int snx :: .int swr :: .int snu :: .int ste :: .int sma :: .int sde :: .int sli :: .ref mop :: .int sod :: .ref mst :: .int sto :: .ref mwd :: .ref msd :: .int sx_ :: .ref mws :: .int sun :: .ref mfr :: .ref mqu :: .ref miw :: .int sfi :: .int swa :: .long sdx :: .ref mim :: .ref mix :: .ref mmd :: []))), (msd, .inl ((cs 0), 133, .inl gsd))]) hP [0, 1] rfl
            refine cl_P (W.runV (As := [.int v_30]) (rest := [.int v_31]) ⟨hx, hb, hml, hown, hts⟩ (c_M_isRound_y l D cs m0 mtp sta sru msg mln mcl mcs mrd snx swr snu ste sma sde sli mop sod mst sto mwd msd sx_ mws sun mfr mqu miw sfi swa sdx mim mix mmd gsd v_30 hsi r_247) ⟨callB_of 1 hts (gd_C qq_8_73) rfl rfl rfl (hT _ qq_1_9) (hT _ qq_8_70) (by decide +kernel) (rm_R rfl rfl), (hT _ qq_8_72), (hT _ qs_7_8)⟩ (pq_V hPc hK hN (ci := 10) (q0 := 0) rfl rfl) rfl rfl hl.1 rfl (lv_room (Nat.le_of_ble_eq_true rfl)) dX12_moves_86 ⟨Nat.le_of_ble_eq_true rfl, Nat.le_of_ble_eq_true rfl⟩) (fun v9 hz_274 => ?_)
            obtain ⟨x_273, rfl, r_275⟩ := hz_274
            refine lv_if_eq (tgt := 96) hx hb dX12_moves_89 (by decide) (fun c_276 => ?_) (fun c_276 => ?_)
            · have r_277 : Rg 0 0 x_273 := Rg.eq_l c_276 r_275.1 (Rg.c (c := 0) (k := 0) rfl) (by decide)
              refine lv_iconst (v := 0) hx hb dX12_moves_96 (by decide) ?_
              refine lv_iadd hx hb dX12_moves_97 ?_
              refine lv_topi (fun x_279 e_280 => ?_)
              refine lv_istore (lv' := [(4, .int x_279), (2, .int x_271), (3, .int x_267), (6, .int x_258), (5, .int v_30), (0, .ref m0), (1, .int a)]) hx hb dX12_moves_98 hl (by decide) rfl (fun ls hl => ?_)
              obtain ⟨x_281, e_282⟩ : ∃ z : Int32, z = v_30 + Int32.ofInt 1 := ⟨_, rfl⟩
              have r_283 : Rg 1 10 x_281 := Rg.add e_282 r_247 (Rg.c (c := Int32.ofInt 1) (k := 1) rfl) (by decide)
              refine lv_iinc (v := x_281) (lv' := [(5, .int x_281), (4, .int x_279), (2, .int x_271), (3, .int x_267), (6, .int x_258), (0, .ref m0), (1, .int a)]) hx hb dX12_moves_100 hl (k := 4) rfl (e_282.symm) (by decide) rfl (fun ls hl => ?_)
              refine lv_goto (tgt := 24) hx hb dX12_moves_103 (by decide) ?_
              exact ih_242 (x_281, x_279, x_267, x_271) _ _ _ ⟨(Rg.wk (lo2 := 0) (hi2 := 10) r_283 (by decide)), (by rw [(cN_add (k := 1) e_282 r_247 (Rg.c (c := Int32.ofInt 1) (k := 1) rfl) (by decide))]; exact ⟨by rw [aw_y (by rw [← (show x_258 = (F10 (fun k => gsd (92 + k))) (cN v_30) from by rw [f10 (cN_lt (n := 10) r_247 (by decide)), e_259, show Int32.toNatClampNeg x_254 = _ from (ix_add (k := 92) e_255 r_247 (by decide) ⟨by decide, rfl⟩)])]; exact i_C2 c_264) (by rw [← (show x_258 = (F10 (fun k => gsd (92 + k))) (cN v_30) from by rw [f10 (cN_lt (n := 10) r_247 (by decide)), e_259, show Int32.toNatClampNeg x_254 = _ from (ix_add (k := 92) e_255 r_247 (by decide) ⟨by decide, rfl⟩)]), ← cN_nI r_247 (by decide)]; exact c_270), e_272, iv_244.1, nI_succ]; rfl, (by rw [em_n (by rw [← (show x_258 = (F10 (fun k => gsd (92 + k))) (cN v_30) from by rw [f10 (cN_lt (n := 10) r_247 (by decide)), e_259, show Int32.toNatClampNeg x_254 = _ from (ix_add (k := 92) e_255 r_247 (by decide) ⟨by decide, rfl⟩)])]; exact i_C2 c_264)]; exact (e_268.trans (by rw [iv_244.2.1, show (0 : Int32) = nI 0 from rfl, nI_add, Nat.add_zero]))), fun h8 => by have h7 := nle_lt c_245; have h5 : ¬ CH (F10 (fun k => gsd (92 + k))) (nI (cN v_30)) (cN a) = nI (cN v_30) := (by rw [← cN_nI r_247 (by decide)]; exact fun q9 => (r_275.2 (cN a) h8 (by rw [i_lt] at h7; have h6 := cN_i r_a1 (by decide); omega)).mpr q9 c_276); rw [rd_z (by rw [← (show x_258 = (F10 (fun k => gsd (92 + k))) (cN v_30) from by rw [f10 (cN_lt (n := 10) r_247 (by decide)), e_259, show Int32.toNatClampNeg x_254 = _ from (ix_add (k := 92) e_255 r_247 (by decide) ⟨by decide, rfl⟩)])]; exact i_C2 c_264) (by rw [← (show x_258 = (F10 (fun k => gsd (92 + k))) (cN v_30) from by rw [f10 (cN_lt (n := 10) r_247 (by decide)), e_259, show Int32.toNatClampNeg x_254 = _ from (ix_add (k := 92) e_255 r_247 (by decide) ⟨by decide, rfl⟩)]), ← cN_nI r_247 (by decide)]; exact c_270) h5]; exact (e_280.trans (by rw [iv_244.2.2.1 h8, show (0 : Int32) = nI 0 from rfl, nI_add, Nat.add_zero])), (fun i9 h9 => if q9 : i9 = cN v_30 then (by rw [q9, ← (show x_258 = (F10 (fun k => gsd (92 + k))) (cN v_30) from by rw [f10 (cN_lt (n := 10) r_247 (by decide)), e_259, show Int32.toNatClampNeg x_254 = _ from (ix_add (k := 92) e_255 r_247 (by decide) ⟨by decide, rfl⟩)])]; exact c_261) else iv_244.2.2.2.1 i9 (by omega)), (lt_cN (nle_lt c_245) r_247 r_a1 (by decide))⟩), hHe, hlc, hP, lv_sub hl [0, 1, 3, 2, 5, 6] rfl⟩ (ms_up e_282 r_247 (Rg.c (c := Int32.ofInt 1) (k := 1) rfl) (by decide))
            · have r_278 : Rg 1 1 x_273 := Rg.ne c_276 r_275.1 (Rg.c (c := 0) (k := 0) rfl) (by decide)
              refine lv_iconst (v := 1) hx hb dX12_moves_92 (by decide) ?_
              refine lv_goto (tgt := 97) hx hb dX12_moves_93 (by decide) ?_
              refine lv_iadd hx hb dX12_moves_97 ?_
              refine lv_topi (fun x_284 e_285 => ?_)
              refine lv_istore (lv' := [(4, .int x_284), (2, .int x_271), (3, .int x_267), (6, .int x_258), (5, .int v_30), (0, .ref m0), (1, .int a)]) hx hb dX12_moves_98 hl (by decide) rfl (fun ls hl => ?_)
              obtain ⟨x_286, e_287⟩ : ∃ z : Int32, z = v_30 + Int32.ofInt 1 := ⟨_, rfl⟩
              have r_288 : Rg 1 10 x_286 := Rg.add e_287 r_247 (Rg.c (c := Int32.ofInt 1) (k := 1) rfl) (by decide)
              refine lv_iinc (v := x_286) (lv' := [(5, .int x_286), (4, .int x_284), (2, .int x_271), (3, .int x_267), (6, .int x_258), (0, .ref m0), (1, .int a)]) hx hb dX12_moves_100 hl (k := 4) rfl (e_287.symm) (by decide) rfl (fun ls hl => ?_)
              refine lv_goto (tgt := 24) hx hb dX12_moves_103 (by decide) ?_
              exact ih_242 (x_286, x_284, x_267, x_271) _ _ _ ⟨(Rg.wk (lo2 := 0) (hi2 := 10) r_288 (by decide)), (by rw [(cN_add (k := 1) e_287 r_247 (Rg.c (c := Int32.ofInt 1) (k := 1) rfl) (by decide))]; exact ⟨by rw [aw_y (by rw [← (show x_258 = (F10 (fun k => gsd (92 + k))) (cN v_30) from by rw [f10 (cN_lt (n := 10) r_247 (by decide)), e_259, show Int32.toNatClampNeg x_254 = _ from (ix_add (k := 92) e_255 r_247 (by decide) ⟨by decide, rfl⟩)])]; exact i_C2 c_264) (by rw [← (show x_258 = (F10 (fun k => gsd (92 + k))) (cN v_30) from by rw [f10 (cN_lt (n := 10) r_247 (by decide)), e_259, show Int32.toNatClampNeg x_254 = _ from (ix_add (k := 92) e_255 r_247 (by decide) ⟨by decide, rfl⟩)]), ← cN_nI r_247 (by decide)]; exact c_270), e_272, iv_244.1, nI_succ]; rfl, (by rw [em_n (by rw [← (show x_258 = (F10 (fun k => gsd (92 + k))) (cN v_30) from by rw [f10 (cN_lt (n := 10) r_247 (by decide)), e_259, show Int32.toNatClampNeg x_254 = _ from (ix_add (k := 92) e_255 r_247 (by decide) ⟨by decide, rfl⟩)])]; exact i_C2 c_264)]; exact (e_268.trans (by rw [iv_244.2.1, show (0 : Int32) = nI 0 from rfl, nI_add, Nat.add_zero]))), fun h8 => by have h7 := nle_lt c_245; have h5 := (r_275.2 (cN a) h8 (by rw [i_lt] at h7; have h6 := cN_i r_a1 (by decide); omega)).mp c_276; rw [show CH (F10 (fun k => gsd (92 + k))) v_30 (cN a) = v_30 ↔ CH (F10 (fun k => gsd (92 + k))) (nI (cN v_30)) (cN a) = nI (cN v_30) from by rw [← cN_nI r_247 (by decide)]] at h5; rw [rd_y (by rw [← (show x_258 = (F10 (fun k => gsd (92 + k))) (cN v_30) from by rw [f10 (cN_lt (n := 10) r_247 (by decide)), e_259, show Int32.toNatClampNeg x_254 = _ from (ix_add (k := 92) e_255 r_247 (by decide) ⟨by decide, rfl⟩)])]; exact i_C2 c_264) (by rw [← (show x_258 = (F10 (fun k => gsd (92 + k))) (cN v_30) from by rw [f10 (cN_lt (n := 10) r_247 (by decide)), e_259, show Int32.toNatClampNeg x_254 = _ from (ix_add (k := 92) e_255 r_247 (by decide) ⟨by decide, rfl⟩)]), ← cN_nI r_247 (by decide)]; exact c_270) h5, e_285, iv_244.2.2.1 h8, nI_succ], (fun i9 h9 => if q9 : i9 = cN v_30 then (by rw [q9, ← (show x_258 = (F10 (fun k => gsd (92 + k))) (cN v_30) from by rw [f10 (cN_lt (n := 10) r_247 (by decide)), e_259, show Int32.toNatClampNeg x_254 = _ from (ix_add (k := 92) e_255 r_247 (by decide) ⟨by decide, rfl⟩)])]; exact c_261) else iv_244.2.2.2.1 i9 (by omega)), (lt_cN (nle_lt c_245) r_247 r_a1 (by decide))⟩), hHe, hlc, hP, lv_sub hl [0, 1, 3, 2, 5, 6] rfl⟩ (ms_up e_287 r_247 (Rg.c (c := Int32.ofInt 1) (k := 1) rfl) (by decide))
          · refine lv_goto (tgt := 100) hx hb dX12_moves_75 (by decide) ?_
            obtain ⟨x_289, e_290⟩ : ∃ z : Int32, z = v_30 + Int32.ofInt 1 := ⟨_, rfl⟩
            have r_291 : Rg 1 10 x_289 := Rg.add e_290 r_247 (Rg.c (c := Int32.ofInt 1) (k := 1) rfl) (by decide)
            refine lv_iinc (v := x_289) (lv' := [(5, .int x_289), (3, .int x_267), (6, .int x_258), (4, .int v_31), (2, .int v_33), (0, .ref m0), (1, .int a)]) hx hb dX12_moves_100 hl (k := 2) rfl (e_290.symm) (by decide) rfl (fun ls hl => ?_)
            refine lv_goto (tgt := 24) hx hb dX12_moves_103 (by decide) ?_
            exact ih_242 (x_289, v_31, x_267, v_33) _ _ _ ⟨(Rg.wk (lo2 := 0) (hi2 := 10) r_291 (by decide)), (by rw [(cN_add (k := 1) e_290 r_247 (Rg.c (c := Int32.ofInt 1) (k := 1) rfl) (by decide))]; exact ⟨by rw [aw_n (Or.inr (by rw [← (show x_258 = (F10 (fun k => gsd (92 + k))) (cN v_30) from by rw [f10 (cN_lt (n := 10) r_247 (by decide)), e_259, show Int32.toNatClampNeg x_254 = _ from (ix_add (k := 92) e_255 r_247 (by decide) ⟨by decide, rfl⟩)]), ← cN_nI r_247 (by decide)]; exact c_270))]; exact iv_244.1, (by rw [em_n (by rw [← (show x_258 = (F10 (fun k => gsd (92 + k))) (cN v_30) from by rw [f10 (cN_lt (n := 10) r_247 (by decide)), e_259, show Int32.toNatClampNeg x_254 = _ from (ix_add (k := 92) e_255 r_247 (by decide) ⟨by decide, rfl⟩)])]; exact i_C2 c_264)]; exact (e_268.trans (by rw [iv_244.2.1, show (0 : Int32) = nI 0 from rfl, nI_add, Nat.add_zero]))), fun h8 => by rw [rd_n (Or.inr (by rw [← (show x_258 = (F10 (fun k => gsd (92 + k))) (cN v_30) from by rw [f10 (cN_lt (n := 10) r_247 (by decide)), e_259, show Int32.toNatClampNeg x_254 = _ from (ix_add (k := 92) e_255 r_247 (by decide) ⟨by decide, rfl⟩)]), ← cN_nI r_247 (by decide)]; exact c_270))]; exact iv_244.2.2.1 h8, (fun i9 h9 => if q9 : i9 = cN v_30 then (by rw [q9, ← (show x_258 = (F10 (fun k => gsd (92 + k))) (cN v_30) from by rw [f10 (cN_lt (n := 10) r_247 (by decide)), e_259, show Int32.toNatClampNeg x_254 = _ from (ix_add (k := 92) e_255 r_247 (by decide) ⟨by decide, rfl⟩)])]; exact c_261) else iv_244.2.2.2.1 i9 (by omega)), (lt_cN (nle_lt c_245) r_247 r_a1 (by decide))⟩), hHe, hlc, hP, lv_sub hl [0, 3, 1, 4, 5, 6] rfl⟩ (ms_up e_290 r_247 (Rg.c (c := Int32.ofInt 1) (k := 1) rfl) (by decide))
        · have r_266 : Rg (-1) (-1) x_258 := Rg.lt_l (nle_lt c_264) r_260 (Rg.c (c := 0) (k := 0) rfl) (by decide)
          refine lv_iconst (v := 1) hx hb dX12_moves_56 (by decide) ?_
          refine lv_goto (tgt := 61) hx hb dX12_moves_57 (by decide) ?_
          refine lv_iadd hx hb dX12_moves_61 ?_
          refine lv_topi (fun x_292 e_293 => ?_)
          refine lv_istore_n (lv' := [(3, .int x_292), (6, .int x_258), (5, .int v_30), (4, .int v_31), (2, .int v_33), (0, .ref m0), (1, .int a)]) hx hb dX12_moves_62 rfl hl (by decide) rfl (fun ls hl => ?_)
          refine lv_iload hx hb dX12_moves_63 (lv_at hl 1 rfl) ?_
          refine lv_if_lt (tgt := 100) hx hb dX12_moves_65 (by decide) (fun c_294 => ?_) (fun c_294 => False.elim (Rg.no_le (nlt_le c_294) (Rg.c (c := 0) (k := 0) rfl) r_266 (by decide)))
          obtain ⟨x_295, e_296⟩ : ∃ z : Int32, z = v_30 + Int32.ofInt 1 := ⟨_, rfl⟩
          have r_297 : Rg 1 10 x_295 := Rg.add e_296 r_247 (Rg.c (c := Int32.ofInt 1) (k := 1) rfl) (by decide)
          refine lv_iinc (v := x_295) (lv' := [(5, .int x_295), (3, .int x_292), (6, .int x_258), (4, .int v_31), (2, .int v_33), (0, .ref m0), (1, .int a)]) hx hb dX12_moves_100 hl (k := 2) rfl (e_296.symm) (by decide) rfl (fun ls hl => ?_)
          refine lv_goto (tgt := 24) hx hb dX12_moves_103 (by decide) ?_
          exact ih_242 (x_295, v_31, x_292, v_33) _ _ _ ⟨(Rg.wk (lo2 := 0) (hi2 := 10) r_297 (by decide)), (by rw [(cN_add (k := 1) e_296 r_247 (Rg.c (c := Int32.ofInt 1) (k := 1) rfl) (by decide))]; exact ⟨by rw [aw_n (Or.inl (by rw [← (show x_258 = (F10 (fun k => gsd (92 + k))) (cN v_30) from by rw [f10 (cN_lt (n := 10) r_247 (by decide)), e_259, show Int32.toNatClampNeg x_254 = _ from (ix_add (k := 92) e_255 r_247 (by decide) ⟨by decide, rfl⟩)])]; exact nle_lt c_264))]; exact iv_244.1, by rw [em_y (by rw [← (show x_258 = (F10 (fun k => gsd (92 + k))) (cN v_30) from by rw [f10 (cN_lt (n := 10) r_247 (by decide)), e_259, show Int32.toNatClampNeg x_254 = _ from (ix_add (k := 92) e_255 r_247 (by decide) ⟨by decide, rfl⟩)])]; exact nle_lt c_264), e_293, iv_244.2.1, nI_succ], fun h8 => by rw [rd_n (Or.inl (by rw [← (show x_258 = (F10 (fun k => gsd (92 + k))) (cN v_30) from by rw [f10 (cN_lt (n := 10) r_247 (by decide)), e_259, show Int32.toNatClampNeg x_254 = _ from (ix_add (k := 92) e_255 r_247 (by decide) ⟨by decide, rfl⟩)])]; exact nle_lt c_264))]; exact iv_244.2.2.1 h8, (fun i9 h9 => if q9 : i9 = cN v_30 then (by rw [q9, ← (show x_258 = (F10 (fun k => gsd (92 + k))) (cN v_30) from by rw [f10 (cN_lt (n := 10) r_247 (by decide)), e_259, show Int32.toNatClampNeg x_254 = _ from (ix_add (k := 92) e_255 r_247 (by decide) ⟨by decide, rfl⟩)])]; exact c_261) else iv_244.2.2.2.1 i9 (by omega)), (lt_cN (nle_lt c_245) r_247 r_a1 (by decide))⟩), hHe, hlc, hP, lv_sub hl [0, 3, 1, 4, 5, 6] rfl⟩ (ms_up e_296 r_247 (Rg.c (c := Int32.ofInt 1) (k := 1) rfl) (by decide))
      · have r_262 : Rg 1 9 a := Rg.le_l (nlt_le c_261) r_8 r_260 (by decide)
        have r_263 : Rg 1 9 x_258 := Rg.le_r (nlt_le c_261) r_8 r_260 (by decide)
        refine lv_iconst (v := (-1)) hx hb dX12_moves_48 (by decide) ?_
        exact W.iret (v := (-1)) hx hb hr (fun t9 ht9 hW9 => ⟨⟨_, rfl, _, rfl, ⟨fun h9 => absurd r_a1 h9, fun _ => ⟨fun _ => rfl, fun h9 => absurd (h9 (cN v_30) (lt_cN (nle_lt c_245) r_247 r_a1 (by decide))) (by rw [← (show x_258 = (F10 (fun k => gsd (92 + k))) (cN v_30) from by rw [f10 (cN_lt (n := 10) r_247 (by decide)), e_259, show Int32.toNatClampNeg x_254 = _ from (ix_add (k := 92) e_255 r_247 (by decide) ⟨by decide, rfl⟩)])]; exact c_261)⟩⟩⟩, ht9.trans hHe⟩) (fun _ h9 => by rw [hlc] at h9; exact absurd h9 List.not_mem_nil) dX12_moves_49
  · have r_9 : Rg 0 0 x_3 := Rg.eq_l c_6 r_5.1 (Rg.c (c := 0) (k := 0) rfl) (by decide)
    refine lv_iconst (v := (-1)) hx hb dX12_moves_12 (by decide) ?_
    exact W.iret (v := (-1)) hx hb hr (fun t9 ht9 hW9 => ⟨⟨_, rfl, _, rfl, ⟨fun _ => rfl, fun h9 => absurd (r_5.2.2 (in_yes e_2 h9 rfl rfl)) (fun q9 => q9 c_6)⟩⟩, ht9.trans hHe⟩) (fun _ h9 => by rw [hlc] at h9; exact absurd h9 List.not_mem_nil) dX12_moves_13
