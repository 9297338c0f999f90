theorem dX12_mayAt_0 : decode cX12_mayAt 0 = .ok (.iconst 0, 1) := by decide +kernel
theorem dX12_mayAt_1 : decode cX12_mayAt 1 = .ok (.istore_n 3, 1) := by decide +kernel
theorem dX12_mayAt_2 : decode cX12_mayAt 2 = .ok (.iconst 0, 1) := by decide +kernel
theorem dX12_mayAt_3 : decode cX12_mayAt 3 = .ok (.istore 4, 2) := by decide +kernel
theorem dX12_mayAt_5 : decode cX12_mayAt 5 = .ok (.iload 4, 2) := by decide +kernel
theorem dX12_mayAt_7 : decode cX12_mayAt 7 = .ok (.bipush 72, 2) := by decide +kernel
theorem dX12_mayAt_9 : decode cX12_mayAt 9 = .ok (.if_icmp .ge 33, 3) := by decide +kernel
theorem dX12_mayAt_42 : decode cX12_mayAt 42 = .ok (.iconst (-1), 1) := by decide +kernel
theorem dX12_mayAt_43 : decode cX12_mayAt 43 = .ok (.iload_n 3, 1) := by decide +kernel
theorem dX12_mayAt_44 : decode cX12_mayAt 44 = .ok (.isub, 1) := by decide +kernel
theorem dX12_mayAt_45 : decode cX12_mayAt 45 = .ok (.ireturn, 1) := by decide +kernel
theorem dX12_mayAt_12 : decode cX12_mayAt 12 = .ok (.aload_n 0, 1) := by decide +kernel
theorem dX12_mayAt_13 : decode cX12_mayAt 13 = .ok (.iload_n 1, 1) := by decide +kernel
theorem dX12_mayAt_14 : decode cX12_mayAt 14 = .ok (.iload 4, 2) := by decide +kernel
theorem dX12_mayAt_16 : decode cX12_mayAt 16 = .ok (.invokevirtual 413, 3) := by decide +kernel
theorem dX12_mayAt_19 : decode cX12_mayAt 19 = .ok (.ifCond .ge 6, 3) := by decide +kernel
theorem dX12_mayAt_25 : decode cX12_mayAt 25 = .ok (.iload_n 3, 1) := by decide +kernel
theorem dX12_mayAt_26 : decode cX12_mayAt 26 = .ok (.iload_n 2, 1) := by decide +kernel
theorem dX12_mayAt_27 : decode cX12_mayAt 27 = .ok (.if_icmp .ne 6, 3) := by decide +kernel
theorem dX12_mayAt_33 : decode cX12_mayAt 33 = .ok (.iinc 3 1, 3) := by decide +kernel
theorem dX12_mayAt_36 : decode cX12_mayAt 36 = .ok (.iinc 4 1, 3) := by decide +kernel
theorem dX12_mayAt_39 : decode cX12_mayAt 39 = .ok (.goto (-34), 3) := by decide +kernel
theorem dX12_mayAt_30 : decode cX12_mayAt 30 = .ok (.iload 4, 2) := by decide +kernel
theorem dX12_mayAt_32 : decode cX12_mayAt 32 = .ok (.ireturn, 1) := by decide +kernel
theorem dX12_mayAt_22 : decode cX12_mayAt 22 = .ok (.goto 14, 3) := by decide +kernel
set_option maxHeartbeats 4000000 in
set_option maxRecDepth 100000 in
theorem c_M_mayAt (l : Launch) (D : va_G) (cs : Nat → ClassId) (m0 : Nat) (mtp : Nat) (sta : Int32) (sru : Int32) (msg : Nat) (mln : Nat) (mcl : Nat) (mcs : Nat) (mrd : Nat) (snx : Int32) (swr : Int32) (snu : Int32) (ste : Int32) (sma : Int32) (sde : Int32) (sli : Int32) (mop : Nat) (sod : Int32) (mst : Nat) (sto : Int32) (mwd : Nat) (msd : Nat) (sx_ : Int32) (mws : Nat) (sun : Int32) (mfr : Nat) (mqu : Nat) (miw : Nat) (sfi : Int32) (swa : Int32) (sdx : Int64) (mim : Nat) (mix : Nat) (mmd : Nat) (gsd : Nat → Int32) (a : Int32) (b : Int32) (hsi : SI gsd) (hbk : BK a) : Met l yX12_mayAt (Cond.code yX12_mayAt cX12_mayAt 5 (some .int) :: TB) (RM 6 0 0) (va_Pc [.ref m0, .int a, .int b] (PRR D cs [(m0, .inr (10, (.ref mtp :: .int sta :: .int sru :: .ref msg :: .ref mln :: .ref mcl :: .ref mcs :: .ref mrd :: .int snx :: .int swr :: .int snu :: .int ste :: .int sma :: .int sde :: .int sli :: .ref mop :: .int sod :: .ref mst :: .int sto :: .ref mwd :: .ref msd :: .int sx_ :: .ref mws :: .int sun :: .ref mfr :: .ref mqu :: .ref miw :: .int sfi :: .int swa :: .long sdx :: .ref mim :: .ref mix :: .ref mmd :: []))), (msd, .inl ((cs 0), 133, .inl gsd))])) (QP (fun v => ∃ x : Int32, v = .int x ∧ MAT gsd (cN a) b x)) 0 0 (fun _ => False) := by
  refine MER (y := yX12_mayAt) (cc := cX12_mayAt) (maxL := 5) (ret := (some .int)) (d := 6) (D := D) (cs := cs) (ws := [(m0, .inr (10, (.ref mtp :: .int sta :: .int sru :: .ref msg :: .ref mln :: .ref mcl :: .ref mcs :: .ref mrd :: .int snx :: .int swr :: .int snu :: .int ste :: .int sma :: .int sde :: .int sli :: .ref mop :: .int sod :: .ref mst :: .int sto :: .ref mwd :: .ref msd :: .int sx_ :: .ref mws :: .int sun :: .ref mfr :: .ref mqu :: .ref miw :: .int sfi :: .int swa :: .long sdx :: .ref mim :: .ref mix :: .ref mmd :: []))), (msd, .inl ((cs 0), 133, .inl gsd))]) (av := [.ref m0, .int a, .int b]) (Qc := QP (fun v => ∃ x : Int32, v = .int x ∧ MAT gsd (cN a) b x)) (by decide) (Nat.le_of_ble_eq_true rfl) ?_
  intro p e s m below meth c ls H hHe hx hb hr hml hown hts hlocks hP hK hN hl
  obtain ⟨locs, hlc⟩ : ∃ z : List Loc, z = [] := ⟨_, rfl⟩
  rw [← hlc]
  have hown : s.vm.findClass "WrongHoleModel" = some m.cls := hown
  have hT : ∀ w ∈ TB, w.before ([.ref m0, .int a, .int b] : List Value).toArray s = true := fun w h => hts w (List.mem_cons_of_mem _ h)
  have hl : lv_has ls 5 [(0, .ref m0), (1, .int a), (2, .int b)] := hl
  have hP : va_P D vwCl [(m0, .inr (10, (.ref mtp :: .int sta :: .int sru :: .ref msg :: .ref mln :: .ref mcl :: .ref mcs :: .ref mrd :: .int snx :: .int swr :: .int snu :: .int ste :: .int sma :: .int sde :: .int sli :: .ref mop :: .int sod :: .ref mst :: .int sto :: .ref mwd :: .ref msd :: .int sx_ :: .ref mws :: .int sun :: .ref mfr :: .ref mqu :: .ref miw :: .int sfi :: .int swa :: .long sdx :: .ref mim :: .ref mix :: .ref mmd :: []))), (msd, .inl ((cs 0), 133, .inl gsd))] H := hP
  refine lv_iconst (v := 0) hx hb dX12_mayAt_0 (by decide) ?_
  refine lv_istore_n (lv' := [(3, .int 0), (0, .ref m0), (1, .int a), (2, .int b)]) hx hb dX12_mayAt_1 rfl hl (by decide) rfl (fun ls hl => ?_)
  refine lv_iconst (v := 0) hx hb dX12_mayAt_2 (by decide) ?_
  refine lv_istore (lv' := [(4, .int 0), (3, .int 0), (0, .ref m0), (1, .int a), (2, .int b)]) hx hb dX12_mayAt_3 hl (by decide) rfl (fun ls hl => ?_)
  refine w_wh (σ := (Int32) × (Int32)) (fun x9 H locs ls => match x9 with | (v_10, v_11) => Rg 0 72 v_10 ∧ (v_11 = nI (cntF gsd (cN a) (cN v_10)) ∧ (0 ≤ Int32.toInt b → cntF gsd (cN a) (cN v_10) ≤ cN b)) ∧ H = s.heap ∧ locs = [] ∧ va_P D vwCl [(m0, .inr (10, (.ref mtp :: .int sta :: .int sru :: .ref msg :: .ref mln :: .ref mcl :: .ref mcs :: .ref mrd :: .int snx :: .int swr :: .int snu :: .int ste :: .int sma :: .int sde :: .int sli :: .ref mop :: .int sod :: .ref mst :: .int sto :: .ref mwd :: .ref msd :: .int sx_ :: .ref mws :: .int sun :: .ref mfr :: .ref mqu :: .ref miw :: .int sfi :: .int swa :: .long sdx :: .ref mim :: .ref mix :: .ref mmd :: []))), (msd, .inl ((cs 0), 133, .inl gsd))] H ∧ lv_has ls 5 [(4, .int v_10), (3, .int v_11), (0, .ref m0), (1, .int a), (2, .int b)]) (fun x9 => match x9 with | (v_10, v_11) => (72 - Int32.toInt v_10).toNat) 5 ?_ (0, 0) H locs ls ⟨(Rg.wk (lo2 := 0) (hi2 := 72) (Rg.c (c := 0) (k := 0) rfl) (by decide)), ⟨rfl, fun _ => Nat.zero_le _⟩, hHe, hlc, hP, lv_sub hl [0, 1, 2, 3, 4] rfl⟩
  rintro ⟨v_10, v_11⟩ H locs ls ⟨r_93, iv_94, hHe, hlc, hP, hl⟩ ih_92
  refine lv_iload hx hb dX12_mayAt_5 (lv_at hl 0 rfl) ?_
  refine lv_bipush (v := 72) hx hb dX12_mayAt_7 (by decide) ?_
  refine lv_icmp_ge (tgt := 42) hx hb dX12_mayAt_9 (by decide) (fun c_95 => ?_) (fun c_95 => ?_)
  · have r_96 : Rg 72 72 v_10 := Rg.le_r c_95 (Rg.c (c := 72) (k := 72) rfl) r_93 (by decide)
    refine lv_iconst (v := (-1)) hx hb dX12_mayAt_42 (by decide) ?_
    refine lv_iload_n hx hb dX12_mayAt_43 rfl (lv_at hl 1 rfl) ?_
    refine lv_isub hx hb dX12_mayAt_44 ?_
    refine lv_topi (fun x_98 e_99 => ?_)
    exact W.iret (v := x_98) hx hb hr (fun t9 ht9 hW9 => ⟨⟨_, rfl, _, rfl, (Or.inr ⟨by rw [e_99, iv_94.1, (show cN v_10 = 72 from by have h9 := le_cN c_95 (Rg.c (c := 72) (k := 72) rfl) r_96 (by decide); have h8 : cN 72 = 72 := rfl; have h7 := cN_le (n := 72) (Rg.wk (lo2 := 0) (hi2 := 72) r_96 (by decide)) (by decide); omega)], by have h6 := iv_94.2; rw [(show cN v_10 = 72 from by have h9 := le_cN c_95 (Rg.c (c := 72) (k := 72) rfl) r_96 (by decide); have h8 : cN 72 = 72 := rfl; have h7 := cN_le (n := 72) (Rg.wk (lo2 := 0) (hi2 := 72) r_96 (by decide)) (by decide); omega)] at h6; exact h6⟩)⟩, ht9.trans hHe⟩) (fun _ h9 => by rw [hlc] at h9; exact absurd h9 List.not_mem_nil) dX12_mayAt_45
  · have r_97 : Rg 0 71 v_10 := Rg.lt_l (nle_lt c_95) r_93 (Rg.c (c := 72) (k := 72) rfl) (by decide)
    refine lv_aload_n hx hb dX12_mayAt_12 rfl (lv_at hl 2 rfl) ?_
    refine lv_iload_n hx hb dX12_mayAt_13 rfl (lv_at hl 3 rfl) ?_
    refine lv_iload hx hb dX12_mayAt_14 (lv_at hl 0 rfl) ?_
    have hPc := va_P.sub (ws' := [(m0, .inr (10, (.ref mtp :: .int sta :: .int sru :: .ref msg :: .ref mln :: .ref mcl :: .ref mcs :: .ref mrd :: .int snx :: .int swr :: .int snu :: .int ste :: .int sma :: .int sde :: .int sli :: .ref mop :: .int sod :: .ref mst :: .int sto :: .ref mwd :: .ref msd :: .int sx_ :: .ref mws :: .int sun :: .ref mfr :: .ref mqu :: .ref miw :: .int sfi :: .int swa :: .long sdx :: .ref mim :: .ref mix :: .ref mmd :: []))), (msd, .inl ((cs 0), 133, .inl gsd))]) hP [0, 1] rfl
    refine cl_P (W.runV (As := [.int a, .int v_10]) (rest := []) ⟨hx, hb, hml, hown, hts⟩ (c_M_behindLawful l D cs m0 mtp sta sru msg mln mcl mcs mrd snx swr snu ste sma sde sli mop sod mst sto mwd msd sx_ mws sun mfr mqu miw sfi swa sdx mim mix mmd gsd a v_10 hsi r_97 hbk) ⟨callB_of 2 hts (gd_C qq_7_122) rfl rfl rfl (hT _ qq_1_9) (hT _ qq_7_119) (by decide +kernel) (rm_R rfl rfl), (hT _ qq_7_121), (hT _ qs_5_13)⟩ (pq_V hPc hK hN (ci := 10) (q0 := 0) rfl rfl) rfl rfl hl.1 rfl (lv_room (Nat.le_of_ble_eq_true rfl)) dX12_mayAt_16 ⟨Nat.le_of_ble_eq_true rfl, Nat.le_of_ble_eq_true rfl⟩) (fun v9 hz_101 => ?_)
    obtain ⟨x_100, rfl, r_102⟩ := hz_101
    refine lv_if_ge (tgt := 25) hx hb dX12_mayAt_19 (by decide) (fun c_103 => ?_) (fun c_103 => ?_)
    · have r_104 : Rg 0 65535 x_100 := Rg.le_r c_103 (Rg.c (c := 0) (k := 0) rfl) r_102.1 (by decide)
      refine lv_iload_n hx hb dX12_mayAt_25 rfl (lv_at hl 1 rfl) ?_
      refine lv_iload_n hx hb dX12_mayAt_26 rfl (lv_at hl 4 rfl) ?_
      refine lv_icmp_ne (tgt := 33) hx hb dX12_mayAt_27 (by decide) (fun c_106 => ?_) (fun c_106 => ?_)
      · obtain ⟨x_107, e_108⟩ : ∃ z : Int32, z = v_11 + Int32.ofInt 1 := ⟨_, rfl⟩
        refine lv_iinc (v := x_107) (lv' := [(3, .int x_107), (4, .int v_10), (0, .ref m0), (1, .int a), (2, .int b)]) hx hb dX12_mayAt_33 hl (k := 1) rfl (e_108.symm) (by decide) rfl (fun ls hl => ?_)
        obtain ⟨x_109, e_110⟩ : ∃ z : Int32, z = v_10 + Int32.ofInt 1 := ⟨_, rfl⟩
        have r_111 : Rg 1 72 x_109 := Rg.add e_110 r_97 (Rg.c (c := Int32.ofInt 1) (k := 1) rfl) (by decide)
        refine lv_iinc (v := x_109) (lv' := [(4, .int x_109), (3, .int x_107), (0, .ref m0), (1, .int a), (2, .int b)]) hx hb dX12_mayAt_36 hl (k := 1) rfl (e_110.symm) (by decide) rfl (fun ls hl => ?_)
        refine lv_goto (tgt := 5) hx hb dX12_mayAt_39 (by decide) ?_
        exact ih_92 (x_109, x_107) _ _ _ ⟨(Rg.wk (lo2 := 0) (hi2 := 72) r_111 (by decide)), (by rw [(cN_add (k := 1) e_110 r_97 (Rg.c (c := Int32.ofInt 1) (k := 1) rfl) (by decide))]; exact ⟨by rw [cnt_y r_102.2.1 (i_C2 c_103), e_108, iv_94.1, nI_succ]; rfl, by rw [cnt_y r_102.2.1 (i_C2 c_103)]; exact ma_inc (x := 0) iv_94.1 (by have := cnt_le gsd (cN a) (cN v_10); have := cN_lt (n := 72) r_97 (by decide); omega) c_106 iv_94.2⟩), hHe, hlc, hP, lv_sub hl [0, 1, 2, 3, 4] rfl⟩ (ms_up e_110 r_97 (Rg.c (c := Int32.ofInt 1) (k := 1) rfl) (by decide))
      · refine lv_iload hx hb dX12_mayAt_30 (lv_at hl 0 rfl) ?_
        exact W.iret (v := v_10) hx hb hr (fun t9 ht9 hW9 => ⟨⟨_, rfl, _, rfl, (Or.inl ⟨cN v_10, cN_lt (n := 72) r_97 (by decide), cN_nI r_97 (by decide), by rw [← r_102.2.1]; exact i_C2 c_103, by rw [← iv_94.1]; exact c_106⟩)⟩, ht9.trans hHe⟩) (fun _ h9 => by rw [hlc] at h9; exact absurd h9 List.not_mem_nil) dX12_mayAt_32
    · have r_105 : Rg (-1) (-1) x_100 := Rg.lt_l (nle_lt c_103) r_102.1 (Rg.c (c := 0) (k := 0) rfl) (by decide)
      refine lv_goto (tgt := 36) hx hb dX12_mayAt_22 (by decide) ?_
      obtain ⟨x_112, e_113⟩ : ∃ z : Int32, z = v_10 + Int32.ofInt 1 := ⟨_, rfl⟩
      have r_114 : Rg 1 72 x_112 := Rg.add e_113 r_97 (Rg.c (c := Int32.ofInt 1) (k := 1) rfl) (by decide)
      refine lv_iinc (v := x_112) (lv' := [(4, .int x_112), (3, .int v_11), (0, .ref m0), (1, .int a), (2, .int b)]) hx hb dX12_mayAt_36 hl (k := 0) rfl (e_113.symm) (by decide) rfl (fun ls hl => ?_)
      refine lv_goto (tgt := 5) hx hb dX12_mayAt_39 (by decide) ?_
      exact ih_92 (x_112, v_11) _ _ _ ⟨(Rg.wk (lo2 := 0) (hi2 := 72) r_114 (by decide)), (by rw [(cN_add (k := 1) e_113 r_97 (Rg.c (c := Int32.ofInt 1) (k := 1) rfl) (by decide))]; exact (by rw [cnt_n r_102.2.1 (nle_lt c_103)]; exact iv_94)), hHe, hlc, hP, lv_sub hl [0, 1, 2, 3, 4] rfl⟩ (ms_up e_113 r_97 (Rg.c (c := Int32.ofInt 1) (k := 1) rfl) (by decide))
theorem dX12_mayMany_0 : decode cX12_mayMany 0 = .ok (.iconst (-1), 1) := by decide +kernel
theorem dX12_mayMany_1 : decode cX12_mayMany 1 = .ok (.aload_n 0, 1) := by decide +kernel
theorem dX12_mayMany_2 : decode cX12_mayMany 2 = .ok (.iload_n 1, 1) := by decide +kernel
theorem dX12_mayMany_3 : decode cX12_mayMany 3 = .ok (.bipush 72, 2) := by decide +kernel
theorem dX12_mayMany_5 : decode cX12_mayMany 5 = .ok (.invokevirtual 449, 3) := by decide +kernel
theorem qq_7_205 : Cond.code yX12_mayAt cX12_mayAt 5 (some .int) ∈ TB := mk_tb (ti_7 (List.mem_of_getElem? (i := 205) rfl)) rfl
theorem qq_7_202 : Cond.methodLink "WrongHoleModel" 449 yX12_mayAt ∈ TB := mk_tb (ti_7 (List.mem_of_getElem? (i := 202) rfl)) rfl
theorem qq_7_204 : Cond.instanceMethod yX12_mayAt ∈ TB := mk_tb (ti_7 (List.mem_of_getElem? (i := 204) rfl)) rfl
theorem qs_6_11 : Cond.selects "WrongHoleModel" yX12_mayAt yX12_mayAt ∈ TB := mk_tb (ti_s (q := (yX12_mayAt, 33)) (List.mem_append_right _ (List.mem_append_right _ (List.mem_append_right _ (List.mem_append_right _ (List.mem_append_right _ (List.mem_append_right _ (List.mem_append_left _ (List.mem_of_getElem? (i := 11) rfl))))))))) rfl
theorem dX12_mayMany_8 : decode cX12_mayMany 8 = .ok (.isub, 1) := by decide +kernel
theorem dX12_mayMany_9 : decode cX12_mayMany 9 = .ok (.ireturn, 1) := by decide +kernel
set_option maxHeartbeats 4000000 in
set_option maxRecDepth 100000 in
theorem c_M_mayMany (l : Launch) (D : va_G) (cs : Nat → ClassId) (m0 : Nat) (mtp : Nat) (sta : Int32) (sru : Int32) (msg : Nat) (mln : Nat) (mcl : Nat) (mcs : Nat) (mrd : Nat) (snx : Int32) (swr : Int32) (snu : Int32) (ste : Int32) (sma : Int32) (sde : Int32) (sli : Int32) (mop : Nat) (sod : Int32) (mst : Nat) (sto : Int32) (mwd : Nat) (msd : Nat) (sx_ : Int32) (mws : Nat) (sun : Int32) (mfr : Nat) (mqu : Nat) (miw : Nat) (sfi : Int32) (swa : Int32) (sdx : Int64) (mim : Nat) (mix : Nat) (mmd : Nat) (gsd : Nat → Int32) (a : Int32) (hsi : SI gsd) (hbk : BK a) : Met l yX12_mayMany (Cond.code yX12_mayMany cX12_mayMany 2 (some .int) :: TB) (RM 7 0 0) (va_Pc [.ref m0, .int a] (PRR D cs [(m0, .inr (10, (.ref mtp :: .int sta :: .int sru :: .ref msg :: .ref mln :: .ref mcl :: .ref mcs :: .ref mrd :: .int snx :: .int swr :: .int snu :: .int ste :: .int sma :: .int sde :: .int sli :: .ref mop :: .int sod :: .ref mst :: .int sto :: .ref mwd :: .ref msd :: .int sx_ :: .ref mws :: .int sun :: .ref mfr :: .ref mqu :: .ref miw :: .int sfi :: .int swa :: .long sdx :: .ref mim :: .ref mix :: .ref mmd :: []))), (msd, .inl ((cs 0), 133, .inl gsd))])) (k2_QcV (.int (nI (cntF gsd (cN a) 72)))) 0 0 (fun _ => False) := by
  refine MER (y := yX12_mayMany) (cc := cX12_mayMany) (maxL := 2) (ret := (some .int)) (d := 7) (D := D) (cs := cs) (ws := [(m0, .inr (10, (.ref mtp :: .int sta :: .int sru :: .ref msg :: .ref mln :: .ref mcl :: .ref mcs :: .ref mrd :: .int snx :: .int swr :: .int snu :: .int ste :: .int sma :: .int sde :: .int sli :: .ref mop :: .int sod :: .ref mst :: .int sto :: .ref mwd :: .ref msd :: .int sx_ :: .ref mws :: .int sun :: .ref mfr :: .ref mqu :: .ref miw :: .int sfi :: .int swa :: .long sdx :: .ref mim :: .ref mix :: .ref mmd :: []))), (msd, .inl ((cs 0), 133, .inl gsd))]) (av := [.ref m0, .int a]) (Qc := k2_QcV (.int (nI (cntF gsd (cN a) 72)))) (by decide) (Nat.le_of_ble_eq_true rfl) ?_
  intro p e s m below meth c ls H hHe hx hb hr hml hown hts hlocks hP hK hN hl
  obtain ⟨locs, hlc⟩ : ∃ z : List Loc, z = [] := ⟨_, rfl⟩
  rw [← hlc]
  have hown : s.vm.findClass "WrongHoleModel" = some m.cls := hown
  have hT : ∀ w ∈ TB, w.before ([.ref m0, .int a] : List Value).toArray s = true := fun w h => hts w (List.mem_cons_of_mem _ h)
  have hl : lv_has ls 2 [(0, .ref m0), (1, .int a)] := hl
  have hP : va_P D vwCl [(m0, .inr (10, (.ref mtp :: .int sta :: .int sru :: .ref msg :: .ref mln :: .ref mcl :: .ref mcs :: .ref mrd :: .int snx :: .int swr :: .int snu :: .int ste :: .int sma :: .int sde :: .int sli :: .ref mop :: .int sod :: .ref mst :: .int sto :: .ref mwd :: .ref msd :: .int sx_ :: .ref mws :: .int sun :: .ref mfr :: .ref mqu :: .ref miw :: .int sfi :: .int swa :: .long sdx :: .ref mim :: .ref mix :: .ref mmd :: []))), (msd, .inl ((cs 0), 133, .inl gsd))] H := hP
  refine lv_iconst (v := (-1)) hx hb dX12_mayMany_0 (by decide) ?_
  refine lv_aload_n hx hb dX12_mayMany_1 rfl (lv_at hl 0 rfl) ?_
  refine lv_iload_n hx hb dX12_mayMany_2 rfl (lv_at hl 1 rfl) ?_
  refine lv_bipush (v := 72) hx hb dX12_mayMany_3 (by decide) ?_
  have hPc := va_P.sub (ws' := [(m0, .inr (10, (.ref mtp :: .int sta :: .int sru :: .ref msg :: .ref mln :: .ref mcl :: .ref mcs :: .ref mrd :: .int snx :: .int swr :: .int snu :: .int ste :: .int sma :: .int sde :: .int sli :: .ref mop :: .int sod :: .ref mst :: .int sto :: .ref mwd :: .ref msd :: .int sx_ :: .ref mws :: .int sun :: .ref mfr :: .ref mqu :: .ref miw :: .int sfi :: .int swa :: .long sdx :: .ref mim :: .ref mix :: .ref mmd :: []))), (msd, .inl ((cs 0), 133, .inl gsd))]) hP [0, 1] rfl
  refine cl_P (W.runV (As := [.int a, .int 72]) (rest := [.int (-1)]) ⟨hx, hb, hml, hown, hts⟩ (c_M_mayAt l D cs m0 mtp sta sru msg mln mcl mcs mrd snx swr snu ste sma sde sli mop sod mst sto mwd msd sx_ mws sun mfr mqu miw sfi swa sdx mim mix mmd gsd a 72 hsi hbk) ⟨callB_of 2 hts (gd_C qq_7_205) rfl rfl rfl (hT _ qq_1_9) (hT _ qq_7_202) (by decide +kernel) (rm_R rfl rfl), (hT _ qq_7_204), (hT _ qs_6_11)⟩ (pq_V hPc hK hN (ci := 10) (q0 := 0) rfl rfl) rfl rfl hl.1 rfl (lv_room (Nat.le_of_ble_eq_true rfl)) dX12_mayMany_5 ⟨Nat.le_of_ble_eq_true rfl, Nat.le_of_ble_eq_true rfl⟩) (fun v9 hz_2 => ?_)
  obtain ⟨x_1, rfl, r_3⟩ := hz_2
  refine lv_isub hx hb dX12_mayMany_8 ?_
  refine lv_topi (fun x_4 e_5 => ?_)
  have r_6 : Rg (-72) 72 x_4 := Rg.sub e_5 (Rg.c (c := (-1)) (k := (-1)) rfl) (mat_rg r_3) (by decide)
  exact W.iret (v := x_4) hx hb hr (fun t9 ht9 hW9 => ⟨by rw [show (.int (nI (cntF gsd (cN a) 72)) : Value) = .int x_4 from (congrArg Value.int (many_x r_3 e_5).symm)], ht9.trans hHe⟩) (fun _ h9 => by rw [hlc] at h9; exact absurd h9 List.not_mem_nil) dX12_mayMany_9
theorem dX12_may_0 : decode cX12_may 0 = .ok (.aload_n 0, 1) := by decide +kernel
theorem dX12_may_1 : decode cX12_may 1 = .ok (.invokevirtual 397, 3) := by decide +kernel
theorem dX12_may_4 : decode cX12_may 4 = .ok (.ifCond .eq 14, 3) := by decide +kernel
theorem dX12_may_18 : decode cX12_may 18 = .ok (.iconst (-1), 1) := by decide +kernel
theorem dX12_may_19 : decode cX12_may 19 = .ok (.ireturn, 1) := by decide +kernel
theorem dX12_may_7 : decode cX12_may 7 = .ok (.aload_n 0, 1) := by decide +kernel
theorem dX12_may_8 : decode cX12_may 8 = .ok (.aload_n 0, 1) := by decide +kernel
theorem dX12_may_9 : decode cX12_may 9 = .ok (.invokevirtual 402, 3) := by decide +kernel
theorem dX12_may_12 : decode cX12_may 12 = .ok (.invokevirtual 452, 3) := by decide +kernel
theorem qq_7_201 : Cond.code yX12_mayMany cX12_mayMany 2 (some .int) ∈ TB := mk_tb (ti_7 (List.mem_of_getElem? (i := 201) rfl)) rfl
theorem qq_7_198 : Cond.methodLink "WrongHoleModel" 452 yX12_mayMany ∈ TB := mk_tb (ti_7 (List.mem_of_getElem? (i := 198) rfl)) rfl
theorem qq_7_200 : Cond.instanceMethod yX12_mayMany ∈ TB := mk_tb (ti_7 (List.mem_of_getElem? (i := 200) rfl)) rfl
theorem qs_6_10 : Cond.selects "WrongHoleModel" yX12_mayMany yX12_mayMany ∈ TB := mk_tb (ti_s (q := (yX12_mayMany, 33)) (List.mem_append_right _ (List.mem_append_right _ (List.mem_append_right _ (List.mem_append_right _ (List.mem_append_right _ (List.mem_append_right _ (List.mem_append_left _ (List.mem_of_getElem? (i := 10) rfl))))))))) rfl
theorem dX12_may_15 : decode cX12_may 15 = .ok (.goto 4, 3) := by decide +kernel
set_option maxHeartbeats 4000000 in
set_option maxRecDepth 100000 in
theorem c_M_may (l : Launch) (D : va_G) (cs : Nat → ClassId) (m0 : Nat) (mtp : Nat) (sta : Int32) (sru : Int32) (msg : Nat) (mln : Nat) (mcl : Nat) (mcs : Nat) (mrd : Nat) (snx : Int32) (swr : Int32) (snu : Int32) (ste : Int32) (sma : Int32) (sde : Int32) (sli : Int32) (mop : Nat) (sod : Int32) (mst : Nat) (sto : Int32) (mwd : Nat) (msd : Nat) (sx_ : Int32) (mws : Nat) (sun : Int32) (mfr : Nat) (mqu : Nat) (miw : Nat) (sfi : Int32) (swa : Int32) (sdx : Int64) (mim : Nat) (mix : Nat) (mmd : Nat) (gsd : Nat → Int32) (hsi : SI gsd) : Met l yX12_may (Cond.code yX12_may cX12_may 1 (some .int) :: TB) (RM 8 0 0) (va_Pc [.ref m0] (PRR D cs [(m0, .inr (10, (.ref mtp :: .int sta :: .int sru :: .ref msg :: .ref mln :: .ref mcl :: .ref mcs :: .ref mrd :: .int snx :: .int swr :: .int snu :: .int ste :: .int sma :: .int sde :: .int sli :: .ref mop :: .int sod :: .ref mst :: .int sto :: .ref mwd :: .ref msd :: .int sx_ :: .ref mws :: .int sun :: .ref mfr :: .ref mqu :: .ref miw :: .int sfi :: .int swa :: .long sdx :: .ref mim :: .ref mix :: .ref mmd :: []))), (msd, .inl ((cs 0), 133, .inl gsd))])) (QP (fun v => ∃ x : Int32, v = .int x)) 0 0 (fun _ => False) := by
  refine MER (y := yX12_may) (cc := cX12_may) (maxL := 1) (ret := (some .int)) (d := 8) (D := D) (cs := cs) (ws := [(m0, .inr (10, (.ref mtp :: .int sta :: .int sru :: .ref msg :: .ref mln :: .ref mcl :: .ref mcs :: .ref mrd :: .int snx :: .int swr :: .int snu :: .int ste :: .int sma :: .int sde :: .int sli :: .ref mop :: .int sod :: .ref mst :: .int sto :: .ref mwd :: .ref msd :: .int sx_ :: .ref mws :: .int sun :: .ref mfr :: .ref mqu :: .ref miw :: .int sfi :: .int swa :: .long sdx :: .ref mim :: .ref mix :: .ref mmd :: []))), (msd, .inl ((cs 0), 133, .inl gsd))]) (av := [.ref m0]) (Qc := QP (fun v => ∃ x : Int32, v = .int x)) (by decide) (Nat.le_of_ble_eq_true rfl) ?_
  intro p e s m below meth c ls H hHe hx hb hr hml hown hts hlocks hP hK hN hl
  obtain ⟨locs, hlc⟩ : ∃ z : List Loc, z = [] := ⟨_, rfl⟩
  rw [← hlc]
  have hown : s.vm.findClass "WrongHoleModel" = some m.cls := hown
  have hT : ∀ w ∈ TB, w.before ([.ref m0] : List Value).toArray s = true := fun w h => hts w (List.mem_cons_of_mem _ h)
  have hl : lv_has ls 1 [(0, .ref m0)] := hl
  have hP : va_P D vwCl [(m0, .inr (10, (.ref mtp :: .int sta :: .int sru :: .ref msg :: .ref mln :: .ref mcl :: .ref mcs :: .ref mrd :: .int snx :: .int swr :: .int snu :: .int ste :: .int sma :: .int sde :: .int sli :: .ref mop :: .int sod :: .ref mst :: .int sto :: .ref mwd :: .ref msd :: .int sx_ :: .ref mws :: .int sun :: .ref mfr :: .ref mqu :: .ref miw :: .int sfi :: .int swa :: .long sdx :: .ref mim :: .ref mix :: .ref mmd :: []))), (msd, .inl ((cs 0), 133, .inl gsd))] H := hP
  refine lv_aload_n hx hb dX12_may_0 rfl (lv_at hl 0 rfl) ?_
  have hPc := va_P.sub (ws' := [(m0, .inr (10, (.ref mtp :: .int sta :: .int sru :: .ref msg :: .ref mln :: .ref mcl :: .ref mcs :: .ref mrd :: .int snx :: .int swr :: .int snu :: .int ste :: .int sma :: .int sde :: .int sli :: .ref mop :: .int sod :: .ref mst :: .int sto :: .ref mwd :: .ref msd :: .int sx_ :: .ref mws :: .int sun :: .ref mfr :: .ref mqu :: .ref miw :: .int sfi :: .int swa :: .long sdx :: .ref mim :: .ref mix :: .ref mmd :: []))), (msd, .inl ((cs 0), 133, .inl gsd))]) hP [0, 1] rfl
  refine cl_P (W.runV (As := []) (rest := []) ⟨hx, hb, hml, hown, hts⟩ (c_M_isLift l D cs m0 mtp sta sru msg mln mcl mcs mrd snx swr snu ste sma sde sli mop sod mst sto mwd msd sx_ mws sun mfr mqu miw sfi swa sdx mim mix mmd gsd hsi) ⟨callB_of 0 hts (gd_C qq_7_46) rfl rfl rfl (hT _ qq_1_9) (hT _ qq_7_43) (by decide +kernel) (rm_R rfl rfl), (hT _ qq_7_45), (hT _ qs_5_2)⟩ (pq_V hPc hK hN (ci := 10) (q0 := 0) rfl rfl) rfl rfl hl.1 rfl (lv_room (Nat.le_of_ble_eq_true rfl)) dX12_may_1 ⟨Nat.le_of_ble_eq_true rfl, Nat.le_of_ble_eq_true rfl⟩) (fun v9 hz_2 => ?_)
  obtain ⟨x_1, rfl, r_3⟩ := hz_2
  refine lv_if_eq (tgt := 18) hx hb dX12_may_4 (by decide) (fun c_4 => ?_) (fun c_4 => ?_)
  · have r_5 : Rg 0 0 x_1 := Rg.eq_l c_4 r_3.1 (Rg.c (c := 0) (k := 0) rfl) (by decide)
    refine lv_iconst (v := (-1)) hx hb dX12_may_18 (by decide) ?_
    exact W.iret (v := (-1)) hx hb hr (fun t9 ht9 hW9 => ⟨⟨_, rfl, _, rfl⟩, ht9.trans hHe⟩) (fun _ h9 => by rw [hlc] at h9; exact absurd h9 List.not_mem_nil) dX12_may_19
  · have r_6 : Rg 1 1 x_1 := Rg.ne c_4 r_3.1 (Rg.c (c := 0) (k := 0) rfl) (by decide)
    refine lv_aload_n hx hb dX12_may_7 rfl (lv_at hl 0 rfl) ?_
    refine lv_aload_n hx hb dX12_may_8 rfl (lv_at hl 0 rfl) ?_
    have hPc := va_P.sub (ws' := [(m0, .inr (10, (.ref mtp :: .int sta :: .int sru :: .ref msg :: .ref mln :: .ref mcl :: .ref mcs :: .ref mrd :: .int snx :: .int swr :: .int snu :: .int ste :: .int sma :: .int sde :: .int sli :: .ref mop :: .int sod :: .ref mst :: .int sto :: .ref mwd :: .ref msd :: .int sx_ :: .ref mws :: .int sun :: .ref mfr :: .ref mqu :: .ref miw :: .int sfi :: .int swa :: .long sdx :: .ref mim :: .ref mix :: .ref mmd :: []))), (msd, .inl ((cs 0), 133, .inl gsd))]) hP [0, 1] rfl
    refine cl_P (W.runV (As := []) (rest := [.ref m0]) ⟨hx, hb, hml, hown, hts⟩ (c_M_situationNow l D cs m0 mtp sta sru msg mln mcl mcs mrd snx swr snu ste sma sde sli mop sod mst sto mwd msd sx_ mws sun mfr mqu miw sfi swa sdx mim mix mmd gsd hsi) ⟨callB_of 0 hts (gd_C qq_7_51) rfl rfl rfl (hT _ qq_1_9) (hT _ qq_7_48) (by decide +kernel) (rm_R rfl rfl), (hT _ qq_7_50), (hT _ qs_5_3)⟩ (pq_V hPc hK hN (ci := 10) (q0 := 0) rfl rfl) rfl rfl hl.1 rfl (lv_room (Nat.le_of_ble_eq_true rfl)) dX12_may_9 ⟨Nat.le_of_ble_eq_true rfl, Nat.le_of_ble_eq_true rfl⟩) (fun v9 hz_14 => ?_)
    obtain ⟨x_13, rfl, r_15⟩ := hz_14
    have hPc := va_P.sub (ws' := [(m0, .inr (10, (.ref mtp :: .int sta :: .int sru :: .ref msg :: .ref mln :: .ref mcl :: .ref mcs :: .ref mrd :: .int snx :: .int swr :: .int snu :: .int ste :: .int sma :: .int sde :: .int sli :: .ref mop :: .int sod :: .ref mst :: .int sto :: .ref mwd :: .ref msd :: .int sx_ :: .ref mws :: .int sun :: .ref mfr :: .ref mqu :: .ref miw :: .int sfi :: .int swa :: .long sdx :: .ref mim :: .ref mix :: .ref mmd :: []))), (msd, .inl ((cs 0), 133, .inl gsd))]) hP [0, 1] rfl
    refine cl_V (W.runV (As := [.int x_13]) (rest := []) ⟨hx, hb, hml, hown, hts⟩ (c_M_mayMany l D cs m0 mtp sta sru msg mln mcl mcs mrd snx swr snu ste sma sde sli mop sod mst sto mwd msd sx_ mws sun mfr mqu miw sfi swa sdx mim mix mmd gsd x_13 hsi (r_15.1)) ⟨callB_of 1 hts (gd_C qq_7_201) rfl rfl rfl (hT _ qq_1_9) (hT _ qq_7_198) (by decide +kernel) (rm_R rfl rfl), (hT _ qq_7_200), (hT _ qs_6_10)⟩ (pq_V hPc hK hN (ci := 10) (q0 := 0) rfl rfl) rfl rfl hl.1 rfl (lv_room (Nat.le_of_ble_eq_true rfl)) dX12_may_12 ⟨Nat.le_of_ble_eq_true rfl, Nat.le_of_ble_eq_true rfl⟩) ?_
    refine lv_topi (fun x_16 e_17 => ?_)
    have r_18 : Rg 0 72 x_16 := Rg.of e_17 ((nI_r (lo := 0) (hi := 72) (by have := cnt_le gsd (cN x_13) 72; omega) (by have := cnt_le gsd (cN x_13) 72; omega)))
    refine lv_goto (tgt := 19) hx hb dX12_may_15 (by decide) ?_
    exact W.iret (v := x_16) hx hb hr (fun t9 ht9 hW9 => ⟨⟨_, rfl, _, rfl⟩, ht9.trans hHe⟩) (fun _ h9 => by rw [hlc] at h9; exact absurd h9 List.not_mem_nil) dX12_may_19
theorem dX12_partOf_0 : decode cX12_partOf 0 = .ok (.iload_n 3, 1) := by decide +kernel
theorem dX12_partOf_1 : decode cX12_partOf 1 = .ok (.ifCond .ne 15, 3) := by decide +kernel
theorem dX12_partOf_16 : decode cX12_partOf 16 = .ok (.iload_n 3, 1) := by decide +kernel
theorem dX12_partOf_17 : decode cX12_partOf 17 = .ok (.iconst 1, 1) := by decide +kernel
theorem dX12_partOf_18 : decode cX12_partOf 18 = .ok (.if_icmp .ne 20, 3) := by decide +kernel
theorem dX12_partOf_38 : decode cX12_partOf 38 = .ok (.iload_n 2, 1) := by decide +kernel
theorem dX12_partOf_39 : decode cX12_partOf 39 = .ok (.bipush 8, 2) := by decide +kernel
theorem dX12_partOf_41 : decode cX12_partOf 41 = .ok (.if_icmp .ge 11, 3) := by decide +kernel
theorem dX12_partOf_52 : decode cX12_partOf 52 = .ok (.iload_n 2, 1) := by decide +kernel
theorem dX12_partOf_53 : decode cX12_partOf 53 = .ok (.bipush 8, 2) := by decide +kernel
theorem dX12_partOf_55 : decode cX12_partOf 55 = .ok (.irem, 1) := by decide +kernel
theorem dX12_partOf_56 : decode cX12_partOf 56 = .ok (.ireturn, 1) := by decide +kernel
theorem dX12_partOf_44 : decode cX12_partOf 44 = .ok (.iload_n 1, 1) := by decide +kernel
theorem dX12_partOf_45 : decode cX12_partOf 45 = .ok (.iload_n 2, 1) := by decide +kernel
theorem dX12_partOf_46 : decode cX12_partOf 46 = .ok (.invokestatic 347, 3) := by decide +kernel
theorem dX12_partOf_49 : decode cX12_partOf 49 = .ok (.goto 7, 3) := by decide +kernel
theorem dX12_partOf_21 : decode cX12_partOf 21 = .ok (.iload_n 2, 1) := by decide +kernel
theorem dX12_partOf_22 : decode cX12_partOf 22 = .ok (.bipush 8, 2) := by decide +kernel
theorem dX12_partOf_24 : decode cX12_partOf 24 = .ok (.if_icmp .ge 7, 3) := by decide +kernel
theorem dX12_partOf_31 : decode cX12_partOf 31 = .ok (.iload_n 2, 1) := by decide +kernel
theorem dX12_partOf_32 : decode cX12_partOf 32 = .ok (.bipush 8, 2) := by decide +kernel
theorem dX12_partOf_34 : decode cX12_partOf 34 = .ok (.idiv, 1) := by decide +kernel
theorem dX12_partOf_35 : decode cX12_partOf 35 = .ok (.iconst 1, 1) := by decide +kernel
theorem dX12_partOf_36 : decode cX12_partOf 36 = .ok (.isub, 1) := by decide +kernel
theorem dX12_partOf_37 : decode cX12_partOf 37 = .ok (.ireturn, 1) := by decide +kernel
theorem dX12_partOf_27 : decode cX12_partOf 27 = .ok (.iload_n 2, 1) := by decide +kernel
theorem dX12_partOf_28 : decode cX12_partOf 28 = .ok (.goto 9, 3) := by decide +kernel
theorem dX12_partOf_4 : decode cX12_partOf 4 = .ok (.iload_n 2, 1) := by decide +kernel
theorem dX12_partOf_5 : decode cX12_partOf 5 = .ok (.bipush 8, 2) := by decide +kernel
theorem dX12_partOf_7 : decode cX12_partOf 7 = .ok (.if_icmp .ge 7, 3) := by decide +kernel
theorem dX12_partOf_14 : decode cX12_partOf 14 = .ok (.iconst 1, 1) := by decide +kernel
theorem dX12_partOf_15 : decode cX12_partOf 15 = .ok (.ireturn, 1) := by decide +kernel
theorem dX12_partOf_10 : decode cX12_partOf 10 = .ok (.iconst 0, 1) := by decide +kernel
theorem dX12_partOf_11 : decode cX12_partOf 11 = .ok (.goto 4, 3) := by decide +kernel
set_option maxHeartbeats 4000000 in
set_option maxRecDepth 100000 in
theorem c_M_partOf (l : Launch) (D : va_G) (cs : Nat → ClassId) (m0 : Nat) (mtp : Nat) (sta : Int32) (sru : Int32) (msg : Nat) (mln : Nat) (mcl : Nat) (mcs : Nat) (mrd : Nat) (snx : Int32) (swr : Int32) (snu : Int32) (ste : Int32) (sma : Int32) (sde : Int32) (sli : Int32) (mop : Nat) (sod : Int32) (mst : Nat) (sto : Int32) (mwd : Nat) (msd : Nat) (sx_ : Int32) (mws : Nat) (sun : Int32) (mfr : Nat) (mqu : Nat) (miw : Nat) (sfi : Int32) (swa : Int32) (sdx : Int64) (mim : Nat) (mix : Nat) (mmd : Nat) (a : Int32) (b : Int32) (h : Int32) (r_b : Rg 0 71 b) (hbk : BK a) (hun : cN b < 8 → bt (cN a % 256) (cN b) = 1) : Met l yX12_partOf (Cond.code yX12_partOf cX12_partOf 4 (some .int) :: TB) (RM 3 0 0) (va_Pc [.ref m0, .int a, .int b, .int h] (PRR D cs [(m0, .inr (10, (.ref mtp :: .int sta :: .int sru :: .ref msg :: .ref mln :: .ref mcl :: .ref mcs :: .ref mrd :: .int snx :: .int swr :: .int snu :: .int ste :: .int sma :: .int sde :: .int sli :: .ref mop :: .int sod :: .ref mst :: .int sto :: .ref mwd :: .ref msd :: .int sx_ :: .ref mws :: .int sun :: .ref mfr :: .ref mqu :: .ref miw :: .int sfi :: .int swa :: .long sdx :: .ref mim :: .ref mix :: .ref mmd :: [])))])) (QP (fun v => ∃ x : Int32, v = .int x)) 0 0 (fun _ => False) := by
  refine MER (y := yX12_partOf) (cc := cX12_partOf) (maxL := 4) (ret := (some .int)) (d := 3) (D := D) (cs := cs) (ws := [(m0, .inr (10, (.ref mtp :: .int sta :: .int sru :: .ref msg :: .ref mln :: .ref mcl :: .ref mcs :: .ref mrd :: .int snx :: .int swr :: .int snu :: .int ste :: .int sma :: .int sde :: .int sli :: .ref mop :: .int sod :: .ref mst :: .int sto :: .ref mwd :: .ref msd :: .int sx_ :: .ref mws :: .int sun :: .ref mfr :: .ref mqu :: .ref miw :: .int sfi :: .int swa :: .long sdx :: .ref mim :: .ref mix :: .ref mmd :: [])))]) (av := [.ref m0, .int a, .int b, .int h]) (Qc := QP (fun v => ∃ x : Int32, v = .int x)) (by decide) (Nat.le_of_ble_eq_true rfl) ?_
  intro p e s m below meth c ls H hHe hx hb hr hml hown hts hlocks hP hK hN hl
  obtain ⟨locs, hlc⟩ : ∃ z : List Loc, z = [] := ⟨_, rfl⟩
  rw [← hlc]
  have hown : s.vm.findClass "WrongHoleModel" = some m.cls := hown
  have hT : ∀ w ∈ TB, w.before ([.ref m0, .int a, .int b, .int h] : List Value).toArray s = true := fun w h => hts w (List.mem_cons_of_mem _ h)
  have hl : lv_has ls 4 [(0, .ref m0), (1, .int a), (2, .int b), (3, .int h)] := hl
  have hP : va_P D vwCl [(m0, .inr (10, (.ref mtp :: .int sta :: .int sru :: .ref msg :: .ref mln :: .ref mcl :: .ref mcs :: .ref mrd :: .int snx :: .int swr :: .int snu :: .int ste :: .int sma :: .int sde :: .int sli :: .ref mop :: .int sod :: .ref mst :: .int sto :: .ref mwd :: .ref msd :: .int sx_ :: .ref mws :: .int sun :: .ref mfr :: .ref mqu :: .ref miw :: .int sfi :: .int swa :: .long sdx :: .ref mim :: .ref mix :: .ref mmd :: [])))] H := hP
  refine lv_iload_n hx hb dX12_partOf_0 rfl (lv_at hl 3 rfl) ?_
  refine lv_if_ne (tgt := 16) hx hb dX12_partOf_1 (by decide) (fun c_1 => ?_) (fun c_1 => ?_)
  · refine lv_iload_n hx hb dX12_partOf_16 rfl (lv_at hl 3 rfl) ?_
    refine lv_iconst (v := 1) hx hb dX12_partOf_17 (by decide) ?_
    refine lv_icmp_ne (tgt := 38) hx hb dX12_partOf_18 (by decide) (fun c_3 => ?_) (fun c_3 => ?_)
    · refine lv_iload_n hx hb dX12_partOf_38 rfl (lv_at hl 2 rfl) ?_
      refine lv_bipush (v := 8) hx hb dX12_partOf_39 (by decide) ?_
      refine lv_icmp_ge (tgt := 52) hx hb dX12_partOf_41 (by decide) (fun c_5 => ?_) (fun c_5 => ?_)
      · have r_6 : Rg 8 71 b := Rg.le_r c_5 (Rg.c (c := 8) (k := 8) rfl) r_b (by decide)
        refine lv_iload_n hx hb dX12_partOf_52 rfl (lv_at hl 2 rfl) ?_
        refine lv_bipush (v := 8) hx hb dX12_partOf_53 (by decide) ?_
        refine lv_irem hx hb dX12_partOf_55 (by decide) ?_
        refine lv_topi (fun x_14 e_15 => ?_)
        have r_16 : Rg 0 7 x_14 := Rg.rem e_15 (Rg.wk (lo2 := 0) (hi2 := 71) r_6 (by decide)) (Rg.c (c := 8) (k := 8) rfl) (by decide)
        exact W.iret (v := x_14) hx hb hr (fun t9 ht9 hW9 => ⟨⟨_, rfl, _, rfl⟩, ht9.trans hHe⟩) (fun _ h9 => by rw [hlc] at h9; exact absurd h9 List.not_mem_nil) dX12_partOf_56
      · have r_7 : Rg 0 7 b := Rg.lt_l (nle_lt c_5) r_b (Rg.c (c := 8) (k := 8) rfl) (by decide)
        refine lv_iload_n hx hb dX12_partOf_44 rfl (lv_at hl 1 rfl) ?_
        refine lv_iload_n hx hb dX12_partOf_45 rfl (lv_at hl 2 rfl) ?_
        have hPc := va_P.sub (ws' := []) hP [] rfl
        refine cl_V (W.runS (As := [.int a, .int b]) (rest := []) ⟨hx, hb, hml, hown, hts⟩ (c_M_placeIn l D cs a b r_7 hbk (hun (cN_lt (n := 8) r_7 (by decide)))) ⟨callB_of 2 hts (gd_C qq_7_75) rfl rfl rfl (hT _ qq_1_9) (hT _ qq_7_73) (by decide +kernel) (rm_R rfl rfl), (hT _ qq_7_74)⟩ (pq_S hPc hK hN) rfl rfl hl.1 rfl (lv_room (Nat.le_of_ble_eq_true rfl)) dX12_partOf_46 ⟨Nat.le_of_ble_eq_true rfl, Nat.le_of_ble_eq_true rfl⟩) ?_
        refine lv_topi (fun x_17 e_18 => ?_)
        have r_19 : Rg 0 7 x_17 := Rg.of e_18 (pl_rg hbk r_7 (hun (cN_lt (n := 8) r_7 (by decide))))
        refine lv_goto (tgt := 56) hx hb dX12_partOf_49 (by decide) ?_
        exact W.iret (v := x_17) hx hb hr (fun t9 ht9 hW9 => ⟨⟨_, rfl, _, rfl⟩, ht9.trans hHe⟩) (fun _ h9 => by rw [hlc] at h9; exact absurd h9 List.not_mem_nil) dX12_partOf_56
    · have r_4 : Rg 1 1 h := Rg.eq_l c_3 (Rg.top h) (Rg.c (c := 1) (k := 1) rfl) (by decide)
      refine lv_iload_n hx hb dX12_partOf_21 rfl (lv_at hl 2 rfl) ?_
      refine lv_bipush (v := 8) hx hb dX12_partOf_22 (by decide) ?_
      refine lv_icmp_ge (tgt := 31) hx hb dX12_partOf_24 (by decide) (fun c_20 => ?_) (fun c_20 => ?_)
      · have r_21 : Rg 8 71 b := Rg.le_r c_20 (Rg.c (c := 8) (k := 8) rfl) r_b (by decide)
        refine lv_iload_n hx hb dX12_partOf_31 rfl (lv_at hl 2 rfl) ?_
        refine lv_bipush (v := 8) hx hb dX12_partOf_32 (by decide) ?_
        refine lv_idiv hx hb dX12_partOf_34 (by decide) ?_
        refine lv_topi (fun x_29 e_30 => ?_)
        have r_31 : Rg 1 8 x_29 := Rg.divL (al := 8) (ah := 71) (k := 8) e_30 r_21 (Rg.c (c := 8) (k := 8) rfl) (by decide) (by decide) (by decide)
        refine lv_iconst (v := 1) hx hb dX12_partOf_35 (by decide) ?_
        refine lv_isub hx hb dX12_partOf_36 ?_
        refine lv_topi (fun x_32 e_33 => ?_)
        have r_34 : Rg 0 7 x_32 := Rg.sub e_33 r_31 (Rg.c (c := 1) (k := 1) rfl) (by decide)
        exact W.iret (v := x_32) hx hb hr (fun t9 ht9 hW9 => ⟨⟨_, rfl, _, rfl⟩, ht9.trans hHe⟩) (fun _ h9 => by rw [hlc] at h9; exact absurd h9 List.not_mem_nil) dX12_partOf_37
      · have r_22 : Rg 0 7 b := Rg.lt_l (nle_lt c_20) r_b (Rg.c (c := 8) (k := 8) rfl) (by decide)
        refine lv_iload_n hx hb dX12_partOf_27 rfl (lv_at hl 2 rfl) ?_
        refine lv_goto (tgt := 37) hx hb dX12_partOf_28 (by decide) ?_
        exact W.iret (v := b) hx hb hr (fun t9 ht9 hW9 => ⟨⟨_, rfl, _, rfl⟩, ht9.trans hHe⟩) (fun _ h9 => by rw [hlc] at h9; exact absurd h9 List.not_mem_nil) dX12_partOf_37
  · have r_2 : Rg 0 0 h := Rg.eq_l c_1 (Rg.top h) (Rg.c (c := 0) (k := 0) rfl) (by decide)
    refine lv_iload_n hx hb dX12_partOf_4 rfl (lv_at hl 2 rfl) ?_
    refine lv_bipush (v := 8) hx hb dX12_partOf_5 (by decide) ?_
    refine lv_icmp_ge (tgt := 14) hx hb dX12_partOf_7 (by decide) (fun c_35 => ?_) (fun c_35 => ?_)
    · have r_36 : Rg 8 71 b := Rg.le_r c_35 (Rg.c (c := 8) (k := 8) rfl) r_b (by decide)
      refine lv_iconst (v := 1) hx hb dX12_partOf_14 (by decide) ?_
      exact W.iret (v := 1) hx hb hr (fun t9 ht9 hW9 => ⟨⟨_, rfl, _, rfl⟩, ht9.trans hHe⟩) (fun _ h9 => by rw [hlc] at h9; exact absurd h9 List.not_mem_nil) dX12_partOf_15
    · have r_37 : Rg 0 7 b := Rg.lt_l (nle_lt c_35) r_b (Rg.c (c := 8) (k := 8) rfl) (by decide)
      refine lv_iconst (v := 0) hx hb dX12_partOf_10 (by decide) ?_
      refine lv_goto (tgt := 15) hx hb dX12_partOf_11 (by decide) ?_
      exact W.iret (v := 0) hx hb hr (fun t9 ht9 hW9 => ⟨⟨_, rfl, _, rfl⟩, ht9.trans hHe⟩) (fun _ h9 => by rw [hlc] at h9; exact absurd h9 List.not_mem_nil) dX12_partOf_15
theorem dX12_act_0 : decode cX12_act 0 = .ok (.aload_n 0, 1) := by decide +kernel
theorem dX12_act_1 : decode cX12_act 1 = .ok (.invokevirtual 397, 3) := by decide +kernel
theorem dX12_act_4 : decode cX12_act 4 = .ok (.ifCond .eq 19, 3) := by decide +kernel
theorem dX12_act_23 : decode cX12_act 23 = .ok (.iconst (-1), 1) := by decide +kernel
theorem dX12_act_24 : decode cX12_act 24 = .ok (.ireturn, 1) := by decide +kernel
theorem dX12_act_7 : decode cX12_act 7 = .ok (.iload_n 1, 1) := by decide +kernel
theorem dX12_act_8 : decode cX12_act 8 = .ok (.ifCond .lt 15, 3) := by decide +kernel
theorem dX12_act_11 : decode cX12_act 11 = .ok (.iload_n 2, 1) := by decide +kernel
theorem dX12_act_12 : decode cX12_act 12 = .ok (.i2l, 1) := by decide +kernel
theorem dX12_act_13 : decode cX12_act 13 = .ok (.lconst 0, 1) := by decide +kernel
theorem dX12_act_14 : decode cX12_act 14 = .ok (.ldc2_w 395, 3) := by decide +kernel
theorem dX12_act_17 : decode cX12_act 17 = .ok (.invokestatic 104, 3) := by decide +kernel
theorem dX12_act_20 : decode cX12_act 20 = .ok (.ifCond .ne 5, 3) := by decide +kernel
theorem dX12_act_25 : decode cX12_act 25 = .ok (.aload_n 0, 1) := by decide +kernel
theorem dX12_act_26 : decode cX12_act 26 = .ok (.invokevirtual 402, 3) := by decide +kernel
theorem dX12_act_29 : decode cX12_act 29 = .ok (.istore_n 3, 1) := by decide +kernel
theorem dX12_act_30 : decode cX12_act 30 = .ok (.aload_n 0, 1) := by decide +kernel
theorem dX12_act_31 : decode cX12_act 31 = .ok (.iload_n 3, 1) := by decide +kernel
theorem dX12_act_32 : decode cX12_act 32 = .ok (.iload_n 1, 1) := by decide +kernel
theorem dX12_act_33 : decode cX12_act 33 = .ok (.invokevirtual 449, 3) := by decide +kernel
theorem dX12_act_36 : decode cX12_act 36 = .ok (.istore 4, 2) := by decide +kernel
theorem dX12_act_38 : decode cX12_act 38 = .ok (.iload 4, 2) := by decide +kernel
theorem dX12_act_40 : decode cX12_act 40 = .ok (.ifCond .ge 7, 3) := by decide +kernel
theorem dX12_act_47 : decode cX12_act 47 = .ok (.aload_n 0, 1) := by decide +kernel
theorem dX12_act_48 : decode cX12_act 48 = .ok (.iload_n 3, 1) := by decide +kernel
theorem dX12_act_49 : decode cX12_act 49 = .ok (.iload 4, 2) := by decide +kernel
theorem dX12_act_51 : decode cX12_act 51 = .ok (.iload_n 2, 1) := by decide +kernel
theorem dX12_act_52 : decode cX12_act 52 = .ok (.invokevirtual 455, 3) := by decide +kernel
theorem qq_7_213 : Cond.code yX12_partOf cX12_partOf 4 (some .int) ∈ TB := mk_tb (ti_7 (List.mem_of_getElem? (i := 213) rfl)) rfl
theorem qq_7_210 : Cond.methodLink "WrongHoleModel" 455 yX12_partOf ∈ TB := mk_tb (ti_7 (List.mem_of_getElem? (i := 210) rfl)) rfl
theorem qq_7_212 : Cond.instanceMethod yX12_partOf ∈ TB := mk_tb (ti_7 (List.mem_of_getElem? (i := 212) rfl)) rfl
theorem qs_6_12 : Cond.selects "WrongHoleModel" yX12_partOf yX12_partOf ∈ TB := mk_tb (ti_s (q := (yX12_partOf, 33)) (List.mem_append_right _ (List.mem_append_right _ (List.mem_append_right _ (List.mem_append_right _ (List.mem_append_right _ (List.mem_append_right _ (List.mem_append_left _ (List.mem_of_getElem? (i := 12) rfl))))))))) rfl
theorem dX12_act_55 : decode cX12_act 55 = .ok (.ireturn, 1) := by decide +kernel
theorem dX12_act_43 : decode cX12_act 43 = .ok (.iconst (-1), 1) := by decide +kernel
theorem dX12_act_44 : decode cX12_act 44 = .ok (.goto 11, 3) := by decide +kernel
set_option maxHeartbeats 4000000 in
set_option maxRecDepth 100000 in
theorem c_M_act (l : Launch) (D : va_G) (cs : Nat → ClassId) (m0 : Nat) (mtp : Nat) (sta : Int32) (sru : Int32) (msg : Nat) (mln : Nat) (mcl : Nat) (mcs : Nat) (mrd : Nat) (snx : Int32) (swr : Int32) (snu : Int32) (ste : Int32) (sma : Int32) (sde : Int32) (sli : Int32) (mop : Nat) (sod : Int32) (mst : Nat) (sto : Int32) (mwd : Nat) (msd : Nat) (sx_ : Int32) (mws : Nat) (sun : Int32) (mfr : Nat) (mqu : Nat) (miw : Nat) (sfi : Int32) (swa : Int32) (sdx : Int64) (mim : Nat) (mix : Nat) (mmd : Nat) (gsd : Nat → Int32) (a : Int32) (b : Int32) (hsi : SI gsd) : Met l yX12_act (Cond.code yX12_act cX12_act 5 (some .int) :: TB) (RM 7 0 0) (va_Pc [.ref m0, .int a, .int b] (PRR D cs [(m0, .inr (10, (.ref mtp :: .int sta :: .int sru :: .ref msg :: .ref mln :: .ref mcl :: .ref mcs :: .ref mrd :: .int snx :: .int swr :: .int snu :: .int ste :: .int sma :: .int sde :: .int sli :: .ref mop :: .int sod :: .ref mst :: .int sto :: .ref mwd :: .ref msd :: .int sx_ :: .ref mws :: .int sun :: .ref mfr :: .ref mqu :: .ref miw :: .int sfi :: .int swa :: .long sdx :: .ref mim :: .ref mix :: .ref mmd :: []))), (msd, .inl ((cs 0), 133, .inl gsd))])) (QP (fun v => ∃ x : Int32, v = .int x)) 0 0 (fun _ => False) := by
  refine MER (y := yX12_act) (cc := cX12_act) (maxL := 5) (ret := (some .int)) (d := 7) (D := D) (cs := cs) (ws := [(m0, .inr (10, (.ref mtp :: .int sta :: .int sru :: .ref msg :: .ref mln :: .ref mcl :: .ref mcs :: .ref mrd :: .int snx :: .int swr :: .int snu :: .int ste :: .int sma :: .int sde :: .int sli :: .ref mop :: .int sod :: .ref mst :: .int sto :: .ref mwd :: .ref msd :: .int sx_ :: .ref mws :: .int sun :: .ref mfr :: .ref mqu :: .ref miw :: .int sfi :: .int swa :: .long sdx :: .ref mim :: .ref mix :: .ref mmd :: []))), (msd, .inl ((cs 0), 133, .inl gsd))]) (av := [.ref m0, .int a, .int b]) (Qc := QP (fun v => ∃ x : Int32, v = .int x)) (by decide) (Nat.le_of_ble_eq_true rfl) ?_
  intro p e s m below meth c ls H hHe hx hb hr hml hown hts hlocks hP hK hN hl
  obtain ⟨locs, hlc⟩ : ∃ z : List Loc, z = [] := ⟨_, rfl⟩
  rw [← hlc]
  have hown : s.vm.findClass "WrongHoleModel" = some m.cls := hown
  have hT : ∀ w ∈ TB, w.before ([.ref m0, .int a, .int b] : List Value).toArray s = true := fun w h => hts w (List.mem_cons_of_mem _ h)
  have hl : lv_has ls 5 [(0, .ref m0), (1, .int a), (2, .int b)] := hl
  have hP : va_P D vwCl [(m0, .inr (10, (.ref mtp :: .int sta :: .int sru :: .ref msg :: .ref mln :: .ref mcl :: .ref mcs :: .ref mrd :: .int snx :: .int swr :: .int snu :: .int ste :: .int sma :: .int sde :: .int sli :: .ref mop :: .int sod :: .ref mst :: .int sto :: .ref mwd :: .ref msd :: .int sx_ :: .ref mws :: .int sun :: .ref mfr :: .ref mqu :: .ref miw :: .int sfi :: .int swa :: .long sdx :: .ref mim :: .ref mix :: .ref mmd :: []))), (msd, .inl ((cs 0), 133, .inl gsd))] H := hP
  refine lv_aload_n hx hb dX12_act_0 rfl (lv_at hl 0 rfl) ?_
  have hPc := va_P.sub (ws' := [(m0, .inr (10, (.ref mtp :: .int sta :: .int sru :: .ref msg :: .ref mln :: .ref mcl :: .ref mcs :: .ref mrd :: .int snx :: .int swr :: .int snu :: .int ste :: .int sma :: .int sde :: .int sli :: .ref mop :: .int sod :: .ref mst :: .int sto :: .ref mwd :: .ref msd :: .int sx_ :: .ref mws :: .int sun :: .ref mfr :: .ref mqu :: .ref miw :: .int sfi :: .int swa :: .long sdx :: .ref mim :: .ref mix :: .ref mmd :: []))), (msd, .inl ((cs 0), 133, .inl gsd))]) hP [0, 1] rfl
  refine cl_P (W.runV (As := []) (rest := []) ⟨hx, hb, hml, hown, hts⟩ (c_M_isLift l D cs m0 mtp sta sru msg mln mcl mcs mrd snx swr snu ste sma sde sli mop sod mst sto mwd msd sx_ mws sun mfr mqu miw sfi swa sdx mim mix mmd gsd hsi) ⟨callB_of 0 hts (gd_C qq_7_46) rfl rfl rfl (hT _ qq_1_9) (hT _ qq_7_43) (by decide +kernel) (rm_R rfl rfl), (hT _ qq_7_45), (hT _ qs_5_2)⟩ (pq_V hPc hK hN (ci := 10) (q0 := 0) rfl rfl) rfl rfl hl.1 rfl (lv_room (Nat.le_of_ble_eq_true rfl)) dX12_act_1 ⟨Nat.le_of_ble_eq_true rfl, Nat.le_of_ble_eq_true rfl⟩) (fun v9 hz_2 => ?_)
  obtain ⟨x_1, rfl, r_3⟩ := hz_2
  refine lv_if_eq (tgt := 23) hx hb dX12_act_4 (by decide) (fun c_4 => ?_) (fun c_4 => ?_)
  · have r_5 : Rg 0 0 x_1 := Rg.eq_l c_4 r_3.1 (Rg.c (c := 0) (k := 0) rfl) (by decide)
    refine lv_iconst (v := (-1)) hx hb dX12_act_23 (by decide) ?_
    exact W.iret (v := (-1)) hx hb hr (fun t9 ht9 hW9 => ⟨⟨_, rfl, _, rfl⟩, ht9.trans hHe⟩) (fun _ h9 => by rw [hlc] at h9; exact absurd h9 List.not_mem_nil) dX12_act_24
  · have r_6 : Rg 1 1 x_1 := Rg.ne c_4 r_3.1 (Rg.c (c := 0) (k := 0) rfl) (by decide)
    refine lv_iload_n hx hb dX12_act_7 rfl (lv_at hl 1 rfl) ?_
    refine lv_if_lt (tgt := 23) hx hb dX12_act_8 (by decide) (fun c_7 => ?_) (fun c_7 => ?_)
    · have r_8 : Rg (-2147483648) (-1) a := Rg.lt_l c_7 (Rg.top a) (Rg.c (c := 0) (k := 0) rfl) (by decide)
      refine lv_iconst (v := (-1)) hx hb dX12_act_23 (by decide) ?_
      exact W.iret (v := (-1)) hx hb hr (fun t9 ht9 hW9 => ⟨⟨_, rfl, _, rfl⟩, ht9.trans hHe⟩) (fun _ h9 => by rw [hlc] at h9; exact absurd h9 List.not_mem_nil) dX12_act_24
    · have r_9 : Rg 0 2147483647 a := Rg.le_r (nlt_le c_7) (Rg.c (c := 0) (k := 0) rfl) (Rg.top a) (by decide)
      refine lv_iload_n hx hb dX12_act_11 rfl (lv_at hl 2 rfl) ?_
      refine lv_i2l (v := Int32.toInt64 b) hx hb dX12_act_12 rfl ?_
      refine lv_topl (fun x_10 e_11 => ?_)
      refine lv_lconst (v := 0) hx hb dX12_act_13 (by decide) ?_
      refine lv_ldc2 (v := 2) hx hb hown (hT _ qq_7_38) dX12_act_14 ?_
      have hPc := va_P.sub (ws' := []) hP [] rfl
      refine cl_P (W.runS (As := [.long x_10, .long 0, .long 2]) (rest := []) ⟨hx, hb, hml, hown, hts⟩ (c_M_in l D cs x_10 0 2) ⟨callB_of 3 hts (gd_C qq_6_97) rfl rfl rfl (hT _ qq_1_9) (hT _ qq_6_95) (by decide +kernel) (rm_R rfl rfl), (hT _ qq_6_96)⟩ (pq_S hPc hK hN) rfl rfl hl.1 rfl (lv_room (Nat.le_of_ble_eq_true rfl)) dX12_act_17 ⟨Nat.le_of_ble_eq_true rfl, Nat.le_of_ble_eq_true rfl⟩) (fun v9 hz_13 => ?_)
      obtain ⟨x_12, rfl, r_14⟩ := hz_13
      refine lv_if_ne (tgt := 25) hx hb dX12_act_20 (by decide) (fun c_15 => ?_) (fun c_15 => ?_)
      · have r_16 : Rg 1 1 x_12 := Rg.ne c_15 r_14.1 (Rg.c (c := 0) (k := 0) rfl) (by decide)
        have r_17 : Rg 0 2 b := in_rg e_11 (r_14.2 c_15) (by decide) (by decide)
        refine lv_aload_n hx hb dX12_act_25 rfl (lv_at hl 0 rfl) ?_
        have hPc := va_P.sub (ws' := [(m0, .inr (10, (.ref mtp :: .int sta :: .int sru :: .ref msg :: .ref mln :: .ref mcl :: .ref mcs :: .ref mrd :: .int snx :: .int swr :: .int snu :: .int ste :: .int sma :: .int sde :: .int sli :: .ref mop :: .int sod :: .ref mst :: .int sto :: .ref mwd :: .ref msd :: .int sx_ :: .ref mws :: .int sun :: .ref mfr :: .ref mqu :: .ref miw :: .int sfi :: .int swa :: .long sdx :: .ref mim :: .ref mix :: .ref mmd :: []))), (msd, .inl ((cs 0), 133, .inl gsd))]) hP [0, 1] rfl
        refine cl_P (W.runV (As := []) (rest := []) ⟨hx, hb, hml, hown, hts⟩ (c_M_situationNow l D cs m0 mtp sta sru msg mln mcl mcs mrd snx swr snu ste sma sde sli mop sod mst sto mwd msd sx_ mws sun mfr mqu miw sfi swa sdx mim mix mmd gsd hsi) ⟨callB_of 0 hts (gd_C qq_7_51) rfl rfl rfl (hT _ qq_1_9) (hT _ qq_7_48) (by decide +kernel) (rm_R rfl rfl), (hT _ qq_7_50), (hT _ qs_5_3)⟩ (pq_V hPc hK hN (ci := 10) (q0 := 0) rfl rfl) rfl rfl hl.1 rfl (lv_room (Nat.le_of_ble_eq_true rfl)) dX12_act_26 ⟨Nat.le_of_ble_eq_true rfl, Nat.le_of_ble_eq_true rfl⟩) (fun v9 hz_20 => ?_)
        obtain ⟨x_19, rfl, r_21⟩ := hz_20
        refine lv_istore_n (lv' := [(3, .int x_19), (0, .ref m0), (1, .int a), (2, .int b)]) hx hb dX12_act_29 rfl hl (by decide) rfl (fun ls hl => ?_)
        refine lv_aload_n hx hb dX12_act_30 rfl (lv_at hl 1 rfl) ?_
        refine lv_iload_n hx hb dX12_act_31 rfl (lv_at hl 0 rfl) ?_
        refine lv_iload_n hx hb dX12_act_32 rfl (lv_at hl 2 rfl) ?_
        have hPc := va_P.sub (ws' := [(m0, .inr (10, (.ref mtp :: .int sta :: .int sru :: .ref msg :: .ref mln :: .ref mcl :: .ref mcs :: .ref mrd :: .int snx :: .int swr :: .int snu :: .int ste :: .int sma :: .int sde :: .int sli :: .ref mop :: .int sod :: .ref mst :: .int sto :: .ref mwd :: .ref msd :: .int sx_ :: .ref mws :: .int sun :: .ref mfr :: .ref mqu :: .ref miw :: .int sfi :: .int swa :: .long sdx :: .ref mim :: .ref mix :: .ref mmd :: []))), (msd, .inl ((cs 0), 133, .inl gsd))]) hP [0, 1] rfl
        refine cl_P (W.runV (As := [.int x_19, .int a]) (rest := []) ⟨hx, hb, hml, hown, hts⟩ (c_M_mayAt l D cs m0 mtp sta sru msg mln mcl mcs mrd snx swr snu ste sma sde sli mop sod mst sto mwd msd sx_ mws sun mfr mqu miw sfi swa sdx mim mix mmd gsd x_19 a hsi (r_21.1)) ⟨callB_of 2 hts (gd_C qq_7_205) rfl rfl rfl (hT _ qq_1_9) (hT _ qq_7_202) (by decide +kernel) (rm_R rfl rfl), (hT _ qq_7_204), (hT _ qs_6_11)⟩ (pq_V hPc hK hN (ci := 10) (q0 := 0) rfl rfl) rfl rfl hl.1 rfl (lv_room (Nat.le_of_ble_eq_true rfl)) dX12_act_33 ⟨Nat.le_of_ble_eq_true rfl, Nat.le_of_ble_eq_true rfl⟩) (fun v9 hz_23 => ?_)
        obtain ⟨x_22, rfl, r_24⟩ := hz_23
        refine lv_istore (lv' := [(4, .int x_22), (3, .int x_19), (0, .ref m0), (1, .int a), (2, .int b)]) hx hb dX12_act_36 hl (by decide) rfl (fun ls hl => ?_)
        refine lv_iload hx hb dX12_act_38 (lv_at hl 0 rfl) ?_
        refine lv_if_ge (tgt := 47) hx hb dX12_act_40 (by decide) (fun c_25 => ?_) (fun c_25 => ?_)
        · have r_26 : Rg 0 71 x_22 := Rg.le_r c_25 (Rg.c (c := 0) (k := 0) rfl) (mat_rg r_24) (by decide)
          refine lv_aload_n hx hb dX12_act_47 rfl (lv_at hl 2 rfl) ?_
          refine lv_iload_n hx hb dX12_act_48 rfl (lv_at hl 1 rfl) ?_
          refine lv_iload hx hb dX12_act_49 (lv_at hl 0 rfl) ?_
          refine lv_iload_n hx hb dX12_act_51 rfl (lv_at hl 4 rfl) ?_
          have hPc := va_P.sub (ws' := [(m0, .inr (10, (.ref mtp :: .int sta :: .int sru :: .ref msg :: .ref mln :: .ref mcl :: .ref mcs :: .ref mrd :: .int snx :: .int swr :: .int snu :: .int ste :: .int sma :: .int sde :: .int sli :: .ref mop :: .int sod :: .ref mst :: .int sto :: .ref mwd :: .ref msd :: .int sx_ :: .ref mws :: .int sun :: .ref mfr :: .ref mqu :: .ref miw :: .int sfi :: .int swa :: .long sdx :: .ref mim :: .ref mix :: .ref mmd :: [])))]) hP [0] rfl
          refine cl_P (W.runV (As := [.int x_19, .int x_22, .int b]) (rest := []) ⟨hx, hb, hml, hown, hts⟩ (c_M_partOf l D cs m0 mtp sta sru msg mln mcl mcs mrd snx swr snu ste sma sde sli mop sod mst sto mwd msd sx_ mws sun mfr mqu miw sfi swa sdx mim mix mmd x_19 x_22 b r_26 (r_21.1) (fun h9 => (bh_un (bl_pos hsi (x := blF gsd (cN x_19) (cN x_22)) rfl (act_of (mat_0 r_24 (i_C2 c_25))).2).2 h9).2)) ⟨callB_of 3 hts (gd_C qq_7_213) rfl rfl rfl (hT _ qq_1_9) (hT _ qq_7_210) (by decide +kernel) (rm_R rfl rfl), (hT _ qq_7_212), (hT _ qs_6_12)⟩ (pq_V hPc hK hN (ci := 10) (q0 := 0) rfl rfl) rfl rfl hl.1 rfl (lv_room (Nat.le_of_ble_eq_true rfl)) dX12_act_52 ⟨Nat.le_of_ble_eq_true rfl, Nat.le_of_ble_eq_true rfl⟩) (fun v9 hz_32 => ?_)
          obtain ⟨x_31, rfl⟩ := hz_32
          exact W.iret (v := x_31) hx hb hr (fun t9 ht9 hW9 => ⟨⟨_, rfl, _, rfl⟩, ht9.trans hHe⟩) (fun _ h9 => by rw [hlc] at h9; exact absurd h9 List.not_mem_nil) dX12_act_55
        · have r_27 : Rg (-73) (-1) x_22 := Rg.lt_l (nle_lt c_25) (mat_rg r_24) (Rg.c (c := 0) (k := 0) rfl) (by decide)
          refine lv_iconst (v := (-1)) hx hb dX12_act_43 (by decide) ?_
          refine lv_goto (tgt := 55) hx hb dX12_act_44 (by decide) ?_
          exact W.iret (v := (-1)) hx hb hr (fun t9 ht9 hW9 => ⟨⟨_, rfl, _, rfl⟩, ht9.trans hHe⟩) (fun _ h9 => by rw [hlc] at h9; exact absurd h9 List.not_mem_nil) dX12_act_55
      · have r_18 : Rg 0 0 x_12 := Rg.eq_l c_15 r_14.1 (Rg.c (c := 0) (k := 0) rfl) (by decide)
        refine lv_iconst (v := (-1)) hx hb dX12_act_23 (by decide) ?_
        exact W.iret (v := (-1)) hx hb hr (fun t9 ht9 hW9 => ⟨⟨_, rfl, _, rfl⟩, ht9.trans hHe⟩) (fun _ h9 => by rw [hlc] at h9; exact absurd h9 List.not_mem_nil) dX12_act_24
