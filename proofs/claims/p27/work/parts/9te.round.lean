set_option maxHeartbeats 4000000 in
set_option maxRecDepth 100000 in
theorem c_M_isRound_y (l : Launch) (D : va_G) (cs : Nat → ClassId) (m0 : Nat) (mtp : Nat) (sta : Int32) (sru : Int32) (msg : Nat) (mln : Nat) (mcl : Nat) (mcs : Nat) (mrd : Nat) (snx : Int32) (swr : Int32) (snu : Int32) (ste : Int32) (sma : Int32) (sde : Int32) (sli : Int32) (mop : Nat) (sod : Int32) (mst : Nat) (sto : Int32) (mwd : Nat) (msd : Nat) (sx_ : Int32) (mws : Nat) (sun : Int32) (mfr : Nat) (mqu : Nat) (miw : Nat) (sfi : Int32) (swa : Int32) (sdx : Int64) (mim : Nat) (mix : Nat) (mmd : Nat) (gsd : Nat → Int32) (b : Int32) (hsi : SI gsd) (r_b : Rg 0 9 b) : Met l yX12_isRound (Cond.code yX12_isRound cX12_isRound 3 (some .boolean) :: TB) (RM 0 0 0) (va_Pc [.ref m0, .int b] (PRR D cs [(m0, .inr (10, (.ref mtp :: .int sta :: .int sru :: .ref msg :: .ref mln :: .ref mcl :: .ref mcs :: .ref mrd :: .int snx :: .int swr :: .int snu :: .int ste :: .int sma :: .int sde :: .int sli :: .ref mop :: .int sod :: .ref mst :: .int sto :: .ref mwd :: .ref msd :: .int sx_ :: .ref mws :: .int sun :: .ref mfr :: .ref mqu :: .ref miw :: .int sfi :: .int swa :: .long sdx :: .ref mim :: .ref mix :: .ref mmd :: []))), (msd, .inl ((cs 0), 133, .inl gsd))])) (QP (fun v => ∃ x : Int32, v = .int x ∧ Rg 0 1 x ∧ ∀ n9, STN (F10 (fun k => gsd (92 + k))) n9 → Int32.toInt b < n9 → (¬ x = 0 ↔ CH (F10 (fun k => gsd (92 + k))) b n9 = b))) 0 0 (fun _ => False) := by
  refine MER (y := yX12_isRound) (cc := cX12_isRound) (maxL := 3) (ret := (some .boolean)) (d := 0) (D := D) (cs := cs) (ws := [(m0, .inr (10, (.ref mtp :: .int sta :: .int sru :: .ref msg :: .ref mln :: .ref mcl :: .ref mcs :: .ref mrd :: .int snx :: .int swr :: .int snu :: .int ste :: .int sma :: .int sde :: .int sli :: .ref mop :: .int sod :: .ref mst :: .int sto :: .ref mwd :: .ref msd :: .int sx_ :: .ref mws :: .int sun :: .ref mfr :: .ref mqu :: .ref miw :: .int sfi :: .int swa :: .long sdx :: .ref mim :: .ref mix :: .ref mmd :: []))), (msd, .inl ((cs 0), 133, .inl gsd))]) (av := [.ref m0, .int b]) (Qc := QP (fun v => ∃ x : Int32, v = .int x ∧ Rg 0 1 x ∧ ∀ n9, STN (F10 (fun k => gsd (92 + k))) n9 → Int32.toInt b < n9 → (¬ x = 0 ↔ CH (F10 (fun k => gsd (92 + k))) b n9 = b))) (by decide) (Nat.le_of_ble_eq_true rfl) ?_
  intro p e s m below meth c ls H hHe hx hb hr hml hown hts hlocks hP hK hN hl
  obtain ⟨locs, hlc⟩ : ∃ z : List Loc, z = [] := ⟨_, rfl⟩
  rw [← hlc]
  have hown : s.vm.findClass "WrongHoleModel" = some m.cls := hown
  have hT : ∀ w ∈ TB, w.before ([.ref m0, .int b] : List Value).toArray s = true := fun w h => hts w (List.mem_cons_of_mem _ h)
  have hl : lv_has ls 3 [(0, .ref m0), (1, .int b)] := hl
  have hP : va_P D vwCl [(m0, .inr (10, (.ref mtp :: .int sta :: .int sru :: .ref msg :: .ref mln :: .ref mcl :: .ref mcs :: .ref mrd :: .int snx :: .int swr :: .int snu :: .int ste :: .int sma :: .int sde :: .int sli :: .ref mop :: .int sod :: .ref mst :: .int sto :: .ref mwd :: .ref msd :: .int sx_ :: .ref mws :: .int sun :: .ref mfr :: .ref mqu :: .ref miw :: .int sfi :: .int swa :: .long sdx :: .ref mim :: .ref mix :: .ref mmd :: []))), (msd, .inl ((cs 0), 133, .inl gsd))] H := hP
  refine lv_aload_n hx hb dX12_isRound_0 rfl (lv_at hl 0 rfl) ?_
  refine va_get (D := D) (ci := 10) (v := .ref msd) (C := "WrongHoleModel") (T := TX12) (N := 33) hx hb hts (iq_RX12 _) hown hK hP 0 rfl rfl 20 (by decide) (hT _ qq_5_172) (fun _ h9 => h9) rfl dX12_isRound_1 ?_
  refine lv_bipush (v := 92) hx hb dX12_isRound_4 (by decide) ?_
  refine lv_iload_n hx hb dX12_isRound_6 rfl (lv_at hl 1 rfl) ?_
  refine lv_iadd hx hb dX12_isRound_7 ?_
  refine lv_topi (fun x_1 e_2 => ?_)
  have r_3 : Rg 92 101 x_1 := Rg.add e_2 (Rg.c (c := 92) (k := 92) rfl) r_b (by decide)
  have hi_4 : vp_in x_1 133 := Rg.in r_3 (by decide)
  refine va_iald hx hb hK hP 1 0 rfl rfl hi_4 dX12_isRound_8 ?_
  refine lv_topi (fun x_5 e_6 => ?_)
  have r_7 : Rg (-1) 9 x_5 := Rg.of e_6 (hsi.ls r_3 (by decide))
  refine lv_istore_n (lv' := [(2, .int x_5), (0, .ref m0), (1, .int b)]) hx hb dX12_isRound_9 rfl hl (by decide) rfl (fun ls hl => ?_)
  refine w_wh (σ := (Int32)) (fun (v_31 : Int32) H locs ls => Rg (-1) 9 v_31 ∧ (rds gsd b 11 v_31 ≤ 10) ∧ (∃ m9, RWY (F10 (fun k => gsd (92 + k))) b v_31 m9) ∧ H = s.heap ∧ locs = [] ∧ va_P D vwCl [(m0, .inr (10, (.ref mtp :: .int sta :: .int sru :: .ref msg :: .ref mln :: .ref mcl :: .ref mcs :: .ref mrd :: .int snx :: .int swr :: .int snu :: .int ste :: .int sma :: .int sde :: .int sli :: .ref mop :: .int sod :: .ref mst :: .int sto :: .ref mwd :: .ref msd :: .int sx_ :: .ref mws :: .int sun :: .ref mfr :: .ref mqu :: .ref miw :: .int sfi :: .int swa :: .long sdx :: .ref mim :: .ref mix :: .ref mmd :: []))), (msd, .inl ((cs 0), 133, .inl gsd))] H ∧ lv_has ls 3 [(2, .int v_31), (0, .ref m0), (1, .int b)]) (fun (v_31 : Int32) => rds gsd b 11 v_31) 10 ?_ x_5 H locs ls ⟨r_7, (rds_0 hsi r_b (show x_5 = gsd (92 + cN b) from by rw [e_6, show Int32.toNatClampNeg x_1 = _ from (ix_add (k := 92) e_2 r_b (by decide) ⟨by decide, rfl⟩)])), ⟨0, by rw [(show x_5 = (F10 (fun k => gsd (92 + k))) (cN b) from by rw [f10 (cN_lt (n := 10) r_b (by decide)), e_6, show Int32.toNatClampNeg x_1 = _ from (ix_add (k := 92) e_2 r_b (by decide) ⟨by decide, rfl⟩)])]; exact RWY.nil⟩, hHe, hlc, hP, lv_sub hl [0, 1, 2] rfl⟩
  rintro v_31 H locs ls ⟨r_125, iv_126, iv_127, hHe, hlc, hP, hl⟩ ih_124
  refine lv_iload_n hx hb dX12_isRound_10 rfl (lv_at hl 0 rfl) ?_
  refine lv_iload_n hx hb dX12_isRound_11 rfl (lv_at hl 2 rfl) ?_
  refine lv_icmp_le (tgt := 40) hx hb dX12_isRound_12 (by decide) (fun c_128 => ?_) (fun c_128 => ?_)
  · refine lv_iload_n hx hb dX12_isRound_40 rfl (lv_at hl 0 rfl) ?_
    refine lv_iload_n hx hb dX12_isRound_41 rfl (lv_at hl 2 rfl) ?_
    refine lv_icmp_ne (tgt := 49) hx hb dX12_isRound_42 (by decide) (fun c_131 => ?_) (fun c_131 => ?_)
    · refine lv_iconst (v := 0) hx hb dX12_isRound_49 (by decide) ?_
      exact W.zret (v := 0) (ty := .boolean) hx hb hr rfl (fun t9 ht9 hW9 => ⟨⟨_, rfl, _, rfl, ⟨⟨by decide, by decide⟩, fun n9 hst9 hlt9 => ⟨fun q9 => absurd rfl q9, fun q9 => absurd ((Exists.elim iv_127 (fun m9 h9 => h9.end hst9 r_b hlt9 (Or.inl c_128))).mpr q9) c_131⟩⟩⟩, ht9.trans hHe⟩) (fun _ h9 => by rw [hlc] at h9; exact absurd h9 List.not_mem_nil) dX12_isRound_50
    · have r_132 : Rg 0 9 v_31 := Rg.eq_l c_131 r_125 r_b (by decide)
      refine lv_iconst (v := 1) hx hb dX12_isRound_45 (by decide) ?_
      refine lv_goto (tgt := 50) hx hb dX12_isRound_46 (by decide) ?_
      exact W.zret (v := 1) (ty := .boolean) hx hb hr rfl (fun t9 ht9 hW9 => ⟨⟨_, rfl, _, rfl, ⟨⟨by decide, by decide⟩, fun n9 hst9 hlt9 => ⟨fun _ => (Exists.elim iv_127 (fun m9 h9 => h9.end hst9 r_b hlt9 (Or.inl c_128))).mp c_131, fun _ => by decide⟩⟩⟩, ht9.trans hHe⟩) (fun _ h9 => by rw [hlc] at h9; exact absurd h9 List.not_mem_nil) dX12_isRound_50
  · have r_129 : Rg 0 8 b := Rg.lt_l (nle_lt c_128) r_b r_125 (by decide)
    have r_130 : Rg 1 9 v_31 := Rg.lt_r (nle_lt c_128) r_b r_125 (by decide)
    refine lv_aload_n hx hb dX12_isRound_15 rfl (lv_at hl 1 rfl) ?_
    refine va_get (D := D) (ci := 10) (v := .ref msd) (C := "WrongHoleModel") (T := TX12) (N := 33) hx hb hts (iq_RX12 _) hown hK hP 0 rfl rfl 20 (by decide) (hT _ qq_5_172) (fun _ h9 => h9) rfl dX12_isRound_16 ?_
    refine lv_bipush (v := 92) hx hb dX12_isRound_19 (by decide) ?_
    refine lv_iload_n hx hb dX12_isRound_21 rfl (lv_at hl 0 rfl) ?_
    refine lv_iadd hx hb dX12_isRound_22 ?_
    refine lv_topi (fun x_133 e_134 => ?_)
    have r_135 : Rg 93 101 x_133 := Rg.add e_134 (Rg.c (c := 92) (k := 92) rfl) r_130 (by decide)
    have hi_136 : vp_in x_133 133 := Rg.in r_135 (by decide)
    refine va_iald hx hb hK hP 1 0 rfl rfl hi_136 dX12_isRound_23 ?_
    refine lv_topi (fun x_137 e_138 => ?_)
    have r_139 : Rg (-1) 9 x_137 := Rg.of e_138 (hsi.ls r_135 (by decide))
    refine lv_if_lt (tgt := 40) hx hb dX12_isRound_24 (by decide) (fun c_140 => ?_) (fun c_140 => ?_)
    · have r_141 : Rg (-1) (-1) x_137 := Rg.lt_l c_140 r_139 (Rg.c (c := 0) (k := 0) rfl) (by decide)
      refine lv_iload_n hx hb dX12_isRound_40 rfl (lv_at hl 0 rfl) ?_
      refine lv_iload_n hx hb dX12_isRound_41 rfl (lv_at hl 2 rfl) ?_
      refine lv_icmp_ne (tgt := 49) hx hb dX12_isRound_42 (by decide) (fun c_143 => ?_) (fun c_143 => ?_)
      · refine lv_iconst (v := 0) hx hb dX12_isRound_49 (by decide) ?_
        exact W.zret (v := 0) (ty := .boolean) hx hb hr rfl (fun t9 ht9 hW9 => ⟨⟨_, rfl, _, rfl, ⟨⟨by decide, by decide⟩, fun n9 hst9 hlt9 => ⟨fun q9 => absurd rfl q9, fun q9 => absurd ((Exists.elim iv_127 (fun m9 h9 => h9.end hst9 r_b hlt9 (Or.inr (by rw [← (show x_137 = (F10 (fun k => gsd (92 + k))) (cN v_31) from by rw [f10 (cN_lt (n := 10) (Rg.wk (lo2 := 0) (hi2 := 9) r_130 (by decide)) (by decide)), e_138, show Int32.toNatClampNeg x_133 = _ from (ix_add (k := 92) e_134 r_130 (by decide) ⟨by decide, rfl⟩)])]; exact c_140)))).mpr q9) c_143⟩⟩⟩, ht9.trans hHe⟩) (fun _ h9 => by rw [hlc] at h9; exact absurd h9 List.not_mem_nil) dX12_isRound_50
      · have r_144 : Rg 1 8 v_31 := Rg.eq_l c_143 r_130 r_129 (by decide)
        have r_145 : Rg 1 8 b := Rg.eq_l (Eq.symm c_143) r_129 r_130 (by decide)
        refine lv_iconst (v := 1) hx hb dX12_isRound_45 (by decide) ?_
        refine lv_goto (tgt := 50) hx hb dX12_isRound_46 (by decide) ?_
        exact W.zret (v := 1) (ty := .boolean) hx hb hr rfl (fun t9 ht9 hW9 => ⟨⟨_, rfl, _, rfl, ⟨⟨by decide, by decide⟩, fun n9 hst9 hlt9 => ⟨fun _ => (Exists.elim iv_127 (fun m9 h9 => h9.end hst9 r_b hlt9 (Or.inr (by rw [← (show x_137 = (F10 (fun k => gsd (92 + k))) (cN v_31) from by rw [f10 (cN_lt (n := 10) (Rg.wk (lo2 := 0) (hi2 := 9) r_144 (by decide)) (by decide)), e_138, show Int32.toNatClampNeg x_133 = _ from (ix_add (k := 92) e_134 r_144 (by decide) ⟨by decide, rfl⟩)])]; exact c_140)))).mp c_143, fun _ => by decide⟩⟩⟩, ht9.trans hHe⟩) (fun _ h9 => by rw [hlc] at h9; exact absurd h9 List.not_mem_nil) dX12_isRound_50
    · have r_142 : Rg 0 9 x_137 := Rg.le_r (nlt_le c_140) (Rg.c (c := 0) (k := 0) rfl) r_139 (by decide)
      refine lv_aload_n hx hb dX12_isRound_27 rfl (lv_at hl 1 rfl) ?_
      refine va_get (D := D) (ci := 10) (v := .ref msd) (C := "WrongHoleModel") (T := TX12) (N := 33) hx hb hts (iq_RX12 _) hown hK hP 0 rfl rfl 20 (by decide) (hT _ qq_5_172) (fun _ h9 => h9) rfl dX12_isRound_28 ?_
      refine lv_bipush (v := 92) hx hb dX12_isRound_31 (by decide) ?_
      refine lv_iload_n hx hb dX12_isRound_33 rfl (lv_at hl 0 rfl) ?_
      refine lv_iadd hx hb dX12_isRound_34 ?_
      refine lv_topi (fun x_146 e_147 => ?_)
      have r_148 : Rg 93 101 x_146 := Rg.add e_147 (Rg.c (c := 92) (k := 92) rfl) r_130 (by decide)
      have hi_149 : vp_in x_146 133 := Rg.in r_148 (by decide)
      refine va_iald hx hb hK hP 1 0 rfl rfl hi_149 dX12_isRound_35 ?_
      refine lv_topi (fun x_150 e_151 => ?_)
      have r_152 : Rg (-1) 9 x_150 := Rg.of e_151 (hsi.ls r_148 (by decide))
      refine lv_istore_n (lv' := [(2, .int x_150), (0, .ref m0), (1, .int b)]) hx hb dX12_isRound_36 rfl hl (by decide) rfl (fun ls hl => ?_)
      refine lv_goto (tgt := 10) hx hb dX12_isRound_37 (by decide) ?_
      exact ih_124 x_150 _ _ _ ⟨r_152, (rds_nx iv_126 c_128 (by rw [← (show x_137 = gsd (92 + cN v_31) from by rw [e_138, show Int32.toNatClampNeg x_133 = _ from (ix_add (k := 92) e_134 r_130 (by decide) ⟨by decide, rfl⟩)])]; exact c_140) (show x_150 = gsd (92 + cN v_31) from by rw [e_151, show Int32.toNatClampNeg x_146 = _ from (ix_add (k := 92) e_147 r_130 (by decide) ⟨by decide, rfl⟩)])).1, (Exists.elim iv_127 (fun m9 h9 => ⟨m9 + 1, h9.st c_128 (by rw [← (show x_137 = (F10 (fun k => gsd (92 + k))) (cN v_31) from by rw [f10 (cN_lt (n := 10) (Rg.wk (lo2 := 0) (hi2 := 9) r_130 (by decide)) (by decide)), e_138, show Int32.toNatClampNeg x_133 = _ from (ix_add (k := 92) e_134 r_130 (by decide) ⟨by decide, rfl⟩)])]; exact c_140) (show x_150 = (F10 (fun k => gsd (92 + k))) (cN v_31) from by rw [f10 (cN_lt (n := 10) (Rg.wk (lo2 := 0) (hi2 := 9) r_130 (by decide)) (by decide)), e_151, show Int32.toNatClampNeg x_146 = _ from (ix_add (k := 92) e_147 r_130 (by decide) ⟨by decide, rfl⟩)])⟩)), hHe, hlc, hP, lv_sub hl [0, 1, 2] rfl⟩ ((rds_nx iv_126 c_128 (by rw [← (show x_137 = gsd (92 + cN v_31) from by rw [e_138, show Int32.toNatClampNeg x_133 = _ from (ix_add (k := 92) e_134 r_130 (by decide) ⟨by decide, rfl⟩)])]; exact c_140) (show x_150 = gsd (92 + cN v_31) from by rw [e_151, show Int32.toNatClampNeg x_146 = _ from (ix_add (k := 92) e_147 r_130 (by decide) ⟨by decide, rfl⟩)])).2)
