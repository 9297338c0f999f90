theorem dX12_isLift_0 : decode cX12_isLift 0 = .ok (.aload_n 0, 1) := by decide +kernel
theorem dX12_isLift_1 : decode cX12_isLift 1 = .ok (.getfield 39, 3) := by decide +kernel
theorem qq_5_172 : Cond.fieldLink "WrongHoleModel" 39 "WrongHoleModel" "said" "[I" ∈ TB := mk_tb (ti_5 (List.mem_of_getElem? (i := 172) rfl)) rfl
theorem iq_RX12 (cd : Cond) : ∀ w ∈ u_ws RX12 TX12 33, w ∈ cd :: TB := by
  intro w hw
  obtain ⟨k, hk, rfl⟩ := List.mem_map.mp hw
  have hk := List.mem_range.mp hk
  refine List.mem_cons_of_mem _ ?_
  match k, hk with
  | 0, _ => exact mk_tb (ti_5 (List.mem_of_getElem? (i := 185) rfl)) rfl
  | 1, _ => exact mk_tb (ti_5 (List.mem_of_getElem? (i := 187) rfl)) rfl
  | 2, _ => exact mk_tb (ti_5 (List.mem_of_getElem? (i := 189) rfl)) rfl
  | 3, _ => exact mk_tb (ti_5 (List.mem_of_getElem? (i := 191) rfl)) rfl
  | 4, _ => exact mk_tb (ti_5 (List.mem_of_getElem? (i := 193) rfl)) rfl
  | 5, _ => exact mk_tb (ti_5 (List.mem_of_getElem? (i := 195) rfl)) rfl
  | 6, _ => exact mk_tb (ti_5 (List.mem_of_getElem? (i := 197) rfl)) rfl
  | 7, _ => exact mk_tb (ti_5 (List.mem_of_getElem? (i := 199) rfl)) rfl
  | 8, _ => exact mk_tb (ti_5 (List.mem_of_getElem? (i := 201) rfl)) rfl
  | 9, _ => exact mk_tb (ti_5 (List.mem_of_getElem? (i := 203) rfl)) rfl
  | 10, _ => exact mk_tb (ti_5 (List.mem_of_getElem? (i := 205) rfl)) rfl
  | 11, _ => exact mk_tb (ti_5 (List.mem_of_getElem? (i := 207) rfl)) rfl
  | 12, _ => exact mk_tb (ti_5 (List.mem_of_getElem? (i := 209) rfl)) rfl
  | 13, _ => exact mk_tb (ti_5 (List.mem_of_getElem? (i := 211) rfl)) rfl
  | 14, _ => exact mk_tb (ti_5 (List.mem_of_getElem? (i := 213) rfl)) rfl
  | 15, _ => exact mk_tb (ti_5 (List.mem_of_getElem? (i := 215) rfl)) rfl
  | 16, _ => exact mk_tb (ti_5 (List.mem_of_getElem? (i := 217) rfl)) rfl
  | 17, _ => exact mk_tb (ti_5 (List.mem_of_getElem? (i := 219) rfl)) rfl
  | 18, _ => exact mk_tb (ti_5 (List.mem_of_getElem? (i := 221) rfl)) rfl
  | 19, _ => exact mk_tb (ti_5 (List.mem_of_getElem? (i := 223) rfl)) rfl
  | 20, _ => exact mk_tb (ti_5 (List.mem_of_getElem? (i := 225) rfl)) rfl
  | 21, _ => exact mk_tb (ti_5 (List.mem_of_getElem? (i := 227) rfl)) rfl
  | 22, _ => exact mk_tb (ti_5 (List.mem_of_getElem? (i := 229) rfl)) rfl
  | 23, _ => exact mk_tb (ti_5 (List.mem_of_getElem? (i := 231) rfl)) rfl
  | 24, _ => exact mk_tb (ti_5 (List.mem_of_getElem? (i := 233) rfl)) rfl
  | 25, _ => exact mk_tb (ti_5 (List.mem_of_getElem? (i := 235) rfl)) rfl
  | 26, _ => exact mk_tb (ti_5 (List.mem_of_getElem? (i := 237) rfl)) rfl
  | 27, _ => exact mk_tb (ti_5 (List.mem_of_getElem? (i := 239) rfl)) rfl
  | 28, _ => exact mk_tb (ti_6 (List.mem_of_getElem? (i := 1) rfl)) rfl
  | 29, _ => exact mk_tb (ti_6 (List.mem_of_getElem? (i := 3) rfl)) rfl
  | 30, _ => exact mk_tb (ti_6 (List.mem_of_getElem? (i := 5) rfl)) rfl
  | 31, _ => exact mk_tb (ti_6 (List.mem_of_getElem? (i := 7) rfl)) rfl
  | 32, _ => exact mk_tb (ti_6 (List.mem_of_getElem? (i := 9) rfl)) rfl
  | n + 33, h => exact absurd h (by omega)
theorem dX12_isLift_4 : decode cX12_isLift 4 = .ok (.iconst 0, 1) := by decide +kernel
theorem dX12_isLift_5 : decode cX12_isLift 5 = .ok (.iaload, 1) := by decide +kernel
theorem dX12_isLift_6 : decode cX12_isLift 6 = .ok (.ifCond .le 7, 3) := by decide +kernel
theorem dX12_isLift_13 : decode cX12_isLift 13 = .ok (.iconst 0, 1) := by decide +kernel
theorem dX12_isLift_14 : decode cX12_isLift 14 = .ok (.ireturn, 1) := by decide +kernel
theorem dX12_isLift_9 : decode cX12_isLift 9 = .ok (.iconst 1, 1) := by decide +kernel
theorem dX12_isLift_10 : decode cX12_isLift 10 = .ok (.goto 4, 3) := by decide +kernel
set_option maxHeartbeats 4000000 in
set_option maxRecDepth 100000 in
theorem c_M_isLift (l : Launch) (D : va_G) (cs : Nat → ClassId) (m0 : Nat) (mtp : Nat) (sta : Int32) (sru : Int32) (msg : Nat) (mln : Nat) (mcl : Nat) (mcs : Nat) (mrd : Nat) (snx : Int32) (swr : Int32) (snu : Int32) (ste : Int32) (sma : Int32) (sde : Int32) (sli : Int32) (mop : Nat) (sod : Int32) (mst : Nat) (sto : Int32) (mwd : Nat) (msd : Nat) (sx_ : Int32) (mws : Nat) (sun : Int32) (mfr : Nat) (mqu : Nat) (miw : Nat) (sfi : Int32) (swa : Int32) (sdx : Int64) (mim : Nat) (mix : Nat) (mmd : Nat) (gsd : Nat → Int32) (hsi : SI gsd) : Met l yX12_isLift (Cond.code yX12_isLift cX12_isLift 1 (some .boolean) :: TB) (RM 0 0 0) (va_Pc [.ref m0] (PRR D cs [(m0, .inr (10, (.ref mtp :: .int sta :: .int sru :: .ref msg :: .ref mln :: .ref mcl :: .ref mcs :: .ref mrd :: .int snx :: .int swr :: .int snu :: .int ste :: .int sma :: .int sde :: .int sli :: .ref mop :: .int sod :: .ref mst :: .int sto :: .ref mwd :: .ref msd :: .int sx_ :: .ref mws :: .int sun :: .ref mfr :: .ref mqu :: .ref miw :: .int sfi :: .int swa :: .long sdx :: .ref mim :: .ref mix :: .ref mmd :: []))), (msd, .inl ((cs 0), 133, .inl gsd))])) (QP (fun v => ∃ x : Int32, v = .int x ∧ Rg 0 1 x ∧ (¬ x = 0 → 0 < Int32.toInt (gsd 0)))) 0 0 (fun _ => False) := by
  refine MER (y := yX12_isLift) (cc := cX12_isLift) (maxL := 1) (ret := (some .boolean)) (d := 0) (D := D) (cs := cs) (ws := [(m0, .inr (10, (.ref mtp :: .int sta :: .int sru :: .ref msg :: .ref mln :: .ref mcl :: .ref mcs :: .ref mrd :: .int snx :: .int swr :: .int snu :: .int ste :: .int sma :: .int sde :: .int sli :: .ref mop :: .int sod :: .ref mst :: .int sto :: .ref mwd :: .ref msd :: .int sx_ :: .ref mws :: .int sun :: .ref mfr :: .ref mqu :: .ref miw :: .int sfi :: .int swa :: .long sdx :: .ref mim :: .ref mix :: .ref mmd :: []))), (msd, .inl ((cs 0), 133, .inl gsd))]) (av := [.ref m0]) (Qc := QP (fun v => ∃ x : Int32, v = .int x ∧ Rg 0 1 x ∧ (¬ x = 0 → 0 < Int32.toInt (gsd 0)))) (by decide) (Nat.le_of_ble_eq_true rfl) ?_
  intro p e s m below meth c ls H hHe hx hb hr hml hown hts hlocks hP hK hN hl
  obtain ⟨locs, hlc⟩ : ∃ z : List Loc, z = [] := ⟨_, rfl⟩
  rw [← hlc]
  have hown : s.vm.findClass "WrongHoleModel" = some m.cls := hown
  have hT : ∀ w ∈ TB, w.before ([.ref m0] : List Value).toArray s = true := fun w h => hts w (List.mem_cons_of_mem _ h)
  have hl : lv_has ls 1 [(0, .ref m0)] := hl
  have hP : va_P D vwCl [(m0, .inr (10, (.ref mtp :: .int sta :: .int sru :: .ref msg :: .ref mln :: .ref mcl :: .ref mcs :: .ref mrd :: .int snx :: .int swr :: .int snu :: .int ste :: .int sma :: .int sde :: .int sli :: .ref mop :: .int sod :: .ref mst :: .int sto :: .ref mwd :: .ref msd :: .int sx_ :: .ref mws :: .int sun :: .ref mfr :: .ref mqu :: .ref miw :: .int sfi :: .int swa :: .long sdx :: .ref mim :: .ref mix :: .ref mmd :: []))), (msd, .inl ((cs 0), 133, .inl gsd))] H := hP
  refine lv_aload_n hx hb dX12_isLift_0 rfl (lv_at hl 0 rfl) ?_
  refine va_get (D := D) (ci := 10) (v := .ref msd) (C := "WrongHoleModel") (T := TX12) (N := 33) hx hb hts (iq_RX12 _) hown hK hP 0 rfl rfl 20 (by decide) (hT _ qq_5_172) (fun _ h9 => h9) rfl dX12_isLift_1 ?_
  refine lv_iconst (v := 0) hx hb dX12_isLift_4 (by decide) ?_
  have hi_1 : vp_in 0 133 := vi_c rfl
  refine va_iald hx hb hK hP 1 0 rfl rfl hi_1 dX12_isLift_5 ?_
  refine lv_topi (fun x_2 e_3 => ?_)
  have r_4 : Rg 0 8 x_2 := Rg.of e_3 (hsi.a0)
  refine lv_if_le (tgt := 13) hx hb dX12_isLift_6 (by decide) (fun c_5 => ?_) (fun c_5 => ?_)
  · have r_6 : Rg 0 0 x_2 := Rg.le_l c_5 r_4 (Rg.c (c := 0) (k := 0) rfl) (by decide)
    refine lv_iconst (v := 0) hx hb dX12_isLift_13 (by decide) ?_
    exact W.zret (v := 0) (ty := .boolean) hx hb hr rfl (fun t9 ht9 hW9 => ⟨⟨_, rfl, _, rfl, ⟨⟨by decide, by decide⟩, fun q9 => absurd rfl q9⟩⟩, ht9.trans hHe⟩) (fun _ h9 => by rw [hlc] at h9; exact absurd h9 List.not_mem_nil) dX12_isLift_14
  · have r_7 : Rg 1 8 x_2 := Rg.lt_r (nle_lt c_5) (Rg.c (c := 0) (k := 0) rfl) r_4 (by decide)
    refine lv_iconst (v := 1) hx hb dX12_isLift_9 (by decide) ?_
    refine lv_goto (tgt := 14) hx hb dX12_isLift_10 (by decide) ?_
    exact W.zret (v := 1) (ty := .boolean) hx hb hr rfl (fun t9 ht9 hW9 => ⟨⟨_, rfl, _, rfl, ⟨⟨by decide, by decide⟩, fun _ => (by rw [show gsd 0 = x_2 from e_3.symm]; have h9 := c_5; rw [i_le] at h9; have h8 : Int32.toInt 0 = 0 := rfl; omega)⟩⟩, ht9.trans hHe⟩) (fun _ h9 => by rw [hlc] at h9; exact absurd h9 List.not_mem_nil) dX12_isLift_14
theorem dX12_isButton_0 : decode cX12_isButton 0 = .ok (.iload_n 1, 1) := by decide +kernel
theorem dX12_isButton_1 : decode cX12_isButton 1 = .ok (.ifCond .lt 17, 3) := by decide +kernel
theorem dX12_isButton_18 : decode cX12_isButton 18 = .ok (.iconst 0, 1) := by decide +kernel
theorem dX12_isButton_19 : decode cX12_isButton 19 = .ok (.ireturn, 1) := by decide +kernel
theorem dX12_isButton_4 : decode cX12_isButton 4 = .ok (.iload_n 1, 1) := by decide +kernel
theorem dX12_isButton_5 : decode cX12_isButton 5 = .ok (.aload_n 0, 1) := by decide +kernel
theorem dX12_isButton_6 : decode cX12_isButton 6 = .ok (.getfield 39, 3) := by decide +kernel
theorem dX12_isButton_9 : decode cX12_isButton 9 = .ok (.iconst 0, 1) := by decide +kernel
theorem dX12_isButton_10 : decode cX12_isButton 10 = .ok (.iaload, 1) := by decide +kernel
theorem dX12_isButton_11 : decode cX12_isButton 11 = .ok (.if_icmp .ge 7, 3) := by decide +kernel
theorem dX12_isButton_14 : decode cX12_isButton 14 = .ok (.iconst 1, 1) := by decide +kernel
theorem dX12_isButton_15 : decode cX12_isButton 15 = .ok (.goto 4, 3) := by decide +kernel
set_option maxHeartbeats 4000000 in
set_option maxRecDepth 100000 in
theorem c_M_isButton (l : Launch) (D : va_G) (cs : Nat → ClassId) (m0 : Nat) (mtp : Nat) (sta : Int32) (sru : Int32) (msg : Nat) (mln : Nat) (mcl : Nat) (mcs : Nat) (mrd : Nat) (snx : Int32) (swr : Int32) (snu : Int32) (ste : Int32) (sma : Int32) (sde : Int32) (sli : Int32) (mop : Nat) (sod : Int32) (mst : Nat) (sto : Int32) (mwd : Nat) (msd : Nat) (sx_ : Int32) (mws : Nat) (sun : Int32) (mfr : Nat) (mqu : Nat) (miw : Nat) (sfi : Int32) (swa : Int32) (sdx : Int64) (mim : Nat) (mix : Nat) (mmd : Nat) (gsd : Nat → Int32) (b : Int32) (hsi : SI gsd) : Met l yX12_isButton (Cond.code yX12_isButton cX12_isButton 2 (some .boolean) :: TB) (RM 0 0 0) (va_Pc [.ref m0, .int b] (PRR D cs [(m0, .inr (10, (.ref mtp :: .int sta :: .int sru :: .ref msg :: .ref mln :: .ref mcl :: .ref mcs :: .ref mrd :: .int snx :: .int swr :: .int snu :: .int ste :: .int sma :: .int sde :: .int sli :: .ref mop :: .int sod :: .ref mst :: .int sto :: .ref mwd :: .ref msd :: .int sx_ :: .ref mws :: .int sun :: .ref mfr :: .ref mqu :: .ref miw :: .int sfi :: .int swa :: .long sdx :: .ref mim :: .ref mix :: .ref mmd :: []))), (msd, .inl ((cs 0), 133, .inl gsd))])) (QP (fun v => ∃ x : Int32, v = .int x ∧ Rg 0 1 x ∧ (¬ x = 0 → 0 ≤ Int32.toInt b ∧ Int32.toInt b < Int32.toInt (gsd 0)) ∧ (x = 0 → ¬ (0 ≤ Int32.toInt b ∧ Int32.toInt b < Int32.toInt (gsd 0))))) 0 0 (fun _ => False) := by
  refine MER (y := yX12_isButton) (cc := cX12_isButton) (maxL := 2) (ret := (some .boolean)) (d := 0) (D := D) (cs := cs) (ws := [(m0, .inr (10, (.ref mtp :: .int sta :: .int sru :: .ref msg :: .ref mln :: .ref mcl :: .ref mcs :: .ref mrd :: .int snx :: .int swr :: .int snu :: .int ste :: .int sma :: .int sde :: .int sli :: .ref mop :: .int sod :: .ref mst :: .int sto :: .ref mwd :: .ref msd :: .int sx_ :: .ref mws :: .int sun :: .ref mfr :: .ref mqu :: .ref miw :: .int sfi :: .int swa :: .long sdx :: .ref mim :: .ref mix :: .ref mmd :: []))), (msd, .inl ((cs 0), 133, .inl gsd))]) (av := [.ref m0, .int b]) (Qc := QP (fun v => ∃ x : Int32, v = .int x ∧ Rg 0 1 x ∧ (¬ x = 0 → 0 ≤ Int32.toInt b ∧ Int32.toInt b < Int32.toInt (gsd 0)) ∧ (x = 0 → ¬ (0 ≤ Int32.toInt b ∧ Int32.toInt b < Int32.toInt (gsd 0))))) (by decide) (Nat.le_of_ble_eq_true rfl) ?_
  intro p e s m below meth c ls H hHe hx hb hr hml hown hts hlocks hP hK hN hl
  obtain ⟨locs, hlc⟩ : ∃ z : List Loc, z = [] := ⟨_, rfl⟩
  rw [← hlc]
  have hown : s.vm.findClass "WrongHoleModel" = some m.cls := hown
  have hT : ∀ w ∈ TB, w.before ([.ref m0, .int b] : List Value).toArray s = true := fun w h => hts w (List.mem_cons_of_mem _ h)
  have hl : lv_has ls 2 [(0, .ref m0), (1, .int b)] := hl
  have hP : va_P D vwCl [(m0, .inr (10, (.ref mtp :: .int sta :: .int sru :: .ref msg :: .ref mln :: .ref mcl :: .ref mcs :: .ref mrd :: .int snx :: .int swr :: .int snu :: .int ste :: .int sma :: .int sde :: .int sli :: .ref mop :: .int sod :: .ref mst :: .int sto :: .ref mwd :: .ref msd :: .int sx_ :: .ref mws :: .int sun :: .ref mfr :: .ref mqu :: .ref miw :: .int sfi :: .int swa :: .long sdx :: .ref mim :: .ref mix :: .ref mmd :: []))), (msd, .inl ((cs 0), 133, .inl gsd))] H := hP
  refine lv_iload_n hx hb dX12_isButton_0 rfl (lv_at hl 1 rfl) ?_
  refine lv_if_lt (tgt := 18) hx hb dX12_isButton_1 (by decide) (fun c_1 => ?_) (fun c_1 => ?_)
  · have r_2 : Rg (-2147483648) (-1) b := Rg.lt_l c_1 (Rg.top b) (Rg.c (c := 0) (k := 0) rfl) (by decide)
    refine lv_iconst (v := 0) hx hb dX12_isButton_18 (by decide) ?_
    exact W.zret (v := 0) (ty := .boolean) hx hb hr rfl (fun t9 ht9 hW9 => ⟨⟨_, rfl, _, rfl, ⟨⟨by decide, by decide⟩, fun q9 => absurd rfl q9, fun _ => (fun h9 => absurd h9.1 (by have h8 := c_1; rw [i_lt] at h8; have h7 : Int32.toInt 0 = 0 := rfl; omega))⟩⟩, ht9.trans hHe⟩) (fun _ h9 => by rw [hlc] at h9; exact absurd h9 List.not_mem_nil) dX12_isButton_19
  · have r_3 : Rg 0 2147483647 b := Rg.le_r (nlt_le c_1) (Rg.c (c := 0) (k := 0) rfl) (Rg.top b) (by decide)
    refine lv_iload_n hx hb dX12_isButton_4 rfl (lv_at hl 1 rfl) ?_
    refine lv_aload_n hx hb dX12_isButton_5 rfl (lv_at hl 0 rfl) ?_
    refine va_get (D := D) (ci := 10) (v := .ref msd) (C := "WrongHoleModel") (T := TX12) (N := 33) hx hb hts (iq_RX12 _) hown hK hP 0 rfl rfl 20 (by decide) (hT _ qq_5_172) (fun _ h9 => h9) rfl dX12_isButton_6 ?_
    refine lv_iconst (v := 0) hx hb dX12_isButton_9 (by decide) ?_
    have hi_10 : vp_in 0 133 := vi_c rfl
    refine va_iald hx hb hK hP 1 0 rfl rfl hi_10 dX12_isButton_10 ?_
    refine lv_topi (fun x_11 e_12 => ?_)
    have r_13 : Rg 0 8 x_11 := Rg.of e_12 (hsi.a0)
    refine lv_icmp_ge (tgt := 18) hx hb dX12_isButton_11 (by decide) (fun c_14 => ?_) (fun c_14 => ?_)
    · refine lv_iconst (v := 0) hx hb dX12_isButton_18 (by decide) ?_
      exact W.zret (v := 0) (ty := .boolean) hx hb hr rfl (fun t9 ht9 hW9 => ⟨⟨_, rfl, _, rfl, ⟨⟨by decide, by decide⟩, fun q9 => absurd rfl q9, fun _ => (fun h9 => absurd h9.2 (by have h8 := c_14; rw [i_le] at h8; rw [show gsd 0 = x_11 from e_12.symm]; omega))⟩⟩, ht9.trans hHe⟩) (fun _ h9 => by rw [hlc] at h9; exact absurd h9 List.not_mem_nil) dX12_isButton_19
    · have r_15 : Rg 0 7 b := Rg.lt_l (nle_lt c_14) r_3 r_13 (by decide)
      have r_16 : Rg 1 8 x_11 := Rg.lt_r (nle_lt c_14) r_3 r_13 (by decide)
      refine lv_iconst (v := 1) hx hb dX12_isButton_14 (by decide) ?_
      refine lv_goto (tgt := 19) hx hb dX12_isButton_15 (by decide) ?_
      exact W.zret (v := 1) (ty := .boolean) hx hb hr rfl (fun t9 ht9 hW9 => ⟨⟨_, rfl, _, rfl, ⟨⟨by decide, by decide⟩, fun _ => ⟨by have h9 := c_1; rw [i_lt] at h9; have h8 : Int32.toInt 0 = 0 := rfl; omega, by rw [show gsd 0 = x_11 from e_12.symm]; exact (i_lt _ _).mp (nle_lt c_14)⟩, fun q9 => absurd q9 (by decide)⟩⟩, ht9.trans hHe⟩) (fun _ h9 => by rw [hlc] at h9; exact absurd h9 List.not_mem_nil) dX12_isButton_19
theorem dX12_isHole_0 : decode cX12_isHole 0 = .ok (.iload_n 1, 1) := by decide +kernel
theorem dX12_isHole_1 : decode cX12_isHole 1 = .ok (.ifCond .lt 17, 3) := by decide +kernel
theorem dX12_isHole_18 : decode cX12_isHole 18 = .ok (.iconst 0, 1) := by decide +kernel
theorem dX12_isHole_19 : decode cX12_isHole 19 = .ok (.ireturn, 1) := by decide +kernel
theorem dX12_isHole_4 : decode cX12_isHole 4 = .ok (.iload_n 1, 1) := by decide +kernel
theorem dX12_isHole_5 : decode cX12_isHole 5 = .ok (.aload_n 0, 1) := by decide +kernel
theorem dX12_isHole_6 : decode cX12_isHole 6 = .ok (.getfield 39, 3) := by decide +kernel
theorem dX12_isHole_9 : decode cX12_isHole 9 = .ok (.iconst 1, 1) := by decide +kernel
theorem dX12_isHole_10 : decode cX12_isHole 10 = .ok (.iaload, 1) := by decide +kernel
theorem dX12_isHole_11 : decode cX12_isHole 11 = .ok (.if_icmp .ge 7, 3) := by decide +kernel
theorem dX12_isHole_14 : decode cX12_isHole 14 = .ok (.iconst 1, 1) := by decide +kernel
theorem dX12_isHole_15 : decode cX12_isHole 15 = .ok (.goto 4, 3) := by decide +kernel
set_option maxHeartbeats 4000000 in
set_option maxRecDepth 100000 in
theorem c_M_isHole (l : Launch) (D : va_G) (cs : Nat → ClassId) (m0 : Nat) (mtp : Nat) (sta : Int32) (sru : Int32) (msg : Nat) (mln : Nat) (mcl : Nat) (mcs : Nat) (mrd : Nat) (snx : Int32) (swr : Int32) (snu : Int32) (ste : Int32) (sma : Int32) (sde : Int32) (sli : Int32) (mop : Nat) (sod : Int32) (mst : Nat) (sto : Int32) (mwd : Nat) (msd : Nat) (sx_ : Int32) (mws : Nat) (sun : Int32) (mfr : Nat) (mqu : Nat) (miw : Nat) (sfi : Int32) (swa : Int32) (sdx : Int64) (mim : Nat) (mix : Nat) (mmd : Nat) (gsd : Nat → Int32) (b : Int32) (hsi : SI gsd) : Met l yX12_isHole (Cond.code yX12_isHole cX12_isHole 2 (some .boolean) :: TB) (RM 0 0 0) (va_Pc [.ref m0, .int b] (PRR D cs [(m0, .inr (10, (.ref mtp :: .int sta :: .int sru :: .ref msg :: .ref mln :: .ref mcl :: .ref mcs :: .ref mrd :: .int snx :: .int swr :: .int snu :: .int ste :: .int sma :: .int sde :: .int sli :: .ref mop :: .int sod :: .ref mst :: .int sto :: .ref mwd :: .ref msd :: .int sx_ :: .ref mws :: .int sun :: .ref mfr :: .ref mqu :: .ref miw :: .int sfi :: .int swa :: .long sdx :: .ref mim :: .ref mix :: .ref mmd :: []))), (msd, .inl ((cs 0), 133, .inl gsd))])) (QP (fun v => ∃ x : Int32, v = .int x ∧ Rg 0 1 x ∧ (¬ x = 0 → 0 ≤ Int32.toInt b ∧ Int32.toInt b < Int32.toInt (gsd 1)) ∧ (x = 0 → ¬ (0 ≤ Int32.toInt b ∧ Int32.toInt b < Int32.toInt (gsd 1))))) 0 0 (fun _ => False) := by
  refine MER (y := yX12_isHole) (cc := cX12_isHole) (maxL := 2) (ret := (some .boolean)) (d := 0) (D := D) (cs := cs) (ws := [(m0, .inr (10, (.ref mtp :: .int sta :: .int sru :: .ref msg :: .ref mln :: .ref mcl :: .ref mcs :: .ref mrd :: .int snx :: .int swr :: .int snu :: .int ste :: .int sma :: .int sde :: .int sli :: .ref mop :: .int sod :: .ref mst :: .int sto :: .ref mwd :: .ref msd :: .int sx_ :: .ref mws :: .int sun :: .ref mfr :: .ref mqu :: .ref miw :: .int sfi :: .int swa :: .long sdx :: .ref mim :: .ref mix :: .ref mmd :: []))), (msd, .inl ((cs 0), 133, .inl gsd))]) (av := [.ref m0, .int b]) (Qc := QP (fun v => ∃ x : Int32, v = .int x ∧ Rg 0 1 x ∧ (¬ x = 0 → 0 ≤ Int32.toInt b ∧ Int32.toInt b < Int32.toInt (gsd 1)) ∧ (x = 0 → ¬ (0 ≤ Int32.toInt b ∧ Int32.toInt b < Int32.toInt (gsd 1))))) (by decide) (Nat.le_of_ble_eq_true rfl) ?_
  intro p e s m below meth c ls H hHe hx hb hr hml hown hts hlocks hP hK hN hl
  obtain ⟨locs, hlc⟩ : ∃ z : List Loc, z = [] := ⟨_, rfl⟩
  rw [← hlc]
  have hown : s.vm.findClass "WrongHoleModel" = some m.cls := hown
  have hT : ∀ w ∈ TB, w.before ([.ref m0, .int b] : List Value).toArray s = true := fun w h => hts w (List.mem_cons_of_mem _ h)
  have hl : lv_has ls 2 [(0, .ref m0), (1, .int b)] := hl
  have hP : va_P D vwCl [(m0, .inr (10, (.ref mtp :: .int sta :: .int sru :: .ref msg :: .ref mln :: .ref mcl :: .ref mcs :: .ref mrd :: .int snx :: .int swr :: .int snu :: .int ste :: .int sma :: .int sde :: .int sli :: .ref mop :: .int sod :: .ref mst :: .int sto :: .ref mwd :: .ref msd :: .int sx_ :: .ref mws :: .int sun :: .ref mfr :: .ref mqu :: .ref miw :: .int sfi :: .int swa :: .long sdx :: .ref mim :: .ref mix :: .ref mmd :: []))), (msd, .inl ((cs 0), 133, .inl gsd))] H := hP
  refine lv_iload_n hx hb dX12_isHole_0 rfl (lv_at hl 1 rfl) ?_
  refine lv_if_lt (tgt := 18) hx hb dX12_isHole_1 (by decide) (fun c_1 => ?_) (fun c_1 => ?_)
  · have r_2 : Rg (-2147483648) (-1) b := Rg.lt_l c_1 (Rg.top b) (Rg.c (c := 0) (k := 0) rfl) (by decide)
    refine lv_iconst (v := 0) hx hb dX12_isHole_18 (by decide) ?_
    exact W.zret (v := 0) (ty := .boolean) hx hb hr rfl (fun t9 ht9 hW9 => ⟨⟨_, rfl, _, rfl, ⟨⟨by decide, by decide⟩, fun q9 => absurd rfl q9, fun _ => (fun h9 => absurd h9.1 (by have h8 := c_1; rw [i_lt] at h8; have h7 : Int32.toInt 0 = 0 := rfl; omega))⟩⟩, ht9.trans hHe⟩) (fun _ h9 => by rw [hlc] at h9; exact absurd h9 List.not_mem_nil) dX12_isHole_19
  · have r_3 : Rg 0 2147483647 b := Rg.le_r (nlt_le c_1) (Rg.c (c := 0) (k := 0) rfl) (Rg.top b) (by decide)
    refine lv_iload_n hx hb dX12_isHole_4 rfl (lv_at hl 1 rfl) ?_
    refine lv_aload_n hx hb dX12_isHole_5 rfl (lv_at hl 0 rfl) ?_
    refine va_get (D := D) (ci := 10) (v := .ref msd) (C := "WrongHoleModel") (T := TX12) (N := 33) hx hb hts (iq_RX12 _) hown hK hP 0 rfl rfl 20 (by decide) (hT _ qq_5_172) (fun _ h9 => h9) rfl dX12_isHole_6 ?_
    refine lv_iconst (v := 1) hx hb dX12_isHole_9 (by decide) ?_
    have hi_10 : vp_in 1 133 := vi_c rfl
    refine va_iald hx hb hK hP 1 0 rfl rfl hi_10 dX12_isHole_10 ?_
    refine lv_topi (fun x_11 e_12 => ?_)
    have r_13 : Rg 0 8 x_11 := Rg.of e_12 (hsi.a1)
    refine lv_icmp_ge (tgt := 18) hx hb dX12_isHole_11 (by decide) (fun c_14 => ?_) (fun c_14 => ?_)
    · refine lv_iconst (v := 0) hx hb dX12_isHole_18 (by decide) ?_
      exact W.zret (v := 0) (ty := .boolean) hx hb hr rfl (fun t9 ht9 hW9 => ⟨⟨_, rfl, _, rfl, ⟨⟨by decide, by decide⟩, fun q9 => absurd rfl q9, fun _ => (fun h9 => absurd h9.2 (by have h8 := c_14; rw [i_le] at h8; rw [show gsd 1 = x_11 from e_12.symm]; omega))⟩⟩, ht9.trans hHe⟩) (fun _ h9 => by rw [hlc] at h9; exact absurd h9 List.not_mem_nil) dX12_isHole_19
    · have r_15 : Rg 0 7 b := Rg.lt_l (nle_lt c_14) r_3 r_13 (by decide)
      have r_16 : Rg 1 8 x_11 := Rg.lt_r (nle_lt c_14) r_3 r_13 (by decide)
      refine lv_iconst (v := 1) hx hb dX12_isHole_14 (by decide) ?_
      refine lv_goto (tgt := 19) hx hb dX12_isHole_15 (by decide) ?_
      exact W.zret (v := 1) (ty := .boolean) hx hb hr rfl (fun t9 ht9 hW9 => ⟨⟨_, rfl, _, rfl, ⟨⟨by decide, by decide⟩, fun _ => ⟨by have h9 := c_1; rw [i_lt] at h9; have h8 : Int32.toInt 0 = 0 := rfl; omega, by rw [show gsd 1 = x_11 from e_12.symm]; exact (i_lt _ _).mp (nle_lt c_14)⟩, fun q9 => absurd q9 (by decide)⟩⟩, ht9.trans hHe⟩) (fun _ h9 => by rw [hlc] at h9; exact absurd h9 List.not_mem_nil) dX12_isHole_19
theorem dX12_buttonOf_0 : decode cX12_buttonOf 0 = .ok (.aload_n 0, 1) := by decide +kernel
theorem dX12_buttonOf_1 : decode cX12_buttonOf 1 = .ok (.getfield 39, 3) := by decide +kernel
theorem dX12_buttonOf_4 : decode cX12_buttonOf 4 = .ok (.bipush 18, 2) := by decide +kernel
theorem dX12_buttonOf_6 : decode cX12_buttonOf 6 = .ok (.iconst 5, 1) := by decide +kernel
theorem dX12_buttonOf_7 : decode cX12_buttonOf 7 = .ok (.iload_n 1, 1) := by decide +kernel
theorem dX12_buttonOf_8 : decode cX12_buttonOf 8 = .ok (.imul, 1) := by decide +kernel
theorem dX12_buttonOf_9 : decode cX12_buttonOf 9 = .ok (.iadd, 1) := by decide +kernel
theorem dX12_buttonOf_10 : decode cX12_buttonOf 10 = .ok (.iload_n 2, 1) := by decide +kernel
theorem dX12_buttonOf_11 : decode cX12_buttonOf 11 = .ok (.iadd, 1) := by decide +kernel
theorem dX12_buttonOf_12 : decode cX12_buttonOf 12 = .ok (.iaload, 1) := by decide +kernel
theorem dX12_buttonOf_13 : decode cX12_buttonOf 13 = .ok (.ireturn, 1) := by decide +kernel
set_option maxHeartbeats 4000000 in
set_option maxRecDepth 100000 in
theorem c_M_buttonOf_0 (l : Launch) (D : va_G) (cs : Nat → ClassId) (m0 : Nat) (mtp : Nat) (sta : Int32) (sru : Int32) (msg : Nat) (mln : Nat) (mcl : Nat) (mcs : Nat) (mrd : Nat) (snx : Int32) (swr : Int32) (snu : Int32) (ste : Int32) (sma : Int32) (sde : Int32) (sli : Int32) (mop : Nat) (sod : Int32) (mst : Nat) (sto : Int32) (mwd : Nat) (msd : Nat) (sx_ : Int32) (mws : Nat) (sun : Int32) (mfr : Nat) (mqu : Nat) (miw : Nat) (sfi : Int32) (swa : Int32) (sdx : Int64) (mim : Nat) (mix : Nat) (mmd : Nat) (gsd : Nat → Int32) (b : Int32) (hsi : SI gsd) (r_b : Rg 0 7 b) : Met l yX12_buttonOf (Cond.code yX12_buttonOf cX12_buttonOf 3 (some .int) :: TB) (RM 0 0 0) (va_Pc [.ref m0, .int b, .int 0] (PRR D cs [(m0, .inr (10, (.ref mtp :: .int sta :: .int sru :: .ref msg :: .ref mln :: .ref mcl :: .ref mcs :: .ref mrd :: .int snx :: .int swr :: .int snu :: .int ste :: .int sma :: .int sde :: .int sli :: .ref mop :: .int sod :: .ref mst :: .int sto :: .ref mwd :: .ref msd :: .int sx_ :: .ref mws :: .int sun :: .ref mfr :: .ref mqu :: .ref miw :: .int sfi :: .int swa :: .long sdx :: .ref mim :: .ref mix :: .ref mmd :: []))), (msd, .inl ((cs 0), 133, .inl gsd))])) (k2_QcV (.int (gsd (18 + 5 * cN b + 0)))) 0 0 (fun _ => False) := by
  refine MER (y := yX12_buttonOf) (cc := cX12_buttonOf) (maxL := 3) (ret := (some .int)) (d := 0) (D := D) (cs := cs) (ws := [(m0, .inr (10, (.ref mtp :: .int sta :: .int sru :: .ref msg :: .ref mln :: .ref mcl :: .ref mcs :: .ref mrd :: .int snx :: .int swr :: .int snu :: .int ste :: .int sma :: .int sde :: .int sli :: .ref mop :: .int sod :: .ref mst :: .int sto :: .ref mwd :: .ref msd :: .int sx_ :: .ref mws :: .int sun :: .ref mfr :: .ref mqu :: .ref miw :: .int sfi :: .int swa :: .long sdx :: .ref mim :: .ref mix :: .ref mmd :: []))), (msd, .inl ((cs 0), 133, .inl gsd))]) (av := [.ref m0, .int b, .int 0]) (Qc := k2_QcV (.int (gsd (18 + 5 * cN b + 0)))) (by decide) (Nat.le_of_ble_eq_true rfl) ?_
  intro p e s m below meth c ls H hHe hx hb hr hml hown hts hlocks hP hK hN hl
  obtain ⟨locs, hlc⟩ : ∃ z : List Loc, z = [] := ⟨_, rfl⟩
  rw [← hlc]
  have hown : s.vm.findClass "WrongHoleModel" = some m.cls := hown
  have hT : ∀ w ∈ TB, w.before ([.ref m0, .int b, .int 0] : List Value).toArray s = true := fun w h => hts w (List.mem_cons_of_mem _ h)
  have hl : lv_has ls 3 [(0, .ref m0), (1, .int b), (2, .int 0)] := hl
  have hP : va_P D vwCl [(m0, .inr (10, (.ref mtp :: .int sta :: .int sru :: .ref msg :: .ref mln :: .ref mcl :: .ref mcs :: .ref mrd :: .int snx :: .int swr :: .int snu :: .int ste :: .int sma :: .int sde :: .int sli :: .ref mop :: .int sod :: .ref mst :: .int sto :: .ref mwd :: .ref msd :: .int sx_ :: .ref mws :: .int sun :: .ref mfr :: .ref mqu :: .ref miw :: .int sfi :: .int swa :: .long sdx :: .ref mim :: .ref mix :: .ref mmd :: []))), (msd, .inl ((cs 0), 133, .inl gsd))] H := hP
  refine lv_aload_n hx hb dX12_buttonOf_0 rfl (lv_at hl 0 rfl) ?_
  refine va_get (D := D) (ci := 10) (v := .ref msd) (C := "WrongHoleModel") (T := TX12) (N := 33) hx hb hts (iq_RX12 _) hown hK hP 0 rfl rfl 20 (by decide) (hT _ qq_5_172) (fun _ h9 => h9) rfl dX12_buttonOf_1 ?_
  refine lv_bipush (v := 18) hx hb dX12_buttonOf_4 (by decide) ?_
  refine lv_iconst (v := 5) hx hb dX12_buttonOf_6 (by decide) ?_
  refine lv_iload_n hx hb dX12_buttonOf_7 rfl (lv_at hl 1 rfl) ?_
  refine lv_imul hx hb dX12_buttonOf_8 ?_
  refine lv_topi (fun x_1 e_2 => ?_)
  have r_3 : Rg 0 35 x_1 := Rg.mul (ha := 5) (hb := 7) e_2 (Rg.wk (lo2 := 0) (hi2 := 5) (Rg.c (c := 5) (k := 5) rfl) (by decide)) r_b (by decide)
  refine lv_iadd hx hb dX12_buttonOf_9 ?_
  refine lv_topi (fun x_4 e_5 => ?_)
  have r_6 : Rg 18 53 x_4 := Rg.add e_5 (Rg.c (c := 18) (k := 18) rfl) r_3 (by decide)
  refine lv_iload_n hx hb dX12_buttonOf_10 rfl (lv_at hl 2 rfl) ?_
  refine lv_iadd hx hb dX12_buttonOf_11 ?_
  refine lv_topi (fun x_7 e_8 => ?_)
  have r_9 : Rg 18 53 x_7 := Rg.add e_8 r_6 (Rg.c (c := 0) (k := 0) rfl) (by decide)
  have hi_10 : vp_in x_7 133 := Rg.in r_9 (by decide)
  refine va_iald hx hb hK hP 1 0 rfl rfl hi_10 dX12_buttonOf_12 ?_
  refine lv_topi (fun x_11 e_12 => ?_)
  exact W.iret (v := x_11) hx hb hr (fun t9 ht9 hW9 => ⟨by rw [show (.int (gsd (18 + 5 * cN b + 0)) : Value) = .int x_11 from (congrArg Value.int (show gsd (18 + 5 * cN b + 0) = x_11 from by rw [e_12, show Int32.toNatClampNeg x_7 = 18 + 5 * cN b + 0 from ix5 (w := 0) (c := 18) (k := 0) r_b rfl (by decide) rfl (by decide) e_2 e_5 e_8]))], ht9.trans hHe⟩) (fun _ h9 => by rw [hlc] at h9; exact absurd h9 List.not_mem_nil) dX12_buttonOf_13
set_option maxHeartbeats 4000000 in
set_option maxRecDepth 100000 in
theorem c_M_buttonOf_1 (l : Launch) (D : va_G) (cs : Nat → ClassId) (m0 : Nat) (mtp : Nat) (sta : Int32) (sru : Int32) (msg : Nat) (mln : Nat) (mcl : Nat) (mcs : Nat) (mrd : Nat) (snx : Int32) (swr : Int32) (snu : Int32) (ste : Int32) (sma : Int32) (sde : Int32) (sli : Int32) (mop : Nat) (sod : Int32) (mst : Nat) (sto : Int32) (mwd : Nat) (msd : Nat) (sx_ : Int32) (mws : Nat) (sun : Int32) (mfr : Nat) (mqu : Nat) (miw : Nat) (sfi : Int32) (swa : Int32) (sdx : Int64) (mim : Nat) (mix : Nat) (mmd : Nat) (gsd : Nat → Int32) (b : Int32) (hsi : SI gsd) (r_b : Rg 0 7 b) : Met l yX12_buttonOf (Cond.code yX12_buttonOf cX12_buttonOf 3 (some .int) :: TB) (RM 0 0 0) (va_Pc [.ref m0, .int b, .int 1] (PRR D cs [(m0, .inr (10, (.ref mtp :: .int sta :: .int sru :: .ref msg :: .ref mln :: .ref mcl :: .ref mcs :: .ref mrd :: .int snx :: .int swr :: .int snu :: .int ste :: .int sma :: .int sde :: .int sli :: .ref mop :: .int sod :: .ref mst :: .int sto :: .ref mwd :: .ref msd :: .int sx_ :: .ref mws :: .int sun :: .ref mfr :: .ref mqu :: .ref miw :: .int sfi :: .int swa :: .long sdx :: .ref mim :: .ref mix :: .ref mmd :: []))), (msd, .inl ((cs 0), 133, .inl gsd))])) (k2_QcV (.int (gsd (18 + 5 * cN b + 1)))) 0 0 (fun _ => False) := by
  refine MER (y := yX12_buttonOf) (cc := cX12_buttonOf) (maxL := 3) (ret := (some .int)) (d := 0) (D := D) (cs := cs) (ws := [(m0, .inr (10, (.ref mtp :: .int sta :: .int sru :: .ref msg :: .ref mln :: .ref mcl :: .ref mcs :: .ref mrd :: .int snx :: .int swr :: .int snu :: .int ste :: .int sma :: .int sde :: .int sli :: .ref mop :: .int sod :: .ref mst :: .int sto :: .ref mwd :: .ref msd :: .int sx_ :: .ref mws :: .int sun :: .ref mfr :: .ref mqu :: .ref miw :: .int sfi :: .int swa :: .long sdx :: .ref mim :: .ref mix :: .ref mmd :: []))), (msd, .inl ((cs 0), 133, .inl gsd))]) (av := [.ref m0, .int b, .int 1]) (Qc := k2_QcV (.int (gsd (18 + 5 * cN b + 1)))) (by decide) (Nat.le_of_ble_eq_true rfl) ?_
  intro p e s m below meth c ls H hHe hx hb hr hml hown hts hlocks hP hK hN hl
  obtain ⟨locs, hlc⟩ : ∃ z : List Loc, z = [] := ⟨_, rfl⟩
  rw [← hlc]
  have hown : s.vm.findClass "WrongHoleModel" = some m.cls := hown
  have hT : ∀ w ∈ TB, w.before ([.ref m0, .int b, .int 1] : List Value).toArray s = true := fun w h => hts w (List.mem_cons_of_mem _ h)
  have hl : lv_has ls 3 [(0, .ref m0), (1, .int b), (2, .int 1)] := hl
  have hP : va_P D vwCl [(m0, .inr (10, (.ref mtp :: .int sta :: .int sru :: .ref msg :: .ref mln :: .ref mcl :: .ref mcs :: .ref mrd :: .int snx :: .int swr :: .int snu :: .int ste :: .int sma :: .int sde :: .int sli :: .ref mop :: .int sod :: .ref mst :: .int sto :: .ref mwd :: .ref msd :: .int sx_ :: .ref mws :: .int sun :: .ref mfr :: .ref mqu :: .ref miw :: .int sfi :: .int swa :: .long sdx :: .ref mim :: .ref mix :: .ref mmd :: []))), (msd, .inl ((cs 0), 133, .inl gsd))] H := hP
  refine lv_aload_n hx hb dX12_buttonOf_0 rfl (lv_at hl 0 rfl) ?_
  refine va_get (D := D) (ci := 10) (v := .ref msd) (C := "WrongHoleModel") (T := TX12) (N := 33) hx hb hts (iq_RX12 _) hown hK hP 0 rfl rfl 20 (by decide) (hT _ qq_5_172) (fun _ h9 => h9) rfl dX12_buttonOf_1 ?_
  refine lv_bipush (v := 18) hx hb dX12_buttonOf_4 (by decide) ?_
  refine lv_iconst (v := 5) hx hb dX12_buttonOf_6 (by decide) ?_
  refine lv_iload_n hx hb dX12_buttonOf_7 rfl (lv_at hl 1 rfl) ?_
  refine lv_imul hx hb dX12_buttonOf_8 ?_
  refine lv_topi (fun x_1 e_2 => ?_)
  have r_3 : Rg 0 35 x_1 := Rg.mul (ha := 5) (hb := 7) e_2 (Rg.wk (lo2 := 0) (hi2 := 5) (Rg.c (c := 5) (k := 5) rfl) (by decide)) r_b (by decide)
  refine lv_iadd hx hb dX12_buttonOf_9 ?_
  refine lv_topi (fun x_4 e_5 => ?_)
  have r_6 : Rg 18 53 x_4 := Rg.add e_5 (Rg.c (c := 18) (k := 18) rfl) r_3 (by decide)
  refine lv_iload_n hx hb dX12_buttonOf_10 rfl (lv_at hl 2 rfl) ?_
  refine lv_iadd hx hb dX12_buttonOf_11 ?_
  refine lv_topi (fun x_7 e_8 => ?_)
  have r_9 : Rg 19 54 x_7 := Rg.add e_8 r_6 (Rg.c (c := 1) (k := 1) rfl) (by decide)
  have hi_10 : vp_in x_7 133 := Rg.in r_9 (by decide)
  refine va_iald hx hb hK hP 1 0 rfl rfl hi_10 dX12_buttonOf_12 ?_
  refine lv_topi (fun x_11 e_12 => ?_)
  exact W.iret (v := x_11) hx hb hr (fun t9 ht9 hW9 => ⟨by rw [show (.int (gsd (18 + 5 * cN b + 1)) : Value) = .int x_11 from (congrArg Value.int (show gsd (18 + 5 * cN b + 1) = x_11 from by rw [e_12, show Int32.toNatClampNeg x_7 = 18 + 5 * cN b + 1 from ix5 (w := 0) (c := 18) (k := 1) r_b rfl (by decide) rfl (by decide) e_2 e_5 e_8]))], ht9.trans hHe⟩) (fun _ h9 => by rw [hlc] at h9; exact absurd h9 List.not_mem_nil) dX12_buttonOf_13
set_option maxHeartbeats 4000000 in
set_option maxRecDepth 100000 in
theorem c_M_buttonOf_2 (l : Launch) (D : va_G) (cs : Nat → ClassId) (m0 : Nat) (mtp : Nat) (sta : Int32) (sru : Int32) (msg : Nat) (mln : Nat) (mcl : Nat) (mcs : Nat) (mrd : Nat) (snx : Int32) (swr : Int32) (snu : Int32) (ste : Int32) (sma : Int32) (sde : Int32) (sli : Int32) (mop : Nat) (sod : Int32) (mst : Nat) (sto : Int32) (mwd : Nat) (msd : Nat) (sx_ : Int32) (mws : Nat) (sun : Int32) (mfr : Nat) (mqu : Nat) (miw : Nat) (sfi : Int32) (swa : Int32) (sdx : Int64) (mim : Nat) (mix : Nat) (mmd : Nat) (gsd : Nat → Int32) (b : Int32) (hsi : SI gsd) (r_b : Rg 0 7 b) : Met l yX12_buttonOf (Cond.code yX12_buttonOf cX12_buttonOf 3 (some .int) :: TB) (RM 0 0 0) (va_Pc [.ref m0, .int b, .int 2] (PRR D cs [(m0, .inr (10, (.ref mtp :: .int sta :: .int sru :: .ref msg :: .ref mln :: .ref mcl :: .ref mcs :: .ref mrd :: .int snx :: .int swr :: .int snu :: .int ste :: .int sma :: .int sde :: .int sli :: .ref mop :: .int sod :: .ref mst :: .int sto :: .ref mwd :: .ref msd :: .int sx_ :: .ref mws :: .int sun :: .ref mfr :: .ref mqu :: .ref miw :: .int sfi :: .int swa :: .long sdx :: .ref mim :: .ref mix :: .ref mmd :: []))), (msd, .inl ((cs 0), 133, .inl gsd))])) (k2_QcV (.int (gsd (18 + 5 * cN b + 2)))) 0 0 (fun _ => False) := by
  refine MER (y := yX12_buttonOf) (cc := cX12_buttonOf) (maxL := 3) (ret := (some .int)) (d := 0) (D := D) (cs := cs) (ws := [(m0, .inr (10, (.ref mtp :: .int sta :: .int sru :: .ref msg :: .ref mln :: .ref mcl :: .ref mcs :: .ref mrd :: .int snx :: .int swr :: .int snu :: .int ste :: .int sma :: .int sde :: .int sli :: .ref mop :: .int sod :: .ref mst :: .int sto :: .ref mwd :: .ref msd :: .int sx_ :: .ref mws :: .int sun :: .ref mfr :: .ref mqu :: .ref miw :: .int sfi :: .int swa :: .long sdx :: .ref mim :: .ref mix :: .ref mmd :: []))), (msd, .inl ((cs 0), 133, .inl gsd))]) (av := [.ref m0, .int b, .int 2]) (Qc := k2_QcV (.int (gsd (18 + 5 * cN b + 2)))) (by decide) (Nat.le_of_ble_eq_true rfl) ?_
  intro p e s m below meth c ls H hHe hx hb hr hml hown hts hlocks hP hK hN hl
  obtain ⟨locs, hlc⟩ : ∃ z : List Loc, z = [] := ⟨_, rfl⟩
  rw [← hlc]
  have hown : s.vm.findClass "WrongHoleModel" = some m.cls := hown
  have hT : ∀ w ∈ TB, w.before ([.ref m0, .int b, .int 2] : List Value).toArray s = true := fun w h => hts w (List.mem_cons_of_mem _ h)
  have hl : lv_has ls 3 [(0, .ref m0), (1, .int b), (2, .int 2)] := hl
  have hP : va_P D vwCl [(m0, .inr (10, (.ref mtp :: .int sta :: .int sru :: .ref msg :: .ref mln :: .ref mcl :: .ref mcs :: .ref mrd :: .int snx :: .int swr :: .int snu :: .int ste :: .int sma :: .int sde :: .int sli :: .ref mop :: .int sod :: .ref mst :: .int sto :: .ref mwd :: .ref msd :: .int sx_ :: .ref mws :: .int sun :: .ref mfr :: .ref mqu :: .ref miw :: .int sfi :: .int swa :: .long sdx :: .ref mim :: .ref mix :: .ref mmd :: []))), (msd, .inl ((cs 0), 133, .inl gsd))] H := hP
  refine lv_aload_n hx hb dX12_buttonOf_0 rfl (lv_at hl 0 rfl) ?_
  refine va_get (D := D) (ci := 10) (v := .ref msd) (C := "WrongHoleModel") (T := TX12) (N := 33) hx hb hts (iq_RX12 _) hown hK hP 0 rfl rfl 20 (by decide) (hT _ qq_5_172) (fun _ h9 => h9) rfl dX12_buttonOf_1 ?_
  refine lv_bipush (v := 18) hx hb dX12_buttonOf_4 (by decide) ?_
  refine lv_iconst (v := 5) hx hb dX12_buttonOf_6 (by decide) ?_
  refine lv_iload_n hx hb dX12_buttonOf_7 rfl (lv_at hl 1 rfl) ?_
  refine lv_imul hx hb dX12_buttonOf_8 ?_
  refine lv_topi (fun x_1 e_2 => ?_)
  have r_3 : Rg 0 35 x_1 := Rg.mul (ha := 5) (hb := 7) e_2 (Rg.wk (lo2 := 0) (hi2 := 5) (Rg.c (c := 5) (k := 5) rfl) (by decide)) r_b (by decide)
  refine lv_iadd hx hb dX12_buttonOf_9 ?_
  refine lv_topi (fun x_4 e_5 => ?_)
  have r_6 : Rg 18 53 x_4 := Rg.add e_5 (Rg.c (c := 18) (k := 18) rfl) r_3 (by decide)
  refine lv_iload_n hx hb dX12_buttonOf_10 rfl (lv_at hl 2 rfl) ?_
  refine lv_iadd hx hb dX12_buttonOf_11 ?_
  refine lv_topi (fun x_7 e_8 => ?_)
  have r_9 : Rg 20 55 x_7 := Rg.add e_8 r_6 (Rg.c (c := 2) (k := 2) rfl) (by decide)
  have hi_10 : vp_in x_7 133 := Rg.in r_9 (by decide)
  refine va_iald hx hb hK hP 1 0 rfl rfl hi_10 dX12_buttonOf_12 ?_
  refine lv_topi (fun x_11 e_12 => ?_)
  exact W.iret (v := x_11) hx hb hr (fun t9 ht9 hW9 => ⟨by rw [show (.int (gsd (18 + 5 * cN b + 2)) : Value) = .int x_11 from (congrArg Value.int (show gsd (18 + 5 * cN b + 2) = x_11 from by rw [e_12, show Int32.toNatClampNeg x_7 = 18 + 5 * cN b + 2 from ix5 (w := 0) (c := 18) (k := 2) r_b rfl (by decide) rfl (by decide) e_2 e_5 e_8]))], ht9.trans hHe⟩) (fun _ h9 => by rw [hlc] at h9; exact absurd h9 List.not_mem_nil) dX12_buttonOf_13
set_option maxHeartbeats 4000000 in
set_option maxRecDepth 100000 in
theorem c_M_buttonOf_3 (l : Launch) (D : va_G) (cs : Nat → ClassId) (m0 : Nat) (mtp : Nat) (sta : Int32) (sru : Int32) (msg : Nat) (mln : Nat) (mcl : Nat) (mcs : Nat) (mrd : Nat) (snx : Int32) (swr : Int32) (snu : Int32) (ste : Int32) (sma : Int32) (sde : Int32) (sli : Int32) (mop : Nat) (sod : Int32) (mst : Nat) (sto : Int32) (mwd : Nat) (msd : Nat) (sx_ : Int32) (mws : Nat) (sun : Int32) (mfr : Nat) (mqu : Nat) (miw : Nat) (sfi : Int32) (swa : Int32) (sdx : Int64) (mim : Nat) (mix : Nat) (mmd : Nat) (gsd : Nat → Int32) (b : Int32) (hsi : SI gsd) (r_b : Rg 0 7 b) : Met l yX12_buttonOf (Cond.code yX12_buttonOf cX12_buttonOf 3 (some .int) :: TB) (RM 0 0 0) (va_Pc [.ref m0, .int b, .int 3] (PRR D cs [(m0, .inr (10, (.ref mtp :: .int sta :: .int sru :: .ref msg :: .ref mln :: .ref mcl :: .ref mcs :: .ref mrd :: .int snx :: .int swr :: .int snu :: .int ste :: .int sma :: .int sde :: .int sli :: .ref mop :: .int sod :: .ref mst :: .int sto :: .ref mwd :: .ref msd :: .int sx_ :: .ref mws :: .int sun :: .ref mfr :: .ref mqu :: .ref miw :: .int sfi :: .int swa :: .long sdx :: .ref mim :: .ref mix :: .ref mmd :: []))), (msd, .inl ((cs 0), 133, .inl gsd))])) (k2_QcV (.int (gsd (18 + 5 * cN b + 3)))) 0 0 (fun _ => False) := by
  refine MER (y := yX12_buttonOf) (cc := cX12_buttonOf) (maxL := 3) (ret := (some .int)) (d := 0) (D := D) (cs := cs) (ws := [(m0, .inr (10, (.ref mtp :: .int sta :: .int sru :: .ref msg :: .ref mln :: .ref mcl :: .ref mcs :: .ref mrd :: .int snx :: .int swr :: .int snu :: .int ste :: .int sma :: .int sde :: .int sli :: .ref mop :: .int sod :: .ref mst :: .int sto :: .ref mwd :: .ref msd :: .int sx_ :: .ref mws :: .int sun :: .ref mfr :: .ref mqu :: .ref miw :: .int sfi :: .int swa :: .long sdx :: .ref mim :: .ref mix :: .ref mmd :: []))), (msd, .inl ((cs 0), 133, .inl gsd))]) (av := [.ref m0, .int b, .int 3]) (Qc := k2_QcV (.int (gsd (18 + 5 * cN b + 3)))) (by decide) (Nat.le_of_ble_eq_true rfl) ?_
  intro p e s m below meth c ls H hHe hx hb hr hml hown hts hlocks hP hK hN hl
  obtain ⟨locs, hlc⟩ : ∃ z : List Loc, z = [] := ⟨_, rfl⟩
  rw [← hlc]
  have hown : s.vm.findClass "WrongHoleModel" = some m.cls := hown
  have hT : ∀ w ∈ TB, w.before ([.ref m0, .int b, .int 3] : List Value).toArray s = true := fun w h => hts w (List.mem_cons_of_mem _ h)
  have hl : lv_has ls 3 [(0, .ref m0), (1, .int b), (2, .int 3)] := hl
  have hP : va_P D vwCl [(m0, .inr (10, (.ref mtp :: .int sta :: .int sru :: .ref msg :: .ref mln :: .ref mcl :: .ref mcs :: .ref mrd :: .int snx :: .int swr :: .int snu :: .int ste :: .int sma :: .int sde :: .int sli :: .ref mop :: .int sod :: .ref mst :: .int sto :: .ref mwd :: .ref msd :: .int sx_ :: .ref mws :: .int sun :: .ref mfr :: .ref mqu :: .ref miw :: .int sfi :: .int swa :: .long sdx :: .ref mim :: .ref mix :: .ref mmd :: []))), (msd, .inl ((cs 0), 133, .inl gsd))] H := hP
  refine lv_aload_n hx hb dX12_buttonOf_0 rfl (lv_at hl 0 rfl) ?_
  refine va_get (D := D) (ci := 10) (v := .ref msd) (C := "WrongHoleModel") (T := TX12) (N := 33) hx hb hts (iq_RX12 _) hown hK hP 0 rfl rfl 20 (by decide) (hT _ qq_5_172) (fun _ h9 => h9) rfl dX12_buttonOf_1 ?_
  refine lv_bipush (v := 18) hx hb dX12_buttonOf_4 (by decide) ?_
  refine lv_iconst (v := 5) hx hb dX12_buttonOf_6 (by decide) ?_
  refine lv_iload_n hx hb dX12_buttonOf_7 rfl (lv_at hl 1 rfl) ?_
  refine lv_imul hx hb dX12_buttonOf_8 ?_
  refine lv_topi (fun x_1 e_2 => ?_)
  have r_3 : Rg 0 35 x_1 := Rg.mul (ha := 5) (hb := 7) e_2 (Rg.wk (lo2 := 0) (hi2 := 5) (Rg.c (c := 5) (k := 5) rfl) (by decide)) r_b (by decide)
  refine lv_iadd hx hb dX12_buttonOf_9 ?_
  refine lv_topi (fun x_4 e_5 => ?_)
  have r_6 : Rg 18 53 x_4 := Rg.add e_5 (Rg.c (c := 18) (k := 18) rfl) r_3 (by decide)
  refine lv_iload_n hx hb dX12_buttonOf_10 rfl (lv_at hl 2 rfl) ?_
  refine lv_iadd hx hb dX12_buttonOf_11 ?_
  refine lv_topi (fun x_7 e_8 => ?_)
  have r_9 : Rg 21 56 x_7 := Rg.add e_8 r_6 (Rg.c (c := 3) (k := 3) rfl) (by decide)
  have hi_10 : vp_in x_7 133 := Rg.in r_9 (by decide)
  refine va_iald hx hb hK hP 1 0 rfl rfl hi_10 dX12_buttonOf_12 ?_
  refine lv_topi (fun x_11 e_12 => ?_)
  exact W.iret (v := x_11) hx hb hr (fun t9 ht9 hW9 => ⟨by rw [show (.int (gsd (18 + 5 * cN b + 3)) : Value) = .int x_11 from (congrArg Value.int (show gsd (18 + 5 * cN b + 3) = x_11 from by rw [e_12, show Int32.toNatClampNeg x_7 = 18 + 5 * cN b + 3 from ix5 (w := 0) (c := 18) (k := 3) r_b rfl (by decide) rfl (by decide) e_2 e_5 e_8]))], ht9.trans hHe⟩) (fun _ h9 => by rw [hlc] at h9; exact absurd h9 List.not_mem_nil) dX12_buttonOf_13
set_option maxHeartbeats 4000000 in
set_option maxRecDepth 100000 in
theorem c_M_buttonOf_4 (l : Launch) (D : va_G) (cs : Nat → ClassId) (m0 : Nat) (mtp : Nat) (sta : Int32) (sru : Int32) (msg : Nat) (mln : Nat) (mcl : Nat) (mcs : Nat) (mrd : Nat) (snx : Int32) (swr : Int32) (snu : Int32) (ste : Int32) (sma : Int32) (sde : Int32) (sli : Int32) (mop : Nat) (sod : Int32) (mst : Nat) (sto : Int32) (mwd : Nat) (msd : Nat) (sx_ : Int32) (mws : Nat) (sun : Int32) (mfr : Nat) (mqu : Nat) (miw : Nat) (sfi : Int32) (swa : Int32) (sdx : Int64) (mim : Nat) (mix : Nat) (mmd : Nat) (gsd : Nat → Int32) (b : Int32) (hsi : SI gsd) (r_b : Rg 0 7 b) : Met l yX12_buttonOf (Cond.code yX12_buttonOf cX12_buttonOf 3 (some .int) :: TB) (RM 0 0 0) (va_Pc [.ref m0, .int b, .int 4] (PRR D cs [(m0, .inr (10, (.ref mtp :: .int sta :: .int sru :: .ref msg :: .ref mln :: .ref mcl :: .ref mcs :: .ref mrd :: .int snx :: .int swr :: .int snu :: .int ste :: .int sma :: .int sde :: .int sli :: .ref mop :: .int sod :: .ref mst :: .int sto :: .ref mwd :: .ref msd :: .int sx_ :: .ref mws :: .int sun :: .ref mfr :: .ref mqu :: .ref miw :: .int sfi :: .int swa :: .long sdx :: .ref mim :: .ref mix :: .ref mmd :: []))), (msd, .inl ((cs 0), 133, .inl gsd))])) (k2_QcV (.int (gsd (18 + 5 * cN b + 4)))) 0 0 (fun _ => False) := by
  refine MER (y := yX12_buttonOf) (cc := cX12_buttonOf) (maxL := 3) (ret := (some .int)) (d := 0) (D := D) (cs := cs) (ws := [(m0, .inr (10, (.ref mtp :: .int sta :: .int sru :: .ref msg :: .ref mln :: .ref mcl :: .ref mcs :: .ref mrd :: .int snx :: .int swr :: .int snu :: .int ste :: .int sma :: .int sde :: .int sli :: .ref mop :: .int sod :: .ref mst :: .int sto :: .ref mwd :: .ref msd :: .int sx_ :: .ref mws :: .int sun :: .ref mfr :: .ref mqu :: .ref miw :: .int sfi :: .int swa :: .long sdx :: .ref mim :: .ref mix :: .ref mmd :: []))), (msd, .inl ((cs 0), 133, .inl gsd))]) (av := [.ref m0, .int b, .int 4]) (Qc := k2_QcV (.int (gsd (18 + 5 * cN b + 4)))) (by decide) (Nat.le_of_ble_eq_true rfl) ?_
  intro p e s m below meth c ls H hHe hx hb hr hml hown hts hlocks hP hK hN hl
  obtain ⟨locs, hlc⟩ : ∃ z : List Loc, z = [] := ⟨_, rfl⟩
  rw [← hlc]
  have hown : s.vm.findClass "WrongHoleModel" = some m.cls := hown
  have hT : ∀ w ∈ TB, w.before ([.ref m0, .int b, .int 4] : List Value).toArray s = true := fun w h => hts w (List.mem_cons_of_mem _ h)
  have hl : lv_has ls 3 [(0, .ref m0), (1, .int b), (2, .int 4)] := hl
  have hP : va_P D vwCl [(m0, .inr (10, (.ref mtp :: .int sta :: .int sru :: .ref msg :: .ref mln :: .ref mcl :: .ref mcs :: .ref mrd :: .int snx :: .int swr :: .int snu :: .int ste :: .int sma :: .int sde :: .int sli :: .ref mop :: .int sod :: .ref mst :: .int sto :: .ref mwd :: .ref msd :: .int sx_ :: .ref mws :: .int sun :: .ref mfr :: .ref mqu :: .ref miw :: .int sfi :: .int swa :: .long sdx :: .ref mim :: .ref mix :: .ref mmd :: []))), (msd, .inl ((cs 0), 133, .inl gsd))] H := hP
  refine lv_aload_n hx hb dX12_buttonOf_0 rfl (lv_at hl 0 rfl) ?_
  refine va_get (D := D) (ci := 10) (v := .ref msd) (C := "WrongHoleModel") (T := TX12) (N := 33) hx hb hts (iq_RX12 _) hown hK hP 0 rfl rfl 20 (by decide) (hT _ qq_5_172) (fun _ h9 => h9) rfl dX12_buttonOf_1 ?_
  refine lv_bipush (v := 18) hx hb dX12_buttonOf_4 (by decide) ?_
  refine lv_iconst (v := 5) hx hb dX12_buttonOf_6 (by decide) ?_
  refine lv_iload_n hx hb dX12_buttonOf_7 rfl (lv_at hl 1 rfl) ?_
  refine lv_imul hx hb dX12_buttonOf_8 ?_
  refine lv_topi (fun x_1 e_2 => ?_)
  have r_3 : Rg 0 35 x_1 := Rg.mul (ha := 5) (hb := 7) e_2 (Rg.wk (lo2 := 0) (hi2 := 5) (Rg.c (c := 5) (k := 5) rfl) (by decide)) r_b (by decide)
  refine lv_iadd hx hb dX12_buttonOf_9 ?_
  refine lv_topi (fun x_4 e_5 => ?_)
  have r_6 : Rg 18 53 x_4 := Rg.add e_5 (Rg.c (c := 18) (k := 18) rfl) r_3 (by decide)
  refine lv_iload_n hx hb dX12_buttonOf_10 rfl (lv_at hl 2 rfl) ?_
  refine lv_iadd hx hb dX12_buttonOf_11 ?_
  refine lv_topi (fun x_7 e_8 => ?_)
  have r_9 : Rg 22 57 x_7 := Rg.add e_8 r_6 (Rg.c (c := 4) (k := 4) rfl) (by decide)
  have hi_10 : vp_in x_7 133 := Rg.in r_9 (by decide)
  refine va_iald hx hb hK hP 1 0 rfl rfl hi_10 dX12_buttonOf_12 ?_
  refine lv_topi (fun x_11 e_12 => ?_)
  exact W.iret (v := x_11) hx hb hr (fun t9 ht9 hW9 => ⟨by rw [show (.int (gsd (18 + 5 * cN b + 4)) : Value) = .int x_11 from (congrArg Value.int (show gsd (18 + 5 * cN b + 4) = x_11 from by rw [e_12, show Int32.toNatClampNeg x_7 = 18 + 5 * cN b + 4 from ix5 (w := 0) (c := 18) (k := 4) r_b rfl (by decide) rfl (by decide) e_2 e_5 e_8]))], ht9.trans hHe⟩) (fun _ h9 => by rw [hlc] at h9; exact absurd h9 List.not_mem_nil) dX12_buttonOf_13
theorem dX12_holeOf_0 : decode cX12_holeOf 0 = .ok (.aload_n 0, 1) := by decide +kernel
theorem dX12_holeOf_1 : decode cX12_holeOf 1 = .ok (.getfield 39, 3) := by decide +kernel
theorem dX12_holeOf_4 : decode cX12_holeOf 4 = .ok (.bipush 58, 2) := by decide +kernel
theorem dX12_holeOf_6 : decode cX12_holeOf 6 = .ok (.iconst 2, 1) := by decide +kernel
theorem dX12_holeOf_7 : decode cX12_holeOf 7 = .ok (.iload_n 1, 1) := by decide +kernel
theorem dX12_holeOf_8 : decode cX12_holeOf 8 = .ok (.imul, 1) := by decide +kernel
theorem dX12_holeOf_9 : decode cX12_holeOf 9 = .ok (.iadd, 1) := by decide +kernel
theorem dX12_holeOf_10 : decode cX12_holeOf 10 = .ok (.iload_n 2, 1) := by decide +kernel
theorem dX12_holeOf_11 : decode cX12_holeOf 11 = .ok (.iadd, 1) := by decide +kernel
theorem dX12_holeOf_12 : decode cX12_holeOf 12 = .ok (.iaload, 1) := by decide +kernel
theorem dX12_holeOf_13 : decode cX12_holeOf 13 = .ok (.ireturn, 1) := by decide +kernel
set_option maxHeartbeats 4000000 in
set_option maxRecDepth 100000 in
theorem c_M_holeOf_0 (l : Launch) (D : va_G) (cs : Nat → ClassId) (m0 : Nat) (mtp : Nat) (sta : Int32) (sru : Int32) (msg : Nat) (mln : Nat) (mcl : Nat) (mcs : Nat) (mrd : Nat) (snx : Int32) (swr : Int32) (snu : Int32) (ste : Int32) (sma : Int32) (sde : Int32) (sli : Int32) (mop : Nat) (sod : Int32) (mst : Nat) (sto : Int32) (mwd : Nat) (msd : Nat) (sx_ : Int32) (mws : Nat) (sun : Int32) (mfr : Nat) (mqu : Nat) (miw : Nat) (sfi : Int32) (swa : Int32) (sdx : Int64) (mim : Nat) (mix : Nat) (mmd : Nat) (gsd : Nat → Int32) (b : Int32) (hsi : SI gsd) (r_b : Rg 0 7 b) : Met l yX12_holeOf (Cond.code yX12_holeOf cX12_holeOf 3 (some .int) :: TB) (RM 0 0 0) (va_Pc [.ref m0, .int b, .int 0] (PRR D cs [(m0, .inr (10, (.ref mtp :: .int sta :: .int sru :: .ref msg :: .ref mln :: .ref mcl :: .ref mcs :: .ref mrd :: .int snx :: .int swr :: .int snu :: .int ste :: .int sma :: .int sde :: .int sli :: .ref mop :: .int sod :: .ref mst :: .int sto :: .ref mwd :: .ref msd :: .int sx_ :: .ref mws :: .int sun :: .ref mfr :: .ref mqu :: .ref miw :: .int sfi :: .int swa :: .long sdx :: .ref mim :: .ref mix :: .ref mmd :: []))), (msd, .inl ((cs 0), 133, .inl gsd))])) (k2_QcV (.int (gsd (58 + 2 * cN b + 0)))) 0 0 (fun _ => False) := by
  refine MER (y := yX12_holeOf) (cc := cX12_holeOf) (maxL := 3) (ret := (some .int)) (d := 0) (D := D) (cs := cs) (ws := [(m0, .inr (10, (.ref mtp :: .int sta :: .int sru :: .ref msg :: .ref mln :: .ref mcl :: .ref mcs :: .ref mrd :: .int snx :: .int swr :: .int snu :: .int ste :: .int sma :: .int sde :: .int sli :: .ref mop :: .int sod :: .ref mst :: .int sto :: .ref mwd :: .ref msd :: .int sx_ :: .ref mws :: .int sun :: .ref mfr :: .ref mqu :: .ref miw :: .int sfi :: .int swa :: .long sdx :: .ref mim :: .ref mix :: .ref mmd :: []))), (msd, .inl ((cs 0), 133, .inl gsd))]) (av := [.ref m0, .int b, .int 0]) (Qc := k2_QcV (.int (gsd (58 + 2 * cN b + 0)))) (by decide) (Nat.le_of_ble_eq_true rfl) ?_
  intro p e s m below meth c ls H hHe hx hb hr hml hown hts hlocks hP hK hN hl
  obtain ⟨locs, hlc⟩ : ∃ z : List Loc, z = [] := ⟨_, rfl⟩
  rw [← hlc]
  have hown : s.vm.findClass "WrongHoleModel" = some m.cls := hown
  have hT : ∀ w ∈ TB, w.before ([.ref m0, .int b, .int 0] : List Value).toArray s = true := fun w h => hts w (List.mem_cons_of_mem _ h)
  have hl : lv_has ls 3 [(0, .ref m0), (1, .int b), (2, .int 0)] := hl
  have hP : va_P D vwCl [(m0, .inr (10, (.ref mtp :: .int sta :: .int sru :: .ref msg :: .ref mln :: .ref mcl :: .ref mcs :: .ref mrd :: .int snx :: .int swr :: .int snu :: .int ste :: .int sma :: .int sde :: .int sli :: .ref mop :: .int sod :: .ref mst :: .int sto :: .ref mwd :: .ref msd :: .int sx_ :: .ref mws :: .int sun :: .ref mfr :: .ref mqu :: .ref miw :: .int sfi :: .int swa :: .long sdx :: .ref mim :: .ref mix :: .ref mmd :: []))), (msd, .inl ((cs 0), 133, .inl gsd))] H := hP
  refine lv_aload_n hx hb dX12_holeOf_0 rfl (lv_at hl 0 rfl) ?_
  refine va_get (D := D) (ci := 10) (v := .ref msd) (C := "WrongHoleModel") (T := TX12) (N := 33) hx hb hts (iq_RX12 _) hown hK hP 0 rfl rfl 20 (by decide) (hT _ qq_5_172) (fun _ h9 => h9) rfl dX12_holeOf_1 ?_
  refine lv_bipush (v := 58) hx hb dX12_holeOf_4 (by decide) ?_
  refine lv_iconst (v := 2) hx hb dX12_holeOf_6 (by decide) ?_
  refine lv_iload_n hx hb dX12_holeOf_7 rfl (lv_at hl 1 rfl) ?_
  refine lv_imul hx hb dX12_holeOf_8 ?_
  refine lv_topi (fun x_1 e_2 => ?_)
  have r_3 : Rg 0 14 x_1 := Rg.mul (ha := 2) (hb := 7) e_2 (Rg.wk (lo2 := 0) (hi2 := 2) (Rg.c (c := 2) (k := 2) rfl) (by decide)) r_b (by decide)
  refine lv_iadd hx hb dX12_holeOf_9 ?_
  refine lv_topi (fun x_4 e_5 => ?_)
  have r_6 : Rg 58 72 x_4 := Rg.add e_5 (Rg.c (c := 58) (k := 58) rfl) r_3 (by decide)
  refine lv_iload_n hx hb dX12_holeOf_10 rfl (lv_at hl 2 rfl) ?_
  refine lv_iadd hx hb dX12_holeOf_11 ?_
  refine lv_topi (fun x_7 e_8 => ?_)
  have r_9 : Rg 58 72 x_7 := Rg.add e_8 r_6 (Rg.c (c := 0) (k := 0) rfl) (by decide)
  have hi_10 : vp_in x_7 133 := Rg.in r_9 (by decide)
  refine va_iald hx hb hK hP 1 0 rfl rfl hi_10 dX12_holeOf_12 ?_
  refine lv_topi (fun x_11 e_12 => ?_)
  exact W.iret (v := x_11) hx hb hr (fun t9 ht9 hW9 => ⟨by rw [show (.int (gsd (58 + 2 * cN b + 0)) : Value) = .int x_11 from (congrArg Value.int (show gsd (58 + 2 * cN b + 0) = x_11 from by rw [e_12, show Int32.toNatClampNeg x_7 = 58 + 2 * cN b + 0 from ix2 (w := 0) (c := 58) (k := 0) r_b rfl (by decide) rfl (by decide) e_2 e_5 e_8]))], ht9.trans hHe⟩) (fun _ h9 => by rw [hlc] at h9; exact absurd h9 List.not_mem_nil) dX12_holeOf_13
set_option maxHeartbeats 4000000 in
set_option maxRecDepth 100000 in
theorem c_M_holeOf_1 (l : Launch) (D : va_G) (cs : Nat → ClassId) (m0 : Nat) (mtp : Nat) (sta : Int32) (sru : Int32) (msg : Nat) (mln : Nat) (mcl : Nat) (mcs : Nat) (mrd : Nat) (snx : Int32) (swr : Int32) (snu : Int32) (ste : Int32) (sma : Int32) (sde : Int32) (sli : Int32) (mop : Nat) (sod : Int32) (mst : Nat) (sto : Int32) (mwd : Nat) (msd : Nat) (sx_ : Int32) (mws : Nat) (sun : Int32) (mfr : Nat) (mqu : Nat) (miw : Nat) (sfi : Int32) (swa : Int32) (sdx : Int64) (mim : Nat) (mix : Nat) (mmd : Nat) (gsd : Nat → Int32) (b : Int32) (hsi : SI gsd) (r_b : Rg 0 7 b) : Met l yX12_holeOf (Cond.code yX12_holeOf cX12_holeOf 3 (some .int) :: TB) (RM 0 0 0) (va_Pc [.ref m0, .int b, .int 1] (PRR D cs [(m0, .inr (10, (.ref mtp :: .int sta :: .int sru :: .ref msg :: .ref mln :: .ref mcl :: .ref mcs :: .ref mrd :: .int snx :: .int swr :: .int snu :: .int ste :: .int sma :: .int sde :: .int sli :: .ref mop :: .int sod :: .ref mst :: .int sto :: .ref mwd :: .ref msd :: .int sx_ :: .ref mws :: .int sun :: .ref mfr :: .ref mqu :: .ref miw :: .int sfi :: .int swa :: .long sdx :: .ref mim :: .ref mix :: .ref mmd :: []))), (msd, .inl ((cs 0), 133, .inl gsd))])) (k2_QcV (.int (gsd (58 + 2 * cN b + 1)))) 0 0 (fun _ => False) := by
  refine MER (y := yX12_holeOf) (cc := cX12_holeOf) (maxL := 3) (ret := (some .int)) (d := 0) (D := D) (cs := cs) (ws := [(m0, .inr (10, (.ref mtp :: .int sta :: .int sru :: .ref msg :: .ref mln :: .ref mcl :: .ref mcs :: .ref mrd :: .int snx :: .int swr :: .int snu :: .int ste :: .int sma :: .int sde :: .int sli :: .ref mop :: .int sod :: .ref mst :: .int sto :: .ref mwd :: .ref msd :: .int sx_ :: .ref mws :: .int sun :: .ref mfr :: .ref mqu :: .ref miw :: .int sfi :: .int swa :: .long sdx :: .ref mim :: .ref mix :: .ref mmd :: []))), (msd, .inl ((cs 0), 133, .inl gsd))]) (av := [.ref m0, .int b, .int 1]) (Qc := k2_QcV (.int (gsd (58 + 2 * cN b + 1)))) (by decide) (Nat.le_of_ble_eq_true rfl) ?_
  intro p e s m below meth c ls H hHe hx hb hr hml hown hts hlocks hP hK hN hl
  obtain ⟨locs, hlc⟩ : ∃ z : List Loc, z = [] := ⟨_, rfl⟩
  rw [← hlc]
  have hown : s.vm.findClass "WrongHoleModel" = some m.cls := hown
  have hT : ∀ w ∈ TB, w.before ([.ref m0, .int b, .int 1] : List Value).toArray s = true := fun w h => hts w (List.mem_cons_of_mem _ h)
  have hl : lv_has ls 3 [(0, .ref m0), (1, .int b), (2, .int 1)] := hl
  have hP : va_P D vwCl [(m0, .inr (10, (.ref mtp :: .int sta :: .int sru :: .ref msg :: .ref mln :: .ref mcl :: .ref mcs :: .ref mrd :: .int snx :: .int swr :: .int snu :: .int ste :: .int sma :: .int sde :: .int sli :: .ref mop :: .int sod :: .ref mst :: .int sto :: .ref mwd :: .ref msd :: .int sx_ :: .ref mws :: .int sun :: .ref mfr :: .ref mqu :: .ref miw :: .int sfi :: .int swa :: .long sdx :: .ref mim :: .ref mix :: .ref mmd :: []))), (msd, .inl ((cs 0), 133, .inl gsd))] H := hP
  refine lv_aload_n hx hb dX12_holeOf_0 rfl (lv_at hl 0 rfl) ?_
  refine va_get (D := D) (ci := 10) (v := .ref msd) (C := "WrongHoleModel") (T := TX12) (N := 33) hx hb hts (iq_RX12 _) hown hK hP 0 rfl rfl 20 (by decide) (hT _ qq_5_172) (fun _ h9 => h9) rfl dX12_holeOf_1 ?_
  refine lv_bipush (v := 58) hx hb dX12_holeOf_4 (by decide) ?_
  refine lv_iconst (v := 2) hx hb dX12_holeOf_6 (by decide) ?_
  refine lv_iload_n hx hb dX12_holeOf_7 rfl (lv_at hl 1 rfl) ?_
  refine lv_imul hx hb dX12_holeOf_8 ?_
  refine lv_topi (fun x_1 e_2 => ?_)
  have r_3 : Rg 0 14 x_1 := Rg.mul (ha := 2) (hb := 7) e_2 (Rg.wk (lo2 := 0) (hi2 := 2) (Rg.c (c := 2) (k := 2) rfl) (by decide)) r_b (by decide)
  refine lv_iadd hx hb dX12_holeOf_9 ?_
  refine lv_topi (fun x_4 e_5 => ?_)
  have r_6 : Rg 58 72 x_4 := Rg.add e_5 (Rg.c (c := 58) (k := 58) rfl) r_3 (by decide)
  refine lv_iload_n hx hb dX12_holeOf_10 rfl (lv_at hl 2 rfl) ?_
  refine lv_iadd hx hb dX12_holeOf_11 ?_
  refine lv_topi (fun x_7 e_8 => ?_)
  have r_9 : Rg 59 73 x_7 := Rg.add e_8 r_6 (Rg.c (c := 1) (k := 1) rfl) (by decide)
  have hi_10 : vp_in x_7 133 := Rg.in r_9 (by decide)
  refine va_iald hx hb hK hP 1 0 rfl rfl hi_10 dX12_holeOf_12 ?_
  refine lv_topi (fun x_11 e_12 => ?_)
  exact W.iret (v := x_11) hx hb hr (fun t9 ht9 hW9 => ⟨by rw [show (.int (gsd (58 + 2 * cN b + 1)) : Value) = .int x_11 from (congrArg Value.int (show gsd (58 + 2 * cN b + 1) = x_11 from by rw [e_12, show Int32.toNatClampNeg x_7 = 58 + 2 * cN b + 1 from ix2 (w := 0) (c := 58) (k := 1) r_b rfl (by decide) rfl (by decide) e_2 e_5 e_8]))], ht9.trans hHe⟩) (fun _ h9 => by rw [hlc] at h9; exact absurd h9 List.not_mem_nil) dX12_holeOf_13
set_option maxHeartbeats 4000000 in
set_option maxRecDepth 100000 in
theorem c_M_holeOf (l : Launch) (D : va_G) (cs : Nat → ClassId) (m0 : Nat) (mtp : Nat) (sta : Int32) (sru : Int32) (msg : Nat) (mln : Nat) (mcl : Nat) (mcs : Nat) (mrd : Nat) (snx : Int32) (swr : Int32) (snu : Int32) (ste : Int32) (sma : Int32) (sde : Int32) (sli : Int32) (mop : Nat) (sod : Int32) (mst : Nat) (sto : Int32) (mwd : Nat) (msd : Nat) (sx_ : Int32) (mws : Nat) (sun : Int32) (mfr : Nat) (mqu : Nat) (miw : Nat) (sfi : Int32) (swa : Int32) (sdx : Int64) (mim : Nat) (mix : Nat) (mmd : Nat) (gsd : Nat → Int32) (b : Int32) (h : Int32) (hsi : SI gsd) (r_b : Rg 0 7 b) (r_h : Rg 0 1 h) : Met l yX12_holeOf (Cond.code yX12_holeOf cX12_holeOf 3 (some .int) :: TB) (RM 0 0 0) (va_Pc [.ref m0, .int b, .int h] (PRR D cs [(m0, .inr (10, (.ref mtp :: .int sta :: .int sru :: .ref msg :: .ref mln :: .ref mcl :: .ref mcs :: .ref mrd :: .int snx :: .int swr :: .int snu :: .int ste :: .int sma :: .int sde :: .int sli :: .ref mop :: .int sod :: .ref mst :: .int sto :: .ref mwd :: .ref msd :: .int sx_ :: .ref mws :: .int sun :: .ref mfr :: .ref mqu :: .ref miw :: .int sfi :: .int swa :: .long sdx :: .ref mim :: .ref mix :: .ref mmd :: []))), (msd, .inl ((cs 0), 133, .inl gsd))])) (QP (fun v => ∃ x : Int32, v = .int x)) 0 0 (fun _ => False) := by
  refine MER (y := yX12_holeOf) (cc := cX12_holeOf) (maxL := 3) (ret := (some .int)) (d := 0) (D := D) (cs := cs) (ws := [(m0, .inr (10, (.ref mtp :: .int sta :: .int sru :: .ref msg :: .ref mln :: .ref mcl :: .ref mcs :: .ref mrd :: .int snx :: .int swr :: .int snu :: .int ste :: .int sma :: .int sde :: .int sli :: .ref mop :: .int sod :: .ref mst :: .int sto :: .ref mwd :: .ref msd :: .int sx_ :: .ref mws :: .int sun :: .ref mfr :: .ref mqu :: .ref miw :: .int sfi :: .int swa :: .long sdx :: .ref mim :: .ref mix :: .ref mmd :: []))), (msd, .inl ((cs 0), 133, .inl gsd))]) (av := [.ref m0, .int b, .int h]) (Qc := QP (fun v => ∃ x : Int32, v = .int x)) (by decide) (Nat.le_of_ble_eq_true rfl) ?_
  intro p e s m below meth c ls H hHe hx hb hr hml hown hts hlocks hP hK hN hl
  obtain ⟨locs, hlc⟩ : ∃ z : List Loc, z = [] := ⟨_, rfl⟩
  rw [← hlc]
  have hown : s.vm.findClass "WrongHoleModel" = some m.cls := hown
  have hT : ∀ w ∈ TB, w.before ([.ref m0, .int b, .int h] : List Value).toArray s = true := fun w h => hts w (List.mem_cons_of_mem _ h)
  have hl : lv_has ls 3 [(0, .ref m0), (1, .int b), (2, .int h)] := hl
  have hP : va_P D vwCl [(m0, .inr (10, (.ref mtp :: .int sta :: .int sru :: .ref msg :: .ref mln :: .ref mcl :: .ref mcs :: .ref mrd :: .int snx :: .int swr :: .int snu :: .int ste :: .int sma :: .int sde :: .int sli :: .ref mop :: .int sod :: .ref mst :: .int sto :: .ref mwd :: .ref msd :: .int sx_ :: .ref mws :: .int sun :: .ref mfr :: .ref mqu :: .ref miw :: .int sfi :: .int swa :: .long sdx :: .ref mim :: .ref mix :: .ref mmd :: []))), (msd, .inl ((cs 0), 133, .inl gsd))] H := hP
  refine lv_aload_n hx hb dX12_holeOf_0 rfl (lv_at hl 0 rfl) ?_
  refine va_get (D := D) (ci := 10) (v := .ref msd) (C := "WrongHoleModel") (T := TX12) (N := 33) hx hb hts (iq_RX12 _) hown hK hP 0 rfl rfl 20 (by decide) (hT _ qq_5_172) (fun _ h9 => h9) rfl dX12_holeOf_1 ?_
  refine lv_bipush (v := 58) hx hb dX12_holeOf_4 (by decide) ?_
  refine lv_iconst (v := 2) hx hb dX12_holeOf_6 (by decide) ?_
  refine lv_iload_n hx hb dX12_holeOf_7 rfl (lv_at hl 1 rfl) ?_
  refine lv_imul hx hb dX12_holeOf_8 ?_
  refine lv_topi (fun x_1 e_2 => ?_)
  have r_3 : Rg 0 14 x_1 := Rg.mul (ha := 2) (hb := 7) e_2 (Rg.wk (lo2 := 0) (hi2 := 2) (Rg.c (c := 2) (k := 2) rfl) (by decide)) r_b (by decide)
  refine lv_iadd hx hb dX12_holeOf_9 ?_
  refine lv_topi (fun x_4 e_5 => ?_)
  have r_6 : Rg 58 72 x_4 := Rg.add e_5 (Rg.c (c := 58) (k := 58) rfl) r_3 (by decide)
  refine lv_iload_n hx hb dX12_holeOf_10 rfl (lv_at hl 2 rfl) ?_
  refine lv_iadd hx hb dX12_holeOf_11 ?_
  refine lv_topi (fun x_7 e_8 => ?_)
  have r_9 : Rg 58 73 x_7 := Rg.add e_8 r_6 r_h (by decide)
  have hi_10 : vp_in x_7 133 := Rg.in r_9 (by decide)
  refine va_iald hx hb hK hP 1 0 rfl rfl hi_10 dX12_holeOf_12 ?_
  refine lv_topi (fun x_11 e_12 => ?_)
  exact W.iret (v := x_11) hx hb hr (fun t9 ht9 hW9 => ⟨⟨_, rfl, _, rfl⟩, ht9.trans hHe⟩) (fun _ h9 => by rw [hlc] at h9; exact absurd h9 List.not_mem_nil) dX12_holeOf_13
