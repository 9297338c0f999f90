theorem dX9_hasRoom_0 : decode cX9_hasRoom 0 = .ok (.aload_n 0, 1) := by decide +kernel
theorem dX9_hasRoom_1 : decode cX9_hasRoom 1 = .ok (.getfield 15, 3) := by decide +kernel
theorem qq_1_37 : Cond.fieldLink "WrongHole$Text" 15 "WrongHole$Text" "length" "I" ∈ TB := mk_tb (ti_1 (List.mem_of_getElem? (i := 37) rfl)) rfl
theorem iq_RX9 (cd : Cond) : ∀ w ∈ u_ws RX9 TX9 8, w ∈ cd :: TB := by
  intro w hw
  obtain ⟨k, hk, rfl⟩ := List.mem_map.mp hw
  have hk := List.mem_range.mp hk
  refine List.mem_cons_of_mem _ ?_
  match k, hk with
  | 0, _ => exact mk_tb (ti_1 (List.mem_of_getElem? (i := 49) rfl)) rfl
  | 1, _ => exact mk_tb (ti_1 (List.mem_of_getElem? (i := 51) rfl)) rfl
  | 2, _ => exact mk_tb (ti_1 (List.mem_of_getElem? (i := 53) rfl)) rfl
  | 3, _ => exact mk_tb (ti_1 (List.mem_of_getElem? (i := 55) rfl)) rfl
  | 4, _ => exact mk_tb (ti_1 (List.mem_of_getElem? (i := 57) rfl)) rfl
  | 5, _ => exact mk_tb (ti_1 (List.mem_of_getElem? (i := 59) rfl)) rfl
  | 6, _ => exact mk_tb (ti_1 (List.mem_of_getElem? (i := 61) rfl)) rfl
  | 7, _ => exact mk_tb (ti_1 (List.mem_of_getElem? (i := 63) rfl)) rfl
  | n + 8, h => exact absurd h (by omega)
theorem dX9_hasRoom_4 : decode cX9_hasRoom 4 = .ok (.iload_n 1, 1) := by decide +kernel
theorem dX9_hasRoom_5 : decode cX9_hasRoom 5 = .ok (.iadd, 1) := by decide +kernel
theorem dX9_hasRoom_6 : decode cX9_hasRoom 6 = .ok (.sipush 400, 3) := by decide +kernel
theorem dX9_hasRoom_9 : decode cX9_hasRoom 9 = .ok (.if_icmp .gt 7, 3) := by decide +kernel
theorem dX9_hasRoom_16 : decode cX9_hasRoom 16 = .ok (.iconst 0, 1) := by decide +kernel
theorem dX9_hasRoom_17 : decode cX9_hasRoom 17 = .ok (.ireturn, 1) := by decide +kernel
theorem dX9_hasRoom_12 : decode cX9_hasRoom 12 = .ok (.iconst 1, 1) := by decide +kernel
theorem dX9_hasRoom_13 : decode cX9_hasRoom 13 = .ok (.goto 4, 3) := by decide +kernel
set_option maxHeartbeats 4000000 in
set_option maxRecDepth 100000 in
theorem c_Text_hasRoom (l : Launch) (D : va_G) (cs : Nat → ClassId) (ht : Nat) (hs : Nat) (tl : Int32) (tk : Int32) (tp : Int32) (tb : Int32) (tv : Int32) (tn : Int32) (tf : Int32) (gt : Nat → Int32) (a : Int32) (r_tl : Rg 0 400 tl) (r_tp : Rg 0 400 tp) (r_tb : Rg 0 400 tb) : Met l yX9_hasRoom (Cond.code yX9_hasRoom cX9_hasRoom 2 (some .boolean) :: TB) (RM 0 0 0) (va_Pc [.ref ht, .int a] (PRR D cs [(ht, .inr (7, [.ref hs, .int tl, .int tk, .int tp, .int tb, .int tv, .int tn, .int tf])), (hs, .inl ((cs 1), 400, .inl gt))])) (QP (fun v => ∃ x : Int32, v = .int x ∧ Rg 0 1 x)) 0 0 (fun _ => False) := by
  refine MER (y := yX9_hasRoom) (cc := cX9_hasRoom) (maxL := 2) (ret := (some .boolean)) (d := 0) (D := D) (cs := cs) (ws := [(ht, .inr (7, [.ref hs, .int tl, .int tk, .int tp, .int tb, .int tv, .int tn, .int tf])), (hs, .inl ((cs 1), 400, .inl gt))]) (av := [.ref ht, .int a]) (Qc := QP (fun v => ∃ x : Int32, v = .int x ∧ Rg 0 1 x)) (by decide) (Nat.le_of_ble_eq_true rfl) ?_
  intro p e s m below meth c ls H hHe hx hb hr hml hown hts hlocks hP hK hN hl
  obtain ⟨locs, hlc⟩ : ∃ z : List Loc, z = [] := ⟨_, rfl⟩
  rw [← hlc]
  have hown : s.vm.findClass "WrongHole$Text" = some m.cls := hown
  have hT : ∀ w ∈ TB, w.before ([.ref ht, .int a] : List Value).toArray s = true := fun w h => hts w (List.mem_cons_of_mem _ h)
  have hl : lv_has ls 2 [(0, .ref ht), (1, .int a)] := hl
  have hP : va_P D vwCl [(ht, .inr (7, [.ref hs, .int tl, .int tk, .int tp, .int tb, .int tv, .int tn, .int tf])), (hs, .inl ((cs 1), 400, .inl gt))] H := hP
  refine lv_aload_n hx hb dX9_hasRoom_0 rfl (lv_at hl 0 rfl) ?_
  refine va_get (D := D) (ci := 7) (v := .int tl) (C := "WrongHole$Text") (T := TX9) (N := 8) hx hb hts (iq_RX9 _) hown hK hP 0 rfl rfl 1 (by decide) (hT _ qq_1_37) (fun _ h9 => h9) rfl dX9_hasRoom_1 ?_
  refine lv_iload_n hx hb dX9_hasRoom_4 rfl (lv_at hl 1 rfl) ?_
  refine lv_iadd hx hb dX9_hasRoom_5 ?_
  refine lv_topi (fun x_1 e_2 => ?_)
  refine lv_sipush (v := 400) hx hb dX9_hasRoom_6 (by decide) ?_
  refine lv_icmp_gt (tgt := 16) hx hb dX9_hasRoom_9 (by decide) (fun c_3 => ?_) (fun c_3 => ?_)
  · have r_4 : Rg 401 2147483647 x_1 := Rg.lt_r c_3 (Rg.c (c := 400) (k := 400) rfl) (Rg.top x_1) (by decide)
    refine lv_iconst (v := 0) hx hb dX9_hasRoom_16 (by decide) ?_
    exact W.zret (v := 0) (ty := .boolean) hx hb hr rfl (fun t9 ht9 hW9 => ⟨⟨_, rfl, _, rfl, (Rg.wk (lo2 := 0) (hi2 := 1) (Rg.c (c := 0) (k := 0) rfl) (by decide))⟩, ht9.trans hHe⟩) (fun _ h9 => by rw [hlc] at h9; exact absurd h9 List.not_mem_nil) dX9_hasRoom_17
  · have r_5 : Rg (-2147483648) 400 x_1 := Rg.le_l (nlt_le c_3) (Rg.top x_1) (Rg.c (c := 400) (k := 400) rfl) (by decide)
    refine lv_iconst (v := 1) hx hb dX9_hasRoom_12 (by decide) ?_
    refine lv_goto (tgt := 17) hx hb dX9_hasRoom_13 (by decide) ?_
    exact W.zret (v := 1) (ty := .boolean) hx hb hr rfl (fun t9 ht9 hW9 => ⟨⟨_, rfl, _, rfl, (Rg.wk (lo2 := 0) (hi2 := 1) (Rg.c (c := 1) (k := 1) rfl) (by decide))⟩, ht9.trans hHe⟩) (fun _ h9 => by rw [hlc] at h9; exact absurd h9 List.not_mem_nil) dX9_hasRoom_17
theorem dX9_append_0 : decode cX9_append 0 = .ok (.bipush 24, 2) := by decide +kernel
theorem dX9_append_2 : decode cX9_append 2 = .ok (.istore_n 2, 1) := by decide +kernel
theorem dX9_append_3 : decode cX9_append 3 = .ok (.iload_n 2, 1) := by decide +kernel
theorem dX9_append_4 : decode cX9_append 4 = .ok (.ifCond .lt 46, 3) := by decide +kernel
theorem dX9_append_50 : decode cX9_append 50 = .ok (.return_, 1) := by decide +kernel
theorem dX9_append_7 : decode cX9_append 7 = .ok (.aload_n 0, 1) := by decide +kernel
theorem dX9_append_8 : decode cX9_append 8 = .ok (.getfield 15, 3) := by decide +kernel
theorem dX9_append_11 : decode cX9_append 11 = .ok (.sipush 400, 3) := by decide +kernel
theorem dX9_append_14 : decode cX9_append 14 = .ok (.if_icmp .ge 30, 3) := by decide +kernel
theorem dX9_append_44 : decode cX9_append 44 = .ok (.iinc 2 (-8), 3) := by decide +kernel
theorem dX9_append_47 : decode cX9_append 47 = .ok (.goto (-44), 3) := by decide +kernel
theorem dX9_append_17 : decode cX9_append 17 = .ok (.aload_n 0, 1) := by decide +kernel
theorem dX9_append_18 : decode cX9_append 18 = .ok (.getfield 11, 3) := by decide +kernel
theorem qq_1_36 : Cond.fieldLink "WrongHole$Text" 11 "WrongHole$Text" "signs" "[C" ∈ TB := mk_tb (ti_1 (List.mem_of_getElem? (i := 36) rfl)) rfl
theorem dX9_append_21 : decode cX9_append 21 = .ok (.aload_n 0, 1) := by decide +kernel
theorem dX9_append_22 : decode cX9_append 22 = .ok (.getfield 15, 3) := by decide +kernel
theorem dX9_append_25 : decode cX9_append 25 = .ok (.iload_n 1, 1) := by decide +kernel
theorem dX9_append_26 : decode cX9_append 26 = .ok (.iload_n 2, 1) := by decide +kernel
theorem dX9_append_27 : decode cX9_append 27 = .ok (.ishr, 1) := by decide +kernel
theorem dX9_append_28 : decode cX9_append 28 = .ok (.sipush 255, 3) := by decide +kernel
theorem dX9_append_31 : decode cX9_append 31 = .ok (.iand, 1) := by decide +kernel
theorem dX9_append_32 : decode cX9_append 32 = .ok (.i2c, 1) := by decide +kernel
theorem dX9_append_33 : decode cX9_append 33 = .ok (.castore, 1) := by decide +kernel
theorem dX9_append_34 : decode cX9_append 34 = .ok (.aload_n 0, 1) := by decide +kernel
theorem dX9_append_35 : decode cX9_append 35 = .ok (.dup, 1) := by decide +kernel
theorem dX9_append_36 : decode cX9_append 36 = .ok (.getfield 15, 3) := by decide +kernel
theorem dX9_append_39 : decode cX9_append 39 = .ok (.iconst 1, 1) := by decide +kernel
theorem dX9_append_40 : decode cX9_append 40 = .ok (.iadd, 1) := by decide +kernel
theorem dX9_append_41 : decode cX9_append 41 = .ok (.putfield 15, 3) := by decide +kernel
set_option maxHeartbeats 4000000 in
set_option maxRecDepth 100000 in
theorem c_Text_append (l : Launch) (D : va_G) (cs : Nat → ClassId) (X : XX) (sz : Nat) (ht : Nat) (hs : Nat) (tl : Int32) (tk : Int32) (tp : Int32) (tb : Int32) (tv : Int32) (tn : Int32) (tf : Int32) (gt : Nat → Int32) (a : Int32) (r_tl : Rg 0 400 tl) : Met l yX9_append (Cond.code yX9_append cX9_append 3 none :: TB) (RM 0 0 0) (va_Pc [.ref ht, .int a] (PRE D cs X [(ht, .inr (7, [.ref hs, .int tl, .int tk, .int tp, .int tb, .int tv, .int tn, .int tf])), (hs, .inl ((cs 1), 400, .inl gt))] [] sz)) (va_Qv (S := Unit) (fun _ => True) (fun _ t => ∃ (tl2 : Int32), ∃ (gt2 : Nat → Int32), Rg 0 400 tl2 ∧ va_P D vwCl [(ht, .inr (7, [.ref hs, .int tl2, .int tk, .int tp, .int tb, .int tv, .int tn, .int tf])), (hs, .inl ((cs 1), 400, .inl gt2))] t.heap ∧ va_D (va_A [(ht, .inr (7, [.ref hs, .int tl, .int tk, .int tp, .int tb, .int tv, .int tn, .int tf])), (hs, .inl ((cs 1), 400, .inl gt))] sz) [(ht, .inr (7, [.ref hs, .int tl2, .int tk, .int tp, .int tb, .int tv, .int tn, .int tf])), (hs, .inl ((cs 1), 400, .inl gt2))]) (va_A [(ht, .inr (7, [.ref hs, .int tl, .int tk, .int tp, .int tb, .int tv, .int tn, .int tf])), (hs, .inl ((cs 1), 400, .inl gt))] sz)) 0 0 (va_A [(ht, .inr (7, [.ref hs, .int tl, .int tk, .int tp, .int tb, .int tv, .int tn, .int tf])), (hs, .inl ((cs 1), 400, .inl gt))] sz) := by
  refine MET (y := yX9_append) (cc := cX9_append) (maxL := 3) (ret := none) (d := 0) (mc := 0) (ms := 0) (D := D) (cs := cs) (X := X) (ws := [(ht, .inr (7, [.ref hs, .int tl, .int tk, .int tp, .int tb, .int tv, .int tn, .int tf])), (hs, .inl ((cs 1), 400, .inl gt))]) (wo := []) (sz := sz) (av := [.ref ht, .int a]) (Qc := fun A => va_Qv (S := Unit) (fun _ => True) (fun _ t => ∃ (tl2 : Int32), ∃ (gt2 : Nat → Int32), Rg 0 400 tl2 ∧ va_P D vwCl [(ht, .inr (7, [.ref hs, .int tl2, .int tk, .int tp, .int tb, .int tv, .int tn, .int tf])), (hs, .inl ((cs 1), 400, .inl gt2))] t.heap ∧ va_D A [(ht, .inr (7, [.ref hs, .int tl2, .int tk, .int tp, .int tb, .int tv, .int tn, .int tf])), (hs, .inl ((cs 1), 400, .inl gt2))]) A) (by decide) (Nat.le_of_ble_eq_true rfl) ?_
  intro p e s m below meth c ls A H hHe hx hb hr hml hown hts hlocks hnm hP hK hD hA hS hN hR hX hXs hl
  have hD : va_D A [(ht, .inr (7, [.ref hs, .int tl, .int tk, .int tp, .int tb, .int tv, .int tn, .int tf])), (hs, .inl ((cs 1), 400, .inl gt))] := hD
  obtain ⟨locs, hlc⟩ : ∃ z : List Loc, z = [] := ⟨_, rfl⟩
  rw [← hlc] at hS ⊢
  have hown : s.vm.findClass "WrongHole$Text" = some m.cls := hown
  have hT : ∀ w ∈ TB, w.before ([.ref ht, .int a] : List Value).toArray s = true := fun w h => hts w (List.mem_cons_of_mem _ h)
  have hl : lv_has ls 3 [(0, .ref ht), (1, .int a)] := hl
  have hP : va_P D vwCl [(ht, .inr (7, [.ref hs, .int tl, .int tk, .int tp, .int tb, .int tv, .int tn, .int tf])), (hs, .inl ((cs 1), 400, .inl gt))] H := hP
  refine lv_bipush (v := 24) hx hb dX9_append_0 (by decide) ?_
  refine lv_istore_n (lv' := [(2, .int 24), (0, .ref ht), (1, .int a)]) hx hb dX9_append_2 rfl hl (by decide) rfl (fun ls hl => ?_)
  refine w_wh (σ := (Int32) × (Int32) × (Nat → Int32)) (fun x9 H locs ls => match x9 with | (v_31, v_32, g_33) => Rg (-8) 24 v_31 ∧ Rg 0 400 v_32 ∧ va_P D vwCl [(ht, .inr (7, [.ref hs, .int v_32, .int tk, .int tp, .int tb, .int tv, .int tn, .int tf])), (hs, .inl ((cs 1), 400, .inl g_33))] H ∧ va_D A [(ht, .inr (7, [.ref hs, .int v_32, .int tk, .int tp, .int tb, .int tv, .int tn, .int tf])), (hs, .inl ((cs 1), 400, .inl g_33))] ∧ va_S A s.heap H locs ∧ lv_has ls 3 [(2, .int v_31), (0, .ref ht), (1, .int a)]) (fun x9 => match x9 with | (v_31, v_32, g_33) => (Int32.toInt v_31 - (-1)).toNat) 3 ?_ (24, tl, gt) H locs ls ⟨(Rg.wk (lo2 := (-8)) (hi2 := 24) (Rg.c (c := 24) (k := 24) rfl) (by decide)), r_tl, hP, hD, hS, lv_sub hl [0, 1, 2] rfl⟩
  rintro ⟨v_31, v_32, g_33⟩ H locs ls ⟨r_503, r_504, hP, hD, hS, hl⟩ ih_502
  refine lv_iload_n hx hb dX9_append_3 rfl (lv_at hl 0 rfl) ?_
  refine lv_if_lt (tgt := 50) hx hb dX9_append_4 (by decide) (fun c_505 => ?_) (fun c_505 => ?_)
  · have r_506 : Rg (-8) (-1) v_31 := Rg.lt_l c_505 r_503 (Rg.c (c := 0) (k := 0) rfl) (by decide)
    refine W.widen (k := 0) (n := 0) (Nat.le_of_ble_eq_true rfl) (Nat.le_of_ble_eq_true rfl) ?_
    have hP9 := hP.sub (ws' := [(ht, .inr (7, [.ref hs, .int v_32, .int tk, .int tp, .int tb, .int tv, .int tn, .int tf])), (hs, .inl ((cs 1), 400, .inl g_33))]) [0, 1] rfl
    have hD9 := hD.sub (ws' := [(ht, .inr (7, [.ref hs, .int v_32, .int tk, .int tp, .int tb, .int tv, .int tn, .int tf])), (hs, .inl ((cs 1), 400, .inl g_33))]) [0, 1] (by decide) rfl
    exact W.vret hx hb hr (fun t9 ht9 hW9 => ⟨⟨(), rfl, trivial, ⟨v_32, g_33, r_504, by rw [ht9]; exact hP9, hD9⟩⟩, hS.F ht9⟩) hS.2.2 dX9_append_50
  · have r_507 : Rg 0 24 v_31 := Rg.le_r (nlt_le c_505) (Rg.c (c := 0) (k := 0) rfl) r_503 (by decide)
    refine lv_aload_n hx hb dX9_append_7 rfl (lv_at hl 1 rfl) ?_
    refine va_get (D := D) (ci := 7) (v := .int v_32) (C := "WrongHole$Text") (T := TX9) (N := 8) hx hb hts (iq_RX9 _) hown hK hP 0 rfl rfl 1 (by decide) (hT _ qq_1_37) (fun _ h9 => h9) rfl dX9_append_8 ?_
    refine lv_sipush (v := 400) hx hb dX9_append_11 (by decide) ?_
    refine w_cut (σ := (Int32) × (Nat → Int32)) (fun x9 H locs ls => match x9 with | (v_555, g_556) => Rg 1 400 v_555 ∧ va_P D vwCl [(ht, .inr (7, [.ref hs, .int v_555, .int tk, .int tp, .int tb, .int tv, .int tn, .int tf])), (hs, .inl ((cs 1), 400, .inl g_556))] H ∧ va_D A [(ht, .inr (7, [.ref hs, .int v_555, .int tk, .int tp, .int tb, .int tv, .int tn, .int tf])), (hs, .inl ((cs 1), 400, .inl g_556))] ∧ va_S A s.heap H locs ∧ lv_has ls 3 [(2, .int v_31), (0, .ref ht), (1, .int a)]) 44 (fun x9 => match x9 with | (v_555, g_556) => []) ?_ (fun hj_557 => ?_)
    · rintro ⟨v_555, g_556⟩ H locs ls ⟨r_558, hP, hD, hS, hl⟩
      obtain ⟨x_559, e_560⟩ : ∃ z : Int32, z = v_31 + Int32.ofInt (-8) := ⟨_, rfl⟩
      have r_561 : Rg (-8) 16 x_559 := Rg.add e_560 r_507 (Rg.c (c := Int32.ofInt (-8)) (k := (-8)) rfl) (by decide)
      refine lv_iinc (v := x_559) (lv' := [(2, .int x_559), (0, .ref ht), (1, .int a)]) hx hb dX9_append_44 hl (k := 0) rfl (e_560.symm) (by decide) rfl (fun ls hl => ?_)
      refine lv_goto (tgt := 3) hx hb dX9_append_47 (by decide) ?_
      exact ih_502 (x_559, v_555, g_556) _ _ _ ⟨(Rg.wk (lo2 := (-8)) (hi2 := 24) r_561 (by decide)), (Rg.wk (lo2 := 0) (hi2 := 400) r_558 (by decide)), hP, hD, hS, lv_sub hl [0, 1, 2] rfl⟩ (ms_dn e_560 r_507 (Rg.c (c := Int32.ofInt (-8)) (k := (-8)) rfl) (by decide))
    · refine lv_icmp_ge (tgt := 44) hx hb dX9_append_14 (by decide) (fun c_540 => ?_) (fun c_540 => ?_)
      · have r_541 : Rg 400 400 v_32 := Rg.le_r c_540 (Rg.c (c := 400) (k := 400) rfl) r_504 (by decide)
        exact hj_557 (v_32, g_33) _ _ _ ⟨(Rg.wk (lo2 := 1) (hi2 := 400) r_541 (by decide)), hP, hD, hS, lv_sub hl [0, 1, 2] rfl⟩
      · have r_542 : Rg 0 399 v_32 := Rg.lt_l (nle_lt c_540) r_504 (Rg.c (c := 400) (k := 400) rfl) (by decide)
        refine lv_aload_n hx hb dX9_append_17 rfl (lv_at hl 1 rfl) ?_
        refine va_get (D := D) (ci := 7) (v := .ref hs) (C := "WrongHole$Text") (T := TX9) (N := 8) hx hb hts (iq_RX9 _) hown hK hP 0 rfl rfl 0 (by decide) (hT _ qq_1_36) (fun _ h9 => h9) rfl dX9_append_18 ?_
        refine lv_aload_n hx hb dX9_append_21 rfl (lv_at hl 1 rfl) ?_
        refine va_get (D := D) (ci := 7) (v := .int v_32) (C := "WrongHole$Text") (T := TX9) (N := 8) hx hb hts (iq_RX9 _) hown hK hP 0 rfl rfl 1 (by decide) (hT _ qq_1_37) (fun _ h9 => h9) rfl dX9_append_22 ?_
        refine lv_iload_n hx hb dX9_append_25 rfl (lv_at hl 2 rfl) ?_
        refine lv_iload_n hx hb dX9_append_26 rfl (lv_at hl 0 rfl) ?_
        refine lv_ishr hx hb dX9_append_27 ?_
        refine lv_topi (fun x_562 e_563 => ?_)
        refine lv_sipush (v := 255) hx hb dX9_append_28 (by decide) ?_
        refine lv_iand hx hb dX9_append_31 ?_
        refine lv_topi (fun x_564 e_565 => ?_)
        have r_566 : Rg 0 255 x_564 := Rg.and e_565 (Rg.c (c := 255) (k := 255) rfl) (by decide)
        obtain ⟨x_567, e_568⟩ : ∃ z : Int32, (Int32.toUInt32 x_564 % 65536).toInt32 = z := ⟨_, rfl⟩
        refine lv_i2c (v := x_567) hx hb dX9_append_32 e_568 ?_
        have r_569 : Rg 0 65535 x_567 := Rg.i2c e_568
        have hi_570 : vp_in v_32 400 := Rg.in r_542 (by decide)
        refine va_cast hx hb hK hP hD hS 1 1 rfl rfl hi_570 dX9_append_33 (fun H locs hP hD hS => ?_)
        obtain ⟨g_571, hP, hD⟩ : ∃ g_571 : Nat → Int32, va_P D vwCl [(ht, .inr (7, [.ref hs, .int v_32, .int tk, .int tp, .int tb, .int tv, .int tn, .int tf])), (hs, .inl ((cs 1), 400, .inl g_571))] H ∧ va_D A [(ht, .inr (7, [.ref hs, .int v_32, .int tk, .int tp, .int tb, .int tv, .int tn, .int tf])), (hs, .inl ((cs 1), 400, .inl g_571))] := ⟨_, hP, hD⟩
        refine lv_aload_n hx hb dX9_append_34 rfl (lv_at hl 1 rfl) ?_
        refine lv_dup hx hb dX9_append_35 rfl ?_
        refine va_get (D := D) (ci := 7) (v := .int v_32) (C := "WrongHole$Text") (T := TX9) (N := 8) hx hb hts (iq_RX9 _) hown hK hP 0 rfl rfl 1 (by decide) (hT _ qq_1_37) (fun _ h9 => h9) rfl dX9_append_36 ?_
        refine lv_iconst (v := 1) hx hb dX9_append_39 (by decide) ?_
        refine lv_iadd hx hb dX9_append_40 ?_
        refine lv_topi (fun x_572 e_573 => ?_)
        have r_574 : Rg 1 400 x_572 := Rg.add e_573 r_542 (Rg.c (c := 1) (k := 1) rfl) (by decide)
        refine va_put (D := D) (ci := 7) (v := .int x_572) (ty := .int) (C := "WrongHole$Text") (T := TX9) (N := 8) hx hb hts (iq_RX9 _) tyX9 tyX9_ok nmX9 hown hK hP hD hS 0 rfl rfl 1 (by decide) (hT _ qq_1_37) (fun _ h9 => h9) rfl (by decide +kernel) rfl rfl (Nat.le_of_ble_eq_true rfl) dX9_append_41 (fun H locs hP hD hS => ?_)
        have hP : va_P D vwCl [(ht, .inr (7, [.ref hs, .int x_572, .int tk, .int tp, .int tb, .int tv, .int tn, .int tf])), (hs, .inl ((cs 1), 400, .inl g_571))] H := hP
        have hD : va_D A [(ht, .inr (7, [.ref hs, .int x_572, .int tk, .int tp, .int tb, .int tv, .int tn, .int tf])), (hs, .inl ((cs 1), 400, .inl g_571))] := hD
        exact hj_557 (x_572, g_571) _ _ _ ⟨r_574, hP, hD, hS, lv_sub hl [0, 1, 2] rfl⟩
theorem dX9_sound_0 : decode cX9_sound 0 = .ok (.aload_n 0, 1) := by decide +kernel
theorem dX9_sound_1 : decode cX9_sound 1 = .ok (.getfield 19, 3) := by decide +kernel
theorem qq_1_47 : Cond.fieldLink "WrongHole$Text" 19 "WrongHole$Text" "fault" "I" ∈ TB := mk_tb (ti_1 (List.mem_of_getElem? (i := 47) rfl)) rfl
theorem dX9_sound_4 : decode cX9_sound 4 = .ok (.ifCond .ne 7, 3) := by decide +kernel
theorem dX9_sound_11 : decode cX9_sound 11 = .ok (.iconst 0, 1) := by decide +kernel
theorem dX9_sound_12 : decode cX9_sound 12 = .ok (.ireturn, 1) := by decide +kernel
theorem dX9_sound_7 : decode cX9_sound 7 = .ok (.iconst 1, 1) := by decide +kernel
theorem dX9_sound_8 : decode cX9_sound 8 = .ok (.goto 4, 3) := by decide +kernel
set_option maxHeartbeats 4000000 in
set_option maxRecDepth 100000 in
theorem c_Text_sound (l : Launch) (D : va_G) (cs : Nat → ClassId) (ht : Nat) (hs : Nat) (tl : Int32) (tk : Int32) (tp : Int32) (tb : Int32) (tv : Int32) (tn : Int32) (tf : Int32) (gt : Nat → Int32)  : Met l yX9_sound (Cond.code yX9_sound cX9_sound 1 (some .boolean) :: TB) (RM 0 0 0) (va_Pc [.ref ht] (PRR D cs [(ht, .inr (7, [.ref hs, .int tl, .int tk, .int tp, .int tb, .int tv, .int tn, .int tf])), (hs, .inl ((cs 1), 400, .inl gt))])) (QP (fun v => ∃ x : Int32, v = .int x ∧ Rg 0 1 x ∧ (¬ x = 0 → tf = 0))) 0 0 (fun _ => False) := by
  refine MER (y := yX9_sound) (cc := cX9_sound) (maxL := 1) (ret := (some .boolean)) (d := 0) (D := D) (cs := cs) (ws := [(ht, .inr (7, [.ref hs, .int tl, .int tk, .int tp, .int tb, .int tv, .int tn, .int tf])), (hs, .inl ((cs 1), 400, .inl gt))]) (av := [.ref ht]) (Qc := QP (fun v => ∃ x : Int32, v = .int x ∧ Rg 0 1 x ∧ (¬ x = 0 → tf = 0))) (by decide) (Nat.le_of_ble_eq_true rfl) ?_
  intro p e s m below meth c ls H hHe hx hb hr hml hown hts hlocks hP hK hN hl
  obtain ⟨locs, hlc⟩ : ∃ z : List Loc, z = [] := ⟨_, rfl⟩
  rw [← hlc]
  have hown : s.vm.findClass "WrongHole$Text" = some m.cls := hown
  have hT : ∀ w ∈ TB, w.before ([.ref ht] : List Value).toArray s = true := fun w h => hts w (List.mem_cons_of_mem _ h)
  have hl : lv_has ls 1 [(0, .ref ht)] := hl
  have hP : va_P D vwCl [(ht, .inr (7, [.ref hs, .int tl, .int tk, .int tp, .int tb, .int tv, .int tn, .int tf])), (hs, .inl ((cs 1), 400, .inl gt))] H := hP
  refine lv_aload_n hx hb dX9_sound_0 rfl (lv_at hl 0 rfl) ?_
  refine va_get (D := D) (ci := 7) (v := .int tf) (C := "WrongHole$Text") (T := TX9) (N := 8) hx hb hts (iq_RX9 _) hown hK hP 0 rfl rfl 7 (by decide) (hT _ qq_1_47) (fun _ h9 => h9) rfl dX9_sound_1 ?_
  refine lv_if_ne (tgt := 11) hx hb dX9_sound_4 (by decide) (fun c_1 => ?_) (fun c_1 => ?_)
  · refine lv_iconst (v := 0) hx hb dX9_sound_11 (by decide) ?_
    exact W.zret (v := 0) (ty := .boolean) hx hb hr rfl (fun t9 ht9 hW9 => ⟨⟨_, rfl, _, rfl, ⟨⟨by decide, by decide⟩, fun q9 => absurd rfl q9⟩⟩, ht9.trans hHe⟩) (fun _ h9 => by rw [hlc] at h9; exact absurd h9 List.not_mem_nil) dX9_sound_12
  · have r_2 : Rg 0 0 tf := Rg.eq_l c_1 (Rg.top tf) (Rg.c (c := 0) (k := 0) rfl) (by decide)
    refine lv_iconst (v := 1) hx hb dX9_sound_7 (by decide) ?_
    refine lv_goto (tgt := 12) hx hb dX9_sound_8 (by decide) ?_
    exact W.zret (v := 1) (ty := .boolean) hx hb hr rfl (fun t9 ht9 hW9 => ⟨⟨_, rfl, _, rfl, ⟨⟨by decide, by decide⟩, fun _ => c_1⟩⟩, ht9.trans hHe⟩) (fun _ h9 => by rw [hlc] at h9; exact absurd h9 List.not_mem_nil) dX9_sound_12
theorem dX9_failHere_0 : decode cX9_failHere 0 = .ok (.aload_n 0, 1) := by decide +kernel
theorem dX9_failHere_1 : decode cX9_failHere 1 = .ok (.getfield 19, 3) := by decide +kernel
theorem dX9_failHere_4 : decode cX9_failHere 4 = .ok (.ifCond .ne 18, 3) := by decide +kernel
theorem dX9_failHere_22 : decode cX9_failHere 22 = .ok (.return_, 1) := by decide +kernel
theorem dX9_failHere_7 : decode cX9_failHere 7 = .ok (.aload_n 0, 1) := by decide +kernel
theorem dX9_failHere_8 : decode cX9_failHere 8 = .ok (.iconst 1, 1) := by decide +kernel
theorem dX9_failHere_9 : decode cX9_failHere 9 = .ok (.bipush 8, 2) := by decide +kernel
theorem dX9_failHere_11 : decode cX9_failHere 11 = .ok (.aload_n 0, 1) := by decide +kernel
theorem dX9_failHere_12 : decode cX9_failHere 12 = .ok (.getfield 28, 3) := by decide +kernel
theorem qq_1_42 : Cond.fieldLink "WrongHole$Text" 28 "WrongHole$Text" "place" "I" ∈ TB := mk_tb (ti_1 (List.mem_of_getElem? (i := 42) rfl)) rfl
theorem dX9_failHere_15 : decode cX9_failHere 15 = .ok (.imul, 1) := by decide +kernel
theorem dX9_failHere_16 : decode cX9_failHere 16 = .ok (.iadd, 1) := by decide +kernel
theorem dX9_failHere_17 : decode cX9_failHere 17 = .ok (.iload_n 1, 1) := by decide +kernel
theorem dX9_failHere_18 : decode cX9_failHere 18 = .ok (.iadd, 1) := by decide +kernel
theorem dX9_failHere_19 : decode cX9_failHere 19 = .ok (.putfield 19, 3) := by decide +kernel
set_option maxHeartbeats 4000000 in
set_option maxRecDepth 100000 in
theorem c_Text_failHere (l : Launch) (D : va_G) (cs : Nat → ClassId) (X : XX) (sz : Nat) (ht : Nat) (hs : Nat) (tl : Int32) (tk : Int32) (tp : Int32) (tb : Int32) (tv : Int32) (tn : Int32) (tf : Int32) (gt : Nat → Int32) (a : Int32) (r_tp : Rg 0 400 tp) (r_a : Rg 0 4 a) : Met l yX9_failHere (Cond.code yX9_failHere cX9_failHere 2 none :: TB) (RM 0 0 0) (va_Pc [.ref ht, .int a] (PRE D cs X [(ht, .inr (7, [.ref hs, .int tl, .int tk, .int tp, .int tb, .int tv, .int tn, .int tf])), (hs, .inl ((cs 1), 400, .inl gt))] [] sz)) (va_Qv (S := Unit) (fun _ => True) (fun _ t => ∃ (tf2 : Int32), (¬ tf2 = 0) ∧ va_P D vwCl [(ht, .inr (7, [.ref hs, .int tl, .int tk, .int tp, .int tb, .int tv, .int tn, .int tf2])), (hs, .inl ((cs 1), 400, .inl gt))] t.heap ∧ va_D (va_A [(ht, .inr (7, [.ref hs, .int tl, .int tk, .int tp, .int tb, .int tv, .int tn, .int tf])), (hs, .inl ((cs 1), 400, .inl gt))] sz) [(ht, .inr (7, [.ref hs, .int tl, .int tk, .int tp, .int tb, .int tv, .int tn, .int tf2])), (hs, .inl ((cs 1), 400, .inl gt))]) (va_A [(ht, .inr (7, [.ref hs, .int tl, .int tk, .int tp, .int tb, .int tv, .int tn, .int tf])), (hs, .inl ((cs 1), 400, .inl gt))] sz)) 0 0 (va_A [(ht, .inr (7, [.ref hs, .int tl, .int tk, .int tp, .int tb, .int tv, .int tn, .int tf])), (hs, .inl ((cs 1), 400, .inl gt))] sz) := by
  refine MET (y := yX9_failHere) (cc := cX9_failHere) (maxL := 2) (ret := none) (d := 0) (mc := 0) (ms := 0) (D := D) (cs := cs) (X := X) (ws := [(ht, .inr (7, [.ref hs, .int tl, .int tk, .int tp, .int tb, .int tv, .int tn, .int tf])), (hs, .inl ((cs 1), 400, .inl gt))]) (wo := []) (sz := sz) (av := [.ref ht, .int a]) (Qc := fun A => va_Qv (S := Unit) (fun _ => True) (fun _ t => ∃ (tf2 : Int32), (¬ tf2 = 0) ∧ va_P D vwCl [(ht, .inr (7, [.ref hs, .int tl, .int tk, .int tp, .int tb, .int tv, .int tn, .int tf2])), (hs, .inl ((cs 1), 400, .inl gt))] t.heap ∧ va_D A [(ht, .inr (7, [.ref hs, .int tl, .int tk, .int tp, .int tb, .int tv, .int tn, .int tf2])), (hs, .inl ((cs 1), 400, .inl gt))]) A) (by decide) (Nat.le_of_ble_eq_true rfl) ?_
  intro p e s m below meth c ls A H hHe hx hb hr hml hown hts hlocks hnm hP hK hD hA hS hN hR hX hXs hl
  have hD : va_D A [(ht, .inr (7, [.ref hs, .int tl, .int tk, .int tp, .int tb, .int tv, .int tn, .int tf])), (hs, .inl ((cs 1), 400, .inl gt))] := hD
  obtain ⟨locs, hlc⟩ : ∃ z : List Loc, z = [] := ⟨_, rfl⟩
  rw [← hlc] at hS ⊢
  have hown : s.vm.findClass "WrongHole$Text" = some m.cls := hown
  have hT : ∀ w ∈ TB, w.before ([.ref ht, .int a] : List Value).toArray s = true := fun w h => hts w (List.mem_cons_of_mem _ h)
  have hl : lv_has ls 2 [(0, .ref ht), (1, .int a)] := hl
  have hP : va_P D vwCl [(ht, .inr (7, [.ref hs, .int tl, .int tk, .int tp, .int tb, .int tv, .int tn, .int tf])), (hs, .inl ((cs 1), 400, .inl gt))] H := hP
  refine lv_aload_n hx hb dX9_failHere_0 rfl (lv_at hl 0 rfl) ?_
  refine va_get (D := D) (ci := 7) (v := .int tf) (C := "WrongHole$Text") (T := TX9) (N := 8) hx hb hts (iq_RX9 _) hown hK hP 0 rfl rfl 7 (by decide) (hT _ qq_1_47) (fun _ h9 => h9) rfl dX9_failHere_1 ?_
  refine lv_if_ne (tgt := 22) hx hb dX9_failHere_4 (by decide) (fun c_1 => ?_) (fun c_1 => ?_)
  · refine W.widen (k := 0) (n := 0) (Nat.le_of_ble_eq_true rfl) (Nat.le_of_ble_eq_true rfl) ?_
    have hP9 := hP.sub (ws' := [(ht, .inr (7, [.ref hs, .int tl, .int tk, .int tp, .int tb, .int tv, .int tn, .int tf])), (hs, .inl ((cs 1), 400, .inl gt))]) [0, 1] rfl
    have hD9 := hD.sub (ws' := [(ht, .inr (7, [.ref hs, .int tl, .int tk, .int tp, .int tb, .int tv, .int tn, .int tf])), (hs, .inl ((cs 1), 400, .inl gt))]) [0, 1] (by decide) rfl
    exact W.vret hx hb hr (fun t9 ht9 hW9 => ⟨⟨(), rfl, trivial, ⟨tf, c_1, by rw [ht9]; exact hP9, hD9⟩⟩, hS.F ht9⟩) hS.2.2 dX9_failHere_22
  · have r_2 : Rg 0 0 tf := Rg.eq_l c_1 (Rg.top tf) (Rg.c (c := 0) (k := 0) rfl) (by decide)
    refine lv_aload_n hx hb dX9_failHere_7 rfl (lv_at hl 0 rfl) ?_
    refine lv_iconst (v := 1) hx hb dX9_failHere_8 (by decide) ?_
    refine lv_bipush (v := 8) hx hb dX9_failHere_9 (by decide) ?_
    refine lv_aload_n hx hb dX9_failHere_11 rfl (lv_at hl 0 rfl) ?_
    refine va_get (D := D) (ci := 7) (v := .int tp) (C := "WrongHole$Text") (T := TX9) (N := 8) hx hb hts (iq_RX9 _) hown hK hP 0 rfl rfl 3 (by decide) (hT _ qq_1_42) (fun _ h9 => h9) rfl dX9_failHere_12 ?_
    refine lv_imul hx hb dX9_failHere_15 ?_
    refine lv_topi (fun x_12 e_13 => ?_)
    have r_14 : Rg 0 3200 x_12 := Rg.mul (ha := 8) (hb := 400) e_13 (Rg.wk (lo2 := 0) (hi2 := 8) (Rg.c (c := 8) (k := 8) rfl) (by decide)) r_tp (by decide)
    refine lv_iadd hx hb dX9_failHere_16 ?_
    refine lv_topi (fun x_15 e_16 => ?_)
    have r_17 : Rg 1 3201 x_15 := Rg.add e_16 (Rg.c (c := 1) (k := 1) rfl) r_14 (by decide)
    refine lv_iload_n hx hb dX9_failHere_17 rfl (lv_at hl 1 rfl) ?_
    refine lv_iadd hx hb dX9_failHere_18 ?_
    refine lv_topi (fun x_18 e_19 => ?_)
    have r_20 : Rg 1 3205 x_18 := Rg.add e_19 r_17 r_a (by decide)
    refine va_put (D := D) (ci := 7) (v := .int x_18) (ty := .int) (C := "WrongHole$Text") (T := TX9) (N := 8) hx hb hts (iq_RX9 _) tyX9 tyX9_ok nmX9 hown hK hP hD hS 0 rfl rfl 7 (by decide) (hT _ qq_1_47) (fun _ h9 => h9) rfl (by decide +kernel) rfl rfl (Nat.le_of_ble_eq_true rfl) dX9_failHere_19 (fun H locs hP hD hS => ?_)
    have hP : va_P D vwCl [(ht, .inr (7, [.ref hs, .int tl, .int tk, .int tp, .int tb, .int tv, .int tn, .int x_18])), (hs, .inl ((cs 1), 400, .inl gt))] H := hP
    have hD : va_D A [(ht, .inr (7, [.ref hs, .int tl, .int tk, .int tp, .int tb, .int tv, .int tn, .int x_18])), (hs, .inl ((cs 1), 400, .inl gt))] := hD
    refine W.widen (k := 0) (n := 0) (Nat.le_of_ble_eq_true rfl) (Nat.le_of_ble_eq_true rfl) ?_
    have hP9 := hP.sub (ws' := [(ht, .inr (7, [.ref hs, .int tl, .int tk, .int tp, .int tb, .int tv, .int tn, .int x_18])), (hs, .inl ((cs 1), 400, .inl gt))]) [0, 1] rfl
    have hD9 := hD.sub (ws' := [(ht, .inr (7, [.ref hs, .int tl, .int tk, .int tp, .int tb, .int tv, .int tn, .int x_18])), (hs, .inl ((cs 1), 400, .inl gt))]) [0, 1] (by decide) rfl
    exact W.vret hx hb hr (fun t9 ht9 hW9 => ⟨⟨(), rfl, trivial, ⟨x_18, (Rg.nz r_20 (by decide)), by rw [ht9]; exact hP9, hD9⟩⟩, hS.F ht9⟩) hS.2.2 dX9_failHere_22
theorem dX9_refuseNumber_0 : decode cX9_refuseNumber 0 = .ok (.aload_n 0, 1) := by decide +kernel
theorem dX9_refuseNumber_1 : decode cX9_refuseNumber 1 = .ok (.getfield 19, 3) := by decide +kernel
theorem dX9_refuseNumber_4 : decode cX9_refuseNumber 4 = .ok (.ifCond .ne 18, 3) := by decide +kernel
theorem dX9_refuseNumber_22 : decode cX9_refuseNumber 22 = .ok (.return_, 1) := by decide +kernel
theorem dX9_refuseNumber_7 : decode cX9_refuseNumber 7 = .ok (.aload_n 0, 1) := by decide +kernel
theorem dX9_refuseNumber_8 : decode cX9_refuseNumber 8 = .ok (.iconst 1, 1) := by decide +kernel
theorem dX9_refuseNumber_9 : decode cX9_refuseNumber 9 = .ok (.bipush 8, 2) := by decide +kernel
theorem dX9_refuseNumber_11 : decode cX9_refuseNumber 11 = .ok (.aload_n 0, 1) := by decide +kernel
theorem dX9_refuseNumber_12 : decode cX9_refuseNumber 12 = .ok (.getfield 31, 3) := by decide +kernel
theorem qq_1_46 : Cond.fieldLink "WrongHole$Text" 31 "WrongHole$Text" "numberPlace" "I" ∈ TB := mk_tb (ti_1 (List.mem_of_getElem? (i := 46) rfl)) rfl
theorem dX9_refuseNumber_15 : decode cX9_refuseNumber 15 = .ok (.imul, 1) := by decide +kernel
theorem dX9_refuseNumber_16 : decode cX9_refuseNumber 16 = .ok (.iadd, 1) := by decide +kernel
theorem dX9_refuseNumber_17 : decode cX9_refuseNumber 17 = .ok (.iconst 1, 1) := by decide +kernel
theorem dX9_refuseNumber_18 : decode cX9_refuseNumber 18 = .ok (.iadd, 1) := by decide +kernel
theorem dX9_refuseNumber_19 : decode cX9_refuseNumber 19 = .ok (.putfield 19, 3) := by decide +kernel
set_option maxHeartbeats 4000000 in
set_option maxRecDepth 100000 in
theorem c_Text_refuseNumber (l : Launch) (D : va_G) (cs : Nat → ClassId) (X : XX) (sz : Nat) (ht : Nat) (hs : Nat) (tl : Int32) (tk : Int32) (tp : Int32) (tb : Int32) (tv : Int32) (tn : Int32) (tf : Int32) (gt : Nat → Int32) (r_tn : Rg 0 400 tn) : Met l yX9_refuseNumber (Cond.code yX9_refuseNumber cX9_refuseNumber 1 none :: TB) (RM 0 0 0) (va_Pc [.ref ht] (PRE D cs X [(ht, .inr (7, [.ref hs, .int tl, .int tk, .int tp, .int tb, .int tv, .int tn, .int tf])), (hs, .inl ((cs 1), 400, .inl gt))] [] sz)) (va_Qv (S := Unit) (fun _ => True) (fun _ t => ∃ (tf2 : Int32), (¬ tf2 = 0) ∧ va_P D vwCl [(ht, .inr (7, [.ref hs, .int tl, .int tk, .int tp, .int tb, .int tv, .int tn, .int tf2])), (hs, .inl ((cs 1), 400, .inl gt))] t.heap ∧ va_D (va_A [(ht, .inr (7, [.ref hs, .int tl, .int tk, .int tp, .int tb, .int tv, .int tn, .int tf])), (hs, .inl ((cs 1), 400, .inl gt))] sz) [(ht, .inr (7, [.ref hs, .int tl, .int tk, .int tp, .int tb, .int tv, .int tn, .int tf2])), (hs, .inl ((cs 1), 400, .inl gt))]) (va_A [(ht, .inr (7, [.ref hs, .int tl, .int tk, .int tp, .int tb, .int tv, .int tn, .int tf])), (hs, .inl ((cs 1), 400, .inl gt))] sz)) 0 0 (va_A [(ht, .inr (7, [.ref hs, .int tl, .int tk, .int tp, .int tb, .int tv, .int tn, .int tf])), (hs, .inl ((cs 1), 400, .inl gt))] sz) := by
  refine MET (y := yX9_refuseNumber) (cc := cX9_refuseNumber) (maxL := 1) (ret := none) (d := 0) (mc := 0) (ms := 0) (D := D) (cs := cs) (X := X) (ws := [(ht, .inr (7, [.ref hs, .int tl, .int tk, .int tp, .int tb, .int tv, .int tn, .int tf])), (hs, .inl ((cs 1), 400, .inl gt))]) (wo := []) (sz := sz) (av := [.ref ht]) (Qc := fun A => va_Qv (S := Unit) (fun _ => True) (fun _ t => ∃ (tf2 : Int32), (¬ tf2 = 0) ∧ va_P D vwCl [(ht, .inr (7, [.ref hs, .int tl, .int tk, .int tp, .int tb, .int tv, .int tn, .int tf2])), (hs, .inl ((cs 1), 400, .inl gt))] t.heap ∧ va_D A [(ht, .inr (7, [.ref hs, .int tl, .int tk, .int tp, .int tb, .int tv, .int tn, .int tf2])), (hs, .inl ((cs 1), 400, .inl gt))]) A) (by decide) (Nat.le_of_ble_eq_true rfl) ?_
  intro p e s m below meth c ls A H hHe hx hb hr hml hown hts hlocks hnm hP hK hD hA hS hN hR hX hXs hl
  have hD : va_D A [(ht, .inr (7, [.ref hs, .int tl, .int tk, .int tp, .int tb, .int tv, .int tn, .int tf])), (hs, .inl ((cs 1), 400, .inl gt))] := hD
  obtain ⟨locs, hlc⟩ : ∃ z : List Loc, z = [] := ⟨_, rfl⟩
  rw [← hlc] at hS ⊢
  have hown : s.vm.findClass "WrongHole$Text" = some m.cls := hown
  have hT : ∀ w ∈ TB, w.before ([.ref ht] : List Value).toArray s = true := fun w h => hts w (List.mem_cons_of_mem _ h)
  have hl : lv_has ls 1 [(0, .ref ht)] := hl
  have hP : va_P D vwCl [(ht, .inr (7, [.ref hs, .int tl, .int tk, .int tp, .int tb, .int tv, .int tn, .int tf])), (hs, .inl ((cs 1), 400, .inl gt))] H := hP
  refine lv_aload_n hx hb dX9_refuseNumber_0 rfl (lv_at hl 0 rfl) ?_
  refine va_get (D := D) (ci := 7) (v := .int tf) (C := "WrongHole$Text") (T := TX9) (N := 8) hx hb hts (iq_RX9 _) hown hK hP 0 rfl rfl 7 (by decide) (hT _ qq_1_47) (fun _ h9 => h9) rfl dX9_refuseNumber_1 ?_
  refine lv_if_ne (tgt := 22) hx hb dX9_refuseNumber_4 (by decide) (fun c_1 => ?_) (fun c_1 => ?_)
  · refine W.widen (k := 0) (n := 0) (Nat.le_of_ble_eq_true rfl) (Nat.le_of_ble_eq_true rfl) ?_
    have hP9 := hP.sub (ws' := [(ht, .inr (7, [.ref hs, .int tl, .int tk, .int tp, .int tb, .int tv, .int tn, .int tf])), (hs, .inl ((cs 1), 400, .inl gt))]) [0, 1] rfl
    have hD9 := hD.sub (ws' := [(ht, .inr (7, [.ref hs, .int tl, .int tk, .int tp, .int tb, .int tv, .int tn, .int tf])), (hs, .inl ((cs 1), 400, .inl gt))]) [0, 1] (by decide) rfl
    exact W.vret hx hb hr (fun t9 ht9 hW9 => ⟨⟨(), rfl, trivial, ⟨tf, c_1, by rw [ht9]; exact hP9, hD9⟩⟩, hS.F ht9⟩) hS.2.2 dX9_refuseNumber_22
  · have r_2 : Rg 0 0 tf := Rg.eq_l c_1 (Rg.top tf) (Rg.c (c := 0) (k := 0) rfl) (by decide)
    refine lv_aload_n hx hb dX9_refuseNumber_7 rfl (lv_at hl 0 rfl) ?_
    refine lv_iconst (v := 1) hx hb dX9_refuseNumber_8 (by decide) ?_
    refine lv_bipush (v := 8) hx hb dX9_refuseNumber_9 (by decide) ?_
    refine lv_aload_n hx hb dX9_refuseNumber_11 rfl (lv_at hl 0 rfl) ?_
    refine va_get (D := D) (ci := 7) (v := .int tn) (C := "WrongHole$Text") (T := TX9) (N := 8) hx hb hts (iq_RX9 _) hown hK hP 0 rfl rfl 6 (by decide) (hT _ qq_1_46) (fun _ h9 => h9) rfl dX9_refuseNumber_12 ?_
    refine lv_imul hx hb dX9_refuseNumber_15 ?_
    refine lv_topi (fun x_12 e_13 => ?_)
    have r_14 : Rg 0 3200 x_12 := Rg.mul (ha := 8) (hb := 400) e_13 (Rg.wk (lo2 := 0) (hi2 := 8) (Rg.c (c := 8) (k := 8) rfl) (by decide)) r_tn (by decide)
    refine lv_iadd hx hb dX9_refuseNumber_16 ?_
    refine lv_topi (fun x_15 e_16 => ?_)
    have r_17 : Rg 1 3201 x_15 := Rg.add e_16 (Rg.c (c := 1) (k := 1) rfl) r_14 (by decide)
    refine lv_iconst (v := 1) hx hb dX9_refuseNumber_17 (by decide) ?_
    refine lv_iadd hx hb dX9_refuseNumber_18 ?_
    refine lv_topi (fun x_18 e_19 => ?_)
    have r_20 : Rg 2 3202 x_18 := Rg.add e_19 r_17 (Rg.c (c := 1) (k := 1) rfl) (by decide)
    refine va_put (D := D) (ci := 7) (v := .int x_18) (ty := .int) (C := "WrongHole$Text") (T := TX9) (N := 8) hx hb hts (iq_RX9 _) tyX9 tyX9_ok nmX9 hown hK hP hD hS 0 rfl rfl 7 (by decide) (hT _ qq_1_47) (fun _ h9 => h9) rfl (by decide +kernel) rfl rfl (Nat.le_of_ble_eq_true rfl) dX9_refuseNumber_19 (fun H locs hP hD hS => ?_)
    have hP : va_P D vwCl [(ht, .inr (7, [.ref hs, .int tl, .int tk, .int tp, .int tb, .int tv, .int tn, .int x_18])), (hs, .inl ((cs 1), 400, .inl gt))] H := hP
    have hD : va_D A [(ht, .inr (7, [.ref hs, .int tl, .int tk, .int tp, .int tb, .int tv, .int tn, .int x_18])), (hs, .inl ((cs 1), 400, .inl gt))] := hD
    refine W.widen (k := 0) (n := 0) (Nat.le_of_ble_eq_true rfl) (Nat.le_of_ble_eq_true rfl) ?_
    have hP9 := hP.sub (ws' := [(ht, .inr (7, [.ref hs, .int tl, .int tk, .int tp, .int tb, .int tv, .int tn, .int x_18])), (hs, .inl ((cs 1), 400, .inl gt))]) [0, 1] rfl
    have hD9 := hD.sub (ws' := [(ht, .inr (7, [.ref hs, .int tl, .int tk, .int tp, .int tb, .int tv, .int tn, .int x_18])), (hs, .inl ((cs 1), 400, .inl gt))]) [0, 1] (by decide) rfl
    exact W.vret hx hb hr (fun t9 ht9 hW9 => ⟨⟨(), rfl, trivial, ⟨x_18, (Rg.nz r_20 (by decide)), by rw [ht9]; exact hP9, hD9⟩⟩, hS.F ht9⟩) hS.2.2 dX9_refuseNumber_22
theorem dX9_joinSame_0 : decode cX9_joinSame 0 = .ok (.aload_n 0, 1) := by decide +kernel
theorem dX9_joinSame_1 : decode cX9_joinSame 1 = .ok (.getfield 22, 3) := by decide +kernel
theorem qq_1_43 : Cond.fieldLink "WrongHole$Text" 22 "WrongHole$Text" "behind" "I" ∈ TB := mk_tb (ti_1 (List.mem_of_getElem? (i := 43) rfl)) rfl
theorem dX9_joinSame_4 : decode cX9_joinSame 4 = .ok (.aload_n 0, 1) := by decide +kernel
theorem dX9_joinSame_5 : decode cX9_joinSame 5 = .ok (.getfield 15, 3) := by decide +kernel
theorem dX9_joinSame_8 : decode cX9_joinSame 8 = .ok (.if_icmp .ge 67, 3) := by decide +kernel
theorem dX9_joinSame_75 : decode cX9_joinSame 75 = .ok (.return_, 1) := by decide +kernel
theorem dX9_joinSame_11 : decode cX9_joinSame 11 = .ok (.aload_n 0, 1) := by decide +kernel
theorem dX9_joinSame_12 : decode cX9_joinSame 12 = .ok (.getfield 11, 3) := by decide +kernel
theorem dX9_joinSame_15 : decode cX9_joinSame 15 = .ok (.aload_n 0, 1) := by decide +kernel
theorem dX9_joinSame_16 : decode cX9_joinSame 16 = .ok (.getfield 22, 3) := by decide +kernel
theorem dX9_joinSame_19 : decode cX9_joinSame 19 = .ok (.caload, 1) := by decide +kernel
theorem dX9_joinSame_20 : decode cX9_joinSame 20 = .ok (.bipush 61, 2) := by decide +kernel
theorem dX9_joinSame_22 : decode cX9_joinSame 22 = .ok (.if_icmp .ne 53, 3) := by decide +kernel
theorem dX9_joinSame_25 : decode cX9_joinSame 25 = .ok (.aload_n 0, 1) := by decide +kernel
theorem dX9_joinSame_26 : decode cX9_joinSame 26 = .ok (.getfield 34, 3) := by decide +kernel
theorem qq_1_41 : Cond.fieldLink "WrongHole$Text" 34 "WrongHole$Text" "kind" "I" ∈ TB := mk_tb (ti_1 (List.mem_of_getElem? (i := 41) rfl)) rfl
theorem dX9_joinSame_29 : decode cX9_joinSame 29 = .ok (.bipush 60, 2) := by decide +kernel
theorem dX9_joinSame_31 : decode cX9_joinSame 31 = .ok (.if_icmp .eq 12, 3) := by decide +kernel
theorem dX9_joinSame_43 : decode cX9_joinSame 43 = .ok (.aload_n 0, 1) := by decide +kernel
theorem dX9_joinSame_44 : decode cX9_joinSame 44 = .ok (.aload_n 0, 1) := by decide +kernel
theorem dX9_joinSame_45 : decode cX9_joinSame 45 = .ok (.getfield 34, 3) := by decide +kernel
theorem dX9_joinSame_48 : decode cX9_joinSame 48 = .ok (.bipush 60, 2) := by decide +kernel
theorem dX9_joinSame_50 : decode cX9_joinSame 50 = .ok (.if_icmp .ne 9, 3) := by decide +kernel
theorem dX9_joinSame_53 : decode cX9_joinSame 53 = .ok (.sipush 258, 3) := by decide +kernel
theorem dX9_joinSame_56 : decode cX9_joinSame 56 = .ok (.goto 6, 3) := by decide +kernel
theorem dX9_joinSame_62 : decode cX9_joinSame 62 = .ok (.putfield 34, 3) := by decide +kernel
theorem dX9_joinSame_65 : decode cX9_joinSame 65 = .ok (.aload_n 0, 1) := by decide +kernel
theorem dX9_joinSame_66 : decode cX9_joinSame 66 = .ok (.dup, 1) := by decide +kernel
theorem dX9_joinSame_67 : decode cX9_joinSame 67 = .ok (.getfield 22, 3) := by decide +kernel
theorem dX9_joinSame_70 : decode cX9_joinSame 70 = .ok (.iconst 1, 1) := by decide +kernel
theorem dX9_joinSame_71 : decode cX9_joinSame 71 = .ok (.iadd, 1) := by decide +kernel
theorem dX9_joinSame_72 : decode cX9_joinSame 72 = .ok (.putfield 22, 3) := by decide +kernel
theorem dX9_joinSame_34 : decode cX9_joinSame 34 = .ok (.aload_n 0, 1) := by decide +kernel
theorem dX9_joinSame_35 : decode cX9_joinSame 35 = .ok (.getfield 34, 3) := by decide +kernel
theorem dX9_joinSame_38 : decode cX9_joinSame 38 = .ok (.bipush 62, 2) := by decide +kernel
theorem dX9_joinSame_40 : decode cX9_joinSame 40 = .ok (.if_icmp .ne 35, 3) := by decide +kernel
theorem dX9_joinSame_59 : decode cX9_joinSame 59 = .ok (.sipush 259, 3) := by decide +kernel
set_option maxHeartbeats 4000000 in
set_option maxRecDepth 100000 in
theorem c_Text_joinSame (l : Launch) (D : va_G) (cs : Nat → ClassId) (X : XX) (sz : Nat) (ht : Nat) (hs : Nat) (tl : Int32) (tk : Int32) (tp : Int32) (tb : Int32) (tv : Int32) (tn : Int32) (tf : Int32) (gt : Nat → Int32) (r_tl : Rg 0 400 tl) (r_tp : Rg 0 400 tp) (r_tb : Rg 0 400 tb) : Met l yX9_joinSame (Cond.code yX9_joinSame cX9_joinSame 1 none :: TB) (RM 0 0 0) (va_Pc [.ref ht] (PRE D cs X [(ht, .inr (7, [.ref hs, .int tl, .int tk, .int tp, .int tb, .int tv, .int tn, .int tf])), (hs, .inl ((cs 1), 400, .inl gt))] [] sz)) (va_Qv (S := Unit) (fun _ => True) (fun _ t => ∃ (tk2 : Int32), ∃ (tp2 : Int32), ∃ (tb2 : Int32), ∃ (tv2 : Int32), Rg 0 400 tp2 ∧ Rg 0 400 tb2 ∧ va_P D vwCl [(ht, .inr (7, [.ref hs, .int tl, .int tk2, .int tp2, .int tb2, .int tv2, .int tn, .int tf])), (hs, .inl ((cs 1), 400, .inl gt))] t.heap ∧ va_D (va_A [(ht, .inr (7, [.ref hs, .int tl, .int tk, .int tp, .int tb, .int tv, .int tn, .int tf])), (hs, .inl ((cs 1), 400, .inl gt))] sz) [(ht, .inr (7, [.ref hs, .int tl, .int tk2, .int tp2, .int tb2, .int tv2, .int tn, .int tf])), (hs, .inl ((cs 1), 400, .inl gt))]) (va_A [(ht, .inr (7, [.ref hs, .int tl, .int tk, .int tp, .int tb, .int tv, .int tn, .int tf])), (hs, .inl ((cs 1), 400, .inl gt))] sz)) 0 0 (va_A [(ht, .inr (7, [.ref hs, .int tl, .int tk, .int tp, .int tb, .int tv, .int tn, .int tf])), (hs, .inl ((cs 1), 400, .inl gt))] sz) := by
  refine MET (y := yX9_joinSame) (cc := cX9_joinSame) (maxL := 1) (ret := none) (d := 0) (mc := 0) (ms := 0) (D := D) (cs := cs) (X := X) (ws := [(ht, .inr (7, [.ref hs, .int tl, .int tk, .int tp, .int tb, .int tv, .int tn, .int tf])), (hs, .inl ((cs 1), 400, .inl gt))]) (wo := []) (sz := sz) (av := [.ref ht]) (Qc := fun A => va_Qv (S := Unit) (fun _ => True) (fun _ t => ∃ (tk2 : Int32), ∃ (tp2 : Int32), ∃ (tb2 : Int32), ∃ (tv2 : Int32), Rg 0 400 tp2 ∧ Rg 0 400 tb2 ∧ va_P D vwCl [(ht, .inr (7, [.ref hs, .int tl, .int tk2, .int tp2, .int tb2, .int tv2, .int tn, .int tf])), (hs, .inl ((cs 1), 400, .inl gt))] t.heap ∧ va_D A [(ht, .inr (7, [.ref hs, .int tl, .int tk2, .int tp2, .int tb2, .int tv2, .int tn, .int tf])), (hs, .inl ((cs 1), 400, .inl gt))]) A) (by decide) (Nat.le_of_ble_eq_true rfl) ?_
  intro p e s m below meth c ls A H hHe hx hb hr hml hown hts hlocks hnm hP hK hD hA hS hN hR hX hXs hl
  have hD : va_D A [(ht, .inr (7, [.ref hs, .int tl, .int tk, .int tp, .int tb, .int tv, .int tn, .int tf])), (hs, .inl ((cs 1), 400, .inl gt))] := hD
  obtain ⟨locs, hlc⟩ : ∃ z : List Loc, z = [] := ⟨_, rfl⟩
  rw [← hlc] at hS ⊢
  have hown : s.vm.findClass "WrongHole$Text" = some m.cls := hown
  have hT : ∀ w ∈ TB, w.before ([.ref ht] : List Value).toArray s = true := fun w h => hts w (List.mem_cons_of_mem _ h)
  have hl : lv_has ls 1 [(0, .ref ht)] := hl
  have hP : va_P D vwCl [(ht, .inr (7, [.ref hs, .int tl, .int tk, .int tp, .int tb, .int tv, .int tn, .int tf])), (hs, .inl ((cs 1), 400, .inl gt))] H := hP
  refine lv_aload_n hx hb dX9_joinSame_0 rfl (lv_at hl 0 rfl) ?_
  refine va_get (D := D) (ci := 7) (v := .int tb) (C := "WrongHole$Text") (T := TX9) (N := 8) hx hb hts (iq_RX9 _) hown hK hP 0 rfl rfl 4 (by decide) (hT _ qq_1_43) (fun _ h9 => h9) rfl dX9_joinSame_1 ?_
  refine lv_aload_n hx hb dX9_joinSame_4 rfl (lv_at hl 0 rfl) ?_
  refine va_get (D := D) (ci := 7) (v := .int tl) (C := "WrongHole$Text") (T := TX9) (N := 8) hx hb hts (iq_RX9 _) hown hK hP 0 rfl rfl 1 (by decide) (hT _ qq_1_37) (fun _ h9 => h9) rfl dX9_joinSame_5 ?_
  refine lv_icmp_ge (tgt := 75) hx hb dX9_joinSame_8 (by decide) (fun c_1 => ?_) (fun c_1 => ?_)
  · refine W.widen (k := 0) (n := 0) (Nat.le_of_ble_eq_true rfl) (Nat.le_of_ble_eq_true rfl) ?_
    have hP9 := hP.sub (ws' := [(ht, .inr (7, [.ref hs, .int tl, .int tk, .int tp, .int tb, .int tv, .int tn, .int tf])), (hs, .inl ((cs 1), 400, .inl gt))]) [0, 1] rfl
    have hD9 := hD.sub (ws' := [(ht, .inr (7, [.ref hs, .int tl, .int tk, .int tp, .int tb, .int tv, .int tn, .int tf])), (hs, .inl ((cs 1), 400, .inl gt))]) [0, 1] (by decide) rfl
    exact W.vret hx hb hr (fun t9 ht9 hW9 => ⟨⟨(), rfl, trivial, ⟨tk, tp, tb, tv, r_tp, r_tb, by rw [ht9]; exact hP9, hD9⟩⟩, hS.F ht9⟩) hS.2.2 dX9_joinSame_75
  · have r_2 : Rg 0 399 tb := Rg.lt_l (nle_lt c_1) r_tb r_tl (by decide)
    have r_3 : Rg 1 400 tl := Rg.lt_r (nle_lt c_1) r_tb r_tl (by decide)
    refine lv_aload_n hx hb dX9_joinSame_11 rfl (lv_at hl 0 rfl) ?_
    refine va_get (D := D) (ci := 7) (v := .ref hs) (C := "WrongHole$Text") (T := TX9) (N := 8) hx hb hts (iq_RX9 _) hown hK hP 0 rfl rfl 0 (by decide) (hT _ qq_1_36) (fun _ h9 => h9) rfl dX9_joinSame_12 ?_
    refine lv_aload_n hx hb dX9_joinSame_15 rfl (lv_at hl 0 rfl) ?_
    refine va_get (D := D) (ci := 7) (v := .int tb) (C := "WrongHole$Text") (T := TX9) (N := 8) hx hb hts (iq_RX9 _) hown hK hP 0 rfl rfl 4 (by decide) (hT _ qq_1_43) (fun _ h9 => h9) rfl dX9_joinSame_16 ?_
    have hi_20 : vp_in tb 400 := Rg.in r_2 (by decide)
    refine va_cald hx hb hK hP 1 1 rfl rfl hi_20 dX9_joinSame_19 ?_
    refine lv_topi (fun x_21 e_22 => ?_)
    refine lv_bipush (v := 61) hx hb dX9_joinSame_20 (by decide) ?_
    refine lv_icmp_ne (tgt := 75) hx hb dX9_joinSame_22 (by decide) (fun c_23 => ?_) (fun c_23 => ?_)
    · refine W.widen (k := 0) (n := 0) (Nat.le_of_ble_eq_true rfl) (Nat.le_of_ble_eq_true rfl) ?_
      have hP9 := hP.sub (ws' := [(ht, .inr (7, [.ref hs, .int tl, .int tk, .int tp, .int tb, .int tv, .int tn, .int tf])), (hs, .inl ((cs 1), 400, .inl gt))]) [0, 1] rfl
      have hD9 := hD.sub (ws' := [(ht, .inr (7, [.ref hs, .int tl, .int tk, .int tp, .int tb, .int tv, .int tn, .int tf])), (hs, .inl ((cs 1), 400, .inl gt))]) [0, 1] (by decide) rfl
      exact W.vret hx hb hr (fun t9 ht9 hW9 => ⟨⟨(), rfl, trivial, ⟨tk, tp, tb, tv, r_tp, (Rg.wk (lo2 := 0) (hi2 := 400) r_2 (by decide)), by rw [ht9]; exact hP9, hD9⟩⟩, hS.F ht9⟩) hS.2.2 dX9_joinSame_75
    · have r_24 : Rg 61 61 x_21 := Rg.eq_l c_23 (Rg.top x_21) (Rg.c (c := 61) (k := 61) rfl) (by decide)
      refine lv_aload_n hx hb dX9_joinSame_25 rfl (lv_at hl 0 rfl) ?_
      refine va_get (D := D) (ci := 7) (v := .int tk) (C := "WrongHole$Text") (T := TX9) (N := 8) hx hb hts (iq_RX9 _) hown hK hP 0 rfl rfl 2 (by decide) (hT _ qq_1_41) (fun _ h9 => h9) rfl dX9_joinSame_26 ?_
      refine lv_bipush (v := 60) hx hb dX9_joinSame_29 (by decide) ?_
      refine lv_icmp_eq (tgt := 43) hx hb dX9_joinSame_31 (by decide) (fun c_37 => ?_) (fun c_37 => ?_)
      · have r_38 : Rg 60 60 tk := Rg.eq_l c_37 (Rg.top tk) (Rg.c (c := 60) (k := 60) rfl) (by decide)
        refine lv_aload_n hx hb dX9_joinSame_43 rfl (lv_at hl 0 rfl) ?_
        refine lv_aload_n hx hb dX9_joinSame_44 rfl (lv_at hl 0 rfl) ?_
        refine va_get (D := D) (ci := 7) (v := .int tk) (C := "WrongHole$Text") (T := TX9) (N := 8) hx hb hts (iq_RX9 _) hown hK hP 0 rfl rfl 2 (by decide) (hT _ qq_1_41) (fun _ h9 => h9) rfl dX9_joinSame_45 ?_
        refine lv_bipush (v := 60) hx hb dX9_joinSame_48 (by decide) ?_
        refine lv_icmp_ne (tgt := 59) hx hb dX9_joinSame_50 (by decide) (fun c_49 => False.elim (Rg.no_ne c_49 r_38 (Rg.c (c := 60) (k := 60) rfl) (by decide))) (fun c_49 => ?_)
        refine lv_sipush (v := 258) hx hb dX9_joinSame_53 (by decide) ?_
        refine lv_goto (tgt := 62) hx hb dX9_joinSame_56 (by decide) ?_
        refine va_put (D := D) (ci := 7) (v := .int 258) (ty := .int) (C := "WrongHole$Text") (T := TX9) (N := 8) hx hb hts (iq_RX9 _) tyX9 tyX9_ok nmX9 hown hK hP hD hS 0 rfl rfl 2 (by decide) (hT _ qq_1_41) (fun _ h9 => h9) rfl (by decide +kernel) rfl rfl (Nat.le_of_ble_eq_true rfl) dX9_joinSame_62 (fun H locs hP hD hS => ?_)
        have hP : va_P D vwCl [(ht, .inr (7, [.ref hs, .int tl, .int 258, .int tp, .int tb, .int tv, .int tn, .int tf])), (hs, .inl ((cs 1), 400, .inl gt))] H := hP
        have hD : va_D A [(ht, .inr (7, [.ref hs, .int tl, .int 258, .int tp, .int tb, .int tv, .int tn, .int tf])), (hs, .inl ((cs 1), 400, .inl gt))] := hD
        refine lv_aload_n hx hb dX9_joinSame_65 rfl (lv_at hl 0 rfl) ?_
        refine lv_dup hx hb dX9_joinSame_66 rfl ?_
        refine va_get (D := D) (ci := 7) (v := .int tb) (C := "WrongHole$Text") (T := TX9) (N := 8) hx hb hts (iq_RX9 _) hown hK hP 0 rfl rfl 4 (by decide) (hT _ qq_1_43) (fun _ h9 => h9) rfl dX9_joinSame_67 ?_
        refine lv_iconst (v := 1) hx hb dX9_joinSame_70 (by decide) ?_
        refine lv_iadd hx hb dX9_joinSame_71 ?_
        refine lv_topi (fun x_50 e_51 => ?_)
        have r_52 : Rg 1 400 x_50 := Rg.add e_51 r_2 (Rg.c (c := 1) (k := 1) rfl) (by decide)
        refine va_put (D := D) (ci := 7) (v := .int x_50) (ty := .int) (C := "WrongHole$Text") (T := TX9) (N := 8) hx hb hts (iq_RX9 _) tyX9 tyX9_ok nmX9 hown hK hP hD hS 0 rfl rfl 4 (by decide) (hT _ qq_1_43) (fun _ h9 => h9) rfl (by decide +kernel) rfl rfl (Nat.le_of_ble_eq_true rfl) dX9_joinSame_72 (fun H locs hP hD hS => ?_)
        have hP : va_P D vwCl [(ht, .inr (7, [.ref hs, .int tl, .int 258, .int tp, .int x_50, .int tv, .int tn, .int tf])), (hs, .inl ((cs 1), 400, .inl gt))] H := hP
        have hD : va_D A [(ht, .inr (7, [.ref hs, .int tl, .int 258, .int tp, .int x_50, .int tv, .int tn, .int tf])), (hs, .inl ((cs 1), 400, .inl gt))] := hD
        refine W.widen (k := 0) (n := 0) (Nat.le_of_ble_eq_true rfl) (Nat.le_of_ble_eq_true rfl) ?_
        have hP9 := hP.sub (ws' := [(ht, .inr (7, [.ref hs, .int tl, .int 258, .int tp, .int x_50, .int tv, .int tn, .int tf])), (hs, .inl ((cs 1), 400, .inl gt))]) [0, 1] rfl
        have hD9 := hD.sub (ws' := [(ht, .inr (7, [.ref hs, .int tl, .int 258, .int tp, .int x_50, .int tv, .int tn, .int tf])), (hs, .inl ((cs 1), 400, .inl gt))]) [0, 1] (by decide) rfl
        exact W.vret hx hb hr (fun t9 ht9 hW9 => ⟨⟨(), rfl, trivial, ⟨258, tp, x_50, tv, r_tp, (Rg.wk (lo2 := 0) (hi2 := 400) r_52 (by decide)), by rw [ht9]; exact hP9, hD9⟩⟩, hS.F ht9⟩) hS.2.2 dX9_joinSame_75
      · refine lv_aload_n hx hb dX9_joinSame_34 rfl (lv_at hl 0 rfl) ?_
        refine va_get (D := D) (ci := 7) (v := .int tk) (C := "WrongHole$Text") (T := TX9) (N := 8) hx hb hts (iq_RX9 _) hown hK hP 0 rfl rfl 2 (by decide) (hT _ qq_1_41) (fun _ h9 => h9) rfl dX9_joinSame_35 ?_
        refine lv_bipush (v := 62) hx hb dX9_joinSame_38 (by decide) ?_
        refine lv_icmp_ne (tgt := 75) hx hb dX9_joinSame_40 (by decide) (fun c_53 => ?_) (fun c_53 => ?_)
        · refine W.widen (k := 0) (n := 0) (Nat.le_of_ble_eq_true rfl) (Nat.le_of_ble_eq_true rfl) ?_
          have hP9 := hP.sub (ws' := [(ht, .inr (7, [.ref hs, .int tl, .int tk, .int tp, .int tb, .int tv, .int tn, .int tf])), (hs, .inl ((cs 1), 400, .inl gt))]) [0, 1] rfl
          have hD9 := hD.sub (ws' := [(ht, .inr (7, [.ref hs, .int tl, .int tk, .int tp, .int tb, .int tv, .int tn, .int tf])), (hs, .inl ((cs 1), 400, .inl gt))]) [0, 1] (by decide) rfl
          exact W.vret hx hb hr (fun t9 ht9 hW9 => ⟨⟨(), rfl, trivial, ⟨tk, tp, tb, tv, r_tp, (Rg.wk (lo2 := 0) (hi2 := 400) r_2 (by decide)), by rw [ht9]; exact hP9, hD9⟩⟩, hS.F ht9⟩) hS.2.2 dX9_joinSame_75
        · have r_54 : Rg 62 62 tk := Rg.eq_l c_53 (Rg.top tk) (Rg.c (c := 62) (k := 62) rfl) (by decide)
          refine lv_aload_n hx hb dX9_joinSame_43 rfl (lv_at hl 0 rfl) ?_
          refine lv_aload_n hx hb dX9_joinSame_44 rfl (lv_at hl 0 rfl) ?_
          refine va_get (D := D) (ci := 7) (v := .int tk) (C := "WrongHole$Text") (T := TX9) (N := 8) hx hb hts (iq_RX9 _) hown hK hP 0 rfl rfl 2 (by decide) (hT _ qq_1_41) (fun _ h9 => h9) rfl dX9_joinSame_45 ?_
          refine lv_bipush (v := 60) hx hb dX9_joinSame_48 (by decide) ?_
          refine lv_icmp_ne (tgt := 59) hx hb dX9_joinSame_50 (by decide) (fun c_59 => ?_) (fun c_59 => False.elim (Rg.no_eq c_59 r_54 (Rg.c (c := 60) (k := 60) rfl) (by decide)))
          refine lv_sipush (v := 259) hx hb dX9_joinSame_59 (by decide) ?_
          refine va_put (D := D) (ci := 7) (v := .int 259) (ty := .int) (C := "WrongHole$Text") (T := TX9) (N := 8) hx hb hts (iq_RX9 _) tyX9 tyX9_ok nmX9 hown hK hP hD hS 0 rfl rfl 2 (by decide) (hT _ qq_1_41) (fun _ h9 => h9) rfl (by decide +kernel) rfl rfl (Nat.le_of_ble_eq_true rfl) dX9_joinSame_62 (fun H locs hP hD hS => ?_)
          have hP : va_P D vwCl [(ht, .inr (7, [.ref hs, .int tl, .int 259, .int tp, .int tb, .int tv, .int tn, .int tf])), (hs, .inl ((cs 1), 400, .inl gt))] H := hP
          have hD : va_D A [(ht, .inr (7, [.ref hs, .int tl, .int 259, .int tp, .int tb, .int tv, .int tn, .int tf])), (hs, .inl ((cs 1), 400, .inl gt))] := hD
          refine lv_aload_n hx hb dX9_joinSame_65 rfl (lv_at hl 0 rfl) ?_
          refine lv_dup hx hb dX9_joinSame_66 rfl ?_
          refine va_get (D := D) (ci := 7) (v := .int tb) (C := "WrongHole$Text") (T := TX9) (N := 8) hx hb hts (iq_RX9 _) hown hK hP 0 rfl rfl 4 (by decide) (hT _ qq_1_43) (fun _ h9 => h9) rfl dX9_joinSame_67 ?_
          refine lv_iconst (v := 1) hx hb dX9_joinSame_70 (by decide) ?_
          refine lv_iadd hx hb dX9_joinSame_71 ?_
          refine lv_topi (fun x_60 e_61 => ?_)
          have r_62 : Rg 1 400 x_60 := Rg.add e_61 r_2 (Rg.c (c := 1) (k := 1) rfl) (by decide)
          refine va_put (D := D) (ci := 7) (v := .int x_60) (ty := .int) (C := "WrongHole$Text") (T := TX9) (N := 8) hx hb hts (iq_RX9 _) tyX9 tyX9_ok nmX9 hown hK hP hD hS 0 rfl rfl 4 (by decide) (hT _ qq_1_43) (fun _ h9 => h9) rfl (by decide +kernel) rfl rfl (Nat.le_of_ble_eq_true rfl) dX9_joinSame_72 (fun H locs hP hD hS => ?_)
          have hP : va_P D vwCl [(ht, .inr (7, [.ref hs, .int tl, .int 259, .int tp, .int x_60, .int tv, .int tn, .int tf])), (hs, .inl ((cs 1), 400, .inl gt))] H := hP
          have hD : va_D A [(ht, .inr (7, [.ref hs, .int tl, .int 259, .int tp, .int x_60, .int tv, .int tn, .int tf])), (hs, .inl ((cs 1), 400, .inl gt))] := hD
          refine W.widen (k := 0) (n := 0) (Nat.le_of_ble_eq_true rfl) (Nat.le_of_ble_eq_true rfl) ?_
          have hP9 := hP.sub (ws' := [(ht, .inr (7, [.ref hs, .int tl, .int 259, .int tp, .int x_60, .int tv, .int tn, .int tf])), (hs, .inl ((cs 1), 400, .inl gt))]) [0, 1] rfl
          have hD9 := hD.sub (ws' := [(ht, .inr (7, [.ref hs, .int tl, .int 259, .int tp, .int x_60, .int tv, .int tn, .int tf])), (hs, .inl ((cs 1), 400, .inl gt))]) [0, 1] (by decide) rfl
          exact W.vret hx hb hr (fun t9 ht9 hW9 => ⟨⟨(), rfl, trivial, ⟨259, tp, x_60, tv, r_tp, (Rg.wk (lo2 := 0) (hi2 := 400) r_62 (by decide)), by rw [ht9]; exact hP9, hD9⟩⟩, hS.F ht9⟩) hS.2.2 dX9_joinSame_75
theorem dX9_passDigits_0 : decode cX9_passDigits 0 = .ok (.aload_n 0, 1) := by decide +kernel
theorem dX9_passDigits_1 : decode cX9_passDigits 1 = .ok (.iconst 0, 1) := by decide +kernel
theorem dX9_passDigits_2 : decode cX9_passDigits 2 = .ok (.putfield 46, 3) := by decide +kernel
theorem qq_1_45 : Cond.fieldLink "WrongHole$Text" 46 "WrongHole$Text" "value" "I" ∈ TB := mk_tb (ti_1 (List.mem_of_getElem? (i := 45) rfl)) rfl
theorem dX9_passDigits_5 : decode cX9_passDigits 5 = .ok (.aload_n 0, 1) := by decide +kernel
theorem dX9_passDigits_6 : decode cX9_passDigits 6 = .ok (.getfield 28, 3) := by decide +kernel
theorem dX9_passDigits_9 : decode cX9_passDigits 9 = .ok (.istore_n 1, 1) := by decide +kernel
theorem qq_2_136 : Cond.constant "WrongHole$Text" 49 100000 ∈ TB := mk_tb (ti_2 (List.mem_of_getElem? (i := 136) rfl)) rfl
theorem dX9_passDigits_10 : decode cX9_passDigits 10 = .ok (.iload_n 1, 1) := by decide +kernel
theorem dX9_passDigits_11 : decode cX9_passDigits 11 = .ok (.aload_n 0, 1) := by decide +kernel
theorem dX9_passDigits_12 : decode cX9_passDigits 12 = .ok (.getfield 15, 3) := by decide +kernel
theorem dX9_passDigits_15 : decode cX9_passDigits 15 = .ok (.if_icmp .ge 77, 3) := by decide +kernel
theorem dX9_passDigits_92 : decode cX9_passDigits 92 = .ok (.return_, 1) := by decide +kernel
theorem dX9_passDigits_18 : decode cX9_passDigits 18 = .ok (.aload_n 0, 1) := by decide +kernel
theorem dX9_passDigits_19 : decode cX9_passDigits 19 = .ok (.getfield 11, 3) := by decide +kernel
theorem dX9_passDigits_22 : decode cX9_passDigits 22 = .ok (.iload_n 1, 1) := by decide +kernel
theorem dX9_passDigits_23 : decode cX9_passDigits 23 = .ok (.caload, 1) := by decide +kernel
theorem dX9_passDigits_24 : decode cX9_passDigits 24 = .ok (.bipush 48, 2) := by decide +kernel
theorem dX9_passDigits_26 : decode cX9_passDigits 26 = .ok (.if_icmp .lt 66, 3) := by decide +kernel
theorem dX9_passDigits_29 : decode cX9_passDigits 29 = .ok (.aload_n 0, 1) := by decide +kernel
theorem dX9_passDigits_30 : decode cX9_passDigits 30 = .ok (.getfield 11, 3) := by decide +kernel
theorem dX9_passDigits_33 : decode cX9_passDigits 33 = .ok (.iload_n 1, 1) := by decide +kernel
theorem dX9_passDigits_34 : decode cX9_passDigits 34 = .ok (.caload, 1) := by decide +kernel
theorem dX9_passDigits_35 : decode cX9_passDigits 35 = .ok (.bipush 57, 2) := by decide +kernel
theorem dX9_passDigits_37 : decode cX9_passDigits 37 = .ok (.if_icmp .gt 55, 3) := by decide +kernel
theorem dX9_passDigits_40 : decode cX9_passDigits 40 = .ok (.aload_n 0, 1) := by decide +kernel
theorem dX9_passDigits_41 : decode cX9_passDigits 41 = .ok (.iload_n 1, 1) := by decide +kernel
theorem dX9_passDigits_42 : decode cX9_passDigits 42 = .ok (.aload_n 0, 1) := by decide +kernel
theorem dX9_passDigits_43 : decode cX9_passDigits 43 = .ok (.getfield 28, 3) := by decide +kernel
theorem dX9_passDigits_46 : decode cX9_passDigits 46 = .ok (.isub, 1) := by decide +kernel
theorem dX9_passDigits_47 : decode cX9_passDigits 47 = .ok (.iconst 5, 1) := by decide +kernel
theorem dX9_passDigits_48 : decode cX9_passDigits 48 = .ok (.if_icmp .ge 23, 3) := by decide +kernel
theorem dX9_passDigits_73 : decode cX9_passDigits 73 = .ok (.putfield 46, 3) := by decide +kernel
theorem dX9_passDigits_76 : decode cX9_passDigits 76 = .ok (.aload_n 0, 1) := by decide +kernel
theorem dX9_passDigits_77 : decode cX9_passDigits 77 = .ok (.dup, 1) := by decide +kernel
theorem dX9_passDigits_78 : decode cX9_passDigits 78 = .ok (.getfield 22, 3) := by decide +kernel
theorem dX9_passDigits_81 : decode cX9_passDigits 81 = .ok (.iconst 1, 1) := by decide +kernel
theorem dX9_passDigits_82 : decode cX9_passDigits 82 = .ok (.iadd, 1) := by decide +kernel
theorem dX9_passDigits_83 : decode cX9_passDigits 83 = .ok (.putfield 22, 3) := by decide +kernel
theorem dX9_passDigits_86 : decode cX9_passDigits 86 = .ok (.iinc 1 1, 3) := by decide +kernel
theorem dX9_passDigits_89 : decode cX9_passDigits 89 = .ok (.goto (-79), 3) := by decide +kernel
theorem dX9_passDigits_71 : decode cX9_passDigits 71 = .ok (.ldc 49, 2) := by decide +kernel
theorem dX9_passDigits_51 : decode cX9_passDigits 51 = .ok (.aload_n 0, 1) := by decide +kernel
theorem dX9_passDigits_52 : decode cX9_passDigits 52 = .ok (.getfield 46, 3) := by decide +kernel
theorem dX9_passDigits_55 : decode cX9_passDigits 55 = .ok (.bipush 10, 2) := by decide +kernel
theorem dX9_passDigits_57 : decode cX9_passDigits 57 = .ok (.imul, 1) := by decide +kernel
theorem dX9_passDigits_58 : decode cX9_passDigits 58 = .ok (.aload_n 0, 1) := by decide +kernel
theorem dX9_passDigits_59 : decode cX9_passDigits 59 = .ok (.getfield 11, 3) := by decide +kernel
theorem dX9_passDigits_62 : decode cX9_passDigits 62 = .ok (.iload_n 1, 1) := by decide +kernel
theorem dX9_passDigits_63 : decode cX9_passDigits 63 = .ok (.caload, 1) := by decide +kernel
theorem dX9_passDigits_64 : decode cX9_passDigits 64 = .ok (.iadd, 1) := by decide +kernel
theorem dX9_passDigits_65 : decode cX9_passDigits 65 = .ok (.bipush 48, 2) := by decide +kernel
theorem dX9_passDigits_67 : decode cX9_passDigits 67 = .ok (.isub, 1) := by decide +kernel
theorem dX9_passDigits_68 : decode cX9_passDigits 68 = .ok (.goto 5, 3) := by decide +kernel
set_option maxHeartbeats 4000000 in
set_option maxRecDepth 100000 in
theorem c_Text_passDigits (l : Launch) (D : va_G) (cs : Nat → ClassId) (X : XX) (sz : Nat) (ht : Nat) (hs : Nat) (tl : Int32) (tk : Int32) (tp : Int32) (tv : Int32) (tn : Int32) (tf : Int32) (gt : Nat → Int32) (r_tl : Rg 0 400 tl) (r_tp : Rg 0 400 tp) : Met l yX9_passDigits (Cond.code yX9_passDigits cX9_passDigits 2 none :: TB) (RM 0 0 0) (va_Pc [.ref ht] (PRE D cs X [(ht, .inr (7, [.ref hs, .int tl, .int tk, .int tp, .int tp, .int tv, .int tn, .int tf])), (hs, .inl ((cs 1), 400, .inl gt))] [] sz)) (va_Qv (S := Unit) (fun _ => True) (fun _ t => ∃ (tk2 : Int32), ∃ (tp2 : Int32), ∃ (tb2 : Int32), ∃ (tv2 : Int32), Rg 0 400 tp2 ∧ Rg 0 400 tb2 ∧ va_P D vwCl [(ht, .inr (7, [.ref hs, .int tl, .int tk2, .int tp2, .int tb2, .int tv2, .int tn, .int tf])), (hs, .inl ((cs 1), 400, .inl gt))] t.heap ∧ va_D (va_A [(ht, .inr (7, [.ref hs, .int tl, .int tk, .int tp, .int tp, .int tv, .int tn, .int tf])), (hs, .inl ((cs 1), 400, .inl gt))] sz) [(ht, .inr (7, [.ref hs, .int tl, .int tk2, .int tp2, .int tb2, .int tv2, .int tn, .int tf])), (hs, .inl ((cs 1), 400, .inl gt))]) (va_A [(ht, .inr (7, [.ref hs, .int tl, .int tk, .int tp, .int tp, .int tv, .int tn, .int tf])), (hs, .inl ((cs 1), 400, .inl gt))] sz)) 0 0 (va_A [(ht, .inr (7, [.ref hs, .int tl, .int tk, .int tp, .int tp, .int tv, .int tn, .int tf])), (hs, .inl ((cs 1), 400, .inl gt))] sz) := by
  refine MET (y := yX9_passDigits) (cc := cX9_passDigits) (maxL := 2) (ret := none) (d := 0) (mc := 0) (ms := 0) (D := D) (cs := cs) (X := X) (ws := [(ht, .inr (7, [.ref hs, .int tl, .int tk, .int tp, .int tp, .int tv, .int tn, .int tf])), (hs, .inl ((cs 1), 400, .inl gt))]) (wo := []) (sz := sz) (av := [.ref ht]) (Qc := fun A => va_Qv (S := Unit) (fun _ => True) (fun _ t => ∃ (tk2 : Int32), ∃ (tp2 : Int32), ∃ (tb2 : Int32), ∃ (tv2 : Int32), Rg 0 400 tp2 ∧ Rg 0 400 tb2 ∧ va_P D vwCl [(ht, .inr (7, [.ref hs, .int tl, .int tk2, .int tp2, .int tb2, .int tv2, .int tn, .int tf])), (hs, .inl ((cs 1), 400, .inl gt))] t.heap ∧ va_D A [(ht, .inr (7, [.ref hs, .int tl, .int tk2, .int tp2, .int tb2, .int tv2, .int tn, .int tf])), (hs, .inl ((cs 1), 400, .inl gt))]) A) (by decide) (Nat.le_of_ble_eq_true rfl) ?_
  intro p e s m below meth c ls A H hHe hx hb hr hml hown hts hlocks hnm hP hK hD hA hS hN hR hX hXs hl
  have hD : va_D A [(ht, .inr (7, [.ref hs, .int tl, .int tk, .int tp, .int tp, .int tv, .int tn, .int tf])), (hs, .inl ((cs 1), 400, .inl gt))] := hD
  obtain ⟨locs, hlc⟩ : ∃ z : List Loc, z = [] := ⟨_, rfl⟩
  rw [← hlc] at hS ⊢
  have hown : s.vm.findClass "WrongHole$Text" = some m.cls := hown
  have hT : ∀ w ∈ TB, w.before ([.ref ht] : List Value).toArray s = true := fun w h => hts w (List.mem_cons_of_mem _ h)
  have hl : lv_has ls 2 [(0, .ref ht)] := hl
  have hP : va_P D vwCl [(ht, .inr (7, [.ref hs, .int tl, .int tk, .int tp, .int tp, .int tv, .int tn, .int tf])), (hs, .inl ((cs 1), 400, .inl gt))] H := hP
  refine lv_aload_n hx hb dX9_passDigits_0 rfl (lv_at hl 0 rfl) ?_
  refine lv_iconst (v := 0) hx hb dX9_passDigits_1 (by decide) ?_
  refine va_put (D := D) (ci := 7) (v := .int 0) (ty := .int) (C := "WrongHole$Text") (T := TX9) (N := 8) hx hb hts (iq_RX9 _) tyX9 tyX9_ok nmX9 hown hK hP hD hS 0 rfl rfl 5 (by decide) (hT _ qq_1_45) (fun _ h9 => h9) rfl (by decide +kernel) rfl rfl (Nat.le_of_ble_eq_true rfl) dX9_passDigits_2 (fun H locs hP hD hS => ?_)
  have hP : va_P D vwCl [(ht, .inr (7, [.ref hs, .int tl, .int tk, .int tp, .int tp, .int 0, .int tn, .int tf])), (hs, .inl ((cs 1), 400, .inl gt))] H := hP
  have hD : va_D A [(ht, .inr (7, [.ref hs, .int tl, .int tk, .int tp, .int tp, .int 0, .int tn, .int tf])), (hs, .inl ((cs 1), 400, .inl gt))] := hD
  refine lv_aload_n hx hb dX9_passDigits_5 rfl (lv_at hl 0 rfl) ?_
  refine va_get (D := D) (ci := 7) (v := .int tp) (C := "WrongHole$Text") (T := TX9) (N := 8) hx hb hts (iq_RX9 _) hown hK hP 0 rfl rfl 3 (by decide) (hT _ qq_1_42) (fun _ h9 => h9) rfl dX9_passDigits_6 ?_
  refine lv_istore_n (lv' := [(1, .int tp), (0, .ref ht)]) hx hb dX9_passDigits_9 rfl hl (by decide) rfl (fun ls hl => ?_)
  refine w_wh (σ := (Int32) × (Int32)) (fun x9 H locs ls => match x9 with | (v_133, v_134) => Rg 0 400 v_133 ∧ va_P D vwCl [(ht, .inr (7, [.ref hs, .int tl, .int tk, .int tp, .int v_133, .int v_134, .int tn, .int tf])), (hs, .inl ((cs 1), 400, .inl gt))] H ∧ va_D A [(ht, .inr (7, [.ref hs, .int tl, .int tk, .int tp, .int v_133, .int v_134, .int tn, .int tf])), (hs, .inl ((cs 1), 400, .inl gt))] ∧ va_S A s.heap H locs ∧ lv_has ls 2 [(1, .int v_133), (0, .ref ht)]) (fun x9 => match x9 with | (v_133, v_134) => (400 - Int32.toInt v_133).toNat) 10 ?_ (tp, 0) H locs ls ⟨r_tp, hP, hD, hS, lv_sub hl [0, 1] rfl⟩
  rintro ⟨v_133, v_134⟩ H locs ls ⟨r_728, hP, hD, hS, hl⟩ ih_727
  refine lv_iload_n hx hb dX9_passDigits_10 rfl (lv_at hl 0 rfl) ?_
  refine lv_aload_n hx hb dX9_passDigits_11 rfl (lv_at hl 1 rfl) ?_
  refine va_get (D := D) (ci := 7) (v := .int tl) (C := "WrongHole$Text") (T := TX9) (N := 8) hx hb hts (iq_RX9 _) hown hK hP 0 rfl rfl 1 (by decide) (hT _ qq_1_37) (fun _ h9 => h9) rfl dX9_passDigits_12 ?_
  refine lv_icmp_ge (tgt := 92) hx hb dX9_passDigits_15 (by decide) (fun c_729 => ?_) (fun c_729 => ?_)
  · refine W.widen (k := 0) (n := 0) (Nat.le_of_ble_eq_true rfl) (Nat.le_of_ble_eq_true rfl) ?_
    have hP9 := hP.sub (ws' := [(ht, .inr (7, [.ref hs, .int tl, .int tk, .int tp, .int v_133, .int v_134, .int tn, .int tf])), (hs, .inl ((cs 1), 400, .inl gt))]) [0, 1] rfl
    have hD9 := hD.sub (ws' := [(ht, .inr (7, [.ref hs, .int tl, .int tk, .int tp, .int v_133, .int v_134, .int tn, .int tf])), (hs, .inl ((cs 1), 400, .inl gt))]) [0, 1] (by decide) rfl
    exact W.vret hx hb hr (fun t9 ht9 hW9 => ⟨⟨(), rfl, trivial, ⟨tk, tp, v_133, v_134, r_tp, r_728, by rw [ht9]; exact hP9, hD9⟩⟩, hS.F ht9⟩) hS.2.2 dX9_passDigits_92
  · have r_730 : Rg 0 399 v_133 := Rg.lt_l (nle_lt c_729) r_728 r_tl (by decide)
    have r_731 : Rg 1 400 tl := Rg.lt_r (nle_lt c_729) r_728 r_tl (by decide)
    refine lv_aload_n hx hb dX9_passDigits_18 rfl (lv_at hl 1 rfl) ?_
    refine va_get (D := D) (ci := 7) (v := .ref hs) (C := "WrongHole$Text") (T := TX9) (N := 8) hx hb hts (iq_RX9 _) hown hK hP 0 rfl rfl 0 (by decide) (hT _ qq_1_36) (fun _ h9 => h9) rfl dX9_passDigits_19 ?_
    refine lv_iload_n hx hb dX9_passDigits_22 rfl (lv_at hl 0 rfl) ?_
    have hi_772 : vp_in v_133 400 := Rg.in r_730 (by decide)
    refine va_cald hx hb hK hP 1 1 rfl rfl hi_772 dX9_passDigits_23 ?_
    refine lv_topi (fun x_773 e_774 => ?_)
    refine lv_bipush (v := 48) hx hb dX9_passDigits_24 (by decide) ?_
    refine lv_icmp_lt (tgt := 92) hx hb dX9_passDigits_26 (by decide) (fun c_775 => ?_) (fun c_775 => ?_)
    · have r_776 : Rg (-2147483648) 47 x_773 := Rg.lt_l c_775 (Rg.top x_773) (Rg.c (c := 48) (k := 48) rfl) (by decide)
      refine W.widen (k := 0) (n := 0) (Nat.le_of_ble_eq_true rfl) (Nat.le_of_ble_eq_true rfl) ?_
      have hP9 := hP.sub (ws' := [(ht, .inr (7, [.ref hs, .int tl, .int tk, .int tp, .int v_133, .int v_134, .int tn, .int tf])), (hs, .inl ((cs 1), 400, .inl gt))]) [0, 1] rfl
      have hD9 := hD.sub (ws' := [(ht, .inr (7, [.ref hs, .int tl, .int tk, .int tp, .int v_133, .int v_134, .int tn, .int tf])), (hs, .inl ((cs 1), 400, .inl gt))]) [0, 1] (by decide) rfl
      exact W.vret hx hb hr (fun t9 ht9 hW9 => ⟨⟨(), rfl, trivial, ⟨tk, tp, v_133, v_134, r_tp, (Rg.wk (lo2 := 0) (hi2 := 400) r_730 (by decide)), by rw [ht9]; exact hP9, hD9⟩⟩, hS.F ht9⟩) hS.2.2 dX9_passDigits_92
    · have r_777 : Rg 48 2147483647 x_773 := Rg.le_r (nlt_le c_775) (Rg.c (c := 48) (k := 48) rfl) (Rg.top x_773) (by decide)
      refine lv_aload_n hx hb dX9_passDigits_29 rfl (lv_at hl 1 rfl) ?_
      refine va_get (D := D) (ci := 7) (v := .ref hs) (C := "WrongHole$Text") (T := TX9) (N := 8) hx hb hts (iq_RX9 _) hown hK hP 0 rfl rfl 0 (by decide) (hT _ qq_1_36) (fun _ h9 => h9) rfl dX9_passDigits_30 ?_
      refine lv_iload_n hx hb dX9_passDigits_33 rfl (lv_at hl 0 rfl) ?_
      have hi_813 : vp_in v_133 400 := Rg.in r_730 (by decide)
      refine va_cald hx hb hK hP 1 1 rfl rfl hi_813 dX9_passDigits_34 ?_
      refine lv_topi (fun x_814 e_815 => ?_)
      refine lv_bipush (v := 57) hx hb dX9_passDigits_35 (by decide) ?_
      refine lv_icmp_gt (tgt := 92) hx hb dX9_passDigits_37 (by decide) (fun c_816 => ?_) (fun c_816 => ?_)
      · have r_817 : Rg 58 2147483647 x_814 := Rg.lt_r c_816 (Rg.c (c := 57) (k := 57) rfl) (Rg.top x_814) (by decide)
        refine W.widen (k := 0) (n := 0) (Nat.le_of_ble_eq_true rfl) (Nat.le_of_ble_eq_true rfl) ?_
        have hP9 := hP.sub (ws' := [(ht, .inr (7, [.ref hs, .int tl, .int tk, .int tp, .int v_133, .int v_134, .int tn, .int tf])), (hs, .inl ((cs 1), 400, .inl gt))]) [0, 1] rfl
        have hD9 := hD.sub (ws' := [(ht, .inr (7, [.ref hs, .int tl, .int tk, .int tp, .int v_133, .int v_134, .int tn, .int tf])), (hs, .inl ((cs 1), 400, .inl gt))]) [0, 1] (by decide) rfl
        exact W.vret hx hb hr (fun t9 ht9 hW9 => ⟨⟨(), rfl, trivial, ⟨tk, tp, v_133, v_134, r_tp, (Rg.wk (lo2 := 0) (hi2 := 400) r_730 (by decide)), by rw [ht9]; exact hP9, hD9⟩⟩, hS.F ht9⟩) hS.2.2 dX9_passDigits_92
      · have r_818 : Rg (-2147483648) 57 x_814 := Rg.le_l (nlt_le c_816) (Rg.top x_814) (Rg.c (c := 57) (k := 57) rfl) (by decide)
        refine lv_aload_n hx hb dX9_passDigits_40 rfl (lv_at hl 1 rfl) ?_
        refine lv_iload_n hx hb dX9_passDigits_41 rfl (lv_at hl 0 rfl) ?_
        refine lv_aload_n hx hb dX9_passDigits_42 rfl (lv_at hl 1 rfl) ?_
        refine va_get (D := D) (ci := 7) (v := .int tp) (C := "WrongHole$Text") (T := TX9) (N := 8) hx hb hts (iq_RX9 _) hown hK hP 0 rfl rfl 3 (by decide) (hT _ qq_1_42) (fun _ h9 => h9) rfl dX9_passDigits_43 ?_
        refine lv_isub hx hb dX9_passDigits_46 ?_
        refine lv_topi (fun x_849 e_850 => ?_)
        have r_851 : Rg (-400) 399 x_849 := Rg.sub e_850 r_730 r_tp (by decide)
        refine lv_iconst (v := 5) hx hb dX9_passDigits_47 (by decide) ?_
        refine w_cut (σ := (Int32)) (fun (v_863 : Int32) H locs ls => va_P D vwCl [(ht, .inr (7, [.ref hs, .int tl, .int tk, .int tp, .int v_133, .int v_134, .int tn, .int tf])), (hs, .inl ((cs 1), 400, .inl gt))] H ∧ va_D A [(ht, .inr (7, [.ref hs, .int tl, .int tk, .int tp, .int v_133, .int v_134, .int tn, .int tf])), (hs, .inl ((cs 1), 400, .inl gt))] ∧ va_S A s.heap H locs ∧ lv_has ls 2 [(1, .int v_133), (0, .ref ht)]) 73 (fun (v_863 : Int32) => [.int v_863, .ref ht]) ?_ (fun hj_864 => ?_)
        · rintro v_863 H locs ls ⟨hP, hD, hS, hl⟩
          refine va_put (D := D) (ci := 7) (v := .int v_863) (ty := .int) (C := "WrongHole$Text") (T := TX9) (N := 8) hx hb hts (iq_RX9 _) tyX9 tyX9_ok nmX9 hown hK hP hD hS 0 rfl rfl 5 (by decide) (hT _ qq_1_45) (fun _ h9 => h9) rfl (by decide +kernel) rfl rfl (Nat.le_of_ble_eq_true rfl) dX9_passDigits_73 (fun H locs hP hD hS => ?_)
          have hP : va_P D vwCl [(ht, .inr (7, [.ref hs, .int tl, .int tk, .int tp, .int v_133, .int v_863, .int tn, .int tf])), (hs, .inl ((cs 1), 400, .inl gt))] H := hP
          have hD : va_D A [(ht, .inr (7, [.ref hs, .int tl, .int tk, .int tp, .int v_133, .int v_863, .int tn, .int tf])), (hs, .inl ((cs 1), 400, .inl gt))] := hD
          refine lv_aload_n hx hb dX9_passDigits_76 rfl (lv_at hl 1 rfl) ?_
          refine lv_dup hx hb dX9_passDigits_77 rfl ?_
          refine va_get (D := D) (ci := 7) (v := .int v_133) (C := "WrongHole$Text") (T := TX9) (N := 8) hx hb hts (iq_RX9 _) hown hK hP 0 rfl rfl 4 (by decide) (hT _ qq_1_43) (fun _ h9 => h9) rfl dX9_passDigits_78 ?_
          refine lv_iconst (v := 1) hx hb dX9_passDigits_81 (by decide) ?_
          refine lv_iadd hx hb dX9_passDigits_82 ?_
          refine lv_topi (fun x_865 e_866 => ?_)
          have r_867 : Rg 1 400 x_865 := Rg.add e_866 r_730 (Rg.c (c := 1) (k := 1) rfl) (by decide)
          refine va_put (D := D) (ci := 7) (v := .int x_865) (ty := .int) (C := "WrongHole$Text") (T := TX9) (N := 8) hx hb hts (iq_RX9 _) tyX9 tyX9_ok nmX9 hown hK hP hD hS 0 rfl rfl 4 (by decide) (hT _ qq_1_43) (fun _ h9 => h9) rfl (by decide +kernel) rfl rfl (Nat.le_of_ble_eq_true rfl) dX9_passDigits_83 (fun H locs hP hD hS => ?_)
          have hP : va_P D vwCl [(ht, .inr (7, [.ref hs, .int tl, .int tk, .int tp, .int x_865, .int v_863, .int tn, .int tf])), (hs, .inl ((cs 1), 400, .inl gt))] H := hP
          have hD : va_D A [(ht, .inr (7, [.ref hs, .int tl, .int tk, .int tp, .int x_865, .int v_863, .int tn, .int tf])), (hs, .inl ((cs 1), 400, .inl gt))] := hD
          obtain ⟨x_868, e_869⟩ : ∃ z : Int32, z = v_133 + Int32.ofInt 1 := ⟨_, rfl⟩
          have r_870 : Rg 1 400 x_868 := Rg.add e_869 r_730 (Rg.c (c := Int32.ofInt 1) (k := 1) rfl) (by decide)
          refine lv_iinc (v := x_868) (lv' := [(1, .int x_868), (0, .ref ht)]) hx hb dX9_passDigits_86 hl (k := 0) rfl (e_869.symm) (by decide) rfl (fun ls hl => ?_)
          refine lv_goto (tgt := 10) hx hb dX9_passDigits_89 (by decide) ?_
          have q_871 : x_865 = x_868 := e_866.trans e_869.symm
          rw [q_871] at hP hD
          exact ih_727 (x_868, v_863) _ _ _ ⟨(Rg.wk (lo2 := 0) (hi2 := 400) r_870 (by decide)), hP, hD, hS, lv_sub hl [0, 1] rfl⟩ (ms_up e_869 r_730 (Rg.c (c := Int32.ofInt 1) (k := 1) rfl) (by decide))
        · refine lv_icmp_ge (tgt := 71) hx hb dX9_passDigits_48 (by decide) (fun c_852 => ?_) (fun c_852 => ?_)
          · have r_853 : Rg 5 399 x_849 := Rg.le_r c_852 (Rg.c (c := 5) (k := 5) rfl) r_851 (by decide)
            refine lv_ldc (v := 100000) hx hb hown (hT _ qq_2_136) dX9_passDigits_71 ?_
            exact hj_864 100000 _ _ _ ⟨hP, hD, hS, lv_sub hl [0, 1] rfl⟩
          · have r_854 : Rg (-400) 4 x_849 := Rg.lt_l (nle_lt c_852) r_851 (Rg.c (c := 5) (k := 5) rfl) (by decide)
            refine lv_aload_n hx hb dX9_passDigits_51 rfl (lv_at hl 1 rfl) ?_
            refine va_get (D := D) (ci := 7) (v := .int v_134) (C := "WrongHole$Text") (T := TX9) (N := 8) hx hb hts (iq_RX9 _) hown hK hP 0 rfl rfl 5 (by decide) (hT _ qq_1_45) (fun _ h9 => h9) rfl dX9_passDigits_52 ?_
            refine lv_bipush (v := 10) hx hb dX9_passDigits_55 (by decide) ?_
            refine lv_imul hx hb dX9_passDigits_57 ?_
            refine lv_topi (fun x_872 e_873 => ?_)
            refine lv_aload_n hx hb dX9_passDigits_58 rfl (lv_at hl 1 rfl) ?_
            refine va_get (D := D) (ci := 7) (v := .ref hs) (C := "WrongHole$Text") (T := TX9) (N := 8) hx hb hts (iq_RX9 _) hown hK hP 0 rfl rfl 0 (by decide) (hT _ qq_1_36) (fun _ h9 => h9) rfl dX9_passDigits_59 ?_
            refine lv_iload_n hx hb dX9_passDigits_62 rfl (lv_at hl 0 rfl) ?_
            have hi_874 : vp_in v_133 400 := Rg.in r_730 (by decide)
            refine va_cald hx hb hK hP 1 1 rfl rfl hi_874 dX9_passDigits_63 ?_
            refine lv_topi (fun x_875 e_876 => ?_)
            refine lv_iadd hx hb dX9_passDigits_64 ?_
            refine lv_topi (fun x_877 e_878 => ?_)
            refine lv_bipush (v := 48) hx hb dX9_passDigits_65 (by decide) ?_
            refine lv_isub hx hb dX9_passDigits_67 ?_
            refine lv_topi (fun x_879 e_880 => ?_)
            refine lv_goto (tgt := 73) hx hb dX9_passDigits_68 (by decide) ?_
            exact hj_864 x_879 _ _ _ ⟨hP, hD, hS, lv_sub hl [0, 1] rfl⟩
theorem dX9_passLetters_0 : decode cX9_passLetters 0 = .ok (.aload_n 0, 1) := by decide +kernel
theorem dX9_passLetters_1 : decode cX9_passLetters 1 = .ok (.getfield 28, 3) := by decide +kernel
theorem dX9_passLetters_4 : decode cX9_passLetters 4 = .ok (.istore_n 1, 1) := by decide +kernel
theorem dX9_passLetters_5 : decode cX9_passLetters 5 = .ok (.iload_n 1, 1) := by decide +kernel
theorem dX9_passLetters_6 : decode cX9_passLetters 6 = .ok (.aload_n 0, 1) := by decide +kernel
theorem dX9_passLetters_7 : decode cX9_passLetters 7 = .ok (.getfield 15, 3) := by decide +kernel
theorem dX9_passLetters_10 : decode cX9_passLetters 10 = .ok (.if_icmp .ge 41, 3) := by decide +kernel
theorem dX9_passLetters_51 : decode cX9_passLetters 51 = .ok (.return_, 1) := by decide +kernel
theorem dX9_passLetters_13 : decode cX9_passLetters 13 = .ok (.aload_n 0, 1) := by decide +kernel
theorem dX9_passLetters_14 : decode cX9_passLetters 14 = .ok (.getfield 11, 3) := by decide +kernel
theorem dX9_passLetters_17 : decode cX9_passLetters 17 = .ok (.iload_n 1, 1) := by decide +kernel
theorem dX9_passLetters_18 : decode cX9_passLetters 18 = .ok (.caload, 1) := by decide +kernel
theorem dX9_passLetters_19 : decode cX9_passLetters 19 = .ok (.bipush 97, 2) := by decide +kernel
theorem dX9_passLetters_21 : decode cX9_passLetters 21 = .ok (.if_icmp .lt 30, 3) := by decide +kernel
theorem dX9_passLetters_24 : decode cX9_passLetters 24 = .ok (.aload_n 0, 1) := by decide +kernel
theorem dX9_passLetters_25 : decode cX9_passLetters 25 = .ok (.getfield 11, 3) := by decide +kernel
theorem dX9_passLetters_28 : decode cX9_passLetters 28 = .ok (.iload_n 1, 1) := by decide +kernel
theorem dX9_passLetters_29 : decode cX9_passLetters 29 = .ok (.caload, 1) := by decide +kernel
theorem dX9_passLetters_30 : decode cX9_passLetters 30 = .ok (.bipush 122, 2) := by decide +kernel
theorem dX9_passLetters_32 : decode cX9_passLetters 32 = .ok (.if_icmp .gt 19, 3) := by decide +kernel
theorem dX9_passLetters_35 : decode cX9_passLetters 35 = .ok (.aload_n 0, 1) := by decide +kernel
theorem dX9_passLetters_36 : decode cX9_passLetters 36 = .ok (.dup, 1) := by decide +kernel
theorem dX9_passLetters_37 : decode cX9_passLetters 37 = .ok (.getfield 22, 3) := by decide +kernel
theorem dX9_passLetters_40 : decode cX9_passLetters 40 = .ok (.iconst 1, 1) := by decide +kernel
theorem dX9_passLetters_41 : decode cX9_passLetters 41 = .ok (.iadd, 1) := by decide +kernel
theorem dX9_passLetters_42 : decode cX9_passLetters 42 = .ok (.putfield 22, 3) := by decide +kernel
theorem dX9_passLetters_45 : decode cX9_passLetters 45 = .ok (.iinc 1 1, 3) := by decide +kernel
theorem dX9_passLetters_48 : decode cX9_passLetters 48 = .ok (.goto (-43), 3) := by decide +kernel
set_option maxHeartbeats 4000000 in
set_option maxRecDepth 100000 in
theorem c_Text_passLetters (l : Launch) (D : va_G) (cs : Nat → ClassId) (X : XX) (sz : Nat) (ht : Nat) (hs : Nat) (tl : Int32) (tk : Int32) (tp : Int32) (tv : Int32) (tn : Int32) (tf : Int32) (gt : Nat → Int32) (r_tl : Rg 0 400 tl) (r_tp : Rg 0 400 tp) : Met l yX9_passLetters (Cond.code yX9_passLetters cX9_passLetters 2 none :: TB) (RM 0 0 0) (va_Pc [.ref ht] (PRE D cs X [(ht, .inr (7, [.ref hs, .int tl, .int tk, .int tp, .int tp, .int tv, .int tn, .int tf])), (hs, .inl ((cs 1), 400, .inl gt))] [] sz)) (va_Qv (S := Unit) (fun _ => True) (fun _ t => ∃ (tk2 : Int32), ∃ (tp2 : Int32), ∃ (tb2 : Int32), ∃ (tv2 : Int32), Rg 0 400 tp2 ∧ Rg 0 400 tb2 ∧ va_P D vwCl [(ht, .inr (7, [.ref hs, .int tl, .int tk2, .int tp2, .int tb2, .int tv2, .int tn, .int tf])), (hs, .inl ((cs 1), 400, .inl gt))] t.heap ∧ va_D (va_A [(ht, .inr (7, [.ref hs, .int tl, .int tk, .int tp, .int tp, .int tv, .int tn, .int tf])), (hs, .inl ((cs 1), 400, .inl gt))] sz) [(ht, .inr (7, [.ref hs, .int tl, .int tk2, .int tp2, .int tb2, .int tv2, .int tn, .int tf])), (hs, .inl ((cs 1), 400, .inl gt))]) (va_A [(ht, .inr (7, [.ref hs, .int tl, .int tk, .int tp, .int tp, .int tv, .int tn, .int tf])), (hs, .inl ((cs 1), 400, .inl gt))] sz)) 0 0 (va_A [(ht, .inr (7, [.ref hs, .int tl, .int tk, .int tp, .int tp, .int tv, .int tn, .int tf])), (hs, .inl ((cs 1), 400, .inl gt))] sz) := by
  refine MET (y := yX9_passLetters) (cc := cX9_passLetters) (maxL := 2) (ret := none) (d := 0) (mc := 0) (ms := 0) (D := D) (cs := cs) (X := X) (ws := [(ht, .inr (7, [.ref hs, .int tl, .int tk, .int tp, .int tp, .int tv, .int tn, .int tf])), (hs, .inl ((cs 1), 400, .inl gt))]) (wo := []) (sz := sz) (av := [.ref ht]) (Qc := fun A => va_Qv (S := Unit) (fun _ => True) (fun _ t => ∃ (tk2 : Int32), ∃ (tp2 : Int32), ∃ (tb2 : Int32), ∃ (tv2 : Int32), Rg 0 400 tp2 ∧ Rg 0 400 tb2 ∧ va_P D vwCl [(ht, .inr (7, [.ref hs, .int tl, .int tk2, .int tp2, .int tb2, .int tv2, .int tn, .int tf])), (hs, .inl ((cs 1), 400, .inl gt))] t.heap ∧ va_D A [(ht, .inr (7, [.ref hs, .int tl, .int tk2, .int tp2, .int tb2, .int tv2, .int tn, .int tf])), (hs, .inl ((cs 1), 400, .inl gt))]) A) (by decide) (Nat.le_of_ble_eq_true rfl) ?_
  intro p e s m below meth c ls A H hHe hx hb hr hml hown hts hlocks hnm hP hK hD hA hS hN hR hX hXs hl
  have hD : va_D A [(ht, .inr (7, [.ref hs, .int tl, .int tk, .int tp, .int tp, .int tv, .int tn, .int tf])), (hs, .inl ((cs 1), 400, .inl gt))] := hD
  obtain ⟨locs, hlc⟩ : ∃ z : List Loc, z = [] := ⟨_, rfl⟩
  rw [← hlc] at hS ⊢
  have hown : s.vm.findClass "WrongHole$Text" = some m.cls := hown
  have hT : ∀ w ∈ TB, w.before ([.ref ht] : List Value).toArray s = true := fun w h => hts w (List.mem_cons_of_mem _ h)
  have hl : lv_has ls 2 [(0, .ref ht)] := hl
  have hP : va_P D vwCl [(ht, .inr (7, [.ref hs, .int tl, .int tk, .int tp, .int tp, .int tv, .int tn, .int tf])), (hs, .inl ((cs 1), 400, .inl gt))] H := hP
  refine lv_aload_n hx hb dX9_passLetters_0 rfl (lv_at hl 0 rfl) ?_
  refine va_get (D := D) (ci := 7) (v := .int tp) (C := "WrongHole$Text") (T := TX9) (N := 8) hx hb hts (iq_RX9 _) hown hK hP 0 rfl rfl 3 (by decide) (hT _ qq_1_42) (fun _ h9 => h9) rfl dX9_passLetters_1 ?_
  refine lv_istore_n (lv' := [(1, .int tp), (0, .ref ht)]) hx hb dX9_passLetters_4 rfl hl (by decide) rfl (fun ls hl => ?_)
  refine w_wh (σ := (Int32)) (fun (v_57 : Int32) H locs ls => Rg 0 400 v_57 ∧ va_P D vwCl [(ht, .inr (7, [.ref hs, .int tl, .int tk, .int tp, .int v_57, .int tv, .int tn, .int tf])), (hs, .inl ((cs 1), 400, .inl gt))] H ∧ va_D A [(ht, .inr (7, [.ref hs, .int tl, .int tk, .int tp, .int v_57, .int tv, .int tn, .int tf])), (hs, .inl ((cs 1), 400, .inl gt))] ∧ va_S A s.heap H locs ∧ lv_has ls 2 [(1, .int v_57), (0, .ref ht)]) (fun (v_57 : Int32) => (400 - Int32.toInt v_57).toNat) 5 ?_ tp H locs ls ⟨r_tp, hP, hD, hS, lv_sub hl [0, 1] rfl⟩
  rintro v_57 H locs ls ⟨r_283, hP, hD, hS, hl⟩ ih_282
  refine lv_iload_n hx hb dX9_passLetters_5 rfl (lv_at hl 0 rfl) ?_
  refine lv_aload_n hx hb dX9_passLetters_6 rfl (lv_at hl 1 rfl) ?_
  refine va_get (D := D) (ci := 7) (v := .int tl) (C := "WrongHole$Text") (T := TX9) (N := 8) hx hb hts (iq_RX9 _) hown hK hP 0 rfl rfl 1 (by decide) (hT _ qq_1_37) (fun _ h9 => h9) rfl dX9_passLetters_7 ?_
  refine lv_icmp_ge (tgt := 51) hx hb dX9_passLetters_10 (by decide) (fun c_284 => ?_) (fun c_284 => ?_)
  · refine W.widen (k := 0) (n := 0) (Nat.le_of_ble_eq_true rfl) (Nat.le_of_ble_eq_true rfl) ?_
    have hP9 := hP.sub (ws' := [(ht, .inr (7, [.ref hs, .int tl, .int tk, .int tp, .int v_57, .int tv, .int tn, .int tf])), (hs, .inl ((cs 1), 400, .inl gt))]) [0, 1] rfl
    have hD9 := hD.sub (ws' := [(ht, .inr (7, [.ref hs, .int tl, .int tk, .int tp, .int v_57, .int tv, .int tn, .int tf])), (hs, .inl ((cs 1), 400, .inl gt))]) [0, 1] (by decide) rfl
    exact W.vret hx hb hr (fun t9 ht9 hW9 => ⟨⟨(), rfl, trivial, ⟨tk, tp, v_57, tv, r_tp, r_283, by rw [ht9]; exact hP9, hD9⟩⟩, hS.F ht9⟩) hS.2.2 dX9_passLetters_51
  · have r_285 : Rg 0 399 v_57 := Rg.lt_l (nle_lt c_284) r_283 r_tl (by decide)
    have r_286 : Rg 1 400 tl := Rg.lt_r (nle_lt c_284) r_283 r_tl (by decide)
    refine lv_aload_n hx hb dX9_passLetters_13 rfl (lv_at hl 1 rfl) ?_
    refine va_get (D := D) (ci := 7) (v := .ref hs) (C := "WrongHole$Text") (T := TX9) (N := 8) hx hb hts (iq_RX9 _) hown hK hP 0 rfl rfl 0 (by decide) (hT _ qq_1_36) (fun _ h9 => h9) rfl dX9_passLetters_14 ?_
    refine lv_iload_n hx hb dX9_passLetters_17 rfl (lv_at hl 0 rfl) ?_
    have hi_304 : vp_in v_57 400 := Rg.in r_285 (by decide)
    refine va_cald hx hb hK hP 1 1 rfl rfl hi_304 dX9_passLetters_18 ?_
    refine lv_topi (fun x_305 e_306 => ?_)
    refine lv_bipush (v := 97) hx hb dX9_passLetters_19 (by decide) ?_
    refine lv_icmp_lt (tgt := 51) hx hb dX9_passLetters_21 (by decide) (fun c_307 => ?_) (fun c_307 => ?_)
    · have r_308 : Rg (-2147483648) 96 x_305 := Rg.lt_l c_307 (Rg.top x_305) (Rg.c (c := 97) (k := 97) rfl) (by decide)
      refine W.widen (k := 0) (n := 0) (Nat.le_of_ble_eq_true rfl) (Nat.le_of_ble_eq_true rfl) ?_
      have hP9 := hP.sub (ws' := [(ht, .inr (7, [.ref hs, .int tl, .int tk, .int tp, .int v_57, .int tv, .int tn, .int tf])), (hs, .inl ((cs 1), 400, .inl gt))]) [0, 1] rfl
      have hD9 := hD.sub (ws' := [(ht, .inr (7, [.ref hs, .int tl, .int tk, .int tp, .int v_57, .int tv, .int tn, .int tf])), (hs, .inl ((cs 1), 400, .inl gt))]) [0, 1] (by decide) rfl
      exact W.vret hx hb hr (fun t9 ht9 hW9 => ⟨⟨(), rfl, trivial, ⟨tk, tp, v_57, tv, r_tp, (Rg.wk (lo2 := 0) (hi2 := 400) r_285 (by decide)), by rw [ht9]; exact hP9, hD9⟩⟩, hS.F ht9⟩) hS.2.2 dX9_passLetters_51
    · have r_309 : Rg 97 2147483647 x_305 := Rg.le_r (nlt_le c_307) (Rg.c (c := 97) (k := 97) rfl) (Rg.top x_305) (by decide)
      refine lv_aload_n hx hb dX9_passLetters_24 rfl (lv_at hl 1 rfl) ?_
      refine va_get (D := D) (ci := 7) (v := .ref hs) (C := "WrongHole$Text") (T := TX9) (N := 8) hx hb hts (iq_RX9 _) hown hK hP 0 rfl rfl 0 (by decide) (hT _ qq_1_36) (fun _ h9 => h9) rfl dX9_passLetters_25 ?_
      refine lv_iload_n hx hb dX9_passLetters_28 rfl (lv_at hl 0 rfl) ?_
      have hi_322 : vp_in v_57 400 := Rg.in r_285 (by decide)
      refine va_cald hx hb hK hP 1 1 rfl rfl hi_322 dX9_passLetters_29 ?_
      refine lv_topi (fun x_323 e_324 => ?_)
      refine lv_bipush (v := 122) hx hb dX9_passLetters_30 (by decide) ?_
      refine lv_icmp_gt (tgt := 51) hx hb dX9_passLetters_32 (by decide) (fun c_325 => ?_) (fun c_325 => ?_)
      · have r_326 : Rg 123 2147483647 x_323 := Rg.lt_r c_325 (Rg.c (c := 122) (k := 122) rfl) (Rg.top x_323) (by decide)
        refine W.widen (k := 0) (n := 0) (Nat.le_of_ble_eq_true rfl) (Nat.le_of_ble_eq_true rfl) ?_
        have hP9 := hP.sub (ws' := [(ht, .inr (7, [.ref hs, .int tl, .int tk, .int tp, .int v_57, .int tv, .int tn, .int tf])), (hs, .inl ((cs 1), 400, .inl gt))]) [0, 1] rfl
        have hD9 := hD.sub (ws' := [(ht, .inr (7, [.ref hs, .int tl, .int tk, .int tp, .int v_57, .int tv, .int tn, .int tf])), (hs, .inl ((cs 1), 400, .inl gt))]) [0, 1] (by decide) rfl
        exact W.vret hx hb hr (fun t9 ht9 hW9 => ⟨⟨(), rfl, trivial, ⟨tk, tp, v_57, tv, r_tp, (Rg.wk (lo2 := 0) (hi2 := 400) r_285 (by decide)), by rw [ht9]; exact hP9, hD9⟩⟩, hS.F ht9⟩) hS.2.2 dX9_passLetters_51
      · have r_327 : Rg (-2147483648) 122 x_323 := Rg.le_l (nlt_le c_325) (Rg.top x_323) (Rg.c (c := 122) (k := 122) rfl) (by decide)
        refine lv_aload_n hx hb dX9_passLetters_35 rfl (lv_at hl 1 rfl) ?_
        refine lv_dup hx hb dX9_passLetters_36 rfl ?_
        refine va_get (D := D) (ci := 7) (v := .int v_57) (C := "WrongHole$Text") (T := TX9) (N := 8) hx hb hts (iq_RX9 _) hown hK hP 0 rfl rfl 4 (by decide) (hT _ qq_1_43) (fun _ h9 => h9) rfl dX9_passLetters_37 ?_
        refine lv_iconst (v := 1) hx hb dX9_passLetters_40 (by decide) ?_
        refine lv_iadd hx hb dX9_passLetters_41 ?_
        refine lv_topi (fun x_335 e_336 => ?_)
        have r_337 : Rg 1 400 x_335 := Rg.add e_336 r_285 (Rg.c (c := 1) (k := 1) rfl) (by decide)
        refine va_put (D := D) (ci := 7) (v := .int x_335) (ty := .int) (C := "WrongHole$Text") (T := TX9) (N := 8) hx hb hts (iq_RX9 _) tyX9 tyX9_ok nmX9 hown hK hP hD hS 0 rfl rfl 4 (by decide) (hT _ qq_1_43) (fun _ h9 => h9) rfl (by decide +kernel) rfl rfl (Nat.le_of_ble_eq_true rfl) dX9_passLetters_42 (fun H locs hP hD hS => ?_)
        have hP : va_P D vwCl [(ht, .inr (7, [.ref hs, .int tl, .int tk, .int tp, .int x_335, .int tv, .int tn, .int tf])), (hs, .inl ((cs 1), 400, .inl gt))] H := hP
        have hD : va_D A [(ht, .inr (7, [.ref hs, .int tl, .int tk, .int tp, .int x_335, .int tv, .int tn, .int tf])), (hs, .inl ((cs 1), 400, .inl gt))] := hD
        obtain ⟨x_338, e_339⟩ : ∃ z : Int32, z = v_57 + Int32.ofInt 1 := ⟨_, rfl⟩
        have r_340 : Rg 1 400 x_338 := Rg.add e_339 r_285 (Rg.c (c := Int32.ofInt 1) (k := 1) rfl) (by decide)
        refine lv_iinc (v := x_338) (lv' := [(1, .int x_338), (0, .ref ht)]) hx hb dX9_passLetters_45 hl (k := 0) rfl (e_339.symm) (by decide) rfl (fun ls hl => ?_)
        refine lv_goto (tgt := 5) hx hb dX9_passLetters_48 (by decide) ?_
        have q_341 : x_335 = x_338 := e_336.trans e_339.symm
        rw [q_341] at hP hD
        exact ih_282 x_338 _ _ _ ⟨(Rg.wk (lo2 := 0) (hi2 := 400) r_340 (by decide)), hP, hD, hS, lv_sub hl [0, 1] rfl⟩ (ms_up e_339 r_285 (Rg.c (c := Int32.ofInt 1) (k := 1) rfl) (by decide))
theorem dX9_pass_0 : decode cX9_pass 0 = .ok (.aload_n 0, 1) := by decide +kernel
theorem dX9_pass_1 : decode cX9_pass 1 = .ok (.aload_n 0, 1) := by decide +kernel
theorem dX9_pass_2 : decode cX9_pass 2 = .ok (.getfield 22, 3) := by decide +kernel
theorem dX9_pass_5 : decode cX9_pass 5 = .ok (.putfield 28, 3) := by decide +kernel
theorem dX9_pass_8 : decode cX9_pass 8 = .ok (.aload_n 0, 1) := by decide +kernel
theorem dX9_pass_9 : decode cX9_pass 9 = .ok (.getfield 22, 3) := by decide +kernel
theorem dX9_pass_12 : decode cX9_pass 12 = .ok (.istore_n 1, 1) := by decide +kernel
theorem dX9_pass_13 : decode cX9_pass 13 = .ok (.iload_n 1, 1) := by decide +kernel
theorem dX9_pass_14 : decode cX9_pass 14 = .ok (.aload_n 0, 1) := by decide +kernel
theorem dX9_pass_15 : decode cX9_pass 15 = .ok (.getfield 15, 3) := by decide +kernel
theorem dX9_pass_18 : decode cX9_pass 18 = .ok (.if_icmp .ge 30, 3) := by decide +kernel
theorem dX9_pass_48 : decode cX9_pass 48 = .ok (.aload_n 0, 1) := by decide +kernel
theorem dX9_pass_49 : decode cX9_pass 49 = .ok (.aload_n 0, 1) := by decide +kernel
theorem dX9_pass_50 : decode cX9_pass 50 = .ok (.getfield 28, 3) := by decide +kernel
theorem dX9_pass_53 : decode cX9_pass 53 = .ok (.putfield 22, 3) := by decide +kernel
theorem dX9_pass_56 : decode cX9_pass 56 = .ok (.aload_n 0, 1) := by decide +kernel
theorem dX9_pass_57 : decode cX9_pass 57 = .ok (.aload_n 0, 1) := by decide +kernel
theorem dX9_pass_58 : decode cX9_pass 58 = .ok (.getfield 28, 3) := by decide +kernel
theorem dX9_pass_61 : decode cX9_pass 61 = .ok (.aload_n 0, 1) := by decide +kernel
theorem dX9_pass_62 : decode cX9_pass 62 = .ok (.getfield 15, 3) := by decide +kernel
theorem dX9_pass_65 : decode cX9_pass 65 = .ok (.if_icmp .ge 15, 3) := by decide +kernel
theorem dX9_pass_80 : decode cX9_pass 80 = .ok (.iconst (-1), 1) := by decide +kernel
theorem dX9_pass_81 : decode cX9_pass 81 = .ok (.putfield 34, 3) := by decide +kernel
theorem dX9_pass_84 : decode cX9_pass 84 = .ok (.aload_n 0, 1) := by decide +kernel
theorem dX9_pass_85 : decode cX9_pass 85 = .ok (.getfield 34, 3) := by decide +kernel
theorem dX9_pass_88 : decode cX9_pass 88 = .ok (.bipush 48, 2) := by decide +kernel
theorem dX9_pass_90 : decode cX9_pass 90 = .ok (.if_icmp .lt 26, 3) := by decide +kernel
theorem dX9_pass_116 : decode cX9_pass 116 = .ok (.aload_n 0, 1) := by decide +kernel
theorem dX9_pass_117 : decode cX9_pass 117 = .ok (.getfield 34, 3) := by decide +kernel
theorem dX9_pass_120 : decode cX9_pass 120 = .ok (.bipush 97, 2) := by decide +kernel
theorem dX9_pass_122 : decode cX9_pass 122 = .ok (.if_icmp .lt 26, 3) := by decide +kernel
theorem dX9_pass_148 : decode cX9_pass 148 = .ok (.aload_n 0, 1) := by decide +kernel
theorem dX9_pass_149 : decode cX9_pass 149 = .ok (.getfield 34, 3) := by decide +kernel
theorem dX9_pass_152 : decode cX9_pass 152 = .ok (.iconst (-1), 1) := by decide +kernel
theorem dX9_pass_153 : decode cX9_pass 153 = .ok (.if_icmp .eq 17, 3) := by decide +kernel
theorem dX9_pass_170 : decode cX9_pass 170 = .ok (.return_, 1) := by decide +kernel
theorem dX9_pass_68 : decode cX9_pass 68 = .ok (.aload_n 0, 1) := by decide +kernel
theorem dX9_pass_69 : decode cX9_pass 69 = .ok (.getfield 11, 3) := by decide +kernel
theorem dX9_pass_72 : decode cX9_pass 72 = .ok (.aload_n 0, 1) := by decide +kernel
theorem dX9_pass_73 : decode cX9_pass 73 = .ok (.getfield 28, 3) := by decide +kernel
theorem dX9_pass_76 : decode cX9_pass 76 = .ok (.caload, 1) := by decide +kernel
theorem dX9_pass_77 : decode cX9_pass 77 = .ok (.goto 4, 3) := by decide +kernel
theorem dX9_pass_156 : decode cX9_pass 156 = .ok (.aload_n 0, 1) := by decide +kernel
theorem dX9_pass_157 : decode cX9_pass 157 = .ok (.dup, 1) := by decide +kernel
theorem dX9_pass_158 : decode cX9_pass 158 = .ok (.getfield 22, 3) := by decide +kernel
theorem dX9_pass_161 : decode cX9_pass 161 = .ok (.iconst 1, 1) := by decide +kernel
theorem dX9_pass_162 : decode cX9_pass 162 = .ok (.iadd, 1) := by decide +kernel
theorem dX9_pass_163 : decode cX9_pass 163 = .ok (.putfield 22, 3) := by decide +kernel
theorem dX9_pass_166 : decode cX9_pass 166 = .ok (.aload_n 0, 1) := by decide +kernel
theorem dX9_pass_167 : decode cX9_pass 167 = .ok (.invokevirtual 43, 3) := by decide +kernel
theorem qq_2_144 : Cond.code yX9_joinSame cX9_joinSame 1 none ∈ TB := mk_tb (ti_2 (List.mem_of_getElem? (i := 144) rfl)) rfl
theorem qq_1_2 : Cond.initialized "WrongHole$Text" ∈ TB := mk_tb (ti_1 (List.mem_of_getElem? (i := 2) rfl)) rfl
theorem qq_2_141 : Cond.methodLink "WrongHole$Text" 43 yX9_joinSame ∈ TB := mk_tb (ti_2 (List.mem_of_getElem? (i := 141) rfl)) rfl
theorem qq_2_143 : Cond.instanceMethod yX9_joinSame ∈ TB := mk_tb (ti_2 (List.mem_of_getElem? (i := 143) rfl)) rfl
theorem qs_0_2 : Cond.selects "WrongHole$Text" yX9_joinSame yX9_joinSame ∈ TB := mk_tb (ti_s (q := (yX9_joinSame, 8)) (List.mem_append_left _ (List.mem_of_getElem? (i := 2) rfl))) rfl
theorem dX9_pass_93 : decode cX9_pass 93 = .ok (.aload_n 0, 1) := by decide +kernel
theorem dX9_pass_94 : decode cX9_pass 94 = .ok (.getfield 34, 3) := by decide +kernel
theorem dX9_pass_97 : decode cX9_pass 97 = .ok (.bipush 57, 2) := by decide +kernel
theorem dX9_pass_99 : decode cX9_pass 99 = .ok (.if_icmp .gt 17, 3) := by decide +kernel
theorem dX9_pass_125 : decode cX9_pass 125 = .ok (.aload_n 0, 1) := by decide +kernel
theorem dX9_pass_126 : decode cX9_pass 126 = .ok (.getfield 34, 3) := by decide +kernel
theorem dX9_pass_129 : decode cX9_pass 129 = .ok (.bipush 122, 2) := by decide +kernel
theorem dX9_pass_131 : decode cX9_pass 131 = .ok (.if_icmp .gt 17, 3) := by decide +kernel
theorem dX9_pass_134 : decode cX9_pass 134 = .ok (.aload_n 0, 1) := by decide +kernel
theorem dX9_pass_135 : decode cX9_pass 135 = .ok (.sipush 257, 3) := by decide +kernel
theorem dX9_pass_138 : decode cX9_pass 138 = .ok (.putfield 34, 3) := by decide +kernel
theorem dX9_pass_141 : decode cX9_pass 141 = .ok (.aload_n 0, 1) := by decide +kernel
theorem dX9_pass_142 : decode cX9_pass 142 = .ok (.invokevirtual 40, 3) := by decide +kernel
theorem qq_2_140 : Cond.code yX9_passLetters cX9_passLetters 2 none ∈ TB := mk_tb (ti_2 (List.mem_of_getElem? (i := 140) rfl)) rfl
theorem qq_2_137 : Cond.methodLink "WrongHole$Text" 40 yX9_passLetters ∈ TB := mk_tb (ti_2 (List.mem_of_getElem? (i := 137) rfl)) rfl
theorem qq_2_139 : Cond.instanceMethod yX9_passLetters ∈ TB := mk_tb (ti_2 (List.mem_of_getElem? (i := 139) rfl)) rfl
theorem qs_0_1 : Cond.selects "WrongHole$Text" yX9_passLetters yX9_passLetters ∈ TB := mk_tb (ti_s (q := (yX9_passLetters, 8)) (List.mem_append_left _ (List.mem_of_getElem? (i := 1) rfl))) rfl
theorem dX9_pass_145 : decode cX9_pass 145 = .ok (.goto 25, 3) := by decide +kernel
theorem dX9_pass_102 : decode cX9_pass 102 = .ok (.aload_n 0, 1) := by decide +kernel
theorem dX9_pass_103 : decode cX9_pass 103 = .ok (.sipush 256, 3) := by decide +kernel
theorem dX9_pass_106 : decode cX9_pass 106 = .ok (.putfield 34, 3) := by decide +kernel
theorem dX9_pass_109 : decode cX9_pass 109 = .ok (.aload_n 0, 1) := by decide +kernel
theorem dX9_pass_110 : decode cX9_pass 110 = .ok (.invokevirtual 37, 3) := by decide +kernel
theorem qq_2_135 : Cond.code yX9_passDigits cX9_passDigits 2 none ∈ TB := mk_tb (ti_2 (List.mem_of_getElem? (i := 135) rfl)) rfl
theorem qq_2_132 : Cond.methodLink "WrongHole$Text" 37 yX9_passDigits ∈ TB := mk_tb (ti_2 (List.mem_of_getElem? (i := 132) rfl)) rfl
theorem qq_2_134 : Cond.instanceMethod yX9_passDigits ∈ TB := mk_tb (ti_2 (List.mem_of_getElem? (i := 134) rfl)) rfl
theorem qs_0_0 : Cond.selects "WrongHole$Text" yX9_passDigits yX9_passDigits ∈ TB := mk_tb (ti_s (q := (yX9_passDigits, 8)) (List.mem_append_left _ (List.mem_of_getElem? (i := 0) rfl))) rfl
theorem dX9_pass_113 : decode cX9_pass 113 = .ok (.goto 57, 3) := by decide +kernel
theorem dX9_pass_21 : decode cX9_pass 21 = .ok (.aload_n 0, 1) := by decide +kernel
theorem dX9_pass_22 : decode cX9_pass 22 = .ok (.getfield 11, 3) := by decide +kernel
theorem dX9_pass_25 : decode cX9_pass 25 = .ok (.iload_n 1, 1) := by decide +kernel
theorem dX9_pass_26 : decode cX9_pass 26 = .ok (.caload, 1) := by decide +kernel
theorem dX9_pass_27 : decode cX9_pass 27 = .ok (.bipush 32, 2) := by decide +kernel
theorem dX9_pass_29 : decode cX9_pass 29 = .ok (.if_icmp .ne 19, 3) := by decide +kernel
theorem dX9_pass_32 : decode cX9_pass 32 = .ok (.aload_n 0, 1) := by decide +kernel
theorem dX9_pass_33 : decode cX9_pass 33 = .ok (.dup, 1) := by decide +kernel
theorem dX9_pass_34 : decode cX9_pass 34 = .ok (.getfield 28, 3) := by decide +kernel
theorem dX9_pass_37 : decode cX9_pass 37 = .ok (.iconst 1, 1) := by decide +kernel
theorem dX9_pass_38 : decode cX9_pass 38 = .ok (.iadd, 1) := by decide +kernel
theorem dX9_pass_39 : decode cX9_pass 39 = .ok (.putfield 28, 3) := by decide +kernel
theorem dX9_pass_42 : decode cX9_pass 42 = .ok (.iinc 1 1, 3) := by decide +kernel
theorem dX9_pass_45 : decode cX9_pass 45 = .ok (.goto (-32), 3) := by decide +kernel
set_option maxHeartbeats 4000000 in
set_option maxRecDepth 100000 in
theorem c_Text_pass (l : Launch) (D : va_G) (cs : Nat → ClassId) (X : XX) (sz : Nat) (ht : Nat) (hs : Nat) (tl : Int32) (tk : Int32) (tp : Int32) (tb : Int32) (tv : Int32) (tn : Int32) (tf : Int32) (gt : Nat → Int32) (r_tl : Rg 0 400 tl) (r_tp : Rg 0 400 tp) (r_tb : Rg 0 400 tb) : Met l yX9_pass (Cond.code yX9_pass cX9_pass 2 none :: TB) (RM 1 0 0) (va_Pc [.ref ht] (PRE D cs X [(ht, .inr (7, [.ref hs, .int tl, .int tk, .int tp, .int tb, .int tv, .int tn, .int tf])), (hs, .inl ((cs 1), 400, .inl gt))] [] sz)) (va_Qv (S := Unit) (fun _ => True) (fun _ t => ∃ (tk2 : Int32), ∃ (tp2 : Int32), ∃ (tb2 : Int32), ∃ (tv2 : Int32), Rg 0 400 tp2 ∧ Rg 0 400 tb2 ∧ va_P D vwCl [(ht, .inr (7, [.ref hs, .int tl, .int tk2, .int tp2, .int tb2, .int tv2, .int tn, .int tf])), (hs, .inl ((cs 1), 400, .inl gt))] t.heap ∧ va_D (va_A [(ht, .inr (7, [.ref hs, .int tl, .int tk, .int tp, .int tb, .int tv, .int tn, .int tf])), (hs, .inl ((cs 1), 400, .inl gt))] sz) [(ht, .inr (7, [.ref hs, .int tl, .int tk2, .int tp2, .int tb2, .int tv2, .int tn, .int tf])), (hs, .inl ((cs 1), 400, .inl gt))]) (va_A [(ht, .inr (7, [.ref hs, .int tl, .int tk, .int tp, .int tb, .int tv, .int tn, .int tf])), (hs, .inl ((cs 1), 400, .inl gt))] sz)) 0 0 (va_A [(ht, .inr (7, [.ref hs, .int tl, .int tk, .int tp, .int tb, .int tv, .int tn, .int tf])), (hs, .inl ((cs 1), 400, .inl gt))] sz) := by
  refine MET (y := yX9_pass) (cc := cX9_pass) (maxL := 2) (ret := none) (d := 1) (mc := 0) (ms := 0) (D := D) (cs := cs) (X := X) (ws := [(ht, .inr (7, [.ref hs, .int tl, .int tk, .int tp, .int tb, .int tv, .int tn, .int tf])), (hs, .inl ((cs 1), 400, .inl gt))]) (wo := []) (sz := sz) (av := [.ref ht]) (Qc := fun A => va_Qv (S := Unit) (fun _ => True) (fun _ t => ∃ (tk2 : Int32), ∃ (tp2 : Int32), ∃ (tb2 : Int32), ∃ (tv2 : Int32), Rg 0 400 tp2 ∧ Rg 0 400 tb2 ∧ va_P D vwCl [(ht, .inr (7, [.ref hs, .int tl, .int tk2, .int tp2, .int tb2, .int tv2, .int tn, .int tf])), (hs, .inl ((cs 1), 400, .inl gt))] t.heap ∧ va_D A [(ht, .inr (7, [.ref hs, .int tl, .int tk2, .int tp2, .int tb2, .int tv2, .int tn, .int tf])), (hs, .inl ((cs 1), 400, .inl gt))]) A) (by decide) (Nat.le_of_ble_eq_true rfl) ?_
  intro p e s m below meth c ls A H hHe hx hb hr hml hown hts hlocks hnm hP hK hD hA hS hN hR hX hXs hl
  have hD : va_D A [(ht, .inr (7, [.ref hs, .int tl, .int tk, .int tp, .int tb, .int tv, .int tn, .int tf])), (hs, .inl ((cs 1), 400, .inl gt))] := hD
  obtain ⟨locs, hlc⟩ : ∃ z : List Loc, z = [] := ⟨_, rfl⟩
  rw [← hlc] at hS ⊢
  have hown : s.vm.findClass "WrongHole$Text" = some m.cls := hown
  have hT : ∀ w ∈ TB, w.before ([.ref ht] : List Value).toArray s = true := fun w h => hts w (List.mem_cons_of_mem _ h)
  have hl : lv_has ls 2 [(0, .ref ht)] := hl
  have hP : va_P D vwCl [(ht, .inr (7, [.ref hs, .int tl, .int tk, .int tp, .int tb, .int tv, .int tn, .int tf])), (hs, .inl ((cs 1), 400, .inl gt))] H := hP
  refine lv_aload_n hx hb dX9_pass_0 rfl (lv_at hl 0 rfl) ?_
  refine lv_aload_n hx hb dX9_pass_1 rfl (lv_at hl 0 rfl) ?_
  refine va_get (D := D) (ci := 7) (v := .int tb) (C := "WrongHole$Text") (T := TX9) (N := 8) hx hb hts (iq_RX9 _) hown hK hP 0 rfl rfl 4 (by decide) (hT _ qq_1_43) (fun _ h9 => h9) rfl dX9_pass_2 ?_
  refine va_put (D := D) (ci := 7) (v := .int tb) (ty := .int) (C := "WrongHole$Text") (T := TX9) (N := 8) hx hb hts (iq_RX9 _) tyX9 tyX9_ok nmX9 hown hK hP hD hS 0 rfl rfl 3 (by decide) (hT _ qq_1_42) (fun _ h9 => h9) rfl (by decide +kernel) rfl rfl (Nat.le_of_ble_eq_true rfl) dX9_pass_5 (fun H locs hP hD hS => ?_)
  have hP : va_P D vwCl [(ht, .inr (7, [.ref hs, .int tl, .int tk, .int tb, .int tb, .int tv, .int tn, .int tf])), (hs, .inl ((cs 1), 400, .inl gt))] H := hP
  have hD : va_D A [(ht, .inr (7, [.ref hs, .int tl, .int tk, .int tb, .int tb, .int tv, .int tn, .int tf])), (hs, .inl ((cs 1), 400, .inl gt))] := hD
  refine lv_aload_n hx hb dX9_pass_8 rfl (lv_at hl 0 rfl) ?_
  refine va_get (D := D) (ci := 7) (v := .int tb) (C := "WrongHole$Text") (T := TX9) (N := 8) hx hb hts (iq_RX9 _) hown hK hP 0 rfl rfl 4 (by decide) (hT _ qq_1_43) (fun _ h9 => h9) rfl dX9_pass_9 ?_
  refine lv_istore_n (lv' := [(1, .int tb), (0, .ref ht)]) hx hb dX9_pass_12 rfl hl (by decide) rfl (fun ls hl => ?_)
  refine w_wh (σ := (Int32)) (fun (v_335 : Int32) H locs ls => Rg 0 400 v_335 ∧ va_P D vwCl [(ht, .inr (7, [.ref hs, .int tl, .int tk, .int v_335, .int tb, .int tv, .int tn, .int tf])), (hs, .inl ((cs 1), 400, .inl gt))] H ∧ va_D A [(ht, .inr (7, [.ref hs, .int tl, .int tk, .int v_335, .int tb, .int tv, .int tn, .int tf])), (hs, .inl ((cs 1), 400, .inl gt))] ∧ va_S A s.heap H locs ∧ lv_has ls 2 [(1, .int v_335), (0, .ref ht)]) (fun (v_335 : Int32) => (400 - Int32.toInt v_335).toNat) 13 ?_ tb H locs ls ⟨r_tb, hP, hD, hS, lv_sub hl [0, 1] rfl⟩
  rintro v_335 H locs ls ⟨r_1673, hP, hD, hS, hl⟩ ih_1672
  refine lv_iload_n hx hb dX9_pass_13 rfl (lv_at hl 0 rfl) ?_
  refine lv_aload_n hx hb dX9_pass_14 rfl (lv_at hl 1 rfl) ?_
  refine va_get (D := D) (ci := 7) (v := .int tl) (C := "WrongHole$Text") (T := TX9) (N := 8) hx hb hts (iq_RX9 _) hown hK hP 0 rfl rfl 1 (by decide) (hT _ qq_1_37) (fun _ h9 => h9) rfl dX9_pass_15 ?_
  refine w_cut (σ := Unit) (fun _ H locs ls => va_P D vwCl [(ht, .inr (7, [.ref hs, .int tl, .int tk, .int v_335, .int tb, .int tv, .int tn, .int tf])), (hs, .inl ((cs 1), 400, .inl gt))] H ∧ va_D A [(ht, .inr (7, [.ref hs, .int tl, .int tk, .int v_335, .int tb, .int tv, .int tn, .int tf])), (hs, .inl ((cs 1), 400, .inl gt))] ∧ va_S A s.heap H locs ∧ lv_has ls 2 [(1, .int v_335), (0, .ref ht)]) 48 (fun _ => []) ?_ (fun hj_1688 => ?_)
  · rintro _ H locs ls ⟨hP, hD, hS, hl⟩
    refine lv_aload_n hx hb dX9_pass_48 rfl (lv_at hl 1 rfl) ?_
    refine lv_aload_n hx hb dX9_pass_49 rfl (lv_at hl 1 rfl) ?_
    refine va_get (D := D) (ci := 7) (v := .int v_335) (C := "WrongHole$Text") (T := TX9) (N := 8) hx hb hts (iq_RX9 _) hown hK hP 0 rfl rfl 3 (by decide) (hT _ qq_1_42) (fun _ h9 => h9) rfl dX9_pass_50 ?_
    refine va_put (D := D) (ci := 7) (v := .int v_335) (ty := .int) (C := "WrongHole$Text") (T := TX9) (N := 8) hx hb hts (iq_RX9 _) tyX9 tyX9_ok nmX9 hown hK hP hD hS 0 rfl rfl 4 (by decide) (hT _ qq_1_43) (fun _ h9 => h9) rfl (by decide +kernel) rfl rfl (Nat.le_of_ble_eq_true rfl) dX9_pass_53 (fun H locs hP hD hS => ?_)
    have hP : va_P D vwCl [(ht, .inr (7, [.ref hs, .int tl, .int tk, .int v_335, .int v_335, .int tv, .int tn, .int tf])), (hs, .inl ((cs 1), 400, .inl gt))] H := hP
    have hD : va_D A [(ht, .inr (7, [.ref hs, .int tl, .int tk, .int v_335, .int v_335, .int tv, .int tn, .int tf])), (hs, .inl ((cs 1), 400, .inl gt))] := hD
    refine lv_aload_n hx hb dX9_pass_56 rfl (lv_at hl 1 rfl) ?_
    refine lv_aload_n hx hb dX9_pass_57 rfl (lv_at hl 1 rfl) ?_
    refine va_get (D := D) (ci := 7) (v := .int v_335) (C := "WrongHole$Text") (T := TX9) (N := 8) hx hb hts (iq_RX9 _) hown hK hP 0 rfl rfl 3 (by decide) (hT _ qq_1_42) (fun _ h9 => h9) rfl dX9_pass_58 ?_
    refine lv_aload_n hx hb dX9_pass_61 rfl (lv_at hl 1 rfl) ?_
    refine va_get (D := D) (ci := 7) (v := .int tl) (C := "WrongHole$Text") (T := TX9) (N := 8) hx hb hts (iq_RX9 _) hown hK hP 0 rfl rfl 1 (by decide) (hT _ qq_1_37) (fun _ h9 => h9) rfl dX9_pass_62 ?_
    refine lv_icmp_ge (tgt := 80) hx hb dX9_pass_65 (by decide) (fun c_1689 => ?_) (fun c_1689 => ?_)
    · refine lv_iconst (v := (-1)) hx hb dX9_pass_80 (by decide) ?_
      refine va_put (D := D) (ci := 7) (v := .int (-1)) (ty := .int) (C := "WrongHole$Text") (T := TX9) (N := 8) hx hb hts (iq_RX9 _) tyX9 tyX9_ok nmX9 hown hK hP hD hS 0 rfl rfl 2 (by decide) (hT _ qq_1_41) (fun _ h9 => h9) rfl (by decide +kernel) rfl rfl (Nat.le_of_ble_eq_true rfl) dX9_pass_81 (fun H locs hP hD hS => ?_)
      have hP : va_P D vwCl [(ht, .inr (7, [.ref hs, .int tl, .int (-1), .int v_335, .int v_335, .int tv, .int tn, .int tf])), (hs, .inl ((cs 1), 400, .inl gt))] H := hP
      have hD : va_D A [(ht, .inr (7, [.ref hs, .int tl, .int (-1), .int v_335, .int v_335, .int tv, .int tn, .int tf])), (hs, .inl ((cs 1), 400, .inl gt))] := hD
      refine lv_aload_n hx hb dX9_pass_84 rfl (lv_at hl 1 rfl) ?_
      refine va_get (D := D) (ci := 7) (v := .int (-1)) (C := "WrongHole$Text") (T := TX9) (N := 8) hx hb hts (iq_RX9 _) hown hK hP 0 rfl rfl 2 (by decide) (hT _ qq_1_41) (fun _ h9 => h9) rfl dX9_pass_85 ?_
      refine lv_bipush (v := 48) hx hb dX9_pass_88 (by decide) ?_
      refine lv_icmp_lt (tgt := 116) hx hb dX9_pass_90 (by decide) (fun c_1692 => ?_) (fun c_1692 => False.elim (Rg.no_le (nlt_le c_1692) (Rg.c (c := 48) (k := 48) rfl) (Rg.c (c := (-1)) (k := (-1)) rfl) (by decide)))
      refine lv_aload_n hx hb dX9_pass_116 rfl (lv_at hl 1 rfl) ?_
      refine va_get (D := D) (ci := 7) (v := .int (-1)) (C := "WrongHole$Text") (T := TX9) (N := 8) hx hb hts (iq_RX9 _) hown hK hP 0 rfl rfl 2 (by decide) (hT _ qq_1_41) (fun _ h9 => h9) rfl dX9_pass_117 ?_
      refine lv_bipush (v := 97) hx hb dX9_pass_120 (by decide) ?_
      refine lv_icmp_lt (tgt := 148) hx hb dX9_pass_122 (by decide) (fun c_1693 => ?_) (fun c_1693 => False.elim (Rg.no_le (nlt_le c_1693) (Rg.c (c := 97) (k := 97) rfl) (Rg.c (c := (-1)) (k := (-1)) rfl) (by decide)))
      refine lv_aload_n hx hb dX9_pass_148 rfl (lv_at hl 1 rfl) ?_
      refine va_get (D := D) (ci := 7) (v := .int (-1)) (C := "WrongHole$Text") (T := TX9) (N := 8) hx hb hts (iq_RX9 _) hown hK hP 0 rfl rfl 2 (by decide) (hT _ qq_1_41) (fun _ h9 => h9) rfl dX9_pass_149 ?_
      refine lv_iconst (v := (-1)) hx hb dX9_pass_152 (by decide) ?_
      refine lv_icmp_eq (tgt := 170) hx hb dX9_pass_153 (by decide) (fun c_1694 => ?_) (fun c_1694 => False.elim (Rg.no_ne c_1694 (Rg.c (c := (-1)) (k := (-1)) rfl) (Rg.c (c := (-1)) (k := (-1)) rfl) (by decide)))
      refine W.widen (k := 0) (n := 0) (Nat.le_of_ble_eq_true rfl) (Nat.le_of_ble_eq_true rfl) ?_
      have hP9 := hP.sub (ws' := [(ht, .inr (7, [.ref hs, .int tl, .int (-1), .int v_335, .int v_335, .int tv, .int tn, .int tf])), (hs, .inl ((cs 1), 400, .inl gt))]) [0, 1] rfl
      have hD9 := hD.sub (ws' := [(ht, .inr (7, [.ref hs, .int tl, .int (-1), .int v_335, .int v_335, .int tv, .int tn, .int tf])), (hs, .inl ((cs 1), 400, .inl gt))]) [0, 1] (by decide) rfl
      exact W.vret hx hb hr (fun t9 ht9 hW9 => ⟨⟨(), rfl, trivial, ⟨(-1), v_335, v_335, tv, r_1673, r_1673, by rw [ht9]; exact hP9, hD9⟩⟩, hS.F ht9⟩) hS.2.2 dX9_pass_170
    · have r_1690 : Rg 0 399 v_335 := Rg.lt_l (nle_lt c_1689) r_1673 r_tl (by decide)
      have r_1691 : Rg 1 400 tl := Rg.lt_r (nle_lt c_1689) r_1673 r_tl (by decide)
      refine lv_aload_n hx hb dX9_pass_68 rfl (lv_at hl 1 rfl) ?_
      refine va_get (D := D) (ci := 7) (v := .ref hs) (C := "WrongHole$Text") (T := TX9) (N := 8) hx hb hts (iq_RX9 _) hown hK hP 0 rfl rfl 0 (by decide) (hT _ qq_1_36) (fun _ h9 => h9) rfl dX9_pass_69 ?_
      refine lv_aload_n hx hb dX9_pass_72 rfl (lv_at hl 1 rfl) ?_
      refine va_get (D := D) (ci := 7) (v := .int v_335) (C := "WrongHole$Text") (T := TX9) (N := 8) hx hb hts (iq_RX9 _) hown hK hP 0 rfl rfl 3 (by decide) (hT _ qq_1_42) (fun _ h9 => h9) rfl dX9_pass_73 ?_
      have hi_1695 : vp_in v_335 400 := Rg.in r_1690 (by decide)
      refine va_cald hx hb hK hP 1 1 rfl rfl hi_1695 dX9_pass_76 ?_
      refine lv_topi (fun x_1696 e_1697 => ?_)
      refine lv_goto (tgt := 81) hx hb dX9_pass_77 (by decide) ?_
      refine va_put (D := D) (ci := 7) (v := .int x_1696) (ty := .int) (C := "WrongHole$Text") (T := TX9) (N := 8) hx hb hts (iq_RX9 _) tyX9 tyX9_ok nmX9 hown hK hP hD hS 0 rfl rfl 2 (by decide) (hT _ qq_1_41) (fun _ h9 => h9) rfl (by decide +kernel) rfl rfl (Nat.le_of_ble_eq_true rfl) dX9_pass_81 (fun H locs hP hD hS => ?_)
      have hP : va_P D vwCl [(ht, .inr (7, [.ref hs, .int tl, .int x_1696, .int v_335, .int v_335, .int tv, .int tn, .int tf])), (hs, .inl ((cs 1), 400, .inl gt))] H := hP
      have hD : va_D A [(ht, .inr (7, [.ref hs, .int tl, .int x_1696, .int v_335, .int v_335, .int tv, .int tn, .int tf])), (hs, .inl ((cs 1), 400, .inl gt))] := hD
      refine lv_aload_n hx hb dX9_pass_84 rfl (lv_at hl 1 rfl) ?_
      refine va_get (D := D) (ci := 7) (v := .int x_1696) (C := "WrongHole$Text") (T := TX9) (N := 8) hx hb hts (iq_RX9 _) hown hK hP 0 rfl rfl 2 (by decide) (hT _ qq_1_41) (fun _ h9 => h9) rfl dX9_pass_85 ?_
      refine lv_bipush (v := 48) hx hb dX9_pass_88 (by decide) ?_
      refine lv_icmp_lt (tgt := 116) hx hb dX9_pass_90 (by decide) (fun c_1698 => ?_) (fun c_1698 => ?_)
      · have r_1699 : Rg (-2147483648) 47 x_1696 := Rg.lt_l c_1698 (Rg.top x_1696) (Rg.c (c := 48) (k := 48) rfl) (by decide)
        refine lv_aload_n hx hb dX9_pass_116 rfl (lv_at hl 1 rfl) ?_
        refine va_get (D := D) (ci := 7) (v := .int x_1696) (C := "WrongHole$Text") (T := TX9) (N := 8) hx hb hts (iq_RX9 _) hown hK hP 0 rfl rfl 2 (by decide) (hT _ qq_1_41) (fun _ h9 => h9) rfl dX9_pass_117 ?_
        refine lv_bipush (v := 97) hx hb dX9_pass_120 (by decide) ?_
        refine lv_icmp_lt (tgt := 148) hx hb dX9_pass_122 (by decide) (fun c_1779 => ?_) (fun c_1779 => False.elim (Rg.no_le (nlt_le c_1779) (Rg.c (c := 97) (k := 97) rfl) r_1699 (by decide)))
        refine lv_aload_n hx hb dX9_pass_148 rfl (lv_at hl 1 rfl) ?_
        refine va_get (D := D) (ci := 7) (v := .int x_1696) (C := "WrongHole$Text") (T := TX9) (N := 8) hx hb hts (iq_RX9 _) hown hK hP 0 rfl rfl 2 (by decide) (hT _ qq_1_41) (fun _ h9 => h9) rfl dX9_pass_149 ?_
        refine lv_iconst (v := (-1)) hx hb dX9_pass_152 (by decide) ?_
        refine lv_icmp_eq (tgt := 170) hx hb dX9_pass_153 (by decide) (fun c_1780 => ?_) (fun c_1780 => ?_)
        · have r_1781 : Rg (-1) (-1) x_1696 := Rg.eq_l c_1780 r_1699 (Rg.c (c := (-1)) (k := (-1)) rfl) (by decide)
          refine W.widen (k := 0) (n := 0) (Nat.le_of_ble_eq_true rfl) (Nat.le_of_ble_eq_true rfl) ?_
          have hP9 := hP.sub (ws' := [(ht, .inr (7, [.ref hs, .int tl, .int x_1696, .int v_335, .int v_335, .int tv, .int tn, .int tf])), (hs, .inl ((cs 1), 400, .inl gt))]) [0, 1] rfl
          have hD9 := hD.sub (ws' := [(ht, .inr (7, [.ref hs, .int tl, .int x_1696, .int v_335, .int v_335, .int tv, .int tn, .int tf])), (hs, .inl ((cs 1), 400, .inl gt))]) [0, 1] (by decide) rfl
          exact W.vret hx hb hr (fun t9 ht9 hW9 => ⟨⟨(), rfl, trivial, ⟨x_1696, v_335, v_335, tv, (Rg.wk (lo2 := 0) (hi2 := 400) r_1690 (by decide)), (Rg.wk (lo2 := 0) (hi2 := 400) r_1690 (by decide)), by rw [ht9]; exact hP9, hD9⟩⟩, hS.F ht9⟩) hS.2.2 dX9_pass_170
        · refine lv_aload_n hx hb dX9_pass_156 rfl (lv_at hl 1 rfl) ?_
          refine lv_dup hx hb dX9_pass_157 rfl ?_
          refine va_get (D := D) (ci := 7) (v := .int v_335) (C := "WrongHole$Text") (T := TX9) (N := 8) hx hb hts (iq_RX9 _) hown hK hP 0 rfl rfl 4 (by decide) (hT _ qq_1_43) (fun _ h9 => h9) rfl dX9_pass_158 ?_
          refine lv_iconst (v := 1) hx hb dX9_pass_161 (by decide) ?_
          refine lv_iadd hx hb dX9_pass_162 ?_
          refine lv_topi (fun x_1796 e_1797 => ?_)
          have r_1798 : Rg 1 400 x_1796 := Rg.add e_1797 r_1690 (Rg.c (c := 1) (k := 1) rfl) (by decide)
          refine va_put (D := D) (ci := 7) (v := .int x_1796) (ty := .int) (C := "WrongHole$Text") (T := TX9) (N := 8) hx hb hts (iq_RX9 _) tyX9 tyX9_ok nmX9 hown hK hP hD hS 0 rfl rfl 4 (by decide) (hT _ qq_1_43) (fun _ h9 => h9) rfl (by decide +kernel) rfl rfl (Nat.le_of_ble_eq_true rfl) dX9_pass_163 (fun H locs hP hD hS => ?_)
          have hP : va_P D vwCl [(ht, .inr (7, [.ref hs, .int tl, .int x_1696, .int v_335, .int x_1796, .int tv, .int tn, .int tf])), (hs, .inl ((cs 1), 400, .inl gt))] H := hP
          have hD : va_D A [(ht, .inr (7, [.ref hs, .int tl, .int x_1696, .int v_335, .int x_1796, .int tv, .int tn, .int tf])), (hs, .inl ((cs 1), 400, .inl gt))] := hD
          refine lv_aload_n hx hb dX9_pass_166 rfl (lv_at hl 1 rfl) ?_
          have hPc := hP.sub (ws' := [(ht, .inr (7, [.ref hs, .int tl, .int x_1696, .int v_335, .int x_1796, .int tv, .int tn, .int tf])), (hs, .inl ((cs 1), 400, .inl gt))]) [0, 1] rfl
          have hDc := hD.sub (ws' := [(ht, .inr (7, [.ref hs, .int tl, .int x_1696, .int v_335, .int x_1796, .int tv, .int tn, .int tf])), (hs, .inl ((cs 1), 400, .inl gt))]) [0, 1] (by decide) rfl
          have hFc := va_free (wc := [(ht, .inr (7, [.ref hs, .int tl, .int x_1696, .int v_335, .int x_1796, .int tv, .int tn, .int tf])), (hs, .inl ((cs 1), 400, .inl gt))]) hD hS hA [0, 1] rfl
          refine va_callv (va_runV (As := []) (rest := []) ⟨hx, hb, hml, hown, hts⟩ (c_Text_joinSame l D cs X H.size ht hs tl x_1696 v_335 x_1796 tv tn tf gt (Rg.wk (lo2 := 0) (hi2 := 400) r_1691 (by decide)) (Rg.wk (lo2 := 0) (hi2 := 400) r_1690 (by decide)) (Rg.wk (lo2 := 0) (hi2 := 400) r_1798 (by decide))) ⟨callB_of 0 hts (gd_C qq_2_144) rfl rfl rfl (hT _ qq_1_2) (hT _ qq_2_141) (by decide +kernel) (rm_R rfl rfl), (hT _ qq_2_143), (hT _ qs_0_2)⟩ (pr_V hPc hK hDc hN (hR.sub (wo' := []) [] rfl) hS hFc hX hXs (ci := 7) (q0 := 0) rfl rfl) rfl rfl hl.1 rfl (lv_room (Nat.le_of_ble_eq_true rfl)) dX9_pass_167 ⟨Nat.le_of_ble_eq_true rfl, Nat.le_of_ble_eq_true rfl⟩) hS (fun q _ h => hFc q h) hFc (fun u_1799 t_1802 H1 locs ht9 hvm hw_1800 hB_1801 hz1 hk1 hS => ?_)
          obtain ⟨v_1804, v_1805, v_1806, v_1807, r_1808, r_1809, hP1, hD1⟩ := hB_1801
          rw [ht9] at hP1
          obtain ⟨hP, hD⟩ := va_join (wr := []) (w1 := [(ht, .inr (7, [.ref hs, .int tl, .int v_1804, .int v_1805, .int v_1806, .int v_1807, .int tn, .int tf])), (hs, .inl ((cs 1), 400, .inl gt))]) hP hD [0, 1] [] rfl rfl (by decide) (by decide) hk1 hFc hP1 hD1
          generalize H1 = H at hP hS ⊢
          have hP : va_P D vwCl [(ht, .inr (7, [.ref hs, .int tl, .int v_1804, .int v_1805, .int v_1806, .int v_1807, .int tn, .int tf])), (hs, .inl ((cs 1), 400, .inl gt))] H := hP
          have hD : va_D A [(ht, .inr (7, [.ref hs, .int tl, .int v_1804, .int v_1805, .int v_1806, .int v_1807, .int tn, .int tf])), (hs, .inl ((cs 1), 400, .inl gt))] := hD
          refine W.widen (k := 0) (n := 0) (Nat.le_of_ble_eq_true rfl) (Nat.le_of_ble_eq_true rfl) ?_
          have hP9 := hP.sub (ws' := [(ht, .inr (7, [.ref hs, .int tl, .int v_1804, .int v_1805, .int v_1806, .int v_1807, .int tn, .int tf])), (hs, .inl ((cs 1), 400, .inl gt))]) [0, 1] rfl
          have hD9 := hD.sub (ws' := [(ht, .inr (7, [.ref hs, .int tl, .int v_1804, .int v_1805, .int v_1806, .int v_1807, .int tn, .int tf])), (hs, .inl ((cs 1), 400, .inl gt))]) [0, 1] (by decide) rfl
          exact W.vret hx hb hr (fun t9 ht9 hW9 => ⟨⟨(), rfl, trivial, ⟨v_1804, v_1805, v_1806, v_1807, r_1808, r_1809, by rw [ht9]; exact hP9, hD9⟩⟩, hS.F ht9⟩) hS.2.2 dX9_pass_170
      · have r_1700 : Rg 48 2147483647 x_1696 := Rg.le_r (nlt_le c_1698) (Rg.c (c := 48) (k := 48) rfl) (Rg.top x_1696) (by decide)
        refine lv_aload_n hx hb dX9_pass_93 rfl (lv_at hl 1 rfl) ?_
        refine va_get (D := D) (ci := 7) (v := .int x_1696) (C := "WrongHole$Text") (T := TX9) (N := 8) hx hb hts (iq_RX9 _) hown hK hP 0 rfl rfl 2 (by decide) (hT _ qq_1_41) (fun _ h9 => h9) rfl dX9_pass_94 ?_
        refine lv_bipush (v := 57) hx hb dX9_pass_97 (by decide) ?_
        refine lv_icmp_gt (tgt := 116) hx hb dX9_pass_99 (by decide) (fun c_1810 => ?_) (fun c_1810 => ?_)
        · have r_1811 : Rg 58 2147483647 x_1696 := Rg.lt_r c_1810 (Rg.c (c := 57) (k := 57) rfl) r_1700 (by decide)
          refine lv_aload_n hx hb dX9_pass_116 rfl (lv_at hl 1 rfl) ?_
          refine va_get (D := D) (ci := 7) (v := .int x_1696) (C := "WrongHole$Text") (T := TX9) (N := 8) hx hb hts (iq_RX9 _) hown hK hP 0 rfl rfl 2 (by decide) (hT _ qq_1_41) (fun _ h9 => h9) rfl dX9_pass_117 ?_
          refine lv_bipush (v := 97) hx hb dX9_pass_120 (by decide) ?_
          refine lv_icmp_lt (tgt := 148) hx hb dX9_pass_122 (by decide) (fun c_1871 => ?_) (fun c_1871 => ?_)
          · have r_1872 : Rg 58 96 x_1696 := Rg.lt_l c_1871 r_1811 (Rg.c (c := 97) (k := 97) rfl) (by decide)
            refine lv_aload_n hx hb dX9_pass_148 rfl (lv_at hl 1 rfl) ?_
            refine va_get (D := D) (ci := 7) (v := .int x_1696) (C := "WrongHole$Text") (T := TX9) (N := 8) hx hb hts (iq_RX9 _) hown hK hP 0 rfl rfl 2 (by decide) (hT _ qq_1_41) (fun _ h9 => h9) rfl dX9_pass_149 ?_
            refine lv_iconst (v := (-1)) hx hb dX9_pass_152 (by decide) ?_
            refine lv_icmp_eq (tgt := 170) hx hb dX9_pass_153 (by decide) (fun c_1918 => False.elim (Rg.no_eq c_1918 r_1872 (Rg.c (c := (-1)) (k := (-1)) rfl) (by decide))) (fun c_1918 => ?_)
            refine lv_aload_n hx hb dX9_pass_156 rfl (lv_at hl 1 rfl) ?_
            refine lv_dup hx hb dX9_pass_157 rfl ?_
            refine va_get (D := D) (ci := 7) (v := .int v_335) (C := "WrongHole$Text") (T := TX9) (N := 8) hx hb hts (iq_RX9 _) hown hK hP 0 rfl rfl 4 (by decide) (hT _ qq_1_43) (fun _ h9 => h9) rfl dX9_pass_158 ?_
            refine lv_iconst (v := 1) hx hb dX9_pass_161 (by decide) ?_
            refine lv_iadd hx hb dX9_pass_162 ?_
            refine lv_topi (fun x_1919 e_1920 => ?_)
            have r_1921 : Rg 1 400 x_1919 := Rg.add e_1920 r_1690 (Rg.c (c := 1) (k := 1) rfl) (by decide)
            refine va_put (D := D) (ci := 7) (v := .int x_1919) (ty := .int) (C := "WrongHole$Text") (T := TX9) (N := 8) hx hb hts (iq_RX9 _) tyX9 tyX9_ok nmX9 hown hK hP hD hS 0 rfl rfl 4 (by decide) (hT _ qq_1_43) (fun _ h9 => h9) rfl (by decide +kernel) rfl rfl (Nat.le_of_ble_eq_true rfl) dX9_pass_163 (fun H locs hP hD hS => ?_)
            have hP : va_P D vwCl [(ht, .inr (7, [.ref hs, .int tl, .int x_1696, .int v_335, .int x_1919, .int tv, .int tn, .int tf])), (hs, .inl ((cs 1), 400, .inl gt))] H := hP
            have hD : va_D A [(ht, .inr (7, [.ref hs, .int tl, .int x_1696, .int v_335, .int x_1919, .int tv, .int tn, .int tf])), (hs, .inl ((cs 1), 400, .inl gt))] := hD
            refine lv_aload_n hx hb dX9_pass_166 rfl (lv_at hl 1 rfl) ?_
            have hPc := hP.sub (ws' := [(ht, .inr (7, [.ref hs, .int tl, .int x_1696, .int v_335, .int x_1919, .int tv, .int tn, .int tf])), (hs, .inl ((cs 1), 400, .inl gt))]) [0, 1] rfl
            have hDc := hD.sub (ws' := [(ht, .inr (7, [.ref hs, .int tl, .int x_1696, .int v_335, .int x_1919, .int tv, .int tn, .int tf])), (hs, .inl ((cs 1), 400, .inl gt))]) [0, 1] (by decide) rfl
            have hFc := va_free (wc := [(ht, .inr (7, [.ref hs, .int tl, .int x_1696, .int v_335, .int x_1919, .int tv, .int tn, .int tf])), (hs, .inl ((cs 1), 400, .inl gt))]) hD hS hA [0, 1] rfl
            refine va_callv (va_runV (As := []) (rest := []) ⟨hx, hb, hml, hown, hts⟩ (c_Text_joinSame l D cs X H.size ht hs tl x_1696 v_335 x_1919 tv tn tf gt (Rg.wk (lo2 := 0) (hi2 := 400) r_1691 (by decide)) (Rg.wk (lo2 := 0) (hi2 := 400) r_1690 (by decide)) (Rg.wk (lo2 := 0) (hi2 := 400) r_1921 (by decide))) ⟨callB_of 0 hts (gd_C qq_2_144) rfl rfl rfl (hT _ qq_1_2) (hT _ qq_2_141) (by decide +kernel) (rm_R rfl rfl), (hT _ qq_2_143), (hT _ qs_0_2)⟩ (pr_V hPc hK hDc hN (hR.sub (wo' := []) [] rfl) hS hFc hX hXs (ci := 7) (q0 := 0) rfl rfl) rfl rfl hl.1 rfl (lv_room (Nat.le_of_ble_eq_true rfl)) dX9_pass_167 ⟨Nat.le_of_ble_eq_true rfl, Nat.le_of_ble_eq_true rfl⟩) hS (fun q _ h => hFc q h) hFc (fun u_1922 t_1925 H1 locs ht9 hvm hw_1923 hB_1924 hz1 hk1 hS => ?_)
            obtain ⟨v_1927, v_1928, v_1929, v_1930, r_1931, r_1932, hP1, hD1⟩ := hB_1924
            rw [ht9] at hP1
            obtain ⟨hP, hD⟩ := va_join (wr := []) (w1 := [(ht, .inr (7, [.ref hs, .int tl, .int v_1927, .int v_1928, .int v_1929, .int v_1930, .int tn, .int tf])), (hs, .inl ((cs 1), 400, .inl gt))]) hP hD [0, 1] [] rfl rfl (by decide) (by decide) hk1 hFc hP1 hD1
            generalize H1 = H at hP hS ⊢
            have hP : va_P D vwCl [(ht, .inr (7, [.ref hs, .int tl, .int v_1927, .int v_1928, .int v_1929, .int v_1930, .int tn, .int tf])), (hs, .inl ((cs 1), 400, .inl gt))] H := hP
            have hD : va_D A [(ht, .inr (7, [.ref hs, .int tl, .int v_1927, .int v_1928, .int v_1929, .int v_1930, .int tn, .int tf])), (hs, .inl ((cs 1), 400, .inl gt))] := hD
            refine W.widen (k := 0) (n := 0) (Nat.le_of_ble_eq_true rfl) (Nat.le_of_ble_eq_true rfl) ?_
            have hP9 := hP.sub (ws' := [(ht, .inr (7, [.ref hs, .int tl, .int v_1927, .int v_1928, .int v_1929, .int v_1930, .int tn, .int tf])), (hs, .inl ((cs 1), 400, .inl gt))]) [0, 1] rfl
            have hD9 := hD.sub (ws' := [(ht, .inr (7, [.ref hs, .int tl, .int v_1927, .int v_1928, .int v_1929, .int v_1930, .int tn, .int tf])), (hs, .inl ((cs 1), 400, .inl gt))]) [0, 1] (by decide) rfl
            exact W.vret hx hb hr (fun t9 ht9 hW9 => ⟨⟨(), rfl, trivial, ⟨v_1927, v_1928, v_1929, v_1930, r_1931, r_1932, by rw [ht9]; exact hP9, hD9⟩⟩, hS.F ht9⟩) hS.2.2 dX9_pass_170
          · have r_1873 : Rg 97 2147483647 x_1696 := Rg.le_r (nlt_le c_1871) (Rg.c (c := 97) (k := 97) rfl) r_1811 (by decide)
            refine lv_aload_n hx hb dX9_pass_125 rfl (lv_at hl 1 rfl) ?_
            refine va_get (D := D) (ci := 7) (v := .int x_1696) (C := "WrongHole$Text") (T := TX9) (N := 8) hx hb hts (iq_RX9 _) hown hK hP 0 rfl rfl 2 (by decide) (hT _ qq_1_41) (fun _ h9 => h9) rfl dX9_pass_126 ?_
            refine lv_bipush (v := 122) hx hb dX9_pass_129 (by decide) ?_
            refine lv_icmp_gt (tgt := 148) hx hb dX9_pass_131 (by decide) (fun c_1933 => ?_) (fun c_1933 => ?_)
            · have r_1934 : Rg 123 2147483647 x_1696 := Rg.lt_r c_1933 (Rg.c (c := 122) (k := 122) rfl) r_1873 (by decide)
              refine lv_aload_n hx hb dX9_pass_148 rfl (lv_at hl 1 rfl) ?_
              refine va_get (D := D) (ci := 7) (v := .int x_1696) (C := "WrongHole$Text") (T := TX9) (N := 8) hx hb hts (iq_RX9 _) hown hK hP 0 rfl rfl 2 (by decide) (hT _ qq_1_41) (fun _ h9 => h9) rfl dX9_pass_149 ?_
              refine lv_iconst (v := (-1)) hx hb dX9_pass_152 (by decide) ?_
              refine lv_icmp_eq (tgt := 170) hx hb dX9_pass_153 (by decide) (fun c_1962 => False.elim (Rg.no_eq c_1962 r_1934 (Rg.c (c := (-1)) (k := (-1)) rfl) (by decide))) (fun c_1962 => ?_)
              refine lv_aload_n hx hb dX9_pass_156 rfl (lv_at hl 1 rfl) ?_
              refine lv_dup hx hb dX9_pass_157 rfl ?_
              refine va_get (D := D) (ci := 7) (v := .int v_335) (C := "WrongHole$Text") (T := TX9) (N := 8) hx hb hts (iq_RX9 _) hown hK hP 0 rfl rfl 4 (by decide) (hT _ qq_1_43) (fun _ h9 => h9) rfl dX9_pass_158 ?_
              refine lv_iconst (v := 1) hx hb dX9_pass_161 (by decide) ?_
              refine lv_iadd hx hb dX9_pass_162 ?_
              refine lv_topi (fun x_1963 e_1964 => ?_)
              have r_1965 : Rg 1 400 x_1963 := Rg.add e_1964 r_1690 (Rg.c (c := 1) (k := 1) rfl) (by decide)
              refine va_put (D := D) (ci := 7) (v := .int x_1963) (ty := .int) (C := "WrongHole$Text") (T := TX9) (N := 8) hx hb hts (iq_RX9 _) tyX9 tyX9_ok nmX9 hown hK hP hD hS 0 rfl rfl 4 (by decide) (hT _ qq_1_43) (fun _ h9 => h9) rfl (by decide +kernel) rfl rfl (Nat.le_of_ble_eq_true rfl) dX9_pass_163 (fun H locs hP hD hS => ?_)
              have hP : va_P D vwCl [(ht, .inr (7, [.ref hs, .int tl, .int x_1696, .int v_335, .int x_1963, .int tv, .int tn, .int tf])), (hs, .inl ((cs 1), 400, .inl gt))] H := hP
              have hD : va_D A [(ht, .inr (7, [.ref hs, .int tl, .int x_1696, .int v_335, .int x_1963, .int tv, .int tn, .int tf])), (hs, .inl ((cs 1), 400, .inl gt))] := hD
              refine lv_aload_n hx hb dX9_pass_166 rfl (lv_at hl 1 rfl) ?_
              have hPc := hP.sub (ws' := [(ht, .inr (7, [.ref hs, .int tl, .int x_1696, .int v_335, .int x_1963, .int tv, .int tn, .int tf])), (hs, .inl ((cs 1), 400, .inl gt))]) [0, 1] rfl
              have hDc := hD.sub (ws' := [(ht, .inr (7, [.ref hs, .int tl, .int x_1696, .int v_335, .int x_1963, .int tv, .int tn, .int tf])), (hs, .inl ((cs 1), 400, .inl gt))]) [0, 1] (by decide) rfl
              have hFc := va_free (wc := [(ht, .inr (7, [.ref hs, .int tl, .int x_1696, .int v_335, .int x_1963, .int tv, .int tn, .int tf])), (hs, .inl ((cs 1), 400, .inl gt))]) hD hS hA [0, 1] rfl
              refine va_callv (va_runV (As := []) (rest := []) ⟨hx, hb, hml, hown, hts⟩ (c_Text_joinSame l D cs X H.size ht hs tl x_1696 v_335 x_1963 tv tn tf gt (Rg.wk (lo2 := 0) (hi2 := 400) r_1691 (by decide)) (Rg.wk (lo2 := 0) (hi2 := 400) r_1690 (by decide)) (Rg.wk (lo2 := 0) (hi2 := 400) r_1965 (by decide))) ⟨callB_of 0 hts (gd_C qq_2_144) rfl rfl rfl (hT _ qq_1_2) (hT _ qq_2_141) (by decide +kernel) (rm_R rfl rfl), (hT _ qq_2_143), (hT _ qs_0_2)⟩ (pr_V hPc hK hDc hN (hR.sub (wo' := []) [] rfl) hS hFc hX hXs (ci := 7) (q0 := 0) rfl rfl) rfl rfl hl.1 rfl (lv_room (Nat.le_of_ble_eq_true rfl)) dX9_pass_167 ⟨Nat.le_of_ble_eq_true rfl, Nat.le_of_ble_eq_true rfl⟩) hS (fun q _ h => hFc q h) hFc (fun u_1966 t_1969 H1 locs ht9 hvm hw_1967 hB_1968 hz1 hk1 hS => ?_)
              obtain ⟨v_1971, v_1972, v_1973, v_1974, r_1975, r_1976, hP1, hD1⟩ := hB_1968
              rw [ht9] at hP1
              obtain ⟨hP, hD⟩ := va_join (wr := []) (w1 := [(ht, .inr (7, [.ref hs, .int tl, .int v_1971, .int v_1972, .int v_1973, .int v_1974, .int tn, .int tf])), (hs, .inl ((cs 1), 400, .inl gt))]) hP hD [0, 1] [] rfl rfl (by decide) (by decide) hk1 hFc hP1 hD1
              generalize H1 = H at hP hS ⊢
              have hP : va_P D vwCl [(ht, .inr (7, [.ref hs, .int tl, .int v_1971, .int v_1972, .int v_1973, .int v_1974, .int tn, .int tf])), (hs, .inl ((cs 1), 400, .inl gt))] H := hP
              have hD : va_D A [(ht, .inr (7, [.ref hs, .int tl, .int v_1971, .int v_1972, .int v_1973, .int v_1974, .int tn, .int tf])), (hs, .inl ((cs 1), 400, .inl gt))] := hD
              refine W.widen (k := 0) (n := 0) (Nat.le_of_ble_eq_true rfl) (Nat.le_of_ble_eq_true rfl) ?_
              have hP9 := hP.sub (ws' := [(ht, .inr (7, [.ref hs, .int tl, .int v_1971, .int v_1972, .int v_1973, .int v_1974, .int tn, .int tf])), (hs, .inl ((cs 1), 400, .inl gt))]) [0, 1] rfl
              have hD9 := hD.sub (ws' := [(ht, .inr (7, [.ref hs, .int tl, .int v_1971, .int v_1972, .int v_1973, .int v_1974, .int tn, .int tf])), (hs, .inl ((cs 1), 400, .inl gt))]) [0, 1] (by decide) rfl
              exact W.vret hx hb hr (fun t9 ht9 hW9 => ⟨⟨(), rfl, trivial, ⟨v_1971, v_1972, v_1973, v_1974, r_1975, r_1976, by rw [ht9]; exact hP9, hD9⟩⟩, hS.F ht9⟩) hS.2.2 dX9_pass_170
            · have r_1935 : Rg 97 122 x_1696 := Rg.le_l (nlt_le c_1933) r_1873 (Rg.c (c := 122) (k := 122) rfl) (by decide)
              refine lv_aload_n hx hb dX9_pass_134 rfl (lv_at hl 1 rfl) ?_
              refine lv_sipush (v := 257) hx hb dX9_pass_135 (by decide) ?_
              refine va_put (D := D) (ci := 7) (v := .int 257) (ty := .int) (C := "WrongHole$Text") (T := TX9) (N := 8) hx hb hts (iq_RX9 _) tyX9 tyX9_ok nmX9 hown hK hP hD hS 0 rfl rfl 2 (by decide) (hT _ qq_1_41) (fun _ h9 => h9) rfl (by decide +kernel) rfl rfl (Nat.le_of_ble_eq_true rfl) dX9_pass_138 (fun H locs hP hD hS => ?_)
              have hP : va_P D vwCl [(ht, .inr (7, [.ref hs, .int tl, .int 257, .int v_335, .int v_335, .int tv, .int tn, .int tf])), (hs, .inl ((cs 1), 400, .inl gt))] H := hP
              have hD : va_D A [(ht, .inr (7, [.ref hs, .int tl, .int 257, .int v_335, .int v_335, .int tv, .int tn, .int tf])), (hs, .inl ((cs 1), 400, .inl gt))] := hD
              refine lv_aload_n hx hb dX9_pass_141 rfl (lv_at hl 1 rfl) ?_
              have hPc := hP.sub (ws' := [(ht, .inr (7, [.ref hs, .int tl, .int 257, .int v_335, .int v_335, .int tv, .int tn, .int tf])), (hs, .inl ((cs 1), 400, .inl gt))]) [0, 1] rfl
              have hDc := hD.sub (ws' := [(ht, .inr (7, [.ref hs, .int tl, .int 257, .int v_335, .int v_335, .int tv, .int tn, .int tf])), (hs, .inl ((cs 1), 400, .inl gt))]) [0, 1] (by decide) rfl
              have hFc := va_free (wc := [(ht, .inr (7, [.ref hs, .int tl, .int 257, .int v_335, .int v_335, .int tv, .int tn, .int tf])), (hs, .inl ((cs 1), 400, .inl gt))]) hD hS hA [0, 1] rfl
              refine va_callv (va_runV (As := []) (rest := []) ⟨hx, hb, hml, hown, hts⟩ (c_Text_passLetters l D cs X H.size ht hs tl 257 v_335 tv tn tf gt (Rg.wk (lo2 := 0) (hi2 := 400) r_1691 (by decide)) (Rg.wk (lo2 := 0) (hi2 := 400) r_1690 (by decide))) ⟨callB_of 0 hts (gd_C qq_2_140) rfl rfl rfl (hT _ qq_1_2) (hT _ qq_2_137) (by decide +kernel) (rm_R rfl rfl), (hT _ qq_2_139), (hT _ qs_0_1)⟩ (pr_V hPc hK hDc hN (hR.sub (wo' := []) [] rfl) hS hFc hX hXs (ci := 7) (q0 := 0) rfl rfl) rfl rfl hl.1 rfl (lv_room (Nat.le_of_ble_eq_true rfl)) dX9_pass_142 ⟨Nat.le_of_ble_eq_true rfl, Nat.le_of_ble_eq_true rfl⟩) hS (fun q _ h => hFc q h) hFc (fun u_1977 t_1980 H1 locs ht9 hvm hw_1978 hB_1979 hz1 hk1 hS => ?_)
              obtain ⟨v_1982, v_1983, v_1984, v_1985, r_1986, r_1987, hP1, hD1⟩ := hB_1979
              rw [ht9] at hP1
              obtain ⟨hP, hD⟩ := va_join (wr := []) (w1 := [(ht, .inr (7, [.ref hs, .int tl, .int v_1982, .int v_1983, .int v_1984, .int v_1985, .int tn, .int tf])), (hs, .inl ((cs 1), 400, .inl gt))]) hP hD [0, 1] [] rfl rfl (by decide) (by decide) hk1 hFc hP1 hD1
              generalize H1 = H at hP hS ⊢
              have hP : va_P D vwCl [(ht, .inr (7, [.ref hs, .int tl, .int v_1982, .int v_1983, .int v_1984, .int v_1985, .int tn, .int tf])), (hs, .inl ((cs 1), 400, .inl gt))] H := hP
              have hD : va_D A [(ht, .inr (7, [.ref hs, .int tl, .int v_1982, .int v_1983, .int v_1984, .int v_1985, .int tn, .int tf])), (hs, .inl ((cs 1), 400, .inl gt))] := hD
              refine lv_goto (tgt := 170) hx hb dX9_pass_145 (by decide) ?_
              refine W.widen (k := 0) (n := 0) (Nat.le_of_ble_eq_true rfl) (Nat.le_of_ble_eq_true rfl) ?_
              have hP9 := hP.sub (ws' := [(ht, .inr (7, [.ref hs, .int tl, .int v_1982, .int v_1983, .int v_1984, .int v_1985, .int tn, .int tf])), (hs, .inl ((cs 1), 400, .inl gt))]) [0, 1] rfl
              have hD9 := hD.sub (ws' := [(ht, .inr (7, [.ref hs, .int tl, .int v_1982, .int v_1983, .int v_1984, .int v_1985, .int tn, .int tf])), (hs, .inl ((cs 1), 400, .inl gt))]) [0, 1] (by decide) rfl
              exact W.vret hx hb hr (fun t9 ht9 hW9 => ⟨⟨(), rfl, trivial, ⟨v_1982, v_1983, v_1984, v_1985, r_1986, r_1987, by rw [ht9]; exact hP9, hD9⟩⟩, hS.F ht9⟩) hS.2.2 dX9_pass_170
        · have r_1812 : Rg 48 57 x_1696 := Rg.le_l (nlt_le c_1810) r_1700 (Rg.c (c := 57) (k := 57) rfl) (by decide)
          refine lv_aload_n hx hb dX9_pass_102 rfl (lv_at hl 1 rfl) ?_
          refine lv_sipush (v := 256) hx hb dX9_pass_103 (by decide) ?_
          refine va_put (D := D) (ci := 7) (v := .int 256) (ty := .int) (C := "WrongHole$Text") (T := TX9) (N := 8) hx hb hts (iq_RX9 _) tyX9 tyX9_ok nmX9 hown hK hP hD hS 0 rfl rfl 2 (by decide) (hT _ qq_1_41) (fun _ h9 => h9) rfl (by decide +kernel) rfl rfl (Nat.le_of_ble_eq_true rfl) dX9_pass_106 (fun H locs hP hD hS => ?_)
          have hP : va_P D vwCl [(ht, .inr (7, [.ref hs, .int tl, .int 256, .int v_335, .int v_335, .int tv, .int tn, .int tf])), (hs, .inl ((cs 1), 400, .inl gt))] H := hP
          have hD : va_D A [(ht, .inr (7, [.ref hs, .int tl, .int 256, .int v_335, .int v_335, .int tv, .int tn, .int tf])), (hs, .inl ((cs 1), 400, .inl gt))] := hD
          refine lv_aload_n hx hb dX9_pass_109 rfl (lv_at hl 1 rfl) ?_
          have hPc := hP.sub (ws' := [(ht, .inr (7, [.ref hs, .int tl, .int 256, .int v_335, .int v_335, .int tv, .int tn, .int tf])), (hs, .inl ((cs 1), 400, .inl gt))]) [0, 1] rfl
          have hDc := hD.sub (ws' := [(ht, .inr (7, [.ref hs, .int tl, .int 256, .int v_335, .int v_335, .int tv, .int tn, .int tf])), (hs, .inl ((cs 1), 400, .inl gt))]) [0, 1] (by decide) rfl
          have hFc := va_free (wc := [(ht, .inr (7, [.ref hs, .int tl, .int 256, .int v_335, .int v_335, .int tv, .int tn, .int tf])), (hs, .inl ((cs 1), 400, .inl gt))]) hD hS hA [0, 1] rfl
          refine va_callv (va_runV (As := []) (rest := []) ⟨hx, hb, hml, hown, hts⟩ (c_Text_passDigits l D cs X H.size ht hs tl 256 v_335 tv tn tf gt (Rg.wk (lo2 := 0) (hi2 := 400) r_1691 (by decide)) (Rg.wk (lo2 := 0) (hi2 := 400) r_1690 (by decide))) ⟨callB_of 0 hts (gd_C qq_2_135) rfl rfl rfl (hT _ qq_1_2) (hT _ qq_2_132) (by decide +kernel) (rm_R rfl rfl), (hT _ qq_2_134), (hT _ qs_0_0)⟩ (pr_V hPc hK hDc hN (hR.sub (wo' := []) [] rfl) hS hFc hX hXs (ci := 7) (q0 := 0) rfl rfl) rfl rfl hl.1 rfl (lv_room (Nat.le_of_ble_eq_true rfl)) dX9_pass_110 ⟨Nat.le_of_ble_eq_true rfl, Nat.le_of_ble_eq_true rfl⟩) hS (fun q _ h => hFc q h) hFc (fun u_1988 t_1991 H1 locs ht9 hvm hw_1989 hB_1990 hz1 hk1 hS => ?_)
          obtain ⟨v_1993, v_1994, v_1995, v_1996, r_1997, r_1998, hP1, hD1⟩ := hB_1990
          rw [ht9] at hP1
          obtain ⟨hP, hD⟩ := va_join (wr := []) (w1 := [(ht, .inr (7, [.ref hs, .int tl, .int v_1993, .int v_1994, .int v_1995, .int v_1996, .int tn, .int tf])), (hs, .inl ((cs 1), 400, .inl gt))]) hP hD [0, 1] [] rfl rfl (by decide) (by decide) hk1 hFc hP1 hD1
          generalize H1 = H at hP hS ⊢
          have hP : va_P D vwCl [(ht, .inr (7, [.ref hs, .int tl, .int v_1993, .int v_1994, .int v_1995, .int v_1996, .int tn, .int tf])), (hs, .inl ((cs 1), 400, .inl gt))] H := hP
          have hD : va_D A [(ht, .inr (7, [.ref hs, .int tl, .int v_1993, .int v_1994, .int v_1995, .int v_1996, .int tn, .int tf])), (hs, .inl ((cs 1), 400, .inl gt))] := hD
          refine lv_goto (tgt := 170) hx hb dX9_pass_113 (by decide) ?_
          refine W.widen (k := 0) (n := 0) (Nat.le_of_ble_eq_true rfl) (Nat.le_of_ble_eq_true rfl) ?_
          have hP9 := hP.sub (ws' := [(ht, .inr (7, [.ref hs, .int tl, .int v_1993, .int v_1994, .int v_1995, .int v_1996, .int tn, .int tf])), (hs, .inl ((cs 1), 400, .inl gt))]) [0, 1] rfl
          have hD9 := hD.sub (ws' := [(ht, .inr (7, [.ref hs, .int tl, .int v_1993, .int v_1994, .int v_1995, .int v_1996, .int tn, .int tf])), (hs, .inl ((cs 1), 400, .inl gt))]) [0, 1] (by decide) rfl
          exact W.vret hx hb hr (fun t9 ht9 hW9 => ⟨⟨(), rfl, trivial, ⟨v_1993, v_1994, v_1995, v_1996, r_1997, r_1998, by rw [ht9]; exact hP9, hD9⟩⟩, hS.F ht9⟩) hS.2.2 dX9_pass_170
  · refine lv_icmp_ge (tgt := 48) hx hb dX9_pass_18 (by decide) (fun c_1674 => ?_) (fun c_1674 => ?_)
    · exact hj_1688 () _ _ _ ⟨hP, hD, hS, lv_sub hl [0, 1] rfl⟩
    · have r_1675 : Rg 0 399 v_335 := Rg.lt_l (nle_lt c_1674) r_1673 r_tl (by decide)
      have r_1676 : Rg 1 400 tl := Rg.lt_r (nle_lt c_1674) r_1673 r_tl (by decide)
      refine lv_aload_n hx hb dX9_pass_21 rfl (lv_at hl 1 rfl) ?_
      refine va_get (D := D) (ci := 7) (v := .ref hs) (C := "WrongHole$Text") (T := TX9) (N := 8) hx hb hts (iq_RX9 _) hown hK hP 0 rfl rfl 0 (by decide) (hT _ qq_1_36) (fun _ h9 => h9) rfl dX9_pass_22 ?_
      refine lv_iload_n hx hb dX9_pass_25 rfl (lv_at hl 0 rfl) ?_
      have hi_1999 : vp_in v_335 400 := Rg.in r_1675 (by decide)
      refine va_cald hx hb hK hP 1 1 rfl rfl hi_1999 dX9_pass_26 ?_
      refine lv_topi (fun x_2000 e_2001 => ?_)
      refine lv_bipush (v := 32) hx hb dX9_pass_27 (by decide) ?_
      refine lv_icmp_ne (tgt := 48) hx hb dX9_pass_29 (by decide) (fun c_2002 => ?_) (fun c_2002 => ?_)
      · exact hj_1688 () _ _ _ ⟨hP, hD, hS, lv_sub hl [0, 1] rfl⟩
      · have r_2003 : Rg 32 32 x_2000 := Rg.eq_l c_2002 (Rg.top x_2000) (Rg.c (c := 32) (k := 32) rfl) (by decide)
        refine lv_aload_n hx hb dX9_pass_32 rfl (lv_at hl 1 rfl) ?_
        refine lv_dup hx hb dX9_pass_33 rfl ?_
        refine va_get (D := D) (ci := 7) (v := .int v_335) (C := "WrongHole$Text") (T := TX9) (N := 8) hx hb hts (iq_RX9 _) hown hK hP 0 rfl rfl 3 (by decide) (hT _ qq_1_42) (fun _ h9 => h9) rfl dX9_pass_34 ?_
        refine lv_iconst (v := 1) hx hb dX9_pass_37 (by decide) ?_
        refine lv_iadd hx hb dX9_pass_38 ?_
        refine lv_topi (fun x_2004 e_2005 => ?_)
        have r_2006 : Rg 1 400 x_2004 := Rg.add e_2005 r_1675 (Rg.c (c := 1) (k := 1) rfl) (by decide)
        refine va_put (D := D) (ci := 7) (v := .int x_2004) (ty := .int) (C := "WrongHole$Text") (T := TX9) (N := 8) hx hb hts (iq_RX9 _) tyX9 tyX9_ok nmX9 hown hK hP hD hS 0 rfl rfl 3 (by decide) (hT _ qq_1_42) (fun _ h9 => h9) rfl (by decide +kernel) rfl rfl (Nat.le_of_ble_eq_true rfl) dX9_pass_39 (fun H locs hP hD hS => ?_)
        have hP : va_P D vwCl [(ht, .inr (7, [.ref hs, .int tl, .int tk, .int x_2004, .int tb, .int tv, .int tn, .int tf])), (hs, .inl ((cs 1), 400, .inl gt))] H := hP
        have hD : va_D A [(ht, .inr (7, [.ref hs, .int tl, .int tk, .int x_2004, .int tb, .int tv, .int tn, .int tf])), (hs, .inl ((cs 1), 400, .inl gt))] := hD
        obtain ⟨x_2007, e_2008⟩ : ∃ z : Int32, z = v_335 + Int32.ofInt 1 := ⟨_, rfl⟩
        have r_2009 : Rg 1 400 x_2007 := Rg.add e_2008 r_1675 (Rg.c (c := Int32.ofInt 1) (k := 1) rfl) (by decide)
        refine lv_iinc (v := x_2007) (lv' := [(1, .int x_2007), (0, .ref ht)]) hx hb dX9_pass_42 hl (k := 0) rfl (e_2008.symm) (by decide) rfl (fun ls hl => ?_)
        refine lv_goto (tgt := 13) hx hb dX9_pass_45 (by decide) ?_
        have q_2010 : x_2004 = x_2007 := e_2005.trans e_2008.symm
        rw [q_2010] at hP hD
        exact ih_1672 x_2007 _ _ _ ⟨(Rg.wk (lo2 := 0) (hi2 := 400) r_2009 (by decide)), hP, hD, hS, lv_sub hl [0, 1] rfl⟩ (ms_up e_2008 r_1675 (Rg.c (c := Int32.ofInt 1) (k := 1) rfl) (by decide))
theorem dX9_restart_0 : decode cX9_restart 0 = .ok (.aload_n 0, 1) := by decide +kernel
theorem dX9_restart_1 : decode cX9_restart 1 = .ok (.iconst 0, 1) := by decide +kernel
theorem dX9_restart_2 : decode cX9_restart 2 = .ok (.putfield 19, 3) := by decide +kernel
theorem dX9_restart_5 : decode cX9_restart 5 = .ok (.aload_n 0, 1) := by decide +kernel
theorem dX9_restart_6 : decode cX9_restart 6 = .ok (.iconst 0, 1) := by decide +kernel
theorem dX9_restart_7 : decode cX9_restart 7 = .ok (.putfield 22, 3) := by decide +kernel
theorem dX9_restart_10 : decode cX9_restart 10 = .ok (.aload_n 0, 1) := by decide +kernel
theorem dX9_restart_11 : decode cX9_restart 11 = .ok (.invokevirtual 25, 3) := by decide +kernel
theorem qq_2_131 : Cond.code yX9_pass cX9_pass 2 none ∈ TB := mk_tb (ti_2 (List.mem_of_getElem? (i := 131) rfl)) rfl
theorem qq_2_128 : Cond.methodLink "WrongHole$Text" 25 yX9_pass ∈ TB := mk_tb (ti_2 (List.mem_of_getElem? (i := 128) rfl)) rfl
theorem qq_2_129 : Cond.instanceMethod yX9_pass ∈ TB := mk_tb (ti_2 (List.mem_of_getElem? (i := 129) rfl)) rfl
theorem qq_2_130 : Cond.selects "WrongHole$Text" yX9_pass yX9_pass ∈ TB := mk_tb (ti_2 (List.mem_of_getElem? (i := 130) rfl)) rfl
theorem dX9_restart_14 : decode cX9_restart 14 = .ok (.return_, 1) := by decide +kernel
set_option maxHeartbeats 4000000 in
set_option maxRecDepth 100000 in
theorem c_Text_restart (l : Launch) (D : va_G) (cs : Nat → ClassId) (X : XX) (sz : Nat) (ht : Nat) (hs : Nat) (tl : Int32) (tk : Int32) (tp : Int32) (tb : Int32) (tv : Int32) (tn : Int32) (tf : Int32) (gt : Nat → Int32) (r_tl : Rg 0 400 tl) (r_tp : Rg 0 400 tp) (r_tb : Rg 0 400 tb) : Met l yX9_restart (Cond.code yX9_restart cX9_restart 1 none :: TB) (RM 2 0 0) (va_Pc [.ref ht] (PRE D cs X [(ht, .inr (7, [.ref hs, .int tl, .int tk, .int tp, .int tb, .int tv, .int tn, .int tf])), (hs, .inl ((cs 1), 400, .inl gt))] [] sz)) (va_Qv (S := Unit) (fun _ => True) (fun _ t => ∃ (tk2 : Int32), ∃ (tp2 : Int32), ∃ (tb2 : Int32), ∃ (tv2 : Int32), Rg 0 400 tp2 ∧ Rg 0 400 tb2 ∧ va_P D vwCl [(ht, .inr (7, [.ref hs, .int tl, .int tk2, .int tp2, .int tb2, .int tv2, .int tn, .int 0])), (hs, .inl ((cs 1), 400, .inl gt))] t.heap ∧ va_D (va_A [(ht, .inr (7, [.ref hs, .int tl, .int tk, .int tp, .int tb, .int tv, .int tn, .int tf])), (hs, .inl ((cs 1), 400, .inl gt))] sz) [(ht, .inr (7, [.ref hs, .int tl, .int tk2, .int tp2, .int tb2, .int tv2, .int tn, .int 0])), (hs, .inl ((cs 1), 400, .inl gt))]) (va_A [(ht, .inr (7, [.ref hs, .int tl, .int tk, .int tp, .int tb, .int tv, .int tn, .int tf])), (hs, .inl ((cs 1), 400, .inl gt))] sz)) 0 0 (va_A [(ht, .inr (7, [.ref hs, .int tl, .int tk, .int tp, .int tb, .int tv, .int tn, .int tf])), (hs, .inl ((cs 1), 400, .inl gt))] sz) := by
  refine MET (y := yX9_restart) (cc := cX9_restart) (maxL := 1) (ret := none) (d := 2) (mc := 0) (ms := 0) (D := D) (cs := cs) (X := X) (ws := [(ht, .inr (7, [.ref hs, .int tl, .int tk, .int tp, .int tb, .int tv, .int tn, .int tf])), (hs, .inl ((cs 1), 400, .inl gt))]) (wo := []) (sz := sz) (av := [.ref ht]) (Qc := fun A => va_Qv (S := Unit) (fun _ => True) (fun _ t => ∃ (tk2 : Int32), ∃ (tp2 : Int32), ∃ (tb2 : Int32), ∃ (tv2 : Int32), Rg 0 400 tp2 ∧ Rg 0 400 tb2 ∧ va_P D vwCl [(ht, .inr (7, [.ref hs, .int tl, .int tk2, .int tp2, .int tb2, .int tv2, .int tn, .int 0])), (hs, .inl ((cs 1), 400, .inl gt))] t.heap ∧ va_D A [(ht, .inr (7, [.ref hs, .int tl, .int tk2, .int tp2, .int tb2, .int tv2, .int tn, .int 0])), (hs, .inl ((cs 1), 400, .inl gt))]) A) (by decide) (Nat.le_of_ble_eq_true rfl) ?_
  intro p e s m below meth c ls A H hHe hx hb hr hml hown hts hlocks hnm hP hK hD hA hS hN hR hX hXs hl
  have hD : va_D A [(ht, .inr (7, [.ref hs, .int tl, .int tk, .int tp, .int tb, .int tv, .int tn, .int tf])), (hs, .inl ((cs 1), 400, .inl gt))] := hD
  obtain ⟨locs, hlc⟩ : ∃ z : List Loc, z = [] := ⟨_, rfl⟩
  rw [← hlc] at hS ⊢
  have hown : s.vm.findClass "WrongHole$Text" = some m.cls := hown
  have hT : ∀ w ∈ TB, w.before ([.ref ht] : List Value).toArray s = true := fun w h => hts w (List.mem_cons_of_mem _ h)
  have hl : lv_has ls 1 [(0, .ref ht)] := hl
  have hP : va_P D vwCl [(ht, .inr (7, [.ref hs, .int tl, .int tk, .int tp, .int tb, .int tv, .int tn, .int tf])), (hs, .inl ((cs 1), 400, .inl gt))] H := hP
  refine lv_aload_n hx hb dX9_restart_0 rfl (lv_at hl 0 rfl) ?_
  refine lv_iconst (v := 0) hx hb dX9_restart_1 (by decide) ?_
  refine va_put (D := D) (ci := 7) (v := .int 0) (ty := .int) (C := "WrongHole$Text") (T := TX9) (N := 8) hx hb hts (iq_RX9 _) tyX9 tyX9_ok nmX9 hown hK hP hD hS 0 rfl rfl 7 (by decide) (hT _ qq_1_47) (fun _ h9 => h9) rfl (by decide +kernel) rfl rfl (Nat.le_of_ble_eq_true rfl) dX9_restart_2 (fun H locs hP hD hS => ?_)
  have hP : va_P D vwCl [(ht, .inr (7, [.ref hs, .int tl, .int tk, .int tp, .int tb, .int tv, .int tn, .int 0])), (hs, .inl ((cs 1), 400, .inl gt))] H := hP
  have hD : va_D A [(ht, .inr (7, [.ref hs, .int tl, .int tk, .int tp, .int tb, .int tv, .int tn, .int 0])), (hs, .inl ((cs 1), 400, .inl gt))] := hD
  refine lv_aload_n hx hb dX9_restart_5 rfl (lv_at hl 0 rfl) ?_
  refine lv_iconst (v := 0) hx hb dX9_restart_6 (by decide) ?_
  refine va_put (D := D) (ci := 7) (v := .int 0) (ty := .int) (C := "WrongHole$Text") (T := TX9) (N := 8) hx hb hts (iq_RX9 _) tyX9 tyX9_ok nmX9 hown hK hP hD hS 0 rfl rfl 4 (by decide) (hT _ qq_1_43) (fun _ h9 => h9) rfl (by decide +kernel) rfl rfl (Nat.le_of_ble_eq_true rfl) dX9_restart_7 (fun H locs hP hD hS => ?_)
  have hP : va_P D vwCl [(ht, .inr (7, [.ref hs, .int tl, .int tk, .int tp, .int 0, .int tv, .int tn, .int 0])), (hs, .inl ((cs 1), 400, .inl gt))] H := hP
  have hD : va_D A [(ht, .inr (7, [.ref hs, .int tl, .int tk, .int tp, .int 0, .int tv, .int tn, .int 0])), (hs, .inl ((cs 1), 400, .inl gt))] := hD
  refine lv_aload_n hx hb dX9_restart_10 rfl (lv_at hl 0 rfl) ?_
  have hPc := hP.sub (ws' := [(ht, .inr (7, [.ref hs, .int tl, .int tk, .int tp, .int 0, .int tv, .int tn, .int 0])), (hs, .inl ((cs 1), 400, .inl gt))]) [0, 1] rfl
  have hDc := hD.sub (ws' := [(ht, .inr (7, [.ref hs, .int tl, .int tk, .int tp, .int 0, .int tv, .int tn, .int 0])), (hs, .inl ((cs 1), 400, .inl gt))]) [0, 1] (by decide) rfl
  have hFc := va_free (wc := [(ht, .inr (7, [.ref hs, .int tl, .int tk, .int tp, .int 0, .int tv, .int tn, .int 0])), (hs, .inl ((cs 1), 400, .inl gt))]) hD hS hA [0, 1] rfl
  refine va_callv (va_runV (As := []) (rest := []) ⟨hx, hb, hml, hown, hts⟩ (c_Text_pass l D cs X H.size ht hs tl tk tp 0 tv tn 0 gt r_tl r_tp (Rg.wk (lo2 := 0) (hi2 := 400) (Rg.c (c := 0) (k := 0) rfl) (by decide))) ⟨callB_of 0 hts (gd_C qq_2_131) rfl rfl rfl (hT _ qq_1_2) (hT _ qq_2_128) (by decide +kernel) (rm_R rfl rfl), (hT _ qq_2_129), (hT _ qq_2_130)⟩ (pr_V hPc hK hDc hN (hR.sub (wo' := []) [] rfl) hS hFc hX hXs (ci := 7) (q0 := 0) rfl rfl) rfl rfl hl.1 rfl (lv_room (Nat.le_of_ble_eq_true rfl)) dX9_restart_11 ⟨Nat.le_of_ble_eq_true rfl, Nat.le_of_ble_eq_true rfl⟩) hS (fun q _ h => hFc q h) hFc (fun u_1 t_4 H1 locs ht9 hvm hw_2 hB_3 hz1 hk1 hS => ?_)
  obtain ⟨v_6, v_7, v_8, v_9, r_10, r_11, hP1, hD1⟩ := hB_3
  rw [ht9] at hP1
  obtain ⟨hP, hD⟩ := va_join (wr := []) (w1 := [(ht, .inr (7, [.ref hs, .int tl, .int v_6, .int v_7, .int v_8, .int v_9, .int tn, .int 0])), (hs, .inl ((cs 1), 400, .inl gt))]) hP hD [0, 1] [] rfl rfl (by decide) (by decide) hk1 hFc hP1 hD1
  generalize H1 = H at hP hS ⊢
  have hP : va_P D vwCl [(ht, .inr (7, [.ref hs, .int tl, .int v_6, .int v_7, .int v_8, .int v_9, .int tn, .int 0])), (hs, .inl ((cs 1), 400, .inl gt))] H := hP
  have hD : va_D A [(ht, .inr (7, [.ref hs, .int tl, .int v_6, .int v_7, .int v_8, .int v_9, .int tn, .int 0])), (hs, .inl ((cs 1), 400, .inl gt))] := hD
  refine W.widen (k := 0) (n := 0) (Nat.le_of_ble_eq_true rfl) (Nat.le_of_ble_eq_true rfl) ?_
  have hP9 := hP.sub (ws' := [(ht, .inr (7, [.ref hs, .int tl, .int v_6, .int v_7, .int v_8, .int v_9, .int tn, .int 0])), (hs, .inl ((cs 1), 400, .inl gt))]) [0, 1] rfl
  have hD9 := hD.sub (ws' := [(ht, .inr (7, [.ref hs, .int tl, .int v_6, .int v_7, .int v_8, .int v_9, .int tn, .int 0])), (hs, .inl ((cs 1), 400, .inl gt))]) [0, 1] (by decide) rfl
  exact W.vret hx hb hr (fun t9 ht9 hW9 => ⟨⟨(), rfl, trivial, ⟨v_6, v_7, v_8, v_9, r_10, r_11, by rw [ht9]; exact hP9, hD9⟩⟩, hS.F ht9⟩) hS.2.2 dX9_restart_14
theorem dX9_takeSign_0 : decode cX9_takeSign 0 = .ok (.aload_n 0, 1) := by decide +kernel
theorem dX9_takeSign_1 : decode cX9_takeSign 1 = .ok (.getfield 34, 3) := by decide +kernel
theorem dX9_takeSign_4 : decode cX9_takeSign 4 = .ok (.iload_n 1, 1) := by decide +kernel
theorem dX9_takeSign_5 : decode cX9_takeSign 5 = .ok (.if_icmp .ne 10, 3) := by decide +kernel
theorem dX9_takeSign_15 : decode cX9_takeSign 15 = .ok (.aload_n 0, 1) := by decide +kernel
theorem dX9_takeSign_16 : decode cX9_takeSign 16 = .ok (.iconst 0, 1) := by decide +kernel
theorem dX9_takeSign_17 : decode cX9_takeSign 17 = .ok (.invokevirtual 50, 3) := by decide +kernel
theorem qq_2_205 : Cond.code yX9_failHere cX9_failHere 2 none ∈ TB := mk_tb (ti_2 (List.mem_of_getElem? (i := 205) rfl)) rfl
theorem qq_2_220 : Cond.methodLink "WrongHole$Text" 50 yX9_failHere ∈ TB := mk_tb (ti_2 (List.mem_of_getElem? (i := 220) rfl)) rfl
theorem qq_2_203 : Cond.instanceMethod yX9_failHere ∈ TB := mk_tb (ti_2 (List.mem_of_getElem? (i := 203) rfl)) rfl
theorem qq_2_204 : Cond.selects "WrongHole$Text" yX9_failHere yX9_failHere ∈ TB := mk_tb (ti_2 (List.mem_of_getElem? (i := 204) rfl)) rfl
theorem dX9_takeSign_20 : decode cX9_takeSign 20 = .ok (.return_, 1) := by decide +kernel
theorem dX9_takeSign_8 : decode cX9_takeSign 8 = .ok (.aload_n 0, 1) := by decide +kernel
theorem dX9_takeSign_9 : decode cX9_takeSign 9 = .ok (.invokevirtual 25, 3) := by decide +kernel
theorem dX9_takeSign_12 : decode cX9_takeSign 12 = .ok (.goto 8, 3) := by decide +kernel
set_option maxHeartbeats 4000000 in
set_option maxRecDepth 100000 in
theorem c_Text_takeSign (l : Launch) (D : va_G) (cs : Nat → ClassId) (X : XX) (sz : Nat) (ht : Nat) (hs : Nat) (tl : Int32) (tk : Int32) (tp : Int32) (tb : Int32) (tv : Int32) (tn : Int32) (tf : Int32) (gt : Nat → Int32) (a : Int32) (r_tl : Rg 0 400 tl) (r_tp : Rg 0 400 tp) (r_tb : Rg 0 400 tb) : Met l yX9_takeSign (Cond.code yX9_takeSign cX9_takeSign 2 none :: TB) (RM 2 0 0) (va_Pc [.ref ht, .int a] (PRE D cs X [(ht, .inr (7, [.ref hs, .int tl, .int tk, .int tp, .int tb, .int tv, .int tn, .int tf])), (hs, .inl ((cs 1), 400, .inl gt))] [] sz)) (va_Qv (S := Unit) (fun _ => True) (fun _ t => ∃ (tk2 : Int32), ∃ (tp2 : Int32), ∃ (tb2 : Int32), ∃ (tv2 : Int32), ∃ (tn2 : Int32), ∃ (tf2 : Int32), Rg 0 400 tp2 ∧ Rg 0 400 tb2 ∧ va_P D vwCl [(ht, .inr (7, [.ref hs, .int tl, .int tk2, .int tp2, .int tb2, .int tv2, .int tn2, .int tf2])), (hs, .inl ((cs 1), 400, .inl gt))] t.heap ∧ va_D (va_A [(ht, .inr (7, [.ref hs, .int tl, .int tk, .int tp, .int tb, .int tv, .int tn, .int tf])), (hs, .inl ((cs 1), 400, .inl gt))] sz) [(ht, .inr (7, [.ref hs, .int tl, .int tk2, .int tp2, .int tb2, .int tv2, .int tn2, .int tf2])), (hs, .inl ((cs 1), 400, .inl gt))]) (va_A [(ht, .inr (7, [.ref hs, .int tl, .int tk, .int tp, .int tb, .int tv, .int tn, .int tf])), (hs, .inl ((cs 1), 400, .inl gt))] sz)) 0 0 (va_A [(ht, .inr (7, [.ref hs, .int tl, .int tk, .int tp, .int tb, .int tv, .int tn, .int tf])), (hs, .inl ((cs 1), 400, .inl gt))] sz) := by
  refine MET (y := yX9_takeSign) (cc := cX9_takeSign) (maxL := 2) (ret := none) (d := 2) (mc := 0) (ms := 0) (D := D) (cs := cs) (X := X) (ws := [(ht, .inr (7, [.ref hs, .int tl, .int tk, .int tp, .int tb, .int tv, .int tn, .int tf])), (hs, .inl ((cs 1), 400, .inl gt))]) (wo := []) (sz := sz) (av := [.ref ht, .int a]) (Qc := fun A => va_Qv (S := Unit) (fun _ => True) (fun _ t => ∃ (tk2 : Int32), ∃ (tp2 : Int32), ∃ (tb2 : Int32), ∃ (tv2 : Int32), ∃ (tn2 : Int32), ∃ (tf2 : Int32), Rg 0 400 tp2 ∧ Rg 0 400 tb2 ∧ va_P D vwCl [(ht, .inr (7, [.ref hs, .int tl, .int tk2, .int tp2, .int tb2, .int tv2, .int tn2, .int tf2])), (hs, .inl ((cs 1), 400, .inl gt))] t.heap ∧ va_D A [(ht, .inr (7, [.ref hs, .int tl, .int tk2, .int tp2, .int tb2, .int tv2, .int tn2, .int tf2])), (hs, .inl ((cs 1), 400, .inl gt))]) A) (by decide) (Nat.le_of_ble_eq_true rfl) ?_
  intro p e s m below meth c ls A H hHe hx hb hr hml hown hts hlocks hnm hP hK hD hA hS hN hR hX hXs hl
  have hD : va_D A [(ht, .inr (7, [.ref hs, .int tl, .int tk, .int tp, .int tb, .int tv, .int tn, .int tf])), (hs, .inl ((cs 1), 400, .inl gt))] := hD
  obtain ⟨locs, hlc⟩ : ∃ z : List Loc, z = [] := ⟨_, rfl⟩
  rw [← hlc] at hS ⊢
  have hown : s.vm.findClass "WrongHole$Text" = some m.cls := hown
  have hT : ∀ w ∈ TB, w.before ([.ref ht, .int a] : List Value).toArray s = true := fun w h => hts w (List.mem_cons_of_mem _ h)
  have hl : lv_has ls 2 [(0, .ref ht), (1, .int a)] := hl
  have hP : va_P D vwCl [(ht, .inr (7, [.ref hs, .int tl, .int tk, .int tp, .int tb, .int tv, .int tn, .int tf])), (hs, .inl ((cs 1), 400, .inl gt))] H := hP
  refine lv_aload_n hx hb dX9_takeSign_0 rfl (lv_at hl 0 rfl) ?_
  refine va_get (D := D) (ci := 7) (v := .int tk) (C := "WrongHole$Text") (T := TX9) (N := 8) hx hb hts (iq_RX9 _) hown hK hP 0 rfl rfl 2 (by decide) (hT _ qq_1_41) (fun _ h9 => h9) rfl dX9_takeSign_1 ?_
  refine lv_iload_n hx hb dX9_takeSign_4 rfl (lv_at hl 1 rfl) ?_
  refine lv_icmp_ne (tgt := 15) hx hb dX9_takeSign_5 (by decide) (fun c_1 => ?_) (fun c_1 => ?_)
  · refine lv_aload_n hx hb dX9_takeSign_15 rfl (lv_at hl 0 rfl) ?_
    refine lv_iconst (v := 0) hx hb dX9_takeSign_16 (by decide) ?_
    have hPc := hP.sub (ws' := [(ht, .inr (7, [.ref hs, .int tl, .int tk, .int tp, .int tb, .int tv, .int tn, .int tf])), (hs, .inl ((cs 1), 400, .inl gt))]) [0, 1] rfl
    have hDc := hD.sub (ws' := [(ht, .inr (7, [.ref hs, .int tl, .int tk, .int tp, .int tb, .int tv, .int tn, .int tf])), (hs, .inl ((cs 1), 400, .inl gt))]) [0, 1] (by decide) rfl
    have hFc := va_free (wc := [(ht, .inr (7, [.ref hs, .int tl, .int tk, .int tp, .int tb, .int tv, .int tn, .int tf])), (hs, .inl ((cs 1), 400, .inl gt))]) hD hS hA [0, 1] rfl
    refine va_callv (va_runV (As := [.int 0]) (rest := []) ⟨hx, hb, hml, hown, hts⟩ (c_Text_failHere l D cs X H.size ht hs tl tk tp tb tv tn tf gt 0 r_tp (Rg.wk (lo2 := 0) (hi2 := 4) (Rg.c (c := 0) (k := 0) rfl) (by decide))) ⟨callB_of 1 hts (gd_C qq_2_205) rfl rfl rfl (hT _ qq_1_2) (hT _ qq_2_220) (by decide +kernel) (rm_R rfl rfl), (hT _ qq_2_203), (hT _ qq_2_204)⟩ (pr_V hPc hK hDc hN (hR.sub (wo' := []) [] rfl) hS hFc hX hXs (ci := 7) (q0 := 0) rfl rfl) rfl rfl hl.1 rfl (lv_room (Nat.le_of_ble_eq_true rfl)) dX9_takeSign_17 ⟨Nat.le_of_ble_eq_true rfl, Nat.le_of_ble_eq_true rfl⟩) hS (fun q _ h => hFc q h) hFc (fun u_20 t_23 H1 locs ht9 hvm hw_21 hB_22 hz1 hk1 hS => ?_)
    obtain ⟨v_25, rp_26, hP1, hD1⟩ := hB_22
    rw [ht9] at hP1
    obtain ⟨hP, hD⟩ := va_join (wr := []) (w1 := [(ht, .inr (7, [.ref hs, .int tl, .int tk, .int tp, .int tb, .int tv, .int tn, .int v_25])), (hs, .inl ((cs 1), 400, .inl gt))]) hP hD [0, 1] [] rfl rfl (by decide) (by decide) hk1 hFc hP1 hD1
    generalize H1 = H at hP hS ⊢
    have hP : va_P D vwCl [(ht, .inr (7, [.ref hs, .int tl, .int tk, .int tp, .int tb, .int tv, .int tn, .int v_25])), (hs, .inl ((cs 1), 400, .inl gt))] H := hP
    have hD : va_D A [(ht, .inr (7, [.ref hs, .int tl, .int tk, .int tp, .int tb, .int tv, .int tn, .int v_25])), (hs, .inl ((cs 1), 400, .inl gt))] := hD
    refine W.widen (k := 0) (n := 0) (Nat.le_of_ble_eq_true rfl) (Nat.le_of_ble_eq_true rfl) ?_
    have hP9 := hP.sub (ws' := [(ht, .inr (7, [.ref hs, .int tl, .int tk, .int tp, .int tb, .int tv, .int tn, .int v_25])), (hs, .inl ((cs 1), 400, .inl gt))]) [0, 1] rfl
    have hD9 := hD.sub (ws' := [(ht, .inr (7, [.ref hs, .int tl, .int tk, .int tp, .int tb, .int tv, .int tn, .int v_25])), (hs, .inl ((cs 1), 400, .inl gt))]) [0, 1] (by decide) rfl
    exact W.vret hx hb hr (fun t9 ht9 hW9 => ⟨⟨(), rfl, trivial, ⟨tk, tp, tb, tv, tn, v_25, r_tp, r_tb, by rw [ht9]; exact hP9, hD9⟩⟩, hS.F ht9⟩) hS.2.2 dX9_takeSign_20
  · refine lv_aload_n hx hb dX9_takeSign_8 rfl (lv_at hl 0 rfl) ?_
    have hPc := hP.sub (ws' := [(ht, .inr (7, [.ref hs, .int tl, .int tk, .int tp, .int tb, .int tv, .int tn, .int tf])), (hs, .inl ((cs 1), 400, .inl gt))]) [0, 1] rfl
    have hDc := hD.sub (ws' := [(ht, .inr (7, [.ref hs, .int tl, .int tk, .int tp, .int tb, .int tv, .int tn, .int tf])), (hs, .inl ((cs 1), 400, .inl gt))]) [0, 1] (by decide) rfl
    have hFc := va_free (wc := [(ht, .inr (7, [.ref hs, .int tl, .int tk, .int tp, .int tb, .int tv, .int tn, .int tf])), (hs, .inl ((cs 1), 400, .inl gt))]) hD hS hA [0, 1] rfl
    refine va_callv (va_runV (As := []) (rest := []) ⟨hx, hb, hml, hown, hts⟩ (c_Text_pass l D cs X H.size ht hs tl tk tp tb tv tn tf gt r_tl r_tp r_tb) ⟨callB_of 0 hts (gd_C qq_2_131) rfl rfl rfl (hT _ qq_1_2) (hT _ qq_2_128) (by decide +kernel) (rm_R rfl rfl), (hT _ qq_2_129), (hT _ qq_2_130)⟩ (pr_V hPc hK hDc hN (hR.sub (wo' := []) [] rfl) hS hFc hX hXs (ci := 7) (q0 := 0) rfl rfl) rfl rfl hl.1 rfl (lv_room (Nat.le_of_ble_eq_true rfl)) dX9_takeSign_9 ⟨Nat.le_of_ble_eq_true rfl, Nat.le_of_ble_eq_true rfl⟩) hS (fun q _ h => hFc q h) hFc (fun u_27 t_30 H1 locs ht9 hvm hw_28 hB_29 hz1 hk1 hS => ?_)
    obtain ⟨v_32, v_33, v_34, v_35, r_36, r_37, hP1, hD1⟩ := hB_29
    rw [ht9] at hP1
    obtain ⟨hP, hD⟩ := va_join (wr := []) (w1 := [(ht, .inr (7, [.ref hs, .int tl, .int v_32, .int v_33, .int v_34, .int v_35, .int tn, .int tf])), (hs, .inl ((cs 1), 400, .inl gt))]) hP hD [0, 1] [] rfl rfl (by decide) (by decide) hk1 hFc hP1 hD1
    generalize H1 = H at hP hS ⊢
    have hP : va_P D vwCl [(ht, .inr (7, [.ref hs, .int tl, .int v_32, .int v_33, .int v_34, .int v_35, .int tn, .int tf])), (hs, .inl ((cs 1), 400, .inl gt))] H := hP
    have hD : va_D A [(ht, .inr (7, [.ref hs, .int tl, .int v_32, .int v_33, .int v_34, .int v_35, .int tn, .int tf])), (hs, .inl ((cs 1), 400, .inl gt))] := hD
    refine lv_goto (tgt := 20) hx hb dX9_takeSign_12 (by decide) ?_
    refine W.widen (k := 0) (n := 0) (Nat.le_of_ble_eq_true rfl) (Nat.le_of_ble_eq_true rfl) ?_
    have hP9 := hP.sub (ws' := [(ht, .inr (7, [.ref hs, .int tl, .int v_32, .int v_33, .int v_34, .int v_35, .int tn, .int tf])), (hs, .inl ((cs 1), 400, .inl gt))]) [0, 1] rfl
    have hD9 := hD.sub (ws' := [(ht, .inr (7, [.ref hs, .int tl, .int v_32, .int v_33, .int v_34, .int v_35, .int tn, .int tf])), (hs, .inl ((cs 1), 400, .inl gt))]) [0, 1] (by decide) rfl
    exact W.vret hx hb hr (fun t9 ht9 hW9 => ⟨⟨(), rfl, trivial, ⟨v_32, v_33, v_34, v_35, tn, tf, r_36, r_37, by rw [ht9]; exact hP9, hD9⟩⟩, hS.F ht9⟩) hS.2.2 dX9_takeSign_20
theorem dX9_takeNumber_0 : decode cX9_takeNumber 0 = .ok (.aload_n 0, 1) := by decide +kernel
theorem dX9_takeNumber_1 : decode cX9_takeNumber 1 = .ok (.aload_n 0, 1) := by decide +kernel
theorem dX9_takeNumber_2 : decode cX9_takeNumber 2 = .ok (.getfield 28, 3) := by decide +kernel
theorem dX9_takeNumber_5 : decode cX9_takeNumber 5 = .ok (.putfield 31, 3) := by decide +kernel
theorem dX9_takeNumber_8 : decode cX9_takeNumber 8 = .ok (.aload_n 0, 1) := by decide +kernel
theorem dX9_takeNumber_9 : decode cX9_takeNumber 9 = .ok (.getfield 34, 3) := by decide +kernel
theorem dX9_takeNumber_12 : decode cX9_takeNumber 12 = .ok (.sipush 256, 3) := by decide +kernel
theorem dX9_takeNumber_15 : decode cX9_takeNumber 15 = .ok (.if_icmp .eq 10, 3) := by decide +kernel
theorem dX9_takeNumber_25 : decode cX9_takeNumber 25 = .ok (.aload_n 0, 1) := by decide +kernel
theorem dX9_takeNumber_26 : decode cX9_takeNumber 26 = .ok (.getfield 46, 3) := by decide +kernel
theorem dX9_takeNumber_29 : decode cX9_takeNumber 29 = .ok (.istore_n 3, 1) := by decide +kernel
theorem dX9_takeNumber_30 : decode cX9_takeNumber 30 = .ok (.aload_n 0, 1) := by decide +kernel
theorem dX9_takeNumber_31 : decode cX9_takeNumber 31 = .ok (.invokevirtual 25, 3) := by decide +kernel
theorem dX9_takeNumber_34 : decode cX9_takeNumber 34 = .ok (.iload_n 3, 1) := by decide +kernel
theorem dX9_takeNumber_35 : decode cX9_takeNumber 35 = .ok (.iload_n 1, 1) := by decide +kernel
theorem dX9_takeNumber_36 : decode cX9_takeNumber 36 = .ok (.if_icmp .lt 8, 3) := by decide +kernel
theorem dX9_takeNumber_44 : decode cX9_takeNumber 44 = .ok (.aload_n 0, 1) := by decide +kernel
theorem dX9_takeNumber_45 : decode cX9_takeNumber 45 = .ok (.invokevirtual 67, 3) := by decide +kernel
theorem qq_2_224 : Cond.code yX9_refuseNumber cX9_refuseNumber 1 none ∈ TB := mk_tb (ti_2 (List.mem_of_getElem? (i := 224) rfl)) rfl
theorem qq_2_221 : Cond.methodLink "WrongHole$Text" 67 yX9_refuseNumber ∈ TB := mk_tb (ti_2 (List.mem_of_getElem? (i := 221) rfl)) rfl
theorem qq_2_222 : Cond.instanceMethod yX9_refuseNumber ∈ TB := mk_tb (ti_2 (List.mem_of_getElem? (i := 222) rfl)) rfl
theorem qq_2_223 : Cond.selects "WrongHole$Text" yX9_refuseNumber yX9_refuseNumber ∈ TB := mk_tb (ti_2 (List.mem_of_getElem? (i := 223) rfl)) rfl
theorem dX9_takeNumber_48 : decode cX9_takeNumber 48 = .ok (.iconst (-1), 1) := by decide +kernel
theorem dX9_takeNumber_49 : decode cX9_takeNumber 49 = .ok (.ireturn, 1) := by decide +kernel
theorem dX9_takeNumber_39 : decode cX9_takeNumber 39 = .ok (.iload_n 3, 1) := by decide +kernel
theorem dX9_takeNumber_40 : decode cX9_takeNumber 40 = .ok (.iload_n 2, 1) := by decide +kernel
theorem dX9_takeNumber_41 : decode cX9_takeNumber 41 = .ok (.if_icmp .le 9, 3) := by decide +kernel
theorem dX9_takeNumber_50 : decode cX9_takeNumber 50 = .ok (.iload_n 3, 1) := by decide +kernel
theorem dX9_takeNumber_51 : decode cX9_takeNumber 51 = .ok (.ireturn, 1) := by decide +kernel
theorem dX9_takeNumber_18 : decode cX9_takeNumber 18 = .ok (.aload_n 0, 1) := by decide +kernel
theorem dX9_takeNumber_19 : decode cX9_takeNumber 19 = .ok (.iconst 0, 1) := by decide +kernel
theorem dX9_takeNumber_20 : decode cX9_takeNumber 20 = .ok (.invokevirtual 50, 3) := by decide +kernel
theorem dX9_takeNumber_23 : decode cX9_takeNumber 23 = .ok (.iconst (-1), 1) := by decide +kernel
theorem dX9_takeNumber_24 : decode cX9_takeNumber 24 = .ok (.ireturn, 1) := by decide +kernel
set_option maxHeartbeats 4000000 in
set_option maxRecDepth 100000 in
theorem c_Text_takeNumber_1_8 (l : Launch) (D : va_G) (cs : Nat → ClassId) (X : XX) (sz : Nat) (ht : Nat) (hs : Nat) (tl : Int32) (tk : Int32) (tp : Int32) (tb : Int32) (tv : Int32) (tn : Int32) (tf : Int32) (gt : Nat → Int32) (r_tl : Rg 0 400 tl) (r_tp : Rg 0 400 tp) (r_tb : Rg 0 400 tb) : Met l yX9_takeNumber (Cond.code yX9_takeNumber cX9_takeNumber 4 (some .int) :: TB) (RM 2 0 0) (va_Pc [.ref ht, .int 1, .int 8] (PRE D cs X [(ht, .inr (7, [.ref hs, .int tl, .int tk, .int tp, .int tb, .int tv, .int tn, .int tf])), (hs, .inl ((cs 1), 400, .inl gt))] [] sz)) (va_Qi (S := Int32) (fun r tf2 => Rg (-1) 8 r ∧ (tf2 = 0 → 1 ≤ Int32.toInt r) ∧ (¬ tf = 0 → ¬ tf2 = 0)) (fun tf2 t => ∃ (tk2 : Int32), ∃ (tp2 : Int32), ∃ (tb2 : Int32), ∃ (tv2 : Int32), ∃ (tn2 : Int32), Rg 0 400 tp2 ∧ Rg 0 400 tb2 ∧ Rg 0 400 tn2 ∧ va_P D vwCl [(ht, .inr (7, [.ref hs, .int tl, .int tk2, .int tp2, .int tb2, .int tv2, .int tn2, .int tf2])), (hs, .inl ((cs 1), 400, .inl gt))] t.heap ∧ va_D (va_A [(ht, .inr (7, [.ref hs, .int tl, .int tk, .int tp, .int tb, .int tv, .int tn, .int tf])), (hs, .inl ((cs 1), 400, .inl gt))] sz) [(ht, .inr (7, [.ref hs, .int tl, .int tk2, .int tp2, .int tb2, .int tv2, .int tn2, .int tf2])), (hs, .inl ((cs 1), 400, .inl gt))]) (va_A [(ht, .inr (7, [.ref hs, .int tl, .int tk, .int tp, .int tb, .int tv, .int tn, .int tf])), (hs, .inl ((cs 1), 400, .inl gt))] sz)) 0 0 (va_A [(ht, .inr (7, [.ref hs, .int tl, .int tk, .int tp, .int tb, .int tv, .int tn, .int tf])), (hs, .inl ((cs 1), 400, .inl gt))] sz) := by
  refine MET (y := yX9_takeNumber) (cc := cX9_takeNumber) (maxL := 4) (ret := (some .int)) (d := 2) (mc := 0) (ms := 0) (D := D) (cs := cs) (X := X) (ws := [(ht, .inr (7, [.ref hs, .int tl, .int tk, .int tp, .int tb, .int tv, .int tn, .int tf])), (hs, .inl ((cs 1), 400, .inl gt))]) (wo := []) (sz := sz) (av := [.ref ht, .int 1, .int 8]) (Qc := fun A => va_Qi (S := Int32) (fun r tf2 => Rg (-1) 8 r ∧ (tf2 = 0 → 1 ≤ Int32.toInt r) ∧ (¬ tf = 0 → ¬ tf2 = 0)) (fun tf2 t => ∃ (tk2 : Int32), ∃ (tp2 : Int32), ∃ (tb2 : Int32), ∃ (tv2 : Int32), ∃ (tn2 : Int32), Rg 0 400 tp2 ∧ Rg 0 400 tb2 ∧ Rg 0 400 tn2 ∧ va_P D vwCl [(ht, .inr (7, [.ref hs, .int tl, .int tk2, .int tp2, .int tb2, .int tv2, .int tn2, .int tf2])), (hs, .inl ((cs 1), 400, .inl gt))] t.heap ∧ va_D A [(ht, .inr (7, [.ref hs, .int tl, .int tk2, .int tp2, .int tb2, .int tv2, .int tn2, .int tf2])), (hs, .inl ((cs 1), 400, .inl gt))]) A) (by decide) (Nat.le_of_ble_eq_true rfl) ?_
  intro p e s m below meth c ls A H hHe hx hb hr hml hown hts hlocks hnm hP hK hD hA hS hN hR hX hXs hl
  have hD : va_D A [(ht, .inr (7, [.ref hs, .int tl, .int tk, .int tp, .int tb, .int tv, .int tn, .int tf])), (hs, .inl ((cs 1), 400, .inl gt))] := hD
  obtain ⟨locs, hlc⟩ : ∃ z : List Loc, z = [] := ⟨_, rfl⟩
  rw [← hlc] at hS ⊢
  have hown : s.vm.findClass "WrongHole$Text" = some m.cls := hown
  have hT : ∀ w ∈ TB, w.before ([.ref ht, .int 1, .int 8] : List Value).toArray s = true := fun w h => hts w (List.mem_cons_of_mem _ h)
  have hl : lv_has ls 4 [(0, .ref ht), (1, .int 1), (2, .int 8)] := hl
  have hP : va_P D vwCl [(ht, .inr (7, [.ref hs, .int tl, .int tk, .int tp, .int tb, .int tv, .int tn, .int tf])), (hs, .inl ((cs 1), 400, .inl gt))] H := hP
  refine lv_aload_n hx hb dX9_takeNumber_0 rfl (lv_at hl 0 rfl) ?_
  refine lv_aload_n hx hb dX9_takeNumber_1 rfl (lv_at hl 0 rfl) ?_
  refine va_get (D := D) (ci := 7) (v := .int tp) (C := "WrongHole$Text") (T := TX9) (N := 8) hx hb hts (iq_RX9 _) hown hK hP 0 rfl rfl 3 (by decide) (hT _ qq_1_42) (fun _ h9 => h9) rfl dX9_takeNumber_2 ?_
  refine va_put (D := D) (ci := 7) (v := .int tp) (ty := .int) (C := "WrongHole$Text") (T := TX9) (N := 8) hx hb hts (iq_RX9 _) tyX9 tyX9_ok nmX9 hown hK hP hD hS 0 rfl rfl 6 (by decide) (hT _ qq_1_46) (fun _ h9 => h9) rfl (by decide +kernel) rfl rfl (Nat.le_of_ble_eq_true rfl) dX9_takeNumber_5 (fun H locs hP hD hS => ?_)
  have hP : va_P D vwCl [(ht, .inr (7, [.ref hs, .int tl, .int tk, .int tp, .int tb, .int tv, .int tp, .int tf])), (hs, .inl ((cs 1), 400, .inl gt))] H := hP
  have hD : va_D A [(ht, .inr (7, [.ref hs, .int tl, .int tk, .int tp, .int tb, .int tv, .int tp, .int tf])), (hs, .inl ((cs 1), 400, .inl gt))] := hD
  refine lv_aload_n hx hb dX9_takeNumber_8 rfl (lv_at hl 0 rfl) ?_
  refine va_get (D := D) (ci := 7) (v := .int tk) (C := "WrongHole$Text") (T := TX9) (N := 8) hx hb hts (iq_RX9 _) hown hK hP 0 rfl rfl 2 (by decide) (hT _ qq_1_41) (fun _ h9 => h9) rfl dX9_takeNumber_9 ?_
  refine lv_sipush (v := 256) hx hb dX9_takeNumber_12 (by decide) ?_
  refine lv_icmp_eq (tgt := 25) hx hb dX9_takeNumber_15 (by decide) (fun c_1 => ?_) (fun c_1 => ?_)
  · have r_2 : Rg 256 256 tk := Rg.eq_l c_1 (Rg.top tk) (Rg.c (c := 256) (k := 256) rfl) (by decide)
    refine lv_aload_n hx hb dX9_takeNumber_25 rfl (lv_at hl 0 rfl) ?_
    refine va_get (D := D) (ci := 7) (v := .int tv) (C := "WrongHole$Text") (T := TX9) (N := 8) hx hb hts (iq_RX9 _) hown hK hP 0 rfl rfl 5 (by decide) (hT _ qq_1_45) (fun _ h9 => h9) rfl dX9_takeNumber_26 ?_
    refine lv_istore_n (lv' := [(3, .int tv), (0, .ref ht), (1, .int 1), (2, .int 8)]) hx hb dX9_takeNumber_29 rfl hl (by decide) rfl (fun ls hl => ?_)
    refine lv_aload_n hx hb dX9_takeNumber_30 rfl (lv_at hl 1 rfl) ?_
    have hPc := hP.sub (ws' := [(ht, .inr (7, [.ref hs, .int tl, .int tk, .int tp, .int tb, .int tv, .int tp, .int tf])), (hs, .inl ((cs 1), 400, .inl gt))]) [0, 1] rfl
    have hDc := hD.sub (ws' := [(ht, .inr (7, [.ref hs, .int tl, .int tk, .int tp, .int tb, .int tv, .int tp, .int tf])), (hs, .inl ((cs 1), 400, .inl gt))]) [0, 1] (by decide) rfl
    have hFc := va_free (wc := [(ht, .inr (7, [.ref hs, .int tl, .int tk, .int tp, .int tb, .int tv, .int tp, .int tf])), (hs, .inl ((cs 1), 400, .inl gt))]) hD hS hA [0, 1] rfl
    refine va_callv (va_runV (As := []) (rest := []) ⟨hx, hb, hml, hown, hts⟩ (c_Text_pass l D cs X H.size ht hs tl tk tp tb tv tp tf gt r_tl r_tp r_tb) ⟨callB_of 0 hts (gd_C qq_2_131) rfl rfl rfl (hT _ qq_1_2) (hT _ qq_2_128) (by decide +kernel) (rm_R rfl rfl), (hT _ qq_2_129), (hT _ qq_2_130)⟩ (pr_V hPc hK hDc hN (hR.sub (wo' := []) [] rfl) hS hFc hX hXs (ci := 7) (q0 := 0) rfl rfl) rfl rfl hl.1 rfl (lv_room (Nat.le_of_ble_eq_true rfl)) dX9_takeNumber_31 ⟨Nat.le_of_ble_eq_true rfl, Nat.le_of_ble_eq_true rfl⟩) hS (fun q _ h => hFc q h) hFc (fun u_3 t_6 H1 locs ht9 hvm hw_4 hB_5 hz1 hk1 hS => ?_)
    obtain ⟨v_8, v_9, v_10, v_11, r_12, r_13, hP1, hD1⟩ := hB_5
    rw [ht9] at hP1
    obtain ⟨hP, hD⟩ := va_join (wr := []) (w1 := [(ht, .inr (7, [.ref hs, .int tl, .int v_8, .int v_9, .int v_10, .int v_11, .int tp, .int tf])), (hs, .inl ((cs 1), 400, .inl gt))]) hP hD [0, 1] [] rfl rfl (by decide) (by decide) hk1 hFc hP1 hD1
    generalize H1 = H at hP hS ⊢
    have hP : va_P D vwCl [(ht, .inr (7, [.ref hs, .int tl, .int v_8, .int v_9, .int v_10, .int v_11, .int tp, .int tf])), (hs, .inl ((cs 1), 400, .inl gt))] H := hP
    have hD : va_D A [(ht, .inr (7, [.ref hs, .int tl, .int v_8, .int v_9, .int v_10, .int v_11, .int tp, .int tf])), (hs, .inl ((cs 1), 400, .inl gt))] := hD
    refine lv_iload_n hx hb dX9_takeNumber_34 rfl (lv_at hl 0 rfl) ?_
    refine lv_iload_n hx hb dX9_takeNumber_35 rfl (lv_at hl 2 rfl) ?_
    refine lv_icmp_lt (tgt := 44) hx hb dX9_takeNumber_36 (by decide) (fun c_14 => ?_) (fun c_14 => ?_)
    · have r_15 : Rg (-2147483648) 0 tv := Rg.lt_l c_14 (Rg.top tv) (Rg.c (c := 1) (k := 1) rfl) (by decide)
      refine lv_aload_n hx hb dX9_takeNumber_44 rfl (lv_at hl 1 rfl) ?_
      have hPc := hP.sub (ws' := [(ht, .inr (7, [.ref hs, .int tl, .int v_8, .int v_9, .int v_10, .int v_11, .int tp, .int tf])), (hs, .inl ((cs 1), 400, .inl gt))]) [0, 1] rfl
      have hDc := hD.sub (ws' := [(ht, .inr (7, [.ref hs, .int tl, .int v_8, .int v_9, .int v_10, .int v_11, .int tp, .int tf])), (hs, .inl ((cs 1), 400, .inl gt))]) [0, 1] (by decide) rfl
      have hFc := va_free (wc := [(ht, .inr (7, [.ref hs, .int tl, .int v_8, .int v_9, .int v_10, .int v_11, .int tp, .int tf])), (hs, .inl ((cs 1), 400, .inl gt))]) hD hS hA [0, 1] rfl
      refine va_callv (va_runV (As := []) (rest := []) ⟨hx, hb, hml, hown, hts⟩ (c_Text_refuseNumber l D cs X H.size ht hs tl v_8 v_9 v_10 v_11 tp tf gt r_tp) ⟨callB_of 0 hts (gd_C qq_2_224) rfl rfl rfl (hT _ qq_1_2) (hT _ qq_2_221) (by decide +kernel) (rm_R rfl rfl), (hT _ qq_2_222), (hT _ qq_2_223)⟩ (pr_V hPc hK hDc hN (hR.sub (wo' := []) [] rfl) hS hFc hX hXs (ci := 7) (q0 := 0) rfl rfl) rfl rfl hl.1 rfl (lv_room (Nat.le_of_ble_eq_true rfl)) dX9_takeNumber_45 ⟨Nat.le_of_ble_eq_true rfl, Nat.le_of_ble_eq_true rfl⟩) hS (fun q _ h => hFc q h) hFc (fun u_17 t_20 H1 locs ht9 hvm hw_18 hB_19 hz1 hk1 hS => ?_)
      obtain ⟨v_22, rp_23, hP1, hD1⟩ := hB_19
      rw [ht9] at hP1
      obtain ⟨hP, hD⟩ := va_join (wr := []) (w1 := [(ht, .inr (7, [.ref hs, .int tl, .int v_8, .int v_9, .int v_10, .int v_11, .int tp, .int v_22])), (hs, .inl ((cs 1), 400, .inl gt))]) hP hD [0, 1] [] rfl rfl (by decide) (by decide) hk1 hFc hP1 hD1
      generalize H1 = H at hP hS ⊢
      have hP : va_P D vwCl [(ht, .inr (7, [.ref hs, .int tl, .int v_8, .int v_9, .int v_10, .int v_11, .int tp, .int v_22])), (hs, .inl ((cs 1), 400, .inl gt))] H := hP
      have hD : va_D A [(ht, .inr (7, [.ref hs, .int tl, .int v_8, .int v_9, .int v_10, .int v_11, .int tp, .int v_22])), (hs, .inl ((cs 1), 400, .inl gt))] := hD
      refine lv_iconst (v := (-1)) hx hb dX9_takeNumber_48 (by decide) ?_
      refine W.widen (k := 0) (n := 0) (Nat.le_of_ble_eq_true rfl) (Nat.le_of_ble_eq_true rfl) ?_
      have hP9 := hP.sub (ws' := [(ht, .inr (7, [.ref hs, .int tl, .int v_8, .int v_9, .int v_10, .int v_11, .int tp, .int v_22])), (hs, .inl ((cs 1), 400, .inl gt))]) [0, 1] rfl
      have hD9 := hD.sub (ws' := [(ht, .inr (7, [.ref hs, .int tl, .int v_8, .int v_9, .int v_10, .int v_11, .int tp, .int v_22])), (hs, .inl ((cs 1), 400, .inl gt))]) [0, 1] (by decide) rfl
      exact W.iret (v := (-1)) hx hb hr (fun t9 ht9 hW9 => ⟨⟨_, v_22, rfl, ⟨⟨by decide, by decide⟩, fun q9 => absurd q9 rp_23, fun _ => rp_23⟩, ⟨v_8, v_9, v_10, v_11, tp, r_12, r_13, r_tp, by rw [ht9]; exact hP9, hD9⟩⟩, hS.F ht9⟩) hS.2.2 dX9_takeNumber_49
    · have r_16 : Rg 1 2147483647 tv := Rg.le_r (nlt_le c_14) (Rg.c (c := 1) (k := 1) rfl) (Rg.top tv) (by decide)
      refine lv_iload_n hx hb dX9_takeNumber_39 rfl (lv_at hl 0 rfl) ?_
      refine lv_iload_n hx hb dX9_takeNumber_40 rfl (lv_at hl 3 rfl) ?_
      refine lv_icmp_le (tgt := 50) hx hb dX9_takeNumber_41 (by decide) (fun c_24 => ?_) (fun c_24 => ?_)
      · have r_25 : Rg 1 8 tv := Rg.le_l c_24 r_16 (Rg.c (c := 8) (k := 8) rfl) (by decide)
        refine lv_iload_n hx hb dX9_takeNumber_50 rfl (lv_at hl 0 rfl) ?_
        refine W.widen (k := 0) (n := 0) (Nat.le_of_ble_eq_true rfl) (Nat.le_of_ble_eq_true rfl) ?_
        have hP9 := hP.sub (ws' := [(ht, .inr (7, [.ref hs, .int tl, .int v_8, .int v_9, .int v_10, .int v_11, .int tp, .int tf])), (hs, .inl ((cs 1), 400, .inl gt))]) [0, 1] rfl
        have hD9 := hD.sub (ws' := [(ht, .inr (7, [.ref hs, .int tl, .int v_8, .int v_9, .int v_10, .int v_11, .int tp, .int tf])), (hs, .inl ((cs 1), 400, .inl gt))]) [0, 1] (by decide) rfl
        exact W.iret (v := tv) hx hb hr (fun t9 ht9 hW9 => ⟨⟨_, tf, rfl, ⟨(Rg.wk (lo2 := (-1)) (hi2 := 8) r_25 (by decide)), fun _ => Int.le_trans (by decide) (r_25).1, fun q9 => q9⟩, ⟨v_8, v_9, v_10, v_11, tp, r_12, r_13, r_tp, by rw [ht9]; exact hP9, hD9⟩⟩, hS.F ht9⟩) hS.2.2 dX9_takeNumber_51
      · have r_26 : Rg 9 2147483647 tv := Rg.lt_r (nle_lt c_24) (Rg.c (c := 8) (k := 8) rfl) r_16 (by decide)
        refine lv_aload_n hx hb dX9_takeNumber_44 rfl (lv_at hl 1 rfl) ?_
        have hPc := hP.sub (ws' := [(ht, .inr (7, [.ref hs, .int tl, .int v_8, .int v_9, .int v_10, .int v_11, .int tp, .int tf])), (hs, .inl ((cs 1), 400, .inl gt))]) [0, 1] rfl
        have hDc := hD.sub (ws' := [(ht, .inr (7, [.ref hs, .int tl, .int v_8, .int v_9, .int v_10, .int v_11, .int tp, .int tf])), (hs, .inl ((cs 1), 400, .inl gt))]) [0, 1] (by decide) rfl
        have hFc := va_free (wc := [(ht, .inr (7, [.ref hs, .int tl, .int v_8, .int v_9, .int v_10, .int v_11, .int tp, .int tf])), (hs, .inl ((cs 1), 400, .inl gt))]) hD hS hA [0, 1] rfl
        refine va_callv (va_runV (As := []) (rest := []) ⟨hx, hb, hml, hown, hts⟩ (c_Text_refuseNumber l D cs X H.size ht hs tl v_8 v_9 v_10 v_11 tp tf gt r_tp) ⟨callB_of 0 hts (gd_C qq_2_224) rfl rfl rfl (hT _ qq_1_2) (hT _ qq_2_221) (by decide +kernel) (rm_R rfl rfl), (hT _ qq_2_222), (hT _ qq_2_223)⟩ (pr_V hPc hK hDc hN (hR.sub (wo' := []) [] rfl) hS hFc hX hXs (ci := 7) (q0 := 0) rfl rfl) rfl rfl hl.1 rfl (lv_room (Nat.le_of_ble_eq_true rfl)) dX9_takeNumber_45 ⟨Nat.le_of_ble_eq_true rfl, Nat.le_of_ble_eq_true rfl⟩) hS (fun q _ h => hFc q h) hFc (fun u_27 t_30 H1 locs ht9 hvm hw_28 hB_29 hz1 hk1 hS => ?_)
        obtain ⟨v_32, rp_33, hP1, hD1⟩ := hB_29
        rw [ht9] at hP1
        obtain ⟨hP, hD⟩ := va_join (wr := []) (w1 := [(ht, .inr (7, [.ref hs, .int tl, .int v_8, .int v_9, .int v_10, .int v_11, .int tp, .int v_32])), (hs, .inl ((cs 1), 400, .inl gt))]) hP hD [0, 1] [] rfl rfl (by decide) (by decide) hk1 hFc hP1 hD1
        generalize H1 = H at hP hS ⊢
        have hP : va_P D vwCl [(ht, .inr (7, [.ref hs, .int tl, .int v_8, .int v_9, .int v_10, .int v_11, .int tp, .int v_32])), (hs, .inl ((cs 1), 400, .inl gt))] H := hP
        have hD : va_D A [(ht, .inr (7, [.ref hs, .int tl, .int v_8, .int v_9, .int v_10, .int v_11, .int tp, .int v_32])), (hs, .inl ((cs 1), 400, .inl gt))] := hD
        refine lv_iconst (v := (-1)) hx hb dX9_takeNumber_48 (by decide) ?_
        refine W.widen (k := 0) (n := 0) (Nat.le_of_ble_eq_true rfl) (Nat.le_of_ble_eq_true rfl) ?_
        have hP9 := hP.sub (ws' := [(ht, .inr (7, [.ref hs, .int tl, .int v_8, .int v_9, .int v_10, .int v_11, .int tp, .int v_32])), (hs, .inl ((cs 1), 400, .inl gt))]) [0, 1] rfl
        have hD9 := hD.sub (ws' := [(ht, .inr (7, [.ref hs, .int tl, .int v_8, .int v_9, .int v_10, .int v_11, .int tp, .int v_32])), (hs, .inl ((cs 1), 400, .inl gt))]) [0, 1] (by decide) rfl
        exact W.iret (v := (-1)) hx hb hr (fun t9 ht9 hW9 => ⟨⟨_, v_32, rfl, ⟨⟨by decide, by decide⟩, fun q9 => absurd q9 rp_33, fun _ => rp_33⟩, ⟨v_8, v_9, v_10, v_11, tp, r_12, r_13, r_tp, by rw [ht9]; exact hP9, hD9⟩⟩, hS.F ht9⟩) hS.2.2 dX9_takeNumber_49
  · refine lv_aload_n hx hb dX9_takeNumber_18 rfl (lv_at hl 0 rfl) ?_
    refine lv_iconst (v := 0) hx hb dX9_takeNumber_19 (by decide) ?_
    have hPc := hP.sub (ws' := [(ht, .inr (7, [.ref hs, .int tl, .int tk, .int tp, .int tb, .int tv, .int tp, .int tf])), (hs, .inl ((cs 1), 400, .inl gt))]) [0, 1] rfl
    have hDc := hD.sub (ws' := [(ht, .inr (7, [.ref hs, .int tl, .int tk, .int tp, .int tb, .int tv, .int tp, .int tf])), (hs, .inl ((cs 1), 400, .inl gt))]) [0, 1] (by decide) rfl
    have hFc := va_free (wc := [(ht, .inr (7, [.ref hs, .int tl, .int tk, .int tp, .int tb, .int tv, .int tp, .int tf])), (hs, .inl ((cs 1), 400, .inl gt))]) hD hS hA [0, 1] rfl
    refine va_callv (va_runV (As := [.int 0]) (rest := []) ⟨hx, hb, hml, hown, hts⟩ (c_Text_failHere l D cs X H.size ht hs tl tk tp tb tv tp tf gt 0 r_tp (Rg.wk (lo2 := 0) (hi2 := 4) (Rg.c (c := 0) (k := 0) rfl) (by decide))) ⟨callB_of 1 hts (gd_C qq_2_205) rfl rfl rfl (hT _ qq_1_2) (hT _ qq_2_220) (by decide +kernel) (rm_R rfl rfl), (hT _ qq_2_203), (hT _ qq_2_204)⟩ (pr_V hPc hK hDc hN (hR.sub (wo' := []) [] rfl) hS hFc hX hXs (ci := 7) (q0 := 0) rfl rfl) rfl rfl hl.1 rfl (lv_room (Nat.le_of_ble_eq_true rfl)) dX9_takeNumber_20 ⟨Nat.le_of_ble_eq_true rfl, Nat.le_of_ble_eq_true rfl⟩) hS (fun q _ h => hFc q h) hFc (fun u_34 t_37 H1 locs ht9 hvm hw_35 hB_36 hz1 hk1 hS => ?_)
    obtain ⟨v_39, rp_40, hP1, hD1⟩ := hB_36
    rw [ht9] at hP1
    obtain ⟨hP, hD⟩ := va_join (wr := []) (w1 := [(ht, .inr (7, [.ref hs, .int tl, .int tk, .int tp, .int tb, .int tv, .int tp, .int v_39])), (hs, .inl ((cs 1), 400, .inl gt))]) hP hD [0, 1] [] rfl rfl (by decide) (by decide) hk1 hFc hP1 hD1
    generalize H1 = H at hP hS ⊢
    have hP : va_P D vwCl [(ht, .inr (7, [.ref hs, .int tl, .int tk, .int tp, .int tb, .int tv, .int tp, .int v_39])), (hs, .inl ((cs 1), 400, .inl gt))] H := hP
    have hD : va_D A [(ht, .inr (7, [.ref hs, .int tl, .int tk, .int tp, .int tb, .int tv, .int tp, .int v_39])), (hs, .inl ((cs 1), 400, .inl gt))] := hD
    refine lv_iconst (v := (-1)) hx hb dX9_takeNumber_23 (by decide) ?_
    refine W.widen (k := 0) (n := 0) (Nat.le_of_ble_eq_true rfl) (Nat.le_of_ble_eq_true rfl) ?_
    have hP9 := hP.sub (ws' := [(ht, .inr (7, [.ref hs, .int tl, .int tk, .int tp, .int tb, .int tv, .int tp, .int v_39])), (hs, .inl ((cs 1), 400, .inl gt))]) [0, 1] rfl
    have hD9 := hD.sub (ws' := [(ht, .inr (7, [.ref hs, .int tl, .int tk, .int tp, .int tb, .int tv, .int tp, .int v_39])), (hs, .inl ((cs 1), 400, .inl gt))]) [0, 1] (by decide) rfl
    exact W.iret (v := (-1)) hx hb hr (fun t9 ht9 hW9 => ⟨⟨_, v_39, rfl, ⟨⟨by decide, by decide⟩, fun q9 => absurd q9 rp_40, fun _ => rp_40⟩, ⟨tk, tp, tb, tv, tp, r_tp, r_tb, r_tp, by rw [ht9]; exact hP9, hD9⟩⟩, hS.F ht9⟩) hS.2.2 dX9_takeNumber_24
set_option maxHeartbeats 4000000 in
set_option maxRecDepth 100000 in
theorem c_Text_takeNumber_0_3 (l : Launch) (D : va_G) (cs : Nat → ClassId) (X : XX) (sz : Nat) (ht : Nat) (hs : Nat) (tl : Int32) (tk : Int32) (tp : Int32) (tb : Int32) (tv : Int32) (tn : Int32) (tf : Int32) (gt : Nat → Int32) (r_tl : Rg 0 400 tl) (r_tp : Rg 0 400 tp) (r_tb : Rg 0 400 tb) : Met l yX9_takeNumber (Cond.code yX9_takeNumber cX9_takeNumber 4 (some .int) :: TB) (RM 2 0 0) (va_Pc [.ref ht, .int 0, .int 3] (PRE D cs X [(ht, .inr (7, [.ref hs, .int tl, .int tk, .int tp, .int tb, .int tv, .int tn, .int tf])), (hs, .inl ((cs 1), 400, .inl gt))] [] sz)) (va_Qi (S := Int32) (fun r tf2 => Rg (-1) 3 r ∧ (tf2 = 0 → 0 ≤ Int32.toInt r) ∧ (¬ tf = 0 → ¬ tf2 = 0)) (fun tf2 t => ∃ (tk2 : Int32), ∃ (tp2 : Int32), ∃ (tb2 : Int32), ∃ (tv2 : Int32), ∃ (tn2 : Int32), Rg 0 400 tp2 ∧ Rg 0 400 tb2 ∧ Rg 0 400 tn2 ∧ va_P D vwCl [(ht, .inr (7, [.ref hs, .int tl, .int tk2, .int tp2, .int tb2, .int tv2, .int tn2, .int tf2])), (hs, .inl ((cs 1), 400, .inl gt))] t.heap ∧ va_D (va_A [(ht, .inr (7, [.ref hs, .int tl, .int tk, .int tp, .int tb, .int tv, .int tn, .int tf])), (hs, .inl ((cs 1), 400, .inl gt))] sz) [(ht, .inr (7, [.ref hs, .int tl, .int tk2, .int tp2, .int tb2, .int tv2, .int tn2, .int tf2])), (hs, .inl ((cs 1), 400, .inl gt))]) (va_A [(ht, .inr (7, [.ref hs, .int tl, .int tk, .int tp, .int tb, .int tv, .int tn, .int tf])), (hs, .inl ((cs 1), 400, .inl gt))] sz)) 0 0 (va_A [(ht, .inr (7, [.ref hs, .int tl, .int tk, .int tp, .int tb, .int tv, .int tn, .int tf])), (hs, .inl ((cs 1), 400, .inl gt))] sz) := by
  refine MET (y := yX9_takeNumber) (cc := cX9_takeNumber) (maxL := 4) (ret := (some .int)) (d := 2) (mc := 0) (ms := 0) (D := D) (cs := cs) (X := X) (ws := [(ht, .inr (7, [.ref hs, .int tl, .int tk, .int tp, .int tb, .int tv, .int tn, .int tf])), (hs, .inl ((cs 1), 400, .inl gt))]) (wo := []) (sz := sz) (av := [.ref ht, .int 0, .int 3]) (Qc := fun A => va_Qi (S := Int32) (fun r tf2 => Rg (-1) 3 r ∧ (tf2 = 0 → 0 ≤ Int32.toInt r) ∧ (¬ tf = 0 → ¬ tf2 = 0)) (fun tf2 t => ∃ (tk2 : Int32), ∃ (tp2 : Int32), ∃ (tb2 : Int32), ∃ (tv2 : Int32), ∃ (tn2 : Int32), Rg 0 400 tp2 ∧ Rg 0 400 tb2 ∧ Rg 0 400 tn2 ∧ va_P D vwCl [(ht, .inr (7, [.ref hs, .int tl, .int tk2, .int tp2, .int tb2, .int tv2, .int tn2, .int tf2])), (hs, .inl ((cs 1), 400, .inl gt))] t.heap ∧ va_D A [(ht, .inr (7, [.ref hs, .int tl, .int tk2, .int tp2, .int tb2, .int tv2, .int tn2, .int tf2])), (hs, .inl ((cs 1), 400, .inl gt))]) A) (by decide) (Nat.le_of_ble_eq_true rfl) ?_
  intro p e s m below meth c ls A H hHe hx hb hr hml hown hts hlocks hnm hP hK hD hA hS hN hR hX hXs hl
  have hD : va_D A [(ht, .inr (7, [.ref hs, .int tl, .int tk, .int tp, .int tb, .int tv, .int tn, .int tf])), (hs, .inl ((cs 1), 400, .inl gt))] := hD
  obtain ⟨locs, hlc⟩ : ∃ z : List Loc, z = [] := ⟨_, rfl⟩
  rw [← hlc] at hS ⊢
  have hown : s.vm.findClass "WrongHole$Text" = some m.cls := hown
  have hT : ∀ w ∈ TB, w.before ([.ref ht, .int 0, .int 3] : List Value).toArray s = true := fun w h => hts w (List.mem_cons_of_mem _ h)
  have hl : lv_has ls 4 [(0, .ref ht), (1, .int 0), (2, .int 3)] := hl
  have hP : va_P D vwCl [(ht, .inr (7, [.ref hs, .int tl, .int tk, .int tp, .int tb, .int tv, .int tn, .int tf])), (hs, .inl ((cs 1), 400, .inl gt))] H := hP
  refine lv_aload_n hx hb dX9_takeNumber_0 rfl (lv_at hl 0 rfl) ?_
  refine lv_aload_n hx hb dX9_takeNumber_1 rfl (lv_at hl 0 rfl) ?_
  refine va_get (D := D) (ci := 7) (v := .int tp) (C := "WrongHole$Text") (T := TX9) (N := 8) hx hb hts (iq_RX9 _) hown hK hP 0 rfl rfl 3 (by decide) (hT _ qq_1_42) (fun _ h9 => h9) rfl dX9_takeNumber_2 ?_
  refine va_put (D := D) (ci := 7) (v := .int tp) (ty := .int) (C := "WrongHole$Text") (T := TX9) (N := 8) hx hb hts (iq_RX9 _) tyX9 tyX9_ok nmX9 hown hK hP hD hS 0 rfl rfl 6 (by decide) (hT _ qq_1_46) (fun _ h9 => h9) rfl (by decide +kernel) rfl rfl (Nat.le_of_ble_eq_true rfl) dX9_takeNumber_5 (fun H locs hP hD hS => ?_)
  have hP : va_P D vwCl [(ht, .inr (7, [.ref hs, .int tl, .int tk, .int tp, .int tb, .int tv, .int tp, .int tf])), (hs, .inl ((cs 1), 400, .inl gt))] H := hP
  have hD : va_D A [(ht, .inr (7, [.ref hs, .int tl, .int tk, .int tp, .int tb, .int tv, .int tp, .int tf])), (hs, .inl ((cs 1), 400, .inl gt))] := hD
  refine lv_aload_n hx hb dX9_takeNumber_8 rfl (lv_at hl 0 rfl) ?_
  refine va_get (D := D) (ci := 7) (v := .int tk) (C := "WrongHole$Text") (T := TX9) (N := 8) hx hb hts (iq_RX9 _) hown hK hP 0 rfl rfl 2 (by decide) (hT _ qq_1_41) (fun _ h9 => h9) rfl dX9_takeNumber_9 ?_
  refine lv_sipush (v := 256) hx hb dX9_takeNumber_12 (by decide) ?_
  refine lv_icmp_eq (tgt := 25) hx hb dX9_takeNumber_15 (by decide) (fun c_1 => ?_) (fun c_1 => ?_)
  · have r_2 : Rg 256 256 tk := Rg.eq_l c_1 (Rg.top tk) (Rg.c (c := 256) (k := 256) rfl) (by decide)
    refine lv_aload_n hx hb dX9_takeNumber_25 rfl (lv_at hl 0 rfl) ?_
    refine va_get (D := D) (ci := 7) (v := .int tv) (C := "WrongHole$Text") (T := TX9) (N := 8) hx hb hts (iq_RX9 _) hown hK hP 0 rfl rfl 5 (by decide) (hT _ qq_1_45) (fun _ h9 => h9) rfl dX9_takeNumber_26 ?_
    refine lv_istore_n (lv' := [(3, .int tv), (0, .ref ht), (1, .int 0), (2, .int 3)]) hx hb dX9_takeNumber_29 rfl hl (by decide) rfl (fun ls hl => ?_)
    refine lv_aload_n hx hb dX9_takeNumber_30 rfl (lv_at hl 1 rfl) ?_
    have hPc := hP.sub (ws' := [(ht, .inr (7, [.ref hs, .int tl, .int tk, .int tp, .int tb, .int tv, .int tp, .int tf])), (hs, .inl ((cs 1), 400, .inl gt))]) [0, 1] rfl
    have hDc := hD.sub (ws' := [(ht, .inr (7, [.ref hs, .int tl, .int tk, .int tp, .int tb, .int tv, .int tp, .int tf])), (hs, .inl ((cs 1), 400, .inl gt))]) [0, 1] (by decide) rfl
    have hFc := va_free (wc := [(ht, .inr (7, [.ref hs, .int tl, .int tk, .int tp, .int tb, .int tv, .int tp, .int tf])), (hs, .inl ((cs 1), 400, .inl gt))]) hD hS hA [0, 1] rfl
    refine va_callv (va_runV (As := []) (rest := []) ⟨hx, hb, hml, hown, hts⟩ (c_Text_pass l D cs X H.size ht hs tl tk tp tb tv tp tf gt r_tl r_tp r_tb) ⟨callB_of 0 hts (gd_C qq_2_131) rfl rfl rfl (hT _ qq_1_2) (hT _ qq_2_128) (by decide +kernel) (rm_R rfl rfl), (hT _ qq_2_129), (hT _ qq_2_130)⟩ (pr_V hPc hK hDc hN (hR.sub (wo' := []) [] rfl) hS hFc hX hXs (ci := 7) (q0 := 0) rfl rfl) rfl rfl hl.1 rfl (lv_room (Nat.le_of_ble_eq_true rfl)) dX9_takeNumber_31 ⟨Nat.le_of_ble_eq_true rfl, Nat.le_of_ble_eq_true rfl⟩) hS (fun q _ h => hFc q h) hFc (fun u_3 t_6 H1 locs ht9 hvm hw_4 hB_5 hz1 hk1 hS => ?_)
    obtain ⟨v_8, v_9, v_10, v_11, r_12, r_13, hP1, hD1⟩ := hB_5
    rw [ht9] at hP1
    obtain ⟨hP, hD⟩ := va_join (wr := []) (w1 := [(ht, .inr (7, [.ref hs, .int tl, .int v_8, .int v_9, .int v_10, .int v_11, .int tp, .int tf])), (hs, .inl ((cs 1), 400, .inl gt))]) hP hD [0, 1] [] rfl rfl (by decide) (by decide) hk1 hFc hP1 hD1
    generalize H1 = H at hP hS ⊢
    have hP : va_P D vwCl [(ht, .inr (7, [.ref hs, .int tl, .int v_8, .int v_9, .int v_10, .int v_11, .int tp, .int tf])), (hs, .inl ((cs 1), 400, .inl gt))] H := hP
    have hD : va_D A [(ht, .inr (7, [.ref hs, .int tl, .int v_8, .int v_9, .int v_10, .int v_11, .int tp, .int tf])), (hs, .inl ((cs 1), 400, .inl gt))] := hD
    refine lv_iload_n hx hb dX9_takeNumber_34 rfl (lv_at hl 0 rfl) ?_
    refine lv_iload_n hx hb dX9_takeNumber_35 rfl (lv_at hl 2 rfl) ?_
    refine lv_icmp_lt (tgt := 44) hx hb dX9_takeNumber_36 (by decide) (fun c_14 => ?_) (fun c_14 => ?_)
    · have r_15 : Rg (-2147483648) (-1) tv := Rg.lt_l c_14 (Rg.top tv) (Rg.c (c := 0) (k := 0) rfl) (by decide)
      refine lv_aload_n hx hb dX9_takeNumber_44 rfl (lv_at hl 1 rfl) ?_
      have hPc := hP.sub (ws' := [(ht, .inr (7, [.ref hs, .int tl, .int v_8, .int v_9, .int v_10, .int v_11, .int tp, .int tf])), (hs, .inl ((cs 1), 400, .inl gt))]) [0, 1] rfl
      have hDc := hD.sub (ws' := [(ht, .inr (7, [.ref hs, .int tl, .int v_8, .int v_9, .int v_10, .int v_11, .int tp, .int tf])), (hs, .inl ((cs 1), 400, .inl gt))]) [0, 1] (by decide) rfl
      have hFc := va_free (wc := [(ht, .inr (7, [.ref hs, .int tl, .int v_8, .int v_9, .int v_10, .int v_11, .int tp, .int tf])), (hs, .inl ((cs 1), 400, .inl gt))]) hD hS hA [0, 1] rfl
      refine va_callv (va_runV (As := []) (rest := []) ⟨hx, hb, hml, hown, hts⟩ (c_Text_refuseNumber l D cs X H.size ht hs tl v_8 v_9 v_10 v_11 tp tf gt r_tp) ⟨callB_of 0 hts (gd_C qq_2_224) rfl rfl rfl (hT _ qq_1_2) (hT _ qq_2_221) (by decide +kernel) (rm_R rfl rfl), (hT _ qq_2_222), (hT _ qq_2_223)⟩ (pr_V hPc hK hDc hN (hR.sub (wo' := []) [] rfl) hS hFc hX hXs (ci := 7) (q0 := 0) rfl rfl) rfl rfl hl.1 rfl (lv_room (Nat.le_of_ble_eq_true rfl)) dX9_takeNumber_45 ⟨Nat.le_of_ble_eq_true rfl, Nat.le_of_ble_eq_true rfl⟩) hS (fun q _ h => hFc q h) hFc (fun u_17 t_20 H1 locs ht9 hvm hw_18 hB_19 hz1 hk1 hS => ?_)
      obtain ⟨v_22, rp_23, hP1, hD1⟩ := hB_19
      rw [ht9] at hP1
      obtain ⟨hP, hD⟩ := va_join (wr := []) (w1 := [(ht, .inr (7, [.ref hs, .int tl, .int v_8, .int v_9, .int v_10, .int v_11, .int tp, .int v_22])), (hs, .inl ((cs 1), 400, .inl gt))]) hP hD [0, 1] [] rfl rfl (by decide) (by decide) hk1 hFc hP1 hD1
      generalize H1 = H at hP hS ⊢
      have hP : va_P D vwCl [(ht, .inr (7, [.ref hs, .int tl, .int v_8, .int v_9, .int v_10, .int v_11, .int tp, .int v_22])), (hs, .inl ((cs 1), 400, .inl gt))] H := hP
      have hD : va_D A [(ht, .inr (7, [.ref hs, .int tl, .int v_8, .int v_9, .int v_10, .int v_11, .int tp, .int v_22])), (hs, .inl ((cs 1), 400, .inl gt))] := hD
      refine lv_iconst (v := (-1)) hx hb dX9_takeNumber_48 (by decide) ?_
      refine W.widen (k := 0) (n := 0) (Nat.le_of_ble_eq_true rfl) (Nat.le_of_ble_eq_true rfl) ?_
      have hP9 := hP.sub (ws' := [(ht, .inr (7, [.ref hs, .int tl, .int v_8, .int v_9, .int v_10, .int v_11, .int tp, .int v_22])), (hs, .inl ((cs 1), 400, .inl gt))]) [0, 1] rfl
      have hD9 := hD.sub (ws' := [(ht, .inr (7, [.ref hs, .int tl, .int v_8, .int v_9, .int v_10, .int v_11, .int tp, .int v_22])), (hs, .inl ((cs 1), 400, .inl gt))]) [0, 1] (by decide) rfl
      exact W.iret (v := (-1)) hx hb hr (fun t9 ht9 hW9 => ⟨⟨_, v_22, rfl, ⟨⟨by decide, by decide⟩, fun q9 => absurd q9 rp_23, fun _ => rp_23⟩, ⟨v_8, v_9, v_10, v_11, tp, r_12, r_13, r_tp, by rw [ht9]; exact hP9, hD9⟩⟩, hS.F ht9⟩) hS.2.2 dX9_takeNumber_49
    · have r_16 : Rg 0 2147483647 tv := Rg.le_r (nlt_le c_14) (Rg.c (c := 0) (k := 0) rfl) (Rg.top tv) (by decide)
      refine lv_iload_n hx hb dX9_takeNumber_39 rfl (lv_at hl 0 rfl) ?_
      refine lv_iload_n hx hb dX9_takeNumber_40 rfl (lv_at hl 3 rfl) ?_
      refine lv_icmp_le (tgt := 50) hx hb dX9_takeNumber_41 (by decide) (fun c_24 => ?_) (fun c_24 => ?_)
      · have r_25 : Rg 0 3 tv := Rg.le_l c_24 r_16 (Rg.c (c := 3) (k := 3) rfl) (by decide)
        refine lv_iload_n hx hb dX9_takeNumber_50 rfl (lv_at hl 0 rfl) ?_
        refine W.widen (k := 0) (n := 0) (Nat.le_of_ble_eq_true rfl) (Nat.le_of_ble_eq_true rfl) ?_
        have hP9 := hP.sub (ws' := [(ht, .inr (7, [.ref hs, .int tl, .int v_8, .int v_9, .int v_10, .int v_11, .int tp, .int tf])), (hs, .inl ((cs 1), 400, .inl gt))]) [0, 1] rfl
        have hD9 := hD.sub (ws' := [(ht, .inr (7, [.ref hs, .int tl, .int v_8, .int v_9, .int v_10, .int v_11, .int tp, .int tf])), (hs, .inl ((cs 1), 400, .inl gt))]) [0, 1] (by decide) rfl
        exact W.iret (v := tv) hx hb hr (fun t9 ht9 hW9 => ⟨⟨_, tf, rfl, ⟨(Rg.wk (lo2 := (-1)) (hi2 := 3) r_25 (by decide)), fun _ => Int.le_trans (by decide) (r_25).1, fun q9 => q9⟩, ⟨v_8, v_9, v_10, v_11, tp, r_12, r_13, r_tp, by rw [ht9]; exact hP9, hD9⟩⟩, hS.F ht9⟩) hS.2.2 dX9_takeNumber_51
      · have r_26 : Rg 4 2147483647 tv := Rg.lt_r (nle_lt c_24) (Rg.c (c := 3) (k := 3) rfl) r_16 (by decide)
        refine lv_aload_n hx hb dX9_takeNumber_44 rfl (lv_at hl 1 rfl) ?_
        have hPc := hP.sub (ws' := [(ht, .inr (7, [.ref hs, .int tl, .int v_8, .int v_9, .int v_10, .int v_11, .int tp, .int tf])), (hs, .inl ((cs 1), 400, .inl gt))]) [0, 1] rfl
        have hDc := hD.sub (ws' := [(ht, .inr (7, [.ref hs, .int tl, .int v_8, .int v_9, .int v_10, .int v_11, .int tp, .int tf])), (hs, .inl ((cs 1), 400, .inl gt))]) [0, 1] (by decide) rfl
        have hFc := va_free (wc := [(ht, .inr (7, [.ref hs, .int tl, .int v_8, .int v_9, .int v_10, .int v_11, .int tp, .int tf])), (hs, .inl ((cs 1), 400, .inl gt))]) hD hS hA [0, 1] rfl
        refine va_callv (va_runV (As := []) (rest := []) ⟨hx, hb, hml, hown, hts⟩ (c_Text_refuseNumber l D cs X H.size ht hs tl v_8 v_9 v_10 v_11 tp tf gt r_tp) ⟨callB_of 0 hts (gd_C qq_2_224) rfl rfl rfl (hT _ qq_1_2) (hT _ qq_2_221) (by decide +kernel) (rm_R rfl rfl), (hT _ qq_2_222), (hT _ qq_2_223)⟩ (pr_V hPc hK hDc hN (hR.sub (wo' := []) [] rfl) hS hFc hX hXs (ci := 7) (q0 := 0) rfl rfl) rfl rfl hl.1 rfl (lv_room (Nat.le_of_ble_eq_true rfl)) dX9_takeNumber_45 ⟨Nat.le_of_ble_eq_true rfl, Nat.le_of_ble_eq_true rfl⟩) hS (fun q _ h => hFc q h) hFc (fun u_27 t_30 H1 locs ht9 hvm hw_28 hB_29 hz1 hk1 hS => ?_)
        obtain ⟨v_32, rp_33, hP1, hD1⟩ := hB_29
        rw [ht9] at hP1
        obtain ⟨hP, hD⟩ := va_join (wr := []) (w1 := [(ht, .inr (7, [.ref hs, .int tl, .int v_8, .int v_9, .int v_10, .int v_11, .int tp, .int v_32])), (hs, .inl ((cs 1), 400, .inl gt))]) hP hD [0, 1] [] rfl rfl (by decide) (by decide) hk1 hFc hP1 hD1
        generalize H1 = H at hP hS ⊢
        have hP : va_P D vwCl [(ht, .inr (7, [.ref hs, .int tl, .int v_8, .int v_9, .int v_10, .int v_11, .int tp, .int v_32])), (hs, .inl ((cs 1), 400, .inl gt))] H := hP
        have hD : va_D A [(ht, .inr (7, [.ref hs, .int tl, .int v_8, .int v_9, .int v_10, .int v_11, .int tp, .int v_32])), (hs, .inl ((cs 1), 400, .inl gt))] := hD
        refine lv_iconst (v := (-1)) hx hb dX9_takeNumber_48 (by decide) ?_
        refine W.widen (k := 0) (n := 0) (Nat.le_of_ble_eq_true rfl) (Nat.le_of_ble_eq_true rfl) ?_
        have hP9 := hP.sub (ws' := [(ht, .inr (7, [.ref hs, .int tl, .int v_8, .int v_9, .int v_10, .int v_11, .int tp, .int v_32])), (hs, .inl ((cs 1), 400, .inl gt))]) [0, 1] rfl
        have hD9 := hD.sub (ws' := [(ht, .inr (7, [.ref hs, .int tl, .int v_8, .int v_9, .int v_10, .int v_11, .int tp, .int v_32])), (hs, .inl ((cs 1), 400, .inl gt))]) [0, 1] (by decide) rfl
        exact W.iret (v := (-1)) hx hb hr (fun t9 ht9 hW9 => ⟨⟨_, v_32, rfl, ⟨⟨by decide, by decide⟩, fun q9 => absurd q9 rp_33, fun _ => rp_33⟩, ⟨v_8, v_9, v_10, v_11, tp, r_12, r_13, r_tp, by rw [ht9]; exact hP9, hD9⟩⟩, hS.F ht9⟩) hS.2.2 dX9_takeNumber_49
  · refine lv_aload_n hx hb dX9_takeNumber_18 rfl (lv_at hl 0 rfl) ?_
    refine lv_iconst (v := 0) hx hb dX9_takeNumber_19 (by decide) ?_
    have hPc := hP.sub (ws' := [(ht, .inr (7, [.ref hs, .int tl, .int tk, .int tp, .int tb, .int tv, .int tp, .int tf])), (hs, .inl ((cs 1), 400, .inl gt))]) [0, 1] rfl
    have hDc := hD.sub (ws' := [(ht, .inr (7, [.ref hs, .int tl, .int tk, .int tp, .int tb, .int tv, .int tp, .int tf])), (hs, .inl ((cs 1), 400, .inl gt))]) [0, 1] (by decide) rfl
    have hFc := va_free (wc := [(ht, .inr (7, [.ref hs, .int tl, .int tk, .int tp, .int tb, .int tv, .int tp, .int tf])), (hs, .inl ((cs 1), 400, .inl gt))]) hD hS hA [0, 1] rfl
    refine va_callv (va_runV (As := [.int 0]) (rest := []) ⟨hx, hb, hml, hown, hts⟩ (c_Text_failHere l D cs X H.size ht hs tl tk tp tb tv tp tf gt 0 r_tp (Rg.wk (lo2 := 0) (hi2 := 4) (Rg.c (c := 0) (k := 0) rfl) (by decide))) ⟨callB_of 1 hts (gd_C qq_2_205) rfl rfl rfl (hT _ qq_1_2) (hT _ qq_2_220) (by decide +kernel) (rm_R rfl rfl), (hT _ qq_2_203), (hT _ qq_2_204)⟩ (pr_V hPc hK hDc hN (hR.sub (wo' := []) [] rfl) hS hFc hX hXs (ci := 7) (q0 := 0) rfl rfl) rfl rfl hl.1 rfl (lv_room (Nat.le_of_ble_eq_true rfl)) dX9_takeNumber_20 ⟨Nat.le_of_ble_eq_true rfl, Nat.le_of_ble_eq_true rfl⟩) hS (fun q _ h => hFc q h) hFc (fun u_34 t_37 H1 locs ht9 hvm hw_35 hB_36 hz1 hk1 hS => ?_)
    obtain ⟨v_39, rp_40, hP1, hD1⟩ := hB_36
    rw [ht9] at hP1
    obtain ⟨hP, hD⟩ := va_join (wr := []) (w1 := [(ht, .inr (7, [.ref hs, .int tl, .int tk, .int tp, .int tb, .int tv, .int tp, .int v_39])), (hs, .inl ((cs 1), 400, .inl gt))]) hP hD [0, 1] [] rfl rfl (by decide) (by decide) hk1 hFc hP1 hD1
    generalize H1 = H at hP hS ⊢
    have hP : va_P D vwCl [(ht, .inr (7, [.ref hs, .int tl, .int tk, .int tp, .int tb, .int tv, .int tp, .int v_39])), (hs, .inl ((cs 1), 400, .inl gt))] H := hP
    have hD : va_D A [(ht, .inr (7, [.ref hs, .int tl, .int tk, .int tp, .int tb, .int tv, .int tp, .int v_39])), (hs, .inl ((cs 1), 400, .inl gt))] := hD
    refine lv_iconst (v := (-1)) hx hb dX9_takeNumber_23 (by decide) ?_
    refine W.widen (k := 0) (n := 0) (Nat.le_of_ble_eq_true rfl) (Nat.le_of_ble_eq_true rfl) ?_
    have hP9 := hP.sub (ws' := [(ht, .inr (7, [.ref hs, .int tl, .int tk, .int tp, .int tb, .int tv, .int tp, .int v_39])), (hs, .inl ((cs 1), 400, .inl gt))]) [0, 1] rfl
    have hD9 := hD.sub (ws' := [(ht, .inr (7, [.ref hs, .int tl, .int tk, .int tp, .int tb, .int tv, .int tp, .int v_39])), (hs, .inl ((cs 1), 400, .inl gt))]) [0, 1] (by decide) rfl
    exact W.iret (v := (-1)) hx hb hr (fun t9 ht9 hW9 => ⟨⟨_, v_39, rfl, ⟨⟨by decide, by decide⟩, fun q9 => absurd q9 rp_40, fun _ => rp_40⟩, ⟨tk, tp, tb, tv, tp, r_tp, r_tb, r_tp, by rw [ht9]; exact hP9, hD9⟩⟩, hS.F ht9⟩) hS.2.2 dX9_takeNumber_24
set_option maxHeartbeats 4000000 in
set_option maxRecDepth 100000 in
theorem c_Text_takeNumber_1_20 (l : Launch) (D : va_G) (cs : Nat → ClassId) (X : XX) (sz : Nat) (ht : Nat) (hs : Nat) (tl : Int32) (tk : Int32) (tp : Int32) (tb : Int32) (tv : Int32) (tn : Int32) (tf : Int32) (gt : Nat → Int32) (r_tl : Rg 0 400 tl) (r_tp : Rg 0 400 tp) (r_tb : Rg 0 400 tb) : Met l yX9_takeNumber (Cond.code yX9_takeNumber cX9_takeNumber 4 (some .int) :: TB) (RM 2 0 0) (va_Pc [.ref ht, .int 1, .int 20] (PRE D cs X [(ht, .inr (7, [.ref hs, .int tl, .int tk, .int tp, .int tb, .int tv, .int tn, .int tf])), (hs, .inl ((cs 1), 400, .inl gt))] [] sz)) (va_Qi (S := Int32) (fun r tf2 => Rg (-1) 20 r ∧ (tf2 = 0 → 1 ≤ Int32.toInt r) ∧ (¬ tf = 0 → ¬ tf2 = 0)) (fun tf2 t => ∃ (tk2 : Int32), ∃ (tp2 : Int32), ∃ (tb2 : Int32), ∃ (tv2 : Int32), ∃ (tn2 : Int32), Rg 0 400 tp2 ∧ Rg 0 400 tb2 ∧ Rg 0 400 tn2 ∧ va_P D vwCl [(ht, .inr (7, [.ref hs, .int tl, .int tk2, .int tp2, .int tb2, .int tv2, .int tn2, .int tf2])), (hs, .inl ((cs 1), 400, .inl gt))] t.heap ∧ va_D (va_A [(ht, .inr (7, [.ref hs, .int tl, .int tk, .int tp, .int tb, .int tv, .int tn, .int tf])), (hs, .inl ((cs 1), 400, .inl gt))] sz) [(ht, .inr (7, [.ref hs, .int tl, .int tk2, .int tp2, .int tb2, .int tv2, .int tn2, .int tf2])), (hs, .inl ((cs 1), 400, .inl gt))]) (va_A [(ht, .inr (7, [.ref hs, .int tl, .int tk, .int tp, .int tb, .int tv, .int tn, .int tf])), (hs, .inl ((cs 1), 400, .inl gt))] sz)) 0 0 (va_A [(ht, .inr (7, [.ref hs, .int tl, .int tk, .int tp, .int tb, .int tv, .int tn, .int tf])), (hs, .inl ((cs 1), 400, .inl gt))] sz) := by
  refine MET (y := yX9_takeNumber) (cc := cX9_takeNumber) (maxL := 4) (ret := (some .int)) (d := 2) (mc := 0) (ms := 0) (D := D) (cs := cs) (X := X) (ws := [(ht, .inr (7, [.ref hs, .int tl, .int tk, .int tp, .int tb, .int tv, .int tn, .int tf])), (hs, .inl ((cs 1), 400, .inl gt))]) (wo := []) (sz := sz) (av := [.ref ht, .int 1, .int 20]) (Qc := fun A => va_Qi (S := Int32) (fun r tf2 => Rg (-1) 20 r ∧ (tf2 = 0 → 1 ≤ Int32.toInt r) ∧ (¬ tf = 0 → ¬ tf2 = 0)) (fun tf2 t => ∃ (tk2 : Int32), ∃ (tp2 : Int32), ∃ (tb2 : Int32), ∃ (tv2 : Int32), ∃ (tn2 : Int32), Rg 0 400 tp2 ∧ Rg 0 400 tb2 ∧ Rg 0 400 tn2 ∧ va_P D vwCl [(ht, .inr (7, [.ref hs, .int tl, .int tk2, .int tp2, .int tb2, .int tv2, .int tn2, .int tf2])), (hs, .inl ((cs 1), 400, .inl gt))] t.heap ∧ va_D A [(ht, .inr (7, [.ref hs, .int tl, .int tk2, .int tp2, .int tb2, .int tv2, .int tn2, .int tf2])), (hs, .inl ((cs 1), 400, .inl gt))]) A) (by decide) (Nat.le_of_ble_eq_true rfl) ?_
  intro p e s m below meth c ls A H hHe hx hb hr hml hown hts hlocks hnm hP hK hD hA hS hN hR hX hXs hl
  have hD : va_D A [(ht, .inr (7, [.ref hs, .int tl, .int tk, .int tp, .int tb, .int tv, .int tn, .int tf])), (hs, .inl ((cs 1), 400, .inl gt))] := hD
  obtain ⟨locs, hlc⟩ : ∃ z : List Loc, z = [] := ⟨_, rfl⟩
  rw [← hlc] at hS ⊢
  have hown : s.vm.findClass "WrongHole$Text" = some m.cls := hown
  have hT : ∀ w ∈ TB, w.before ([.ref ht, .int 1, .int 20] : List Value).toArray s = true := fun w h => hts w (List.mem_cons_of_mem _ h)
  have hl : lv_has ls 4 [(0, .ref ht), (1, .int 1), (2, .int 20)] := hl
  have hP : va_P D vwCl [(ht, .inr (7, [.ref hs, .int tl, .int tk, .int tp, .int tb, .int tv, .int tn, .int tf])), (hs, .inl ((cs 1), 400, .inl gt))] H := hP
  refine lv_aload_n hx hb dX9_takeNumber_0 rfl (lv_at hl 0 rfl) ?_
  refine lv_aload_n hx hb dX9_takeNumber_1 rfl (lv_at hl 0 rfl) ?_
  refine va_get (D := D) (ci := 7) (v := .int tp) (C := "WrongHole$Text") (T := TX9) (N := 8) hx hb hts (iq_RX9 _) hown hK hP 0 rfl rfl 3 (by decide) (hT _ qq_1_42) (fun _ h9 => h9) rfl dX9_takeNumber_2 ?_
  refine va_put (D := D) (ci := 7) (v := .int tp) (ty := .int) (C := "WrongHole$Text") (T := TX9) (N := 8) hx hb hts (iq_RX9 _) tyX9 tyX9_ok nmX9 hown hK hP hD hS 0 rfl rfl 6 (by decide) (hT _ qq_1_46) (fun _ h9 => h9) rfl (by decide +kernel) rfl rfl (Nat.le_of_ble_eq_true rfl) dX9_takeNumber_5 (fun H locs hP hD hS => ?_)
  have hP : va_P D vwCl [(ht, .inr (7, [.ref hs, .int tl, .int tk, .int tp, .int tb, .int tv, .int tp, .int tf])), (hs, .inl ((cs 1), 400, .inl gt))] H := hP
  have hD : va_D A [(ht, .inr (7, [.ref hs, .int tl, .int tk, .int tp, .int tb, .int tv, .int tp, .int tf])), (hs, .inl ((cs 1), 400, .inl gt))] := hD
  refine lv_aload_n hx hb dX9_takeNumber_8 rfl (lv_at hl 0 rfl) ?_
  refine va_get (D := D) (ci := 7) (v := .int tk) (C := "WrongHole$Text") (T := TX9) (N := 8) hx hb hts (iq_RX9 _) hown hK hP 0 rfl rfl 2 (by decide) (hT _ qq_1_41) (fun _ h9 => h9) rfl dX9_takeNumber_9 ?_
  refine lv_sipush (v := 256) hx hb dX9_takeNumber_12 (by decide) ?_
  refine lv_icmp_eq (tgt := 25) hx hb dX9_takeNumber_15 (by decide) (fun c_1 => ?_) (fun c_1 => ?_)
  · have r_2 : Rg 256 256 tk := Rg.eq_l c_1 (Rg.top tk) (Rg.c (c := 256) (k := 256) rfl) (by decide)
    refine lv_aload_n hx hb dX9_takeNumber_25 rfl (lv_at hl 0 rfl) ?_
    refine va_get (D := D) (ci := 7) (v := .int tv) (C := "WrongHole$Text") (T := TX9) (N := 8) hx hb hts (iq_RX9 _) hown hK hP 0 rfl rfl 5 (by decide) (hT _ qq_1_45) (fun _ h9 => h9) rfl dX9_takeNumber_26 ?_
    refine lv_istore_n (lv' := [(3, .int tv), (0, .ref ht), (1, .int 1), (2, .int 20)]) hx hb dX9_takeNumber_29 rfl hl (by decide) rfl (fun ls hl => ?_)
    refine lv_aload_n hx hb dX9_takeNumber_30 rfl (lv_at hl 1 rfl) ?_
    have hPc := hP.sub (ws' := [(ht, .inr (7, [.ref hs, .int tl, .int tk, .int tp, .int tb, .int tv, .int tp, .int tf])), (hs, .inl ((cs 1), 400, .inl gt))]) [0, 1] rfl
    have hDc := hD.sub (ws' := [(ht, .inr (7, [.ref hs, .int tl, .int tk, .int tp, .int tb, .int tv, .int tp, .int tf])), (hs, .inl ((cs 1), 400, .inl gt))]) [0, 1] (by decide) rfl
    have hFc := va_free (wc := [(ht, .inr (7, [.ref hs, .int tl, .int tk, .int tp, .int tb, .int tv, .int tp, .int tf])), (hs, .inl ((cs 1), 400, .inl gt))]) hD hS hA [0, 1] rfl
    refine va_callv (va_runV (As := []) (rest := []) ⟨hx, hb, hml, hown, hts⟩ (c_Text_pass l D cs X H.size ht hs tl tk tp tb tv tp tf gt r_tl r_tp r_tb) ⟨callB_of 0 hts (gd_C qq_2_131) rfl rfl rfl (hT _ qq_1_2) (hT _ qq_2_128) (by decide +kernel) (rm_R rfl rfl), (hT _ qq_2_129), (hT _ qq_2_130)⟩ (pr_V hPc hK hDc hN (hR.sub (wo' := []) [] rfl) hS hFc hX hXs (ci := 7) (q0 := 0) rfl rfl) rfl rfl hl.1 rfl (lv_room (Nat.le_of_ble_eq_true rfl)) dX9_takeNumber_31 ⟨Nat.le_of_ble_eq_true rfl, Nat.le_of_ble_eq_true rfl⟩) hS (fun q _ h => hFc q h) hFc (fun u_3 t_6 H1 locs ht9 hvm hw_4 hB_5 hz1 hk1 hS => ?_)
    obtain ⟨v_8, v_9, v_10, v_11, r_12, r_13, hP1, hD1⟩ := hB_5
    rw [ht9] at hP1
    obtain ⟨hP, hD⟩ := va_join (wr := []) (w1 := [(ht, .inr (7, [.ref hs, .int tl, .int v_8, .int v_9, .int v_10, .int v_11, .int tp, .int tf])), (hs, .inl ((cs 1), 400, .inl gt))]) hP hD [0, 1] [] rfl rfl (by decide) (by decide) hk1 hFc hP1 hD1
    generalize H1 = H at hP hS ⊢
    have hP : va_P D vwCl [(ht, .inr (7, [.ref hs, .int tl, .int v_8, .int v_9, .int v_10, .int v_11, .int tp, .int tf])), (hs, .inl ((cs 1), 400, .inl gt))] H := hP
    have hD : va_D A [(ht, .inr (7, [.ref hs, .int tl, .int v_8, .int v_9, .int v_10, .int v_11, .int tp, .int tf])), (hs, .inl ((cs 1), 400, .inl gt))] := hD
    refine lv_iload_n hx hb dX9_takeNumber_34 rfl (lv_at hl 0 rfl) ?_
    refine lv_iload_n hx hb dX9_takeNumber_35 rfl (lv_at hl 2 rfl) ?_
    refine lv_icmp_lt (tgt := 44) hx hb dX9_takeNumber_36 (by decide) (fun c_14 => ?_) (fun c_14 => ?_)
    · have r_15 : Rg (-2147483648) 0 tv := Rg.lt_l c_14 (Rg.top tv) (Rg.c (c := 1) (k := 1) rfl) (by decide)
      refine lv_aload_n hx hb dX9_takeNumber_44 rfl (lv_at hl 1 rfl) ?_
      have hPc := hP.sub (ws' := [(ht, .inr (7, [.ref hs, .int tl, .int v_8, .int v_9, .int v_10, .int v_11, .int tp, .int tf])), (hs, .inl ((cs 1), 400, .inl gt))]) [0, 1] rfl
      have hDc := hD.sub (ws' := [(ht, .inr (7, [.ref hs, .int tl, .int v_8, .int v_9, .int v_10, .int v_11, .int tp, .int tf])), (hs, .inl ((cs 1), 400, .inl gt))]) [0, 1] (by decide) rfl
      have hFc := va_free (wc := [(ht, .inr (7, [.ref hs, .int tl, .int v_8, .int v_9, .int v_10, .int v_11, .int tp, .int tf])), (hs, .inl ((cs 1), 400, .inl gt))]) hD hS hA [0, 1] rfl
      refine va_callv (va_runV (As := []) (rest := []) ⟨hx, hb, hml, hown, hts⟩ (c_Text_refuseNumber l D cs X H.size ht hs tl v_8 v_9 v_10 v_11 tp tf gt r_tp) ⟨callB_of 0 hts (gd_C qq_2_224) rfl rfl rfl (hT _ qq_1_2) (hT _ qq_2_221) (by decide +kernel) (rm_R rfl rfl), (hT _ qq_2_222), (hT _ qq_2_223)⟩ (pr_V hPc hK hDc hN (hR.sub (wo' := []) [] rfl) hS hFc hX hXs (ci := 7) (q0 := 0) rfl rfl) rfl rfl hl.1 rfl (lv_room (Nat.le_of_ble_eq_true rfl)) dX9_takeNumber_45 ⟨Nat.le_of_ble_eq_true rfl, Nat.le_of_ble_eq_true rfl⟩) hS (fun q _ h => hFc q h) hFc (fun u_17 t_20 H1 locs ht9 hvm hw_18 hB_19 hz1 hk1 hS => ?_)
      obtain ⟨v_22, rp_23, hP1, hD1⟩ := hB_19
      rw [ht9] at hP1
      obtain ⟨hP, hD⟩ := va_join (wr := []) (w1 := [(ht, .inr (7, [.ref hs, .int tl, .int v_8, .int v_9, .int v_10, .int v_11, .int tp, .int v_22])), (hs, .inl ((cs 1), 400, .inl gt))]) hP hD [0, 1] [] rfl rfl (by decide) (by decide) hk1 hFc hP1 hD1
      generalize H1 = H at hP hS ⊢
      have hP : va_P D vwCl [(ht, .inr (7, [.ref hs, .int tl, .int v_8, .int v_9, .int v_10, .int v_11, .int tp, .int v_22])), (hs, .inl ((cs 1), 400, .inl gt))] H := hP
      have hD : va_D A [(ht, .inr (7, [.ref hs, .int tl, .int v_8, .int v_9, .int v_10, .int v_11, .int tp, .int v_22])), (hs, .inl ((cs 1), 400, .inl gt))] := hD
      refine lv_iconst (v := (-1)) hx hb dX9_takeNumber_48 (by decide) ?_
      refine W.widen (k := 0) (n := 0) (Nat.le_of_ble_eq_true rfl) (Nat.le_of_ble_eq_true rfl) ?_
      have hP9 := hP.sub (ws' := [(ht, .inr (7, [.ref hs, .int tl, .int v_8, .int v_9, .int v_10, .int v_11, .int tp, .int v_22])), (hs, .inl ((cs 1), 400, .inl gt))]) [0, 1] rfl
      have hD9 := hD.sub (ws' := [(ht, .inr (7, [.ref hs, .int tl, .int v_8, .int v_9, .int v_10, .int v_11, .int tp, .int v_22])), (hs, .inl ((cs 1), 400, .inl gt))]) [0, 1] (by decide) rfl
      exact W.iret (v := (-1)) hx hb hr (fun t9 ht9 hW9 => ⟨⟨_, v_22, rfl, ⟨⟨by decide, by decide⟩, fun q9 => absurd q9 rp_23, fun _ => rp_23⟩, ⟨v_8, v_9, v_10, v_11, tp, r_12, r_13, r_tp, by rw [ht9]; exact hP9, hD9⟩⟩, hS.F ht9⟩) hS.2.2 dX9_takeNumber_49
    · have r_16 : Rg 1 2147483647 tv := Rg.le_r (nlt_le c_14) (Rg.c (c := 1) (k := 1) rfl) (Rg.top tv) (by decide)
      refine lv_iload_n hx hb dX9_takeNumber_39 rfl (lv_at hl 0 rfl) ?_
      refine lv_iload_n hx hb dX9_takeNumber_40 rfl (lv_at hl 3 rfl) ?_
      refine lv_icmp_le (tgt := 50) hx hb dX9_takeNumber_41 (by decide) (fun c_24 => ?_) (fun c_24 => ?_)
      · have r_25 : Rg 1 20 tv := Rg.le_l c_24 r_16 (Rg.c (c := 20) (k := 20) rfl) (by decide)
        refine lv_iload_n hx hb dX9_takeNumber_50 rfl (lv_at hl 0 rfl) ?_
        refine W.widen (k := 0) (n := 0) (Nat.le_of_ble_eq_true rfl) (Nat.le_of_ble_eq_true rfl) ?_
        have hP9 := hP.sub (ws' := [(ht, .inr (7, [.ref hs, .int tl, .int v_8, .int v_9, .int v_10, .int v_11, .int tp, .int tf])), (hs, .inl ((cs 1), 400, .inl gt))]) [0, 1] rfl
        have hD9 := hD.sub (ws' := [(ht, .inr (7, [.ref hs, .int tl, .int v_8, .int v_9, .int v_10, .int v_11, .int tp, .int tf])), (hs, .inl ((cs 1), 400, .inl gt))]) [0, 1] (by decide) rfl
        exact W.iret (v := tv) hx hb hr (fun t9 ht9 hW9 => ⟨⟨_, tf, rfl, ⟨(Rg.wk (lo2 := (-1)) (hi2 := 20) r_25 (by decide)), fun _ => Int.le_trans (by decide) (r_25).1, fun q9 => q9⟩, ⟨v_8, v_9, v_10, v_11, tp, r_12, r_13, r_tp, by rw [ht9]; exact hP9, hD9⟩⟩, hS.F ht9⟩) hS.2.2 dX9_takeNumber_51
      · have r_26 : Rg 21 2147483647 tv := Rg.lt_r (nle_lt c_24) (Rg.c (c := 20) (k := 20) rfl) r_16 (by decide)
        refine lv_aload_n hx hb dX9_takeNumber_44 rfl (lv_at hl 1 rfl) ?_
        have hPc := hP.sub (ws' := [(ht, .inr (7, [.ref hs, .int tl, .int v_8, .int v_9, .int v_10, .int v_11, .int tp, .int tf])), (hs, .inl ((cs 1), 400, .inl gt))]) [0, 1] rfl
        have hDc := hD.sub (ws' := [(ht, .inr (7, [.ref hs, .int tl, .int v_8, .int v_9, .int v_10, .int v_11, .int tp, .int tf])), (hs, .inl ((cs 1), 400, .inl gt))]) [0, 1] (by decide) rfl
        have hFc := va_free (wc := [(ht, .inr (7, [.ref hs, .int tl, .int v_8, .int v_9, .int v_10, .int v_11, .int tp, .int tf])), (hs, .inl ((cs 1), 400, .inl gt))]) hD hS hA [0, 1] rfl
        refine va_callv (va_runV (As := []) (rest := []) ⟨hx, hb, hml, hown, hts⟩ (c_Text_refuseNumber l D cs X H.size ht hs tl v_8 v_9 v_10 v_11 tp tf gt r_tp) ⟨callB_of 0 hts (gd_C qq_2_224) rfl rfl rfl (hT _ qq_1_2) (hT _ qq_2_221) (by decide +kernel) (rm_R rfl rfl), (hT _ qq_2_222), (hT _ qq_2_223)⟩ (pr_V hPc hK hDc hN (hR.sub (wo' := []) [] rfl) hS hFc hX hXs (ci := 7) (q0 := 0) rfl rfl) rfl rfl hl.1 rfl (lv_room (Nat.le_of_ble_eq_true rfl)) dX9_takeNumber_45 ⟨Nat.le_of_ble_eq_true rfl, Nat.le_of_ble_eq_true rfl⟩) hS (fun q _ h => hFc q h) hFc (fun u_27 t_30 H1 locs ht9 hvm hw_28 hB_29 hz1 hk1 hS => ?_)
        obtain ⟨v_32, rp_33, hP1, hD1⟩ := hB_29
        rw [ht9] at hP1
        obtain ⟨hP, hD⟩ := va_join (wr := []) (w1 := [(ht, .inr (7, [.ref hs, .int tl, .int v_8, .int v_9, .int v_10, .int v_11, .int tp, .int v_32])), (hs, .inl ((cs 1), 400, .inl gt))]) hP hD [0, 1] [] rfl rfl (by decide) (by decide) hk1 hFc hP1 hD1
        generalize H1 = H at hP hS ⊢
        have hP : va_P D vwCl [(ht, .inr (7, [.ref hs, .int tl, .int v_8, .int v_9, .int v_10, .int v_11, .int tp, .int v_32])), (hs, .inl ((cs 1), 400, .inl gt))] H := hP
        have hD : va_D A [(ht, .inr (7, [.ref hs, .int tl, .int v_8, .int v_9, .int v_10, .int v_11, .int tp, .int v_32])), (hs, .inl ((cs 1), 400, .inl gt))] := hD
        refine lv_iconst (v := (-1)) hx hb dX9_takeNumber_48 (by decide) ?_
        refine W.widen (k := 0) (n := 0) (Nat.le_of_ble_eq_true rfl) (Nat.le_of_ble_eq_true rfl) ?_
        have hP9 := hP.sub (ws' := [(ht, .inr (7, [.ref hs, .int tl, .int v_8, .int v_9, .int v_10, .int v_11, .int tp, .int v_32])), (hs, .inl ((cs 1), 400, .inl gt))]) [0, 1] rfl
        have hD9 := hD.sub (ws' := [(ht, .inr (7, [.ref hs, .int tl, .int v_8, .int v_9, .int v_10, .int v_11, .int tp, .int v_32])), (hs, .inl ((cs 1), 400, .inl gt))]) [0, 1] (by decide) rfl
        exact W.iret (v := (-1)) hx hb hr (fun t9 ht9 hW9 => ⟨⟨_, v_32, rfl, ⟨⟨by decide, by decide⟩, fun q9 => absurd q9 rp_33, fun _ => rp_33⟩, ⟨v_8, v_9, v_10, v_11, tp, r_12, r_13, r_tp, by rw [ht9]; exact hP9, hD9⟩⟩, hS.F ht9⟩) hS.2.2 dX9_takeNumber_49
  · refine lv_aload_n hx hb dX9_takeNumber_18 rfl (lv_at hl 0 rfl) ?_
    refine lv_iconst (v := 0) hx hb dX9_takeNumber_19 (by decide) ?_
    have hPc := hP.sub (ws' := [(ht, .inr (7, [.ref hs, .int tl, .int tk, .int tp, .int tb, .int tv, .int tp, .int tf])), (hs, .inl ((cs 1), 400, .inl gt))]) [0, 1] rfl
    have hDc := hD.sub (ws' := [(ht, .inr (7, [.ref hs, .int tl, .int tk, .int tp, .int tb, .int tv, .int tp, .int tf])), (hs, .inl ((cs 1), 400, .inl gt))]) [0, 1] (by decide) rfl
    have hFc := va_free (wc := [(ht, .inr (7, [.ref hs, .int tl, .int tk, .int tp, .int tb, .int tv, .int tp, .int tf])), (hs, .inl ((cs 1), 400, .inl gt))]) hD hS hA [0, 1] rfl
    refine va_callv (va_runV (As := [.int 0]) (rest := []) ⟨hx, hb, hml, hown, hts⟩ (c_Text_failHere l D cs X H.size ht hs tl tk tp tb tv tp tf gt 0 r_tp (Rg.wk (lo2 := 0) (hi2 := 4) (Rg.c (c := 0) (k := 0) rfl) (by decide))) ⟨callB_of 1 hts (gd_C qq_2_205) rfl rfl rfl (hT _ qq_1_2) (hT _ qq_2_220) (by decide +kernel) (rm_R rfl rfl), (hT _ qq_2_203), (hT _ qq_2_204)⟩ (pr_V hPc hK hDc hN (hR.sub (wo' := []) [] rfl) hS hFc hX hXs (ci := 7) (q0 := 0) rfl rfl) rfl rfl hl.1 rfl (lv_room (Nat.le_of_ble_eq_true rfl)) dX9_takeNumber_20 ⟨Nat.le_of_ble_eq_true rfl, Nat.le_of_ble_eq_true rfl⟩) hS (fun q _ h => hFc q h) hFc (fun u_34 t_37 H1 locs ht9 hvm hw_35 hB_36 hz1 hk1 hS => ?_)
    obtain ⟨v_39, rp_40, hP1, hD1⟩ := hB_36
    rw [ht9] at hP1
    obtain ⟨hP, hD⟩ := va_join (wr := []) (w1 := [(ht, .inr (7, [.ref hs, .int tl, .int tk, .int tp, .int tb, .int tv, .int tp, .int v_39])), (hs, .inl ((cs 1), 400, .inl gt))]) hP hD [0, 1] [] rfl rfl (by decide) (by decide) hk1 hFc hP1 hD1
    generalize H1 = H at hP hS ⊢
    have hP : va_P D vwCl [(ht, .inr (7, [.ref hs, .int tl, .int tk, .int tp, .int tb, .int tv, .int tp, .int v_39])), (hs, .inl ((cs 1), 400, .inl gt))] H := hP
    have hD : va_D A [(ht, .inr (7, [.ref hs, .int tl, .int tk, .int tp, .int tb, .int tv, .int tp, .int v_39])), (hs, .inl ((cs 1), 400, .inl gt))] := hD
    refine lv_iconst (v := (-1)) hx hb dX9_takeNumber_23 (by decide) ?_
    refine W.widen (k := 0) (n := 0) (Nat.le_of_ble_eq_true rfl) (Nat.le_of_ble_eq_true rfl) ?_
    have hP9 := hP.sub (ws' := [(ht, .inr (7, [.ref hs, .int tl, .int tk, .int tp, .int tb, .int tv, .int tp, .int v_39])), (hs, .inl ((cs 1), 400, .inl gt))]) [0, 1] rfl
    have hD9 := hD.sub (ws' := [(ht, .inr (7, [.ref hs, .int tl, .int tk, .int tp, .int tb, .int tv, .int tp, .int v_39])), (hs, .inl ((cs 1), 400, .inl gt))]) [0, 1] (by decide) rfl
    exact W.iret (v := (-1)) hx hb hr (fun t9 ht9 hW9 => ⟨⟨_, v_39, rfl, ⟨⟨by decide, by decide⟩, fun q9 => absurd q9 rp_40, fun _ => rp_40⟩, ⟨tk, tp, tb, tv, tp, r_tp, r_tb, r_tp, by rw [ht9]; exact hP9, hD9⟩⟩, hS.F ht9⟩) hS.2.2 dX9_takeNumber_24
set_option maxHeartbeats 4000000 in
set_option maxRecDepth 100000 in
theorem c_Text_takeNumber_0_99 (l : Launch) (D : va_G) (cs : Nat → ClassId) (X : XX) (sz : Nat) (ht : Nat) (hs : Nat) (tl : Int32) (tk : Int32) (tp : Int32) (tb : Int32) (tv : Int32) (tn : Int32) (tf : Int32) (gt : Nat → Int32) (r_tl : Rg 0 400 tl) (r_tp : Rg 0 400 tp) (r_tb : Rg 0 400 tb) : Met l yX9_takeNumber (Cond.code yX9_takeNumber cX9_takeNumber 4 (some .int) :: TB) (RM 2 0 0) (va_Pc [.ref ht, .int 0, .int 99] (PRE D cs X [(ht, .inr (7, [.ref hs, .int tl, .int tk, .int tp, .int tb, .int tv, .int tn, .int tf])), (hs, .inl ((cs 1), 400, .inl gt))] [] sz)) (va_Qi (S := Int32) (fun r tf2 => Rg (-1) 99 r ∧ (tf2 = 0 → 0 ≤ Int32.toInt r) ∧ (¬ tf = 0 → ¬ tf2 = 0)) (fun tf2 t => ∃ (tk2 : Int32), ∃ (tp2 : Int32), ∃ (tb2 : Int32), ∃ (tv2 : Int32), ∃ (tn2 : Int32), Rg 0 400 tp2 ∧ Rg 0 400 tb2 ∧ Rg 0 400 tn2 ∧ va_P D vwCl [(ht, .inr (7, [.ref hs, .int tl, .int tk2, .int tp2, .int tb2, .int tv2, .int tn2, .int tf2])), (hs, .inl ((cs 1), 400, .inl gt))] t.heap ∧ va_D (va_A [(ht, .inr (7, [.ref hs, .int tl, .int tk, .int tp, .int tb, .int tv, .int tn, .int tf])), (hs, .inl ((cs 1), 400, .inl gt))] sz) [(ht, .inr (7, [.ref hs, .int tl, .int tk2, .int tp2, .int tb2, .int tv2, .int tn2, .int tf2])), (hs, .inl ((cs 1), 400, .inl gt))]) (va_A [(ht, .inr (7, [.ref hs, .int tl, .int tk, .int tp, .int tb, .int tv, .int tn, .int tf])), (hs, .inl ((cs 1), 400, .inl gt))] sz)) 0 0 (va_A [(ht, .inr (7, [.ref hs, .int tl, .int tk, .int tp, .int tb, .int tv, .int tn, .int tf])), (hs, .inl ((cs 1), 400, .inl gt))] sz) := by
  refine MET (y := yX9_takeNumber) (cc := cX9_takeNumber) (maxL := 4) (ret := (some .int)) (d := 2) (mc := 0) (ms := 0) (D := D) (cs := cs) (X := X) (ws := [(ht, .inr (7, [.ref hs, .int tl, .int tk, .int tp, .int tb, .int tv, .int tn, .int tf])), (hs, .inl ((cs 1), 400, .inl gt))]) (wo := []) (sz := sz) (av := [.ref ht, .int 0, .int 99]) (Qc := fun A => va_Qi (S := Int32) (fun r tf2 => Rg (-1) 99 r ∧ (tf2 = 0 → 0 ≤ Int32.toInt r) ∧ (¬ tf = 0 → ¬ tf2 = 0)) (fun tf2 t => ∃ (tk2 : Int32), ∃ (tp2 : Int32), ∃ (tb2 : Int32), ∃ (tv2 : Int32), ∃ (tn2 : Int32), Rg 0 400 tp2 ∧ Rg 0 400 tb2 ∧ Rg 0 400 tn2 ∧ va_P D vwCl [(ht, .inr (7, [.ref hs, .int tl, .int tk2, .int tp2, .int tb2, .int tv2, .int tn2, .int tf2])), (hs, .inl ((cs 1), 400, .inl gt))] t.heap ∧ va_D A [(ht, .inr (7, [.ref hs, .int tl, .int tk2, .int tp2, .int tb2, .int tv2, .int tn2, .int tf2])), (hs, .inl ((cs 1), 400, .inl gt))]) A) (by decide) (Nat.le_of_ble_eq_true rfl) ?_
  intro p e s m below meth c ls A H hHe hx hb hr hml hown hts hlocks hnm hP hK hD hA hS hN hR hX hXs hl
  have hD : va_D A [(ht, .inr (7, [.ref hs, .int tl, .int tk, .int tp, .int tb, .int tv, .int tn, .int tf])), (hs, .inl ((cs 1), 400, .inl gt))] := hD
  obtain ⟨locs, hlc⟩ : ∃ z : List Loc, z = [] := ⟨_, rfl⟩
  rw [← hlc] at hS ⊢
  have hown : s.vm.findClass "WrongHole$Text" = some m.cls := hown
  have hT : ∀ w ∈ TB, w.before ([.ref ht, .int 0, .int 99] : List Value).toArray s = true := fun w h => hts w (List.mem_cons_of_mem _ h)
  have hl : lv_has ls 4 [(0, .ref ht), (1, .int 0), (2, .int 99)] := hl
  have hP : va_P D vwCl [(ht, .inr (7, [.ref hs, .int tl, .int tk, .int tp, .int tb, .int tv, .int tn, .int tf])), (hs, .inl ((cs 1), 400, .inl gt))] H := hP
  refine lv_aload_n hx hb dX9_takeNumber_0 rfl (lv_at hl 0 rfl) ?_
  refine lv_aload_n hx hb dX9_takeNumber_1 rfl (lv_at hl 0 rfl) ?_
  refine va_get (D := D) (ci := 7) (v := .int tp) (C := "WrongHole$Text") (T := TX9) (N := 8) hx hb hts (iq_RX9 _) hown hK hP 0 rfl rfl 3 (by decide) (hT _ qq_1_42) (fun _ h9 => h9) rfl dX9_takeNumber_2 ?_
  refine va_put (D := D) (ci := 7) (v := .int tp) (ty := .int) (C := "WrongHole$Text") (T := TX9) (N := 8) hx hb hts (iq_RX9 _) tyX9 tyX9_ok nmX9 hown hK hP hD hS 0 rfl rfl 6 (by decide) (hT _ qq_1_46) (fun _ h9 => h9) rfl (by decide +kernel) rfl rfl (Nat.le_of_ble_eq_true rfl) dX9_takeNumber_5 (fun H locs hP hD hS => ?_)
  have hP : va_P D vwCl [(ht, .inr (7, [.ref hs, .int tl, .int tk, .int tp, .int tb, .int tv, .int tp, .int tf])), (hs, .inl ((cs 1), 400, .inl gt))] H := hP
  have hD : va_D A [(ht, .inr (7, [.ref hs, .int tl, .int tk, .int tp, .int tb, .int tv, .int tp, .int tf])), (hs, .inl ((cs 1), 400, .inl gt))] := hD
  refine lv_aload_n hx hb dX9_takeNumber_8 rfl (lv_at hl 0 rfl) ?_
  refine va_get (D := D) (ci := 7) (v := .int tk) (C := "WrongHole$Text") (T := TX9) (N := 8) hx hb hts (iq_RX9 _) hown hK hP 0 rfl rfl 2 (by decide) (hT _ qq_1_41) (fun _ h9 => h9) rfl dX9_takeNumber_9 ?_
  refine lv_sipush (v := 256) hx hb dX9_takeNumber_12 (by decide) ?_
  refine lv_icmp_eq (tgt := 25) hx hb dX9_takeNumber_15 (by decide) (fun c_1 => ?_) (fun c_1 => ?_)
  · have r_2 : Rg 256 256 tk := Rg.eq_l c_1 (Rg.top tk) (Rg.c (c := 256) (k := 256) rfl) (by decide)
    refine lv_aload_n hx hb dX9_takeNumber_25 rfl (lv_at hl 0 rfl) ?_
    refine va_get (D := D) (ci := 7) (v := .int tv) (C := "WrongHole$Text") (T := TX9) (N := 8) hx hb hts (iq_RX9 _) hown hK hP 0 rfl rfl 5 (by decide) (hT _ qq_1_45) (fun _ h9 => h9) rfl dX9_takeNumber_26 ?_
    refine lv_istore_n (lv' := [(3, .int tv), (0, .ref ht), (1, .int 0), (2, .int 99)]) hx hb dX9_takeNumber_29 rfl hl (by decide) rfl (fun ls hl => ?_)
    refine lv_aload_n hx hb dX9_takeNumber_30 rfl (lv_at hl 1 rfl) ?_
    have hPc := hP.sub (ws' := [(ht, .inr (7, [.ref hs, .int tl, .int tk, .int tp, .int tb, .int tv, .int tp, .int tf])), (hs, .inl ((cs 1), 400, .inl gt))]) [0, 1] rfl
    have hDc := hD.sub (ws' := [(ht, .inr (7, [.ref hs, .int tl, .int tk, .int tp, .int tb, .int tv, .int tp, .int tf])), (hs, .inl ((cs 1), 400, .inl gt))]) [0, 1] (by decide) rfl
    have hFc := va_free (wc := [(ht, .inr (7, [.ref hs, .int tl, .int tk, .int tp, .int tb, .int tv, .int tp, .int tf])), (hs, .inl ((cs 1), 400, .inl gt))]) hD hS hA [0, 1] rfl
    refine va_callv (va_runV (As := []) (rest := []) ⟨hx, hb, hml, hown, hts⟩ (c_Text_pass l D cs X H.size ht hs tl tk tp tb tv tp tf gt r_tl r_tp r_tb) ⟨callB_of 0 hts (gd_C qq_2_131) rfl rfl rfl (hT _ qq_1_2) (hT _ qq_2_128) (by decide +kernel) (rm_R rfl rfl), (hT _ qq_2_129), (hT _ qq_2_130)⟩ (pr_V hPc hK hDc hN (hR.sub (wo' := []) [] rfl) hS hFc hX hXs (ci := 7) (q0 := 0) rfl rfl) rfl rfl hl.1 rfl (lv_room (Nat.le_of_ble_eq_true rfl)) dX9_takeNumber_31 ⟨Nat.le_of_ble_eq_true rfl, Nat.le_of_ble_eq_true rfl⟩) hS (fun q _ h => hFc q h) hFc (fun u_3 t_6 H1 locs ht9 hvm hw_4 hB_5 hz1 hk1 hS => ?_)
    obtain ⟨v_8, v_9, v_10, v_11, r_12, r_13, hP1, hD1⟩ := hB_5
    rw [ht9] at hP1
    obtain ⟨hP, hD⟩ := va_join (wr := []) (w1 := [(ht, .inr (7, [.ref hs, .int tl, .int v_8, .int v_9, .int v_10, .int v_11, .int tp, .int tf])), (hs, .inl ((cs 1), 400, .inl gt))]) hP hD [0, 1] [] rfl rfl (by decide) (by decide) hk1 hFc hP1 hD1
    generalize H1 = H at hP hS ⊢
    have hP : va_P D vwCl [(ht, .inr (7, [.ref hs, .int tl, .int v_8, .int v_9, .int v_10, .int v_11, .int tp, .int tf])), (hs, .inl ((cs 1), 400, .inl gt))] H := hP
    have hD : va_D A [(ht, .inr (7, [.ref hs, .int tl, .int v_8, .int v_9, .int v_10, .int v_11, .int tp, .int tf])), (hs, .inl ((cs 1), 400, .inl gt))] := hD
    refine lv_iload_n hx hb dX9_takeNumber_34 rfl (lv_at hl 0 rfl) ?_
    refine lv_iload_n hx hb dX9_takeNumber_35 rfl (lv_at hl 2 rfl) ?_
    refine lv_icmp_lt (tgt := 44) hx hb dX9_takeNumber_36 (by decide) (fun c_14 => ?_) (fun c_14 => ?_)
    · have r_15 : Rg (-2147483648) (-1) tv := Rg.lt_l c_14 (Rg.top tv) (Rg.c (c := 0) (k := 0) rfl) (by decide)
      refine lv_aload_n hx hb dX9_takeNumber_44 rfl (lv_at hl 1 rfl) ?_
      have hPc := hP.sub (ws' := [(ht, .inr (7, [.ref hs, .int tl, .int v_8, .int v_9, .int v_10, .int v_11, .int tp, .int tf])), (hs, .inl ((cs 1), 400, .inl gt))]) [0, 1] rfl
      have hDc := hD.sub (ws' := [(ht, .inr (7, [.ref hs, .int tl, .int v_8, .int v_9, .int v_10, .int v_11, .int tp, .int tf])), (hs, .inl ((cs 1), 400, .inl gt))]) [0, 1] (by decide) rfl
      have hFc := va_free (wc := [(ht, .inr (7, [.ref hs, .int tl, .int v_8, .int v_9, .int v_10, .int v_11, .int tp, .int tf])), (hs, .inl ((cs 1), 400, .inl gt))]) hD hS hA [0, 1] rfl
      refine va_callv (va_runV (As := []) (rest := []) ⟨hx, hb, hml, hown, hts⟩ (c_Text_refuseNumber l D cs X H.size ht hs tl v_8 v_9 v_10 v_11 tp tf gt r_tp) ⟨callB_of 0 hts (gd_C qq_2_224) rfl rfl rfl (hT _ qq_1_2) (hT _ qq_2_221) (by decide +kernel) (rm_R rfl rfl), (hT _ qq_2_222), (hT _ qq_2_223)⟩ (pr_V hPc hK hDc hN (hR.sub (wo' := []) [] rfl) hS hFc hX hXs (ci := 7) (q0 := 0) rfl rfl) rfl rfl hl.1 rfl (lv_room (Nat.le_of_ble_eq_true rfl)) dX9_takeNumber_45 ⟨Nat.le_of_ble_eq_true rfl, Nat.le_of_ble_eq_true rfl⟩) hS (fun q _ h => hFc q h) hFc (fun u_17 t_20 H1 locs ht9 hvm hw_18 hB_19 hz1 hk1 hS => ?_)
      obtain ⟨v_22, rp_23, hP1, hD1⟩ := hB_19
      rw [ht9] at hP1
      obtain ⟨hP, hD⟩ := va_join (wr := []) (w1 := [(ht, .inr (7, [.ref hs, .int tl, .int v_8, .int v_9, .int v_10, .int v_11, .int tp, .int v_22])), (hs, .inl ((cs 1), 400, .inl gt))]) hP hD [0, 1] [] rfl rfl (by decide) (by decide) hk1 hFc hP1 hD1
      generalize H1 = H at hP hS ⊢
      have hP : va_P D vwCl [(ht, .inr (7, [.ref hs, .int tl, .int v_8, .int v_9, .int v_10, .int v_11, .int tp, .int v_22])), (hs, .inl ((cs 1), 400, .inl gt))] H := hP
      have hD : va_D A [(ht, .inr (7, [.ref hs, .int tl, .int v_8, .int v_9, .int v_10, .int v_11, .int tp, .int v_22])), (hs, .inl ((cs 1), 400, .inl gt))] := hD
      refine lv_iconst (v := (-1)) hx hb dX9_takeNumber_48 (by decide) ?_
      refine W.widen (k := 0) (n := 0) (Nat.le_of_ble_eq_true rfl) (Nat.le_of_ble_eq_true rfl) ?_
      have hP9 := hP.sub (ws' := [(ht, .inr (7, [.ref hs, .int tl, .int v_8, .int v_9, .int v_10, .int v_11, .int tp, .int v_22])), (hs, .inl ((cs 1), 400, .inl gt))]) [0, 1] rfl
      have hD9 := hD.sub (ws' := [(ht, .inr (7, [.ref hs, .int tl, .int v_8, .int v_9, .int v_10, .int v_11, .int tp, .int v_22])), (hs, .inl ((cs 1), 400, .inl gt))]) [0, 1] (by decide) rfl
      exact W.iret (v := (-1)) hx hb hr (fun t9 ht9 hW9 => ⟨⟨_, v_22, rfl, ⟨⟨by decide, by decide⟩, fun q9 => absurd q9 rp_23, fun _ => rp_23⟩, ⟨v_8, v_9, v_10, v_11, tp, r_12, r_13, r_tp, by rw [ht9]; exact hP9, hD9⟩⟩, hS.F ht9⟩) hS.2.2 dX9_takeNumber_49
    · have r_16 : Rg 0 2147483647 tv := Rg.le_r (nlt_le c_14) (Rg.c (c := 0) (k := 0) rfl) (Rg.top tv) (by decide)
      refine lv_iload_n hx hb dX9_takeNumber_39 rfl (lv_at hl 0 rfl) ?_
      refine lv_iload_n hx hb dX9_takeNumber_40 rfl (lv_at hl 3 rfl) ?_
      refine lv_icmp_le (tgt := 50) hx hb dX9_takeNumber_41 (by decide) (fun c_24 => ?_) (fun c_24 => ?_)
      · have r_25 : Rg 0 99 tv := Rg.le_l c_24 r_16 (Rg.c (c := 99) (k := 99) rfl) (by decide)
        refine lv_iload_n hx hb dX9_takeNumber_50 rfl (lv_at hl 0 rfl) ?_
        refine W.widen (k := 0) (n := 0) (Nat.le_of_ble_eq_true rfl) (Nat.le_of_ble_eq_true rfl) ?_
        have hP9 := hP.sub (ws' := [(ht, .inr (7, [.ref hs, .int tl, .int v_8, .int v_9, .int v_10, .int v_11, .int tp, .int tf])), (hs, .inl ((cs 1), 400, .inl gt))]) [0, 1] rfl
        have hD9 := hD.sub (ws' := [(ht, .inr (7, [.ref hs, .int tl, .int v_8, .int v_9, .int v_10, .int v_11, .int tp, .int tf])), (hs, .inl ((cs 1), 400, .inl gt))]) [0, 1] (by decide) rfl
        exact W.iret (v := tv) hx hb hr (fun t9 ht9 hW9 => ⟨⟨_, tf, rfl, ⟨(Rg.wk (lo2 := (-1)) (hi2 := 99) r_25 (by decide)), fun _ => Int.le_trans (by decide) (r_25).1, fun q9 => q9⟩, ⟨v_8, v_9, v_10, v_11, tp, r_12, r_13, r_tp, by rw [ht9]; exact hP9, hD9⟩⟩, hS.F ht9⟩) hS.2.2 dX9_takeNumber_51
      · have r_26 : Rg 100 2147483647 tv := Rg.lt_r (nle_lt c_24) (Rg.c (c := 99) (k := 99) rfl) r_16 (by decide)
        refine lv_aload_n hx hb dX9_takeNumber_44 rfl (lv_at hl 1 rfl) ?_
        have hPc := hP.sub (ws' := [(ht, .inr (7, [.ref hs, .int tl, .int v_8, .int v_9, .int v_10, .int v_11, .int tp, .int tf])), (hs, .inl ((cs 1), 400, .inl gt))]) [0, 1] rfl
        have hDc := hD.sub (ws' := [(ht, .inr (7, [.ref hs, .int tl, .int v_8, .int v_9, .int v_10, .int v_11, .int tp, .int tf])), (hs, .inl ((cs 1), 400, .inl gt))]) [0, 1] (by decide) rfl
        have hFc := va_free (wc := [(ht, .inr (7, [.ref hs, .int tl, .int v_8, .int v_9, .int v_10, .int v_11, .int tp, .int tf])), (hs, .inl ((cs 1), 400, .inl gt))]) hD hS hA [0, 1] rfl
        refine va_callv (va_runV (As := []) (rest := []) ⟨hx, hb, hml, hown, hts⟩ (c_Text_refuseNumber l D cs X H.size ht hs tl v_8 v_9 v_10 v_11 tp tf gt r_tp) ⟨callB_of 0 hts (gd_C qq_2_224) rfl rfl rfl (hT _ qq_1_2) (hT _ qq_2_221) (by decide +kernel) (rm_R rfl rfl), (hT _ qq_2_222), (hT _ qq_2_223)⟩ (pr_V hPc hK hDc hN (hR.sub (wo' := []) [] rfl) hS hFc hX hXs (ci := 7) (q0 := 0) rfl rfl) rfl rfl hl.1 rfl (lv_room (Nat.le_of_ble_eq_true rfl)) dX9_takeNumber_45 ⟨Nat.le_of_ble_eq_true rfl, Nat.le_of_ble_eq_true rfl⟩) hS (fun q _ h => hFc q h) hFc (fun u_27 t_30 H1 locs ht9 hvm hw_28 hB_29 hz1 hk1 hS => ?_)
        obtain ⟨v_32, rp_33, hP1, hD1⟩ := hB_29
        rw [ht9] at hP1
        obtain ⟨hP, hD⟩ := va_join (wr := []) (w1 := [(ht, .inr (7, [.ref hs, .int tl, .int v_8, .int v_9, .int v_10, .int v_11, .int tp, .int v_32])), (hs, .inl ((cs 1), 400, .inl gt))]) hP hD [0, 1] [] rfl rfl (by decide) (by decide) hk1 hFc hP1 hD1
        generalize H1 = H at hP hS ⊢
        have hP : va_P D vwCl [(ht, .inr (7, [.ref hs, .int tl, .int v_8, .int v_9, .int v_10, .int v_11, .int tp, .int v_32])), (hs, .inl ((cs 1), 400, .inl gt))] H := hP
        have hD : va_D A [(ht, .inr (7, [.ref hs, .int tl, .int v_8, .int v_9, .int v_10, .int v_11, .int tp, .int v_32])), (hs, .inl ((cs 1), 400, .inl gt))] := hD
        refine lv_iconst (v := (-1)) hx hb dX9_takeNumber_48 (by decide) ?_
        refine W.widen (k := 0) (n := 0) (Nat.le_of_ble_eq_true rfl) (Nat.le_of_ble_eq_true rfl) ?_
        have hP9 := hP.sub (ws' := [(ht, .inr (7, [.ref hs, .int tl, .int v_8, .int v_9, .int v_10, .int v_11, .int tp, .int v_32])), (hs, .inl ((cs 1), 400, .inl gt))]) [0, 1] rfl
        have hD9 := hD.sub (ws' := [(ht, .inr (7, [.ref hs, .int tl, .int v_8, .int v_9, .int v_10, .int v_11, .int tp, .int v_32])), (hs, .inl ((cs 1), 400, .inl gt))]) [0, 1] (by decide) rfl
        exact W.iret (v := (-1)) hx hb hr (fun t9 ht9 hW9 => ⟨⟨_, v_32, rfl, ⟨⟨by decide, by decide⟩, fun q9 => absurd q9 rp_33, fun _ => rp_33⟩, ⟨v_8, v_9, v_10, v_11, tp, r_12, r_13, r_tp, by rw [ht9]; exact hP9, hD9⟩⟩, hS.F ht9⟩) hS.2.2 dX9_takeNumber_49
  · refine lv_aload_n hx hb dX9_takeNumber_18 rfl (lv_at hl 0 rfl) ?_
    refine lv_iconst (v := 0) hx hb dX9_takeNumber_19 (by decide) ?_
    have hPc := hP.sub (ws' := [(ht, .inr (7, [.ref hs, .int tl, .int tk, .int tp, .int tb, .int tv, .int tp, .int tf])), (hs, .inl ((cs 1), 400, .inl gt))]) [0, 1] rfl
    have hDc := hD.sub (ws' := [(ht, .inr (7, [.ref hs, .int tl, .int tk, .int tp, .int tb, .int tv, .int tp, .int tf])), (hs, .inl ((cs 1), 400, .inl gt))]) [0, 1] (by decide) rfl
    have hFc := va_free (wc := [(ht, .inr (7, [.ref hs, .int tl, .int tk, .int tp, .int tb, .int tv, .int tp, .int tf])), (hs, .inl ((cs 1), 400, .inl gt))]) hD hS hA [0, 1] rfl
    refine va_callv (va_runV (As := [.int 0]) (rest := []) ⟨hx, hb, hml, hown, hts⟩ (c_Text_failHere l D cs X H.size ht hs tl tk tp tb tv tp tf gt 0 r_tp (Rg.wk (lo2 := 0) (hi2 := 4) (Rg.c (c := 0) (k := 0) rfl) (by decide))) ⟨callB_of 1 hts (gd_C qq_2_205) rfl rfl rfl (hT _ qq_1_2) (hT _ qq_2_220) (by decide +kernel) (rm_R rfl rfl), (hT _ qq_2_203), (hT _ qq_2_204)⟩ (pr_V hPc hK hDc hN (hR.sub (wo' := []) [] rfl) hS hFc hX hXs (ci := 7) (q0 := 0) rfl rfl) rfl rfl hl.1 rfl (lv_room (Nat.le_of_ble_eq_true rfl)) dX9_takeNumber_20 ⟨Nat.le_of_ble_eq_true rfl, Nat.le_of_ble_eq_true rfl⟩) hS (fun q _ h => hFc q h) hFc (fun u_34 t_37 H1 locs ht9 hvm hw_35 hB_36 hz1 hk1 hS => ?_)
    obtain ⟨v_39, rp_40, hP1, hD1⟩ := hB_36
    rw [ht9] at hP1
    obtain ⟨hP, hD⟩ := va_join (wr := []) (w1 := [(ht, .inr (7, [.ref hs, .int tl, .int tk, .int tp, .int tb, .int tv, .int tp, .int v_39])), (hs, .inl ((cs 1), 400, .inl gt))]) hP hD [0, 1] [] rfl rfl (by decide) (by decide) hk1 hFc hP1 hD1
    generalize H1 = H at hP hS ⊢
    have hP : va_P D vwCl [(ht, .inr (7, [.ref hs, .int tl, .int tk, .int tp, .int tb, .int tv, .int tp, .int v_39])), (hs, .inl ((cs 1), 400, .inl gt))] H := hP
    have hD : va_D A [(ht, .inr (7, [.ref hs, .int tl, .int tk, .int tp, .int tb, .int tv, .int tp, .int v_39])), (hs, .inl ((cs 1), 400, .inl gt))] := hD
    refine lv_iconst (v := (-1)) hx hb dX9_takeNumber_23 (by decide) ?_
    refine W.widen (k := 0) (n := 0) (Nat.le_of_ble_eq_true rfl) (Nat.le_of_ble_eq_true rfl) ?_
    have hP9 := hP.sub (ws' := [(ht, .inr (7, [.ref hs, .int tl, .int tk, .int tp, .int tb, .int tv, .int tp, .int v_39])), (hs, .inl ((cs 1), 400, .inl gt))]) [0, 1] rfl
    have hD9 := hD.sub (ws' := [(ht, .inr (7, [.ref hs, .int tl, .int tk, .int tp, .int tb, .int tv, .int tp, .int v_39])), (hs, .inl ((cs 1), 400, .inl gt))]) [0, 1] (by decide) rfl
    exact W.iret (v := (-1)) hx hb hr (fun t9 ht9 hW9 => ⟨⟨_, v_39, rfl, ⟨⟨by decide, by decide⟩, fun q9 => absurd q9 rp_40, fun _ => rp_40⟩, ⟨tk, tp, tb, tv, tp, r_tp, r_tb, r_tp, by rw [ht9]; exact hP9, hD9⟩⟩, hS.F ht9⟩) hS.2.2 dX9_takeNumber_24
set_option maxHeartbeats 4000000 in
set_option maxRecDepth 100000 in
theorem c_Text_takeNumber_0_999 (l : Launch) (D : va_G) (cs : Nat → ClassId) (X : XX) (sz : Nat) (ht : Nat) (hs : Nat) (tl : Int32) (tk : Int32) (tp : Int32) (tb : Int32) (tv : Int32) (tn : Int32) (tf : Int32) (gt : Nat → Int32) (r_tl : Rg 0 400 tl) (r_tp : Rg 0 400 tp) (r_tb : Rg 0 400 tb) : Met l yX9_takeNumber (Cond.code yX9_takeNumber cX9_takeNumber 4 (some .int) :: TB) (RM 2 0 0) (va_Pc [.ref ht, .int 0, .int 999] (PRE D cs X [(ht, .inr (7, [.ref hs, .int tl, .int tk, .int tp, .int tb, .int tv, .int tn, .int tf])), (hs, .inl ((cs 1), 400, .inl gt))] [] sz)) (va_Qi (S := Int32) (fun r tf2 => Rg (-1) 999 r ∧ (tf2 = 0 → 0 ≤ Int32.toInt r) ∧ (¬ tf = 0 → ¬ tf2 = 0)) (fun tf2 t => ∃ (tk2 : Int32), ∃ (tp2 : Int32), ∃ (tb2 : Int32), ∃ (tv2 : Int32), ∃ (tn2 : Int32), Rg 0 400 tp2 ∧ Rg 0 400 tb2 ∧ Rg 0 400 tn2 ∧ va_P D vwCl [(ht, .inr (7, [.ref hs, .int tl, .int tk2, .int tp2, .int tb2, .int tv2, .int tn2, .int tf2])), (hs, .inl ((cs 1), 400, .inl gt))] t.heap ∧ va_D (va_A [(ht, .inr (7, [.ref hs, .int tl, .int tk, .int tp, .int tb, .int tv, .int tn, .int tf])), (hs, .inl ((cs 1), 400, .inl gt))] sz) [(ht, .inr (7, [.ref hs, .int tl, .int tk2, .int tp2, .int tb2, .int tv2, .int tn2, .int tf2])), (hs, .inl ((cs 1), 400, .inl gt))]) (va_A [(ht, .inr (7, [.ref hs, .int tl, .int tk, .int tp, .int tb, .int tv, .int tn, .int tf])), (hs, .inl ((cs 1), 400, .inl gt))] sz)) 0 0 (va_A [(ht, .inr (7, [.ref hs, .int tl, .int tk, .int tp, .int tb, .int tv, .int tn, .int tf])), (hs, .inl ((cs 1), 400, .inl gt))] sz) := by
  refine MET (y := yX9_takeNumber) (cc := cX9_takeNumber) (maxL := 4) (ret := (some .int)) (d := 2) (mc := 0) (ms := 0) (D := D) (cs := cs) (X := X) (ws := [(ht, .inr (7, [.ref hs, .int tl, .int tk, .int tp, .int tb, .int tv, .int tn, .int tf])), (hs, .inl ((cs 1), 400, .inl gt))]) (wo := []) (sz := sz) (av := [.ref ht, .int 0, .int 999]) (Qc := fun A => va_Qi (S := Int32) (fun r tf2 => Rg (-1) 999 r ∧ (tf2 = 0 → 0 ≤ Int32.toInt r) ∧ (¬ tf = 0 → ¬ tf2 = 0)) (fun tf2 t => ∃ (tk2 : Int32), ∃ (tp2 : Int32), ∃ (tb2 : Int32), ∃ (tv2 : Int32), ∃ (tn2 : Int32), Rg 0 400 tp2 ∧ Rg 0 400 tb2 ∧ Rg 0 400 tn2 ∧ va_P D vwCl [(ht, .inr (7, [.ref hs, .int tl, .int tk2, .int tp2, .int tb2, .int tv2, .int tn2, .int tf2])), (hs, .inl ((cs 1), 400, .inl gt))] t.heap ∧ va_D A [(ht, .inr (7, [.ref hs, .int tl, .int tk2, .int tp2, .int tb2, .int tv2, .int tn2, .int tf2])), (hs, .inl ((cs 1), 400, .inl gt))]) A) (by decide) (Nat.le_of_ble_eq_true rfl) ?_
  intro p e s m below meth c ls A H hHe hx hb hr hml hown hts hlocks hnm hP hK hD hA hS hN hR hX hXs hl
  have hD : va_D A [(ht, .inr (7, [.ref hs, .int tl, .int tk, .int tp, .int tb, .int tv, .int tn, .int tf])), (hs, .inl ((cs 1), 400, .inl gt))] := hD
  obtain ⟨locs, hlc⟩ : ∃ z : List Loc, z = [] := ⟨_, rfl⟩
  rw [← hlc] at hS ⊢
  have hown : s.vm.findClass "WrongHole$Text" = some m.cls := hown
  have hT : ∀ w ∈ TB, w.before ([.ref ht, .int 0, .int 999] : List Value).toArray s = true := fun w h => hts w (List.mem_cons_of_mem _ h)
  have hl : lv_has ls 4 [(0, .ref ht), (1, .int 0), (2, .int 999)] := hl
  have hP : va_P D vwCl [(ht, .inr (7, [.ref hs, .int tl, .int tk, .int tp, .int tb, .int tv, .int tn, .int tf])), (hs, .inl ((cs 1), 400, .inl gt))] H := hP
  refine lv_aload_n hx hb dX9_takeNumber_0 rfl (lv_at hl 0 rfl) ?_
  refine lv_aload_n hx hb dX9_takeNumber_1 rfl (lv_at hl 0 rfl) ?_
  refine va_get (D := D) (ci := 7) (v := .int tp) (C := "WrongHole$Text") (T := TX9) (N := 8) hx hb hts (iq_RX9 _) hown hK hP 0 rfl rfl 3 (by decide) (hT _ qq_1_42) (fun _ h9 => h9) rfl dX9_takeNumber_2 ?_
  refine va_put (D := D) (ci := 7) (v := .int tp) (ty := .int) (C := "WrongHole$Text") (T := TX9) (N := 8) hx hb hts (iq_RX9 _) tyX9 tyX9_ok nmX9 hown hK hP hD hS 0 rfl rfl 6 (by decide) (hT _ qq_1_46) (fun _ h9 => h9) rfl (by decide +kernel) rfl rfl (Nat.le_of_ble_eq_true rfl) dX9_takeNumber_5 (fun H locs hP hD hS => ?_)
  have hP : va_P D vwCl [(ht, .inr (7, [.ref hs, .int tl, .int tk, .int tp, .int tb, .int tv, .int tp, .int tf])), (hs, .inl ((cs 1), 400, .inl gt))] H := hP
  have hD : va_D A [(ht, .inr (7, [.ref hs, .int tl, .int tk, .int tp, .int tb, .int tv, .int tp, .int tf])), (hs, .inl ((cs 1), 400, .inl gt))] := hD
  refine lv_aload_n hx hb dX9_takeNumber_8 rfl (lv_at hl 0 rfl) ?_
  refine va_get (D := D) (ci := 7) (v := .int tk) (C := "WrongHole$Text") (T := TX9) (N := 8) hx hb hts (iq_RX9 _) hown hK hP 0 rfl rfl 2 (by decide) (hT _ qq_1_41) (fun _ h9 => h9) rfl dX9_takeNumber_9 ?_
  refine lv_sipush (v := 256) hx hb dX9_takeNumber_12 (by decide) ?_
  refine lv_icmp_eq (tgt := 25) hx hb dX9_takeNumber_15 (by decide) (fun c_1 => ?_) (fun c_1 => ?_)
  · have r_2 : Rg 256 256 tk := Rg.eq_l c_1 (Rg.top tk) (Rg.c (c := 256) (k := 256) rfl) (by decide)
    refine lv_aload_n hx hb dX9_takeNumber_25 rfl (lv_at hl 0 rfl) ?_
    refine va_get (D := D) (ci := 7) (v := .int tv) (C := "WrongHole$Text") (T := TX9) (N := 8) hx hb hts (iq_RX9 _) hown hK hP 0 rfl rfl 5 (by decide) (hT _ qq_1_45) (fun _ h9 => h9) rfl dX9_takeNumber_26 ?_
    refine lv_istore_n (lv' := [(3, .int tv), (0, .ref ht), (1, .int 0), (2, .int 999)]) hx hb dX9_takeNumber_29 rfl hl (by decide) rfl (fun ls hl => ?_)
    refine lv_aload_n hx hb dX9_takeNumber_30 rfl (lv_at hl 1 rfl) ?_
    have hPc := hP.sub (ws' := [(ht, .inr (7, [.ref hs, .int tl, .int tk, .int tp, .int tb, .int tv, .int tp, .int tf])), (hs, .inl ((cs 1), 400, .inl gt))]) [0, 1] rfl
    have hDc := hD.sub (ws' := [(ht, .inr (7, [.ref hs, .int tl, .int tk, .int tp, .int tb, .int tv, .int tp, .int tf])), (hs, .inl ((cs 1), 400, .inl gt))]) [0, 1] (by decide) rfl
    have hFc := va_free (wc := [(ht, .inr (7, [.ref hs, .int tl, .int tk, .int tp, .int tb, .int tv, .int tp, .int tf])), (hs, .inl ((cs 1), 400, .inl gt))]) hD hS hA [0, 1] rfl
    refine va_callv (va_runV (As := []) (rest := []) ⟨hx, hb, hml, hown, hts⟩ (c_Text_pass l D cs X H.size ht hs tl tk tp tb tv tp tf gt r_tl r_tp r_tb) ⟨callB_of 0 hts (gd_C qq_2_131) rfl rfl rfl (hT _ qq_1_2) (hT _ qq_2_128) (by decide +kernel) (rm_R rfl rfl), (hT _ qq_2_129), (hT _ qq_2_130)⟩ (pr_V hPc hK hDc hN (hR.sub (wo' := []) [] rfl) hS hFc hX hXs (ci := 7) (q0 := 0) rfl rfl) rfl rfl hl.1 rfl (lv_room (Nat.le_of_ble_eq_true rfl)) dX9_takeNumber_31 ⟨Nat.le_of_ble_eq_true rfl, Nat.le_of_ble_eq_true rfl⟩) hS (fun q _ h => hFc q h) hFc (fun u_3 t_6 H1 locs ht9 hvm hw_4 hB_5 hz1 hk1 hS => ?_)
    obtain ⟨v_8, v_9, v_10, v_11, r_12, r_13, hP1, hD1⟩ := hB_5
    rw [ht9] at hP1
    obtain ⟨hP, hD⟩ := va_join (wr := []) (w1 := [(ht, .inr (7, [.ref hs, .int tl, .int v_8, .int v_9, .int v_10, .int v_11, .int tp, .int tf])), (hs, .inl ((cs 1), 400, .inl gt))]) hP hD [0, 1] [] rfl rfl (by decide) (by decide) hk1 hFc hP1 hD1
    generalize H1 = H at hP hS ⊢
    have hP : va_P D vwCl [(ht, .inr (7, [.ref hs, .int tl, .int v_8, .int v_9, .int v_10, .int v_11, .int tp, .int tf])), (hs, .inl ((cs 1), 400, .inl gt))] H := hP
    have hD : va_D A [(ht, .inr (7, [.ref hs, .int tl, .int v_8, .int v_9, .int v_10, .int v_11, .int tp, .int tf])), (hs, .inl ((cs 1), 400, .inl gt))] := hD
    refine lv_iload_n hx hb dX9_takeNumber_34 rfl (lv_at hl 0 rfl) ?_
    refine lv_iload_n hx hb dX9_takeNumber_35 rfl (lv_at hl 2 rfl) ?_
    refine lv_icmp_lt (tgt := 44) hx hb dX9_takeNumber_36 (by decide) (fun c_14 => ?_) (fun c_14 => ?_)
    · have r_15 : Rg (-2147483648) (-1) tv := Rg.lt_l c_14 (Rg.top tv) (Rg.c (c := 0) (k := 0) rfl) (by decide)
      refine lv_aload_n hx hb dX9_takeNumber_44 rfl (lv_at hl 1 rfl) ?_
      have hPc := hP.sub (ws' := [(ht, .inr (7, [.ref hs, .int tl, .int v_8, .int v_9, .int v_10, .int v_11, .int tp, .int tf])), (hs, .inl ((cs 1), 400, .inl gt))]) [0, 1] rfl
      have hDc := hD.sub (ws' := [(ht, .inr (7, [.ref hs, .int tl, .int v_8, .int v_9, .int v_10, .int v_11, .int tp, .int tf])), (hs, .inl ((cs 1), 400, .inl gt))]) [0, 1] (by decide) rfl
      have hFc := va_free (wc := [(ht, .inr (7, [.ref hs, .int tl, .int v_8, .int v_9, .int v_10, .int v_11, .int tp, .int tf])), (hs, .inl ((cs 1), 400, .inl gt))]) hD hS hA [0, 1] rfl
      refine va_callv (va_runV (As := []) (rest := []) ⟨hx, hb, hml, hown, hts⟩ (c_Text_refuseNumber l D cs X H.size ht hs tl v_8 v_9 v_10 v_11 tp tf gt r_tp) ⟨callB_of 0 hts (gd_C qq_2_224) rfl rfl rfl (hT _ qq_1_2) (hT _ qq_2_221) (by decide +kernel) (rm_R rfl rfl), (hT _ qq_2_222), (hT _ qq_2_223)⟩ (pr_V hPc hK hDc hN (hR.sub (wo' := []) [] rfl) hS hFc hX hXs (ci := 7) (q0 := 0) rfl rfl) rfl rfl hl.1 rfl (lv_room (Nat.le_of_ble_eq_true rfl)) dX9_takeNumber_45 ⟨Nat.le_of_ble_eq_true rfl, Nat.le_of_ble_eq_true rfl⟩) hS (fun q _ h => hFc q h) hFc (fun u_17 t_20 H1 locs ht9 hvm hw_18 hB_19 hz1 hk1 hS => ?_)
      obtain ⟨v_22, rp_23, hP1, hD1⟩ := hB_19
      rw [ht9] at hP1
      obtain ⟨hP, hD⟩ := va_join (wr := []) (w1 := [(ht, .inr (7, [.ref hs, .int tl, .int v_8, .int v_9, .int v_10, .int v_11, .int tp, .int v_22])), (hs, .inl ((cs 1), 400, .inl gt))]) hP hD [0, 1] [] rfl rfl (by decide) (by decide) hk1 hFc hP1 hD1
      generalize H1 = H at hP hS ⊢
      have hP : va_P D vwCl [(ht, .inr (7, [.ref hs, .int tl, .int v_8, .int v_9, .int v_10, .int v_11, .int tp, .int v_22])), (hs, .inl ((cs 1), 400, .inl gt))] H := hP
      have hD : va_D A [(ht, .inr (7, [.ref hs, .int tl, .int v_8, .int v_9, .int v_10, .int v_11, .int tp, .int v_22])), (hs, .inl ((cs 1), 400, .inl gt))] := hD
      refine lv_iconst (v := (-1)) hx hb dX9_takeNumber_48 (by decide) ?_
      refine W.widen (k := 0) (n := 0) (Nat.le_of_ble_eq_true rfl) (Nat.le_of_ble_eq_true rfl) ?_
      have hP9 := hP.sub (ws' := [(ht, .inr (7, [.ref hs, .int tl, .int v_8, .int v_9, .int v_10, .int v_11, .int tp, .int v_22])), (hs, .inl ((cs 1), 400, .inl gt))]) [0, 1] rfl
      have hD9 := hD.sub (ws' := [(ht, .inr (7, [.ref hs, .int tl, .int v_8, .int v_9, .int v_10, .int v_11, .int tp, .int v_22])), (hs, .inl ((cs 1), 400, .inl gt))]) [0, 1] (by decide) rfl
      exact W.iret (v := (-1)) hx hb hr (fun t9 ht9 hW9 => ⟨⟨_, v_22, rfl, ⟨⟨by decide, by decide⟩, fun q9 => absurd q9 rp_23, fun _ => rp_23⟩, ⟨v_8, v_9, v_10, v_11, tp, r_12, r_13, r_tp, by rw [ht9]; exact hP9, hD9⟩⟩, hS.F ht9⟩) hS.2.2 dX9_takeNumber_49
    · have r_16 : Rg 0 2147483647 tv := Rg.le_r (nlt_le c_14) (Rg.c (c := 0) (k := 0) rfl) (Rg.top tv) (by decide)
      refine lv_iload_n hx hb dX9_takeNumber_39 rfl (lv_at hl 0 rfl) ?_
      refine lv_iload_n hx hb dX9_takeNumber_40 rfl (lv_at hl 3 rfl) ?_
      refine lv_icmp_le (tgt := 50) hx hb dX9_takeNumber_41 (by decide) (fun c_24 => ?_) (fun c_24 => ?_)
      · have r_25 : Rg 0 999 tv := Rg.le_l c_24 r_16 (Rg.c (c := 999) (k := 999) rfl) (by decide)
        refine lv_iload_n hx hb dX9_takeNumber_50 rfl (lv_at hl 0 rfl) ?_
        refine W.widen (k := 0) (n := 0) (Nat.le_of_ble_eq_true rfl) (Nat.le_of_ble_eq_true rfl) ?_
        have hP9 := hP.sub (ws' := [(ht, .inr (7, [.ref hs, .int tl, .int v_8, .int v_9, .int v_10, .int v_11, .int tp, .int tf])), (hs, .inl ((cs 1), 400, .inl gt))]) [0, 1] rfl
        have hD9 := hD.sub (ws' := [(ht, .inr (7, [.ref hs, .int tl, .int v_8, .int v_9, .int v_10, .int v_11, .int tp, .int tf])), (hs, .inl ((cs 1), 400, .inl gt))]) [0, 1] (by decide) rfl
        exact W.iret (v := tv) hx hb hr (fun t9 ht9 hW9 => ⟨⟨_, tf, rfl, ⟨(Rg.wk (lo2 := (-1)) (hi2 := 999) r_25 (by decide)), fun _ => Int.le_trans (by decide) (r_25).1, fun q9 => q9⟩, ⟨v_8, v_9, v_10, v_11, tp, r_12, r_13, r_tp, by rw [ht9]; exact hP9, hD9⟩⟩, hS.F ht9⟩) hS.2.2 dX9_takeNumber_51
      · have r_26 : Rg 1000 2147483647 tv := Rg.lt_r (nle_lt c_24) (Rg.c (c := 999) (k := 999) rfl) r_16 (by decide)
        refine lv_aload_n hx hb dX9_takeNumber_44 rfl (lv_at hl 1 rfl) ?_
        have hPc := hP.sub (ws' := [(ht, .inr (7, [.ref hs, .int tl, .int v_8, .int v_9, .int v_10, .int v_11, .int tp, .int tf])), (hs, .inl ((cs 1), 400, .inl gt))]) [0, 1] rfl
        have hDc := hD.sub (ws' := [(ht, .inr (7, [.ref hs, .int tl, .int v_8, .int v_9, .int v_10, .int v_11, .int tp, .int tf])), (hs, .inl ((cs 1), 400, .inl gt))]) [0, 1] (by decide) rfl
        have hFc := va_free (wc := [(ht, .inr (7, [.ref hs, .int tl, .int v_8, .int v_9, .int v_10, .int v_11, .int tp, .int tf])), (hs, .inl ((cs 1), 400, .inl gt))]) hD hS hA [0, 1] rfl
        refine va_callv (va_runV (As := []) (rest := []) ⟨hx, hb, hml, hown, hts⟩ (c_Text_refuseNumber l D cs X H.size ht hs tl v_8 v_9 v_10 v_11 tp tf gt r_tp) ⟨callB_of 0 hts (gd_C qq_2_224) rfl rfl rfl (hT _ qq_1_2) (hT _ qq_2_221) (by decide +kernel) (rm_R rfl rfl), (hT _ qq_2_222), (hT _ qq_2_223)⟩ (pr_V hPc hK hDc hN (hR.sub (wo' := []) [] rfl) hS hFc hX hXs (ci := 7) (q0 := 0) rfl rfl) rfl rfl hl.1 rfl (lv_room (Nat.le_of_ble_eq_true rfl)) dX9_takeNumber_45 ⟨Nat.le_of_ble_eq_true rfl, Nat.le_of_ble_eq_true rfl⟩) hS (fun q _ h => hFc q h) hFc (fun u_27 t_30 H1 locs ht9 hvm hw_28 hB_29 hz1 hk1 hS => ?_)
        obtain ⟨v_32, rp_33, hP1, hD1⟩ := hB_29
        rw [ht9] at hP1
        obtain ⟨hP, hD⟩ := va_join (wr := []) (w1 := [(ht, .inr (7, [.ref hs, .int tl, .int v_8, .int v_9, .int v_10, .int v_11, .int tp, .int v_32])), (hs, .inl ((cs 1), 400, .inl gt))]) hP hD [0, 1] [] rfl rfl (by decide) (by decide) hk1 hFc hP1 hD1
        generalize H1 = H at hP hS ⊢
        have hP : va_P D vwCl [(ht, .inr (7, [.ref hs, .int tl, .int v_8, .int v_9, .int v_10, .int v_11, .int tp, .int v_32])), (hs, .inl ((cs 1), 400, .inl gt))] H := hP
        have hD : va_D A [(ht, .inr (7, [.ref hs, .int tl, .int v_8, .int v_9, .int v_10, .int v_11, .int tp, .int v_32])), (hs, .inl ((cs 1), 400, .inl gt))] := hD
        refine lv_iconst (v := (-1)) hx hb dX9_takeNumber_48 (by decide) ?_
        refine W.widen (k := 0) (n := 0) (Nat.le_of_ble_eq_true rfl) (Nat.le_of_ble_eq_true rfl) ?_
        have hP9 := hP.sub (ws' := [(ht, .inr (7, [.ref hs, .int tl, .int v_8, .int v_9, .int v_10, .int v_11, .int tp, .int v_32])), (hs, .inl ((cs 1), 400, .inl gt))]) [0, 1] rfl
        have hD9 := hD.sub (ws' := [(ht, .inr (7, [.ref hs, .int tl, .int v_8, .int v_9, .int v_10, .int v_11, .int tp, .int v_32])), (hs, .inl ((cs 1), 400, .inl gt))]) [0, 1] (by decide) rfl
        exact W.iret (v := (-1)) hx hb hr (fun t9 ht9 hW9 => ⟨⟨_, v_32, rfl, ⟨⟨by decide, by decide⟩, fun q9 => absurd q9 rp_33, fun _ => rp_33⟩, ⟨v_8, v_9, v_10, v_11, tp, r_12, r_13, r_tp, by rw [ht9]; exact hP9, hD9⟩⟩, hS.F ht9⟩) hS.2.2 dX9_takeNumber_49
  · refine lv_aload_n hx hb dX9_takeNumber_18 rfl (lv_at hl 0 rfl) ?_
    refine lv_iconst (v := 0) hx hb dX9_takeNumber_19 (by decide) ?_
    have hPc := hP.sub (ws' := [(ht, .inr (7, [.ref hs, .int tl, .int tk, .int tp, .int tb, .int tv, .int tp, .int tf])), (hs, .inl ((cs 1), 400, .inl gt))]) [0, 1] rfl
    have hDc := hD.sub (ws' := [(ht, .inr (7, [.ref hs, .int tl, .int tk, .int tp, .int tb, .int tv, .int tp, .int tf])), (hs, .inl ((cs 1), 400, .inl gt))]) [0, 1] (by decide) rfl
    have hFc := va_free (wc := [(ht, .inr (7, [.ref hs, .int tl, .int tk, .int tp, .int tb, .int tv, .int tp, .int tf])), (hs, .inl ((cs 1), 400, .inl gt))]) hD hS hA [0, 1] rfl
    refine va_callv (va_runV (As := [.int 0]) (rest := []) ⟨hx, hb, hml, hown, hts⟩ (c_Text_failHere l D cs X H.size ht hs tl tk tp tb tv tp tf gt 0 r_tp (Rg.wk (lo2 := 0) (hi2 := 4) (Rg.c (c := 0) (k := 0) rfl) (by decide))) ⟨callB_of 1 hts (gd_C qq_2_205) rfl rfl rfl (hT _ qq_1_2) (hT _ qq_2_220) (by decide +kernel) (rm_R rfl rfl), (hT _ qq_2_203), (hT _ qq_2_204)⟩ (pr_V hPc hK hDc hN (hR.sub (wo' := []) [] rfl) hS hFc hX hXs (ci := 7) (q0 := 0) rfl rfl) rfl rfl hl.1 rfl (lv_room (Nat.le_of_ble_eq_true rfl)) dX9_takeNumber_20 ⟨Nat.le_of_ble_eq_true rfl, Nat.le_of_ble_eq_true rfl⟩) hS (fun q _ h => hFc q h) hFc (fun u_34 t_37 H1 locs ht9 hvm hw_35 hB_36 hz1 hk1 hS => ?_)
    obtain ⟨v_39, rp_40, hP1, hD1⟩ := hB_36
    rw [ht9] at hP1
    obtain ⟨hP, hD⟩ := va_join (wr := []) (w1 := [(ht, .inr (7, [.ref hs, .int tl, .int tk, .int tp, .int tb, .int tv, .int tp, .int v_39])), (hs, .inl ((cs 1), 400, .inl gt))]) hP hD [0, 1] [] rfl rfl (by decide) (by decide) hk1 hFc hP1 hD1
    generalize H1 = H at hP hS ⊢
    have hP : va_P D vwCl [(ht, .inr (7, [.ref hs, .int tl, .int tk, .int tp, .int tb, .int tv, .int tp, .int v_39])), (hs, .inl ((cs 1), 400, .inl gt))] H := hP
    have hD : va_D A [(ht, .inr (7, [.ref hs, .int tl, .int tk, .int tp, .int tb, .int tv, .int tp, .int v_39])), (hs, .inl ((cs 1), 400, .inl gt))] := hD
    refine lv_iconst (v := (-1)) hx hb dX9_takeNumber_23 (by decide) ?_
    refine W.widen (k := 0) (n := 0) (Nat.le_of_ble_eq_true rfl) (Nat.le_of_ble_eq_true rfl) ?_
    have hP9 := hP.sub (ws' := [(ht, .inr (7, [.ref hs, .int tl, .int tk, .int tp, .int tb, .int tv, .int tp, .int v_39])), (hs, .inl ((cs 1), 400, .inl gt))]) [0, 1] rfl
    have hD9 := hD.sub (ws' := [(ht, .inr (7, [.ref hs, .int tl, .int tk, .int tp, .int tb, .int tv, .int tp, .int v_39])), (hs, .inl ((cs 1), 400, .inl gt))]) [0, 1] (by decide) rfl
    exact W.iret (v := (-1)) hx hb hr (fun t9 ht9 hW9 => ⟨⟨_, v_39, rfl, ⟨⟨by decide, by decide⟩, fun q9 => absurd q9 rp_40, fun _ => rp_40⟩, ⟨tk, tp, tb, tv, tp, r_tp, r_tb, r_tp, by rw [ht9]; exact hP9, hD9⟩⟩, hS.F ht9⟩) hS.2.2 dX9_takeNumber_24
set_option maxHeartbeats 4000000 in
set_option maxRecDepth 100000 in
theorem c_Text_takeNumber_0_n (l : Launch) (D : va_G) (cs : Nat → ClassId) (X : XX) (sz : Nat) (ht : Nat) (hs : Nat) (tl : Int32) (tk : Int32) (tp : Int32) (tb : Int32) (tv : Int32) (tn : Int32) (tf : Int32) (gt : Nat → Int32) (b : Int32) (r_tl : Rg 0 400 tl) (r_tp : Rg 0 400 tp) (r_tb : Rg 0 400 tb) (r_b : Rg (-1) 7 b) : Met l yX9_takeNumber (Cond.code yX9_takeNumber cX9_takeNumber 4 (some .int) :: TB) (RM 2 0 0) (va_Pc [.ref ht, .int 0, .int b] (PRE D cs X [(ht, .inr (7, [.ref hs, .int tl, .int tk, .int tp, .int tb, .int tv, .int tn, .int tf])), (hs, .inl ((cs 1), 400, .inl gt))] [] sz)) (va_Qi (S := Int32) (fun r tf2 => Rg (-1) 7 r ∧ (tf2 = 0 → 0 ≤ Int32.toInt r) ∧ (¬ tf = 0 → ¬ tf2 = 0)) (fun tf2 t => ∃ (tk2 : Int32), ∃ (tp2 : Int32), ∃ (tb2 : Int32), ∃ (tv2 : Int32), ∃ (tn2 : Int32), Rg 0 400 tp2 ∧ Rg 0 400 tb2 ∧ Rg 0 400 tn2 ∧ va_P D vwCl [(ht, .inr (7, [.ref hs, .int tl, .int tk2, .int tp2, .int tb2, .int tv2, .int tn2, .int tf2])), (hs, .inl ((cs 1), 400, .inl gt))] t.heap ∧ va_D (va_A [(ht, .inr (7, [.ref hs, .int tl, .int tk, .int tp, .int tb, .int tv, .int tn, .int tf])), (hs, .inl ((cs 1), 400, .inl gt))] sz) [(ht, .inr (7, [.ref hs, .int tl, .int tk2, .int tp2, .int tb2, .int tv2, .int tn2, .int tf2])), (hs, .inl ((cs 1), 400, .inl gt))]) (va_A [(ht, .inr (7, [.ref hs, .int tl, .int tk, .int tp, .int tb, .int tv, .int tn, .int tf])), (hs, .inl ((cs 1), 400, .inl gt))] sz)) 0 0 (va_A [(ht, .inr (7, [.ref hs, .int tl, .int tk, .int tp, .int tb, .int tv, .int tn, .int tf])), (hs, .inl ((cs 1), 400, .inl gt))] sz) := by
  refine MET (y := yX9_takeNumber) (cc := cX9_takeNumber) (maxL := 4) (ret := (some .int)) (d := 2) (mc := 0) (ms := 0) (D := D) (cs := cs) (X := X) (ws := [(ht, .inr (7, [.ref hs, .int tl, .int tk, .int tp, .int tb, .int tv, .int tn, .int tf])), (hs, .inl ((cs 1), 400, .inl gt))]) (wo := []) (sz := sz) (av := [.ref ht, .int 0, .int b]) (Qc := fun A => va_Qi (S := Int32) (fun r tf2 => Rg (-1) 7 r ∧ (tf2 = 0 → 0 ≤ Int32.toInt r) ∧ (¬ tf = 0 → ¬ tf2 = 0)) (fun tf2 t => ∃ (tk2 : Int32), ∃ (tp2 : Int32), ∃ (tb2 : Int32), ∃ (tv2 : Int32), ∃ (tn2 : Int32), Rg 0 400 tp2 ∧ Rg 0 400 tb2 ∧ Rg 0 400 tn2 ∧ va_P D vwCl [(ht, .inr (7, [.ref hs, .int tl, .int tk2, .int tp2, .int tb2, .int tv2, .int tn2, .int tf2])), (hs, .inl ((cs 1), 400, .inl gt))] t.heap ∧ va_D A [(ht, .inr (7, [.ref hs, .int tl, .int tk2, .int tp2, .int tb2, .int tv2, .int tn2, .int tf2])), (hs, .inl ((cs 1), 400, .inl gt))]) A) (by decide) (Nat.le_of_ble_eq_true rfl) ?_
  intro p e s m below meth c ls A H hHe hx hb hr hml hown hts hlocks hnm hP hK hD hA hS hN hR hX hXs hl
  have hD : va_D A [(ht, .inr (7, [.ref hs, .int tl, .int tk, .int tp, .int tb, .int tv, .int tn, .int tf])), (hs, .inl ((cs 1), 400, .inl gt))] := hD
  obtain ⟨locs, hlc⟩ : ∃ z : List Loc, z = [] := ⟨_, rfl⟩
  rw [← hlc] at hS ⊢
  have hown : s.vm.findClass "WrongHole$Text" = some m.cls := hown
  have hT : ∀ w ∈ TB, w.before ([.ref ht, .int 0, .int b] : List Value).toArray s = true := fun w h => hts w (List.mem_cons_of_mem _ h)
  have hl : lv_has ls 4 [(0, .ref ht), (1, .int 0), (2, .int b)] := hl
  have hP : va_P D vwCl [(ht, .inr (7, [.ref hs, .int tl, .int tk, .int tp, .int tb, .int tv, .int tn, .int tf])), (hs, .inl ((cs 1), 400, .inl gt))] H := hP
  refine lv_aload_n hx hb dX9_takeNumber_0 rfl (lv_at hl 0 rfl) ?_
  refine lv_aload_n hx hb dX9_takeNumber_1 rfl (lv_at hl 0 rfl) ?_
  refine va_get (D := D) (ci := 7) (v := .int tp) (C := "WrongHole$Text") (T := TX9) (N := 8) hx hb hts (iq_RX9 _) hown hK hP 0 rfl rfl 3 (by decide) (hT _ qq_1_42) (fun _ h9 => h9) rfl dX9_takeNumber_2 ?_
  refine va_put (D := D) (ci := 7) (v := .int tp) (ty := .int) (C := "WrongHole$Text") (T := TX9) (N := 8) hx hb hts (iq_RX9 _) tyX9 tyX9_ok nmX9 hown hK hP hD hS 0 rfl rfl 6 (by decide) (hT _ qq_1_46) (fun _ h9 => h9) rfl (by decide +kernel) rfl rfl (Nat.le_of_ble_eq_true rfl) dX9_takeNumber_5 (fun H locs hP hD hS => ?_)
  have hP : va_P D vwCl [(ht, .inr (7, [.ref hs, .int tl, .int tk, .int tp, .int tb, .int tv, .int tp, .int tf])), (hs, .inl ((cs 1), 400, .inl gt))] H := hP
  have hD : va_D A [(ht, .inr (7, [.ref hs, .int tl, .int tk, .int tp, .int tb, .int tv, .int tp, .int tf])), (hs, .inl ((cs 1), 400, .inl gt))] := hD
  refine lv_aload_n hx hb dX9_takeNumber_8 rfl (lv_at hl 0 rfl) ?_
  refine va_get (D := D) (ci := 7) (v := .int tk) (C := "WrongHole$Text") (T := TX9) (N := 8) hx hb hts (iq_RX9 _) hown hK hP 0 rfl rfl 2 (by decide) (hT _ qq_1_41) (fun _ h9 => h9) rfl dX9_takeNumber_9 ?_
  refine lv_sipush (v := 256) hx hb dX9_takeNumber_12 (by decide) ?_
  refine lv_icmp_eq (tgt := 25) hx hb dX9_takeNumber_15 (by decide) (fun c_1 => ?_) (fun c_1 => ?_)
  · have r_2 : Rg 256 256 tk := Rg.eq_l c_1 (Rg.top tk) (Rg.c (c := 256) (k := 256) rfl) (by decide)
    refine lv_aload_n hx hb dX9_takeNumber_25 rfl (lv_at hl 0 rfl) ?_
    refine va_get (D := D) (ci := 7) (v := .int tv) (C := "WrongHole$Text") (T := TX9) (N := 8) hx hb hts (iq_RX9 _) hown hK hP 0 rfl rfl 5 (by decide) (hT _ qq_1_45) (fun _ h9 => h9) rfl dX9_takeNumber_26 ?_
    refine lv_istore_n (lv' := [(3, .int tv), (0, .ref ht), (1, .int 0), (2, .int b)]) hx hb dX9_takeNumber_29 rfl hl (by decide) rfl (fun ls hl => ?_)
    refine lv_aload_n hx hb dX9_takeNumber_30 rfl (lv_at hl 1 rfl) ?_
    have hPc := hP.sub (ws' := [(ht, .inr (7, [.ref hs, .int tl, .int tk, .int tp, .int tb, .int tv, .int tp, .int tf])), (hs, .inl ((cs 1), 400, .inl gt))]) [0, 1] rfl
    have hDc := hD.sub (ws' := [(ht, .inr (7, [.ref hs, .int tl, .int tk, .int tp, .int tb, .int tv, .int tp, .int tf])), (hs, .inl ((cs 1), 400, .inl gt))]) [0, 1] (by decide) rfl
    have hFc := va_free (wc := [(ht, .inr (7, [.ref hs, .int tl, .int tk, .int tp, .int tb, .int tv, .int tp, .int tf])), (hs, .inl ((cs 1), 400, .inl gt))]) hD hS hA [0, 1] rfl
    refine va_callv (va_runV (As := []) (rest := []) ⟨hx, hb, hml, hown, hts⟩ (c_Text_pass l D cs X H.size ht hs tl tk tp tb tv tp tf gt r_tl r_tp r_tb) ⟨callB_of 0 hts (gd_C qq_2_131) rfl rfl rfl (hT _ qq_1_2) (hT _ qq_2_128) (by decide +kernel) (rm_R rfl rfl), (hT _ qq_2_129), (hT _ qq_2_130)⟩ (pr_V hPc hK hDc hN (hR.sub (wo' := []) [] rfl) hS hFc hX hXs (ci := 7) (q0 := 0) rfl rfl) rfl rfl hl.1 rfl (lv_room (Nat.le_of_ble_eq_true rfl)) dX9_takeNumber_31 ⟨Nat.le_of_ble_eq_true rfl, Nat.le_of_ble_eq_true rfl⟩) hS (fun q _ h => hFc q h) hFc (fun u_3 t_6 H1 locs ht9 hvm hw_4 hB_5 hz1 hk1 hS => ?_)
    obtain ⟨v_8, v_9, v_10, v_11, r_12, r_13, hP1, hD1⟩ := hB_5
    rw [ht9] at hP1
    obtain ⟨hP, hD⟩ := va_join (wr := []) (w1 := [(ht, .inr (7, [.ref hs, .int tl, .int v_8, .int v_9, .int v_10, .int v_11, .int tp, .int tf])), (hs, .inl ((cs 1), 400, .inl gt))]) hP hD [0, 1] [] rfl rfl (by decide) (by decide) hk1 hFc hP1 hD1
    generalize H1 = H at hP hS ⊢
    have hP : va_P D vwCl [(ht, .inr (7, [.ref hs, .int tl, .int v_8, .int v_9, .int v_10, .int v_11, .int tp, .int tf])), (hs, .inl ((cs 1), 400, .inl gt))] H := hP
    have hD : va_D A [(ht, .inr (7, [.ref hs, .int tl, .int v_8, .int v_9, .int v_10, .int v_11, .int tp, .int tf])), (hs, .inl ((cs 1), 400, .inl gt))] := hD
    refine lv_iload_n hx hb dX9_takeNumber_34 rfl (lv_at hl 0 rfl) ?_
    refine lv_iload_n hx hb dX9_takeNumber_35 rfl (lv_at hl 2 rfl) ?_
    refine lv_icmp_lt (tgt := 44) hx hb dX9_takeNumber_36 (by decide) (fun c_14 => ?_) (fun c_14 => ?_)
    · have r_15 : Rg (-2147483648) (-1) tv := Rg.lt_l c_14 (Rg.top tv) (Rg.c (c := 0) (k := 0) rfl) (by decide)
      refine lv_aload_n hx hb dX9_takeNumber_44 rfl (lv_at hl 1 rfl) ?_
      have hPc := hP.sub (ws' := [(ht, .inr (7, [.ref hs, .int tl, .int v_8, .int v_9, .int v_10, .int v_11, .int tp, .int tf])), (hs, .inl ((cs 1), 400, .inl gt))]) [0, 1] rfl
      have hDc := hD.sub (ws' := [(ht, .inr (7, [.ref hs, .int tl, .int v_8, .int v_9, .int v_10, .int v_11, .int tp, .int tf])), (hs, .inl ((cs 1), 400, .inl gt))]) [0, 1] (by decide) rfl
      have hFc := va_free (wc := [(ht, .inr (7, [.ref hs, .int tl, .int v_8, .int v_9, .int v_10, .int v_11, .int tp, .int tf])), (hs, .inl ((cs 1), 400, .inl gt))]) hD hS hA [0, 1] rfl
      refine va_callv (va_runV (As := []) (rest := []) ⟨hx, hb, hml, hown, hts⟩ (c_Text_refuseNumber l D cs X H.size ht hs tl v_8 v_9 v_10 v_11 tp tf gt r_tp) ⟨callB_of 0 hts (gd_C qq_2_224) rfl rfl rfl (hT _ qq_1_2) (hT _ qq_2_221) (by decide +kernel) (rm_R rfl rfl), (hT _ qq_2_222), (hT _ qq_2_223)⟩ (pr_V hPc hK hDc hN (hR.sub (wo' := []) [] rfl) hS hFc hX hXs (ci := 7) (q0 := 0) rfl rfl) rfl rfl hl.1 rfl (lv_room (Nat.le_of_ble_eq_true rfl)) dX9_takeNumber_45 ⟨Nat.le_of_ble_eq_true rfl, Nat.le_of_ble_eq_true rfl⟩) hS (fun q _ h => hFc q h) hFc (fun u_17 t_20 H1 locs ht9 hvm hw_18 hB_19 hz1 hk1 hS => ?_)
      obtain ⟨v_22, rp_23, hP1, hD1⟩ := hB_19
      rw [ht9] at hP1
      obtain ⟨hP, hD⟩ := va_join (wr := []) (w1 := [(ht, .inr (7, [.ref hs, .int tl, .int v_8, .int v_9, .int v_10, .int v_11, .int tp, .int v_22])), (hs, .inl ((cs 1), 400, .inl gt))]) hP hD [0, 1] [] rfl rfl (by decide) (by decide) hk1 hFc hP1 hD1
      generalize H1 = H at hP hS ⊢
      have hP : va_P D vwCl [(ht, .inr (7, [.ref hs, .int tl, .int v_8, .int v_9, .int v_10, .int v_11, .int tp, .int v_22])), (hs, .inl ((cs 1), 400, .inl gt))] H := hP
      have hD : va_D A [(ht, .inr (7, [.ref hs, .int tl, .int v_8, .int v_9, .int v_10, .int v_11, .int tp, .int v_22])), (hs, .inl ((cs 1), 400, .inl gt))] := hD
      refine lv_iconst (v := (-1)) hx hb dX9_takeNumber_48 (by decide) ?_
      refine W.widen (k := 0) (n := 0) (Nat.le_of_ble_eq_true rfl) (Nat.le_of_ble_eq_true rfl) ?_
      have hP9 := hP.sub (ws' := [(ht, .inr (7, [.ref hs, .int tl, .int v_8, .int v_9, .int v_10, .int v_11, .int tp, .int v_22])), (hs, .inl ((cs 1), 400, .inl gt))]) [0, 1] rfl
      have hD9 := hD.sub (ws' := [(ht, .inr (7, [.ref hs, .int tl, .int v_8, .int v_9, .int v_10, .int v_11, .int tp, .int v_22])), (hs, .inl ((cs 1), 400, .inl gt))]) [0, 1] (by decide) rfl
      exact W.iret (v := (-1)) hx hb hr (fun t9 ht9 hW9 => ⟨⟨_, v_22, rfl, ⟨⟨by decide, by decide⟩, fun q9 => absurd q9 rp_23, fun _ => rp_23⟩, ⟨v_8, v_9, v_10, v_11, tp, r_12, r_13, r_tp, by rw [ht9]; exact hP9, hD9⟩⟩, hS.F ht9⟩) hS.2.2 dX9_takeNumber_49
    · have r_16 : Rg 0 2147483647 tv := Rg.le_r (nlt_le c_14) (Rg.c (c := 0) (k := 0) rfl) (Rg.top tv) (by decide)
      refine lv_iload_n hx hb dX9_takeNumber_39 rfl (lv_at hl 0 rfl) ?_
      refine lv_iload_n hx hb dX9_takeNumber_40 rfl (lv_at hl 3 rfl) ?_
      refine lv_icmp_le (tgt := 50) hx hb dX9_takeNumber_41 (by decide) (fun c_24 => ?_) (fun c_24 => ?_)
      · have r_25 : Rg 0 7 tv := Rg.le_l c_24 r_16 r_b (by decide)
        have r_26 : Rg 0 7 b := Rg.le_r c_24 r_16 r_b (by decide)
        refine lv_iload_n hx hb dX9_takeNumber_50 rfl (lv_at hl 0 rfl) ?_
        refine W.widen (k := 0) (n := 0) (Nat.le_of_ble_eq_true rfl) (Nat.le_of_ble_eq_true rfl) ?_
        have hP9 := hP.sub (ws' := [(ht, .inr (7, [.ref hs, .int tl, .int v_8, .int v_9, .int v_10, .int v_11, .int tp, .int tf])), (hs, .inl ((cs 1), 400, .inl gt))]) [0, 1] rfl
        have hD9 := hD.sub (ws' := [(ht, .inr (7, [.ref hs, .int tl, .int v_8, .int v_9, .int v_10, .int v_11, .int tp, .int tf])), (hs, .inl ((cs 1), 400, .inl gt))]) [0, 1] (by decide) rfl
        exact W.iret (v := tv) hx hb hr (fun t9 ht9 hW9 => ⟨⟨_, tf, rfl, ⟨(Rg.wk (lo2 := (-1)) (hi2 := 7) r_25 (by decide)), fun _ => Int.le_trans (by decide) (r_25).1, fun q9 => q9⟩, ⟨v_8, v_9, v_10, v_11, tp, r_12, r_13, r_tp, by rw [ht9]; exact hP9, hD9⟩⟩, hS.F ht9⟩) hS.2.2 dX9_takeNumber_51
      · refine lv_aload_n hx hb dX9_takeNumber_44 rfl (lv_at hl 1 rfl) ?_
        have hPc := hP.sub (ws' := [(ht, .inr (7, [.ref hs, .int tl, .int v_8, .int v_9, .int v_10, .int v_11, .int tp, .int tf])), (hs, .inl ((cs 1), 400, .inl gt))]) [0, 1] rfl
        have hDc := hD.sub (ws' := [(ht, .inr (7, [.ref hs, .int tl, .int v_8, .int v_9, .int v_10, .int v_11, .int tp, .int tf])), (hs, .inl ((cs 1), 400, .inl gt))]) [0, 1] (by decide) rfl
        have hFc := va_free (wc := [(ht, .inr (7, [.ref hs, .int tl, .int v_8, .int v_9, .int v_10, .int v_11, .int tp, .int tf])), (hs, .inl ((cs 1), 400, .inl gt))]) hD hS hA [0, 1] rfl
        refine va_callv (va_runV (As := []) (rest := []) ⟨hx, hb, hml, hown, hts⟩ (c_Text_refuseNumber l D cs X H.size ht hs tl v_8 v_9 v_10 v_11 tp tf gt r_tp) ⟨callB_of 0 hts (gd_C qq_2_224) rfl rfl rfl (hT _ qq_1_2) (hT _ qq_2_221) (by decide +kernel) (rm_R rfl rfl), (hT _ qq_2_222), (hT _ qq_2_223)⟩ (pr_V hPc hK hDc hN (hR.sub (wo' := []) [] rfl) hS hFc hX hXs (ci := 7) (q0 := 0) rfl rfl) rfl rfl hl.1 rfl (lv_room (Nat.le_of_ble_eq_true rfl)) dX9_takeNumber_45 ⟨Nat.le_of_ble_eq_true rfl, Nat.le_of_ble_eq_true rfl⟩) hS (fun q _ h => hFc q h) hFc (fun u_27 t_30 H1 locs ht9 hvm hw_28 hB_29 hz1 hk1 hS => ?_)
        obtain ⟨v_32, rp_33, hP1, hD1⟩ := hB_29
        rw [ht9] at hP1
        obtain ⟨hP, hD⟩ := va_join (wr := []) (w1 := [(ht, .inr (7, [.ref hs, .int tl, .int v_8, .int v_9, .int v_10, .int v_11, .int tp, .int v_32])), (hs, .inl ((cs 1), 400, .inl gt))]) hP hD [0, 1] [] rfl rfl (by decide) (by decide) hk1 hFc hP1 hD1
        generalize H1 = H at hP hS ⊢
        have hP : va_P D vwCl [(ht, .inr (7, [.ref hs, .int tl, .int v_8, .int v_9, .int v_10, .int v_11, .int tp, .int v_32])), (hs, .inl ((cs 1), 400, .inl gt))] H := hP
        have hD : va_D A [(ht, .inr (7, [.ref hs, .int tl, .int v_8, .int v_9, .int v_10, .int v_11, .int tp, .int v_32])), (hs, .inl ((cs 1), 400, .inl gt))] := hD
        refine lv_iconst (v := (-1)) hx hb dX9_takeNumber_48 (by decide) ?_
        refine W.widen (k := 0) (n := 0) (Nat.le_of_ble_eq_true rfl) (Nat.le_of_ble_eq_true rfl) ?_
        have hP9 := hP.sub (ws' := [(ht, .inr (7, [.ref hs, .int tl, .int v_8, .int v_9, .int v_10, .int v_11, .int tp, .int v_32])), (hs, .inl ((cs 1), 400, .inl gt))]) [0, 1] rfl
        have hD9 := hD.sub (ws' := [(ht, .inr (7, [.ref hs, .int tl, .int v_8, .int v_9, .int v_10, .int v_11, .int tp, .int v_32])), (hs, .inl ((cs 1), 400, .inl gt))]) [0, 1] (by decide) rfl
        exact W.iret (v := (-1)) hx hb hr (fun t9 ht9 hW9 => ⟨⟨_, v_32, rfl, ⟨⟨by decide, by decide⟩, fun q9 => absurd q9 rp_33, fun _ => rp_33⟩, ⟨v_8, v_9, v_10, v_11, tp, r_12, r_13, r_tp, by rw [ht9]; exact hP9, hD9⟩⟩, hS.F ht9⟩) hS.2.2 dX9_takeNumber_49
  · refine lv_aload_n hx hb dX9_takeNumber_18 rfl (lv_at hl 0 rfl) ?_
    refine lv_iconst (v := 0) hx hb dX9_takeNumber_19 (by decide) ?_
    have hPc := hP.sub (ws' := [(ht, .inr (7, [.ref hs, .int tl, .int tk, .int tp, .int tb, .int tv, .int tp, .int tf])), (hs, .inl ((cs 1), 400, .inl gt))]) [0, 1] rfl
    have hDc := hD.sub (ws' := [(ht, .inr (7, [.ref hs, .int tl, .int tk, .int tp, .int tb, .int tv, .int tp, .int tf])), (hs, .inl ((cs 1), 400, .inl gt))]) [0, 1] (by decide) rfl
    have hFc := va_free (wc := [(ht, .inr (7, [.ref hs, .int tl, .int tk, .int tp, .int tb, .int tv, .int tp, .int tf])), (hs, .inl ((cs 1), 400, .inl gt))]) hD hS hA [0, 1] rfl
    refine va_callv (va_runV (As := [.int 0]) (rest := []) ⟨hx, hb, hml, hown, hts⟩ (c_Text_failHere l D cs X H.size ht hs tl tk tp tb tv tp tf gt 0 r_tp (Rg.wk (lo2 := 0) (hi2 := 4) (Rg.c (c := 0) (k := 0) rfl) (by decide))) ⟨callB_of 1 hts (gd_C qq_2_205) rfl rfl rfl (hT _ qq_1_2) (hT _ qq_2_220) (by decide +kernel) (rm_R rfl rfl), (hT _ qq_2_203), (hT _ qq_2_204)⟩ (pr_V hPc hK hDc hN (hR.sub (wo' := []) [] rfl) hS hFc hX hXs (ci := 7) (q0 := 0) rfl rfl) rfl rfl hl.1 rfl (lv_room (Nat.le_of_ble_eq_true rfl)) dX9_takeNumber_20 ⟨Nat.le_of_ble_eq_true rfl, Nat.le_of_ble_eq_true rfl⟩) hS (fun q _ h => hFc q h) hFc (fun u_34 t_37 H1 locs ht9 hvm hw_35 hB_36 hz1 hk1 hS => ?_)
    obtain ⟨v_39, rp_40, hP1, hD1⟩ := hB_36
    rw [ht9] at hP1
    obtain ⟨hP, hD⟩ := va_join (wr := []) (w1 := [(ht, .inr (7, [.ref hs, .int tl, .int tk, .int tp, .int tb, .int tv, .int tp, .int v_39])), (hs, .inl ((cs 1), 400, .inl gt))]) hP hD [0, 1] [] rfl rfl (by decide) (by decide) hk1 hFc hP1 hD1
    generalize H1 = H at hP hS ⊢
    have hP : va_P D vwCl [(ht, .inr (7, [.ref hs, .int tl, .int tk, .int tp, .int tb, .int tv, .int tp, .int v_39])), (hs, .inl ((cs 1), 400, .inl gt))] H := hP
    have hD : va_D A [(ht, .inr (7, [.ref hs, .int tl, .int tk, .int tp, .int tb, .int tv, .int tp, .int v_39])), (hs, .inl ((cs 1), 400, .inl gt))] := hD
    refine lv_iconst (v := (-1)) hx hb dX9_takeNumber_23 (by decide) ?_
    refine W.widen (k := 0) (n := 0) (Nat.le_of_ble_eq_true rfl) (Nat.le_of_ble_eq_true rfl) ?_
    have hP9 := hP.sub (ws' := [(ht, .inr (7, [.ref hs, .int tl, .int tk, .int tp, .int tb, .int tv, .int tp, .int v_39])), (hs, .inl ((cs 1), 400, .inl gt))]) [0, 1] rfl
    have hD9 := hD.sub (ws' := [(ht, .inr (7, [.ref hs, .int tl, .int tk, .int tp, .int tb, .int tv, .int tp, .int v_39])), (hs, .inl ((cs 1), 400, .inl gt))]) [0, 1] (by decide) rfl
    exact W.iret (v := (-1)) hx hb hr (fun t9 ht9 hW9 => ⟨⟨_, v_39, rfl, ⟨⟨by decide, by decide⟩, fun q9 => absurd q9 rp_40, fun _ => rp_40⟩, ⟨tk, tp, tb, tv, tp, r_tp, r_tb, r_tp, by rw [ht9]; exact hP9, hD9⟩⟩, hS.F ht9⟩) hS.2.2 dX9_takeNumber_24
set_option maxHeartbeats 4000000 in
set_option maxRecDepth 100000 in
theorem c_Text_takeNumber_a_n (l : Launch) (D : va_G) (cs : Nat → ClassId) (X : XX) (sz : Nat) (ht : Nat) (hs : Nat) (tl : Int32) (tk : Int32) (tp : Int32) (tb : Int32) (tv : Int32) (tn : Int32) (tf : Int32) (gt : Nat → Int32) (a : Int32) (b : Int32) (r_tl : Rg 0 400 tl) (r_tp : Rg 0 400 tp) (r_tb : Rg 0 400 tb) (r_a : Rg (-1) 7 a) (r_b : Rg (-1) 7 b) : Met l yX9_takeNumber (Cond.code yX9_takeNumber cX9_takeNumber 4 (some .int) :: TB) (RM 2 0 0) (va_Pc [.ref ht, .int a, .int b] (PRE D cs X [(ht, .inr (7, [.ref hs, .int tl, .int tk, .int tp, .int tb, .int tv, .int tn, .int tf])), (hs, .inl ((cs 1), 400, .inl gt))] [] sz)) (va_Qi (S := Int32) (fun r tf2 => Rg (-1) 7 r ∧ (tf2 = 0 → (-1) ≤ Int32.toInt r) ∧ (¬ tf = 0 → ¬ tf2 = 0)) (fun tf2 t => ∃ (tk2 : Int32), ∃ (tp2 : Int32), ∃ (tb2 : Int32), ∃ (tv2 : Int32), ∃ (tn2 : Int32), Rg 0 400 tp2 ∧ Rg 0 400 tb2 ∧ Rg 0 400 tn2 ∧ va_P D vwCl [(ht, .inr (7, [.ref hs, .int tl, .int tk2, .int tp2, .int tb2, .int tv2, .int tn2, .int tf2])), (hs, .inl ((cs 1), 400, .inl gt))] t.heap ∧ va_D (va_A [(ht, .inr (7, [.ref hs, .int tl, .int tk, .int tp, .int tb, .int tv, .int tn, .int tf])), (hs, .inl ((cs 1), 400, .inl gt))] sz) [(ht, .inr (7, [.ref hs, .int tl, .int tk2, .int tp2, .int tb2, .int tv2, .int tn2, .int tf2])), (hs, .inl ((cs 1), 400, .inl gt))]) (va_A [(ht, .inr (7, [.ref hs, .int tl, .int tk, .int tp, .int tb, .int tv, .int tn, .int tf])), (hs, .inl ((cs 1), 400, .inl gt))] sz)) 0 0 (va_A [(ht, .inr (7, [.ref hs, .int tl, .int tk, .int tp, .int tb, .int tv, .int tn, .int tf])), (hs, .inl ((cs 1), 400, .inl gt))] sz) := by
  refine MET (y := yX9_takeNumber) (cc := cX9_takeNumber) (maxL := 4) (ret := (some .int)) (d := 2) (mc := 0) (ms := 0) (D := D) (cs := cs) (X := X) (ws := [(ht, .inr (7, [.ref hs, .int tl, .int tk, .int tp, .int tb, .int tv, .int tn, .int tf])), (hs, .inl ((cs 1), 400, .inl gt))]) (wo := []) (sz := sz) (av := [.ref ht, .int a, .int b]) (Qc := fun A => va_Qi (S := Int32) (fun r tf2 => Rg (-1) 7 r ∧ (tf2 = 0 → (-1) ≤ Int32.toInt r) ∧ (¬ tf = 0 → ¬ tf2 = 0)) (fun tf2 t => ∃ (tk2 : Int32), ∃ (tp2 : Int32), ∃ (tb2 : Int32), ∃ (tv2 : Int32), ∃ (tn2 : Int32), Rg 0 400 tp2 ∧ Rg 0 400 tb2 ∧ Rg 0 400 tn2 ∧ va_P D vwCl [(ht, .inr (7, [.ref hs, .int tl, .int tk2, .int tp2, .int tb2, .int tv2, .int tn2, .int tf2])), (hs, .inl ((cs 1), 400, .inl gt))] t.heap ∧ va_D A [(ht, .inr (7, [.ref hs, .int tl, .int tk2, .int tp2, .int tb2, .int tv2, .int tn2, .int tf2])), (hs, .inl ((cs 1), 400, .inl gt))]) A) (by decide) (Nat.le_of_ble_eq_true rfl) ?_
  intro p e s m below meth c ls A H hHe hx hb hr hml hown hts hlocks hnm hP hK hD hA hS hN hR hX hXs hl
  have hD : va_D A [(ht, .inr (7, [.ref hs, .int tl, .int tk, .int tp, .int tb, .int tv, .int tn, .int tf])), (hs, .inl ((cs 1), 400, .inl gt))] := hD
  obtain ⟨locs, hlc⟩ : ∃ z : List Loc, z = [] := ⟨_, rfl⟩
  rw [← hlc] at hS ⊢
  have hown : s.vm.findClass "WrongHole$Text" = some m.cls := hown
  have hT : ∀ w ∈ TB, w.before ([.ref ht, .int a, .int b] : List Value).toArray s = true := fun w h => hts w (List.mem_cons_of_mem _ h)
  have hl : lv_has ls 4 [(0, .ref ht), (1, .int a), (2, .int b)] := hl
  have hP : va_P D vwCl [(ht, .inr (7, [.ref hs, .int tl, .int tk, .int tp, .int tb, .int tv, .int tn, .int tf])), (hs, .inl ((cs 1), 400, .inl gt))] H := hP
  refine lv_aload_n hx hb dX9_takeNumber_0 rfl (lv_at hl 0 rfl) ?_
  refine lv_aload_n hx hb dX9_takeNumber_1 rfl (lv_at hl 0 rfl) ?_
  refine va_get (D := D) (ci := 7) (v := .int tp) (C := "WrongHole$Text") (T := TX9) (N := 8) hx hb hts (iq_RX9 _) hown hK hP 0 rfl rfl 3 (by decide) (hT _ qq_1_42) (fun _ h9 => h9) rfl dX9_takeNumber_2 ?_
  refine va_put (D := D) (ci := 7) (v := .int tp) (ty := .int) (C := "WrongHole$Text") (T := TX9) (N := 8) hx hb hts (iq_RX9 _) tyX9 tyX9_ok nmX9 hown hK hP hD hS 0 rfl rfl 6 (by decide) (hT _ qq_1_46) (fun _ h9 => h9) rfl (by decide +kernel) rfl rfl (Nat.le_of_ble_eq_true rfl) dX9_takeNumber_5 (fun H locs hP hD hS => ?_)
  have hP : va_P D vwCl [(ht, .inr (7, [.ref hs, .int tl, .int tk, .int tp, .int tb, .int tv, .int tp, .int tf])), (hs, .inl ((cs 1), 400, .inl gt))] H := hP
  have hD : va_D A [(ht, .inr (7, [.ref hs, .int tl, .int tk, .int tp, .int tb, .int tv, .int tp, .int tf])), (hs, .inl ((cs 1), 400, .inl gt))] := hD
  refine lv_aload_n hx hb dX9_takeNumber_8 rfl (lv_at hl 0 rfl) ?_
  refine va_get (D := D) (ci := 7) (v := .int tk) (C := "WrongHole$Text") (T := TX9) (N := 8) hx hb hts (iq_RX9 _) hown hK hP 0 rfl rfl 2 (by decide) (hT _ qq_1_41) (fun _ h9 => h9) rfl dX9_takeNumber_9 ?_
  refine lv_sipush (v := 256) hx hb dX9_takeNumber_12 (by decide) ?_
  refine lv_icmp_eq (tgt := 25) hx hb dX9_takeNumber_15 (by decide) (fun c_1 => ?_) (fun c_1 => ?_)
  · have r_2 : Rg 256 256 tk := Rg.eq_l c_1 (Rg.top tk) (Rg.c (c := 256) (k := 256) rfl) (by decide)
    refine lv_aload_n hx hb dX9_takeNumber_25 rfl (lv_at hl 0 rfl) ?_
    refine va_get (D := D) (ci := 7) (v := .int tv) (C := "WrongHole$Text") (T := TX9) (N := 8) hx hb hts (iq_RX9 _) hown hK hP 0 rfl rfl 5 (by decide) (hT _ qq_1_45) (fun _ h9 => h9) rfl dX9_takeNumber_26 ?_
    refine lv_istore_n (lv' := [(3, .int tv), (0, .ref ht), (1, .int a), (2, .int b)]) hx hb dX9_takeNumber_29 rfl hl (by decide) rfl (fun ls hl => ?_)
    refine lv_aload_n hx hb dX9_takeNumber_30 rfl (lv_at hl 1 rfl) ?_
    have hPc := hP.sub (ws' := [(ht, .inr (7, [.ref hs, .int tl, .int tk, .int tp, .int tb, .int tv, .int tp, .int tf])), (hs, .inl ((cs 1), 400, .inl gt))]) [0, 1] rfl
    have hDc := hD.sub (ws' := [(ht, .inr (7, [.ref hs, .int tl, .int tk, .int tp, .int tb, .int tv, .int tp, .int tf])), (hs, .inl ((cs 1), 400, .inl gt))]) [0, 1] (by decide) rfl
    have hFc := va_free (wc := [(ht, .inr (7, [.ref hs, .int tl, .int tk, .int tp, .int tb, .int tv, .int tp, .int tf])), (hs, .inl ((cs 1), 400, .inl gt))]) hD hS hA [0, 1] rfl
    refine va_callv (va_runV (As := []) (rest := []) ⟨hx, hb, hml, hown, hts⟩ (c_Text_pass l D cs X H.size ht hs tl tk tp tb tv tp tf gt r_tl r_tp r_tb) ⟨callB_of 0 hts (gd_C qq_2_131) rfl rfl rfl (hT _ qq_1_2) (hT _ qq_2_128) (by decide +kernel) (rm_R rfl rfl), (hT _ qq_2_129), (hT _ qq_2_130)⟩ (pr_V hPc hK hDc hN (hR.sub (wo' := []) [] rfl) hS hFc hX hXs (ci := 7) (q0 := 0) rfl rfl) rfl rfl hl.1 rfl (lv_room (Nat.le_of_ble_eq_true rfl)) dX9_takeNumber_31 ⟨Nat.le_of_ble_eq_true rfl, Nat.le_of_ble_eq_true rfl⟩) hS (fun q _ h => hFc q h) hFc (fun u_3 t_6 H1 locs ht9 hvm hw_4 hB_5 hz1 hk1 hS => ?_)
    obtain ⟨v_8, v_9, v_10, v_11, r_12, r_13, hP1, hD1⟩ := hB_5
    rw [ht9] at hP1
    obtain ⟨hP, hD⟩ := va_join (wr := []) (w1 := [(ht, .inr (7, [.ref hs, .int tl, .int v_8, .int v_9, .int v_10, .int v_11, .int tp, .int tf])), (hs, .inl ((cs 1), 400, .inl gt))]) hP hD [0, 1] [] rfl rfl (by decide) (by decide) hk1 hFc hP1 hD1
    generalize H1 = H at hP hS ⊢
    have hP : va_P D vwCl [(ht, .inr (7, [.ref hs, .int tl, .int v_8, .int v_9, .int v_10, .int v_11, .int tp, .int tf])), (hs, .inl ((cs 1), 400, .inl gt))] H := hP
    have hD : va_D A [(ht, .inr (7, [.ref hs, .int tl, .int v_8, .int v_9, .int v_10, .int v_11, .int tp, .int tf])), (hs, .inl ((cs 1), 400, .inl gt))] := hD
    refine lv_iload_n hx hb dX9_takeNumber_34 rfl (lv_at hl 0 rfl) ?_
    refine lv_iload_n hx hb dX9_takeNumber_35 rfl (lv_at hl 2 rfl) ?_
    refine lv_icmp_lt (tgt := 44) hx hb dX9_takeNumber_36 (by decide) (fun c_14 => ?_) (fun c_14 => ?_)
    · have r_15 : Rg (-2147483648) 6 tv := Rg.lt_l c_14 (Rg.top tv) r_a (by decide)
      refine lv_aload_n hx hb dX9_takeNumber_44 rfl (lv_at hl 1 rfl) ?_
      have hPc := hP.sub (ws' := [(ht, .inr (7, [.ref hs, .int tl, .int v_8, .int v_9, .int v_10, .int v_11, .int tp, .int tf])), (hs, .inl ((cs 1), 400, .inl gt))]) [0, 1] rfl
      have hDc := hD.sub (ws' := [(ht, .inr (7, [.ref hs, .int tl, .int v_8, .int v_9, .int v_10, .int v_11, .int tp, .int tf])), (hs, .inl ((cs 1), 400, .inl gt))]) [0, 1] (by decide) rfl
      have hFc := va_free (wc := [(ht, .inr (7, [.ref hs, .int tl, .int v_8, .int v_9, .int v_10, .int v_11, .int tp, .int tf])), (hs, .inl ((cs 1), 400, .inl gt))]) hD hS hA [0, 1] rfl
      refine va_callv (va_runV (As := []) (rest := []) ⟨hx, hb, hml, hown, hts⟩ (c_Text_refuseNumber l D cs X H.size ht hs tl v_8 v_9 v_10 v_11 tp tf gt r_tp) ⟨callB_of 0 hts (gd_C qq_2_224) rfl rfl rfl (hT _ qq_1_2) (hT _ qq_2_221) (by decide +kernel) (rm_R rfl rfl), (hT _ qq_2_222), (hT _ qq_2_223)⟩ (pr_V hPc hK hDc hN (hR.sub (wo' := []) [] rfl) hS hFc hX hXs (ci := 7) (q0 := 0) rfl rfl) rfl rfl hl.1 rfl (lv_room (Nat.le_of_ble_eq_true rfl)) dX9_takeNumber_45 ⟨Nat.le_of_ble_eq_true rfl, Nat.le_of_ble_eq_true rfl⟩) hS (fun q _ h => hFc q h) hFc (fun u_17 t_20 H1 locs ht9 hvm hw_18 hB_19 hz1 hk1 hS => ?_)
      obtain ⟨v_22, rp_23, hP1, hD1⟩ := hB_19
      rw [ht9] at hP1
      obtain ⟨hP, hD⟩ := va_join (wr := []) (w1 := [(ht, .inr (7, [.ref hs, .int tl, .int v_8, .int v_9, .int v_10, .int v_11, .int tp, .int v_22])), (hs, .inl ((cs 1), 400, .inl gt))]) hP hD [0, 1] [] rfl rfl (by decide) (by decide) hk1 hFc hP1 hD1
      generalize H1 = H at hP hS ⊢
      have hP : va_P D vwCl [(ht, .inr (7, [.ref hs, .int tl, .int v_8, .int v_9, .int v_10, .int v_11, .int tp, .int v_22])), (hs, .inl ((cs 1), 400, .inl gt))] H := hP
      have hD : va_D A [(ht, .inr (7, [.ref hs, .int tl, .int v_8, .int v_9, .int v_10, .int v_11, .int tp, .int v_22])), (hs, .inl ((cs 1), 400, .inl gt))] := hD
      refine lv_iconst (v := (-1)) hx hb dX9_takeNumber_48 (by decide) ?_
      refine W.widen (k := 0) (n := 0) (Nat.le_of_ble_eq_true rfl) (Nat.le_of_ble_eq_true rfl) ?_
      have hP9 := hP.sub (ws' := [(ht, .inr (7, [.ref hs, .int tl, .int v_8, .int v_9, .int v_10, .int v_11, .int tp, .int v_22])), (hs, .inl ((cs 1), 400, .inl gt))]) [0, 1] rfl
      have hD9 := hD.sub (ws' := [(ht, .inr (7, [.ref hs, .int tl, .int v_8, .int v_9, .int v_10, .int v_11, .int tp, .int v_22])), (hs, .inl ((cs 1), 400, .inl gt))]) [0, 1] (by decide) rfl
      exact W.iret (v := (-1)) hx hb hr (fun t9 ht9 hW9 => ⟨⟨_, v_22, rfl, ⟨⟨by decide, by decide⟩, fun q9 => absurd q9 rp_23, fun _ => rp_23⟩, ⟨v_8, v_9, v_10, v_11, tp, r_12, r_13, r_tp, by rw [ht9]; exact hP9, hD9⟩⟩, hS.F ht9⟩) hS.2.2 dX9_takeNumber_49
    · have r_16 : Rg (-1) 2147483647 tv := Rg.le_r (nlt_le c_14) r_a (Rg.top tv) (by decide)
      refine lv_iload_n hx hb dX9_takeNumber_39 rfl (lv_at hl 0 rfl) ?_
      refine lv_iload_n hx hb dX9_takeNumber_40 rfl (lv_at hl 3 rfl) ?_
      refine lv_icmp_le (tgt := 50) hx hb dX9_takeNumber_41 (by decide) (fun c_24 => ?_) (fun c_24 => ?_)
      · have r_25 : Rg (-1) 7 tv := Rg.le_l c_24 r_16 r_b (by decide)
        refine lv_iload_n hx hb dX9_takeNumber_50 rfl (lv_at hl 0 rfl) ?_
        refine W.widen (k := 0) (n := 0) (Nat.le_of_ble_eq_true rfl) (Nat.le_of_ble_eq_true rfl) ?_
        have hP9 := hP.sub (ws' := [(ht, .inr (7, [.ref hs, .int tl, .int v_8, .int v_9, .int v_10, .int v_11, .int tp, .int tf])), (hs, .inl ((cs 1), 400, .inl gt))]) [0, 1] rfl
        have hD9 := hD.sub (ws' := [(ht, .inr (7, [.ref hs, .int tl, .int v_8, .int v_9, .int v_10, .int v_11, .int tp, .int tf])), (hs, .inl ((cs 1), 400, .inl gt))]) [0, 1] (by decide) rfl
        exact W.iret (v := tv) hx hb hr (fun t9 ht9 hW9 => ⟨⟨_, tf, rfl, ⟨r_25, fun _ => Int.le_trans (by decide) (r_25).1, fun q9 => q9⟩, ⟨v_8, v_9, v_10, v_11, tp, r_12, r_13, r_tp, by rw [ht9]; exact hP9, hD9⟩⟩, hS.F ht9⟩) hS.2.2 dX9_takeNumber_51
      · have r_26 : Rg 0 2147483647 tv := Rg.lt_r (nle_lt c_24) r_b r_16 (by decide)
        refine lv_aload_n hx hb dX9_takeNumber_44 rfl (lv_at hl 1 rfl) ?_
        have hPc := hP.sub (ws' := [(ht, .inr (7, [.ref hs, .int tl, .int v_8, .int v_9, .int v_10, .int v_11, .int tp, .int tf])), (hs, .inl ((cs 1), 400, .inl gt))]) [0, 1] rfl
        have hDc := hD.sub (ws' := [(ht, .inr (7, [.ref hs, .int tl, .int v_8, .int v_9, .int v_10, .int v_11, .int tp, .int tf])), (hs, .inl ((cs 1), 400, .inl gt))]) [0, 1] (by decide) rfl
        have hFc := va_free (wc := [(ht, .inr (7, [.ref hs, .int tl, .int v_8, .int v_9, .int v_10, .int v_11, .int tp, .int tf])), (hs, .inl ((cs 1), 400, .inl gt))]) hD hS hA [0, 1] rfl
        refine va_callv (va_runV (As := []) (rest := []) ⟨hx, hb, hml, hown, hts⟩ (c_Text_refuseNumber l D cs X H.size ht hs tl v_8 v_9 v_10 v_11 tp tf gt r_tp) ⟨callB_of 0 hts (gd_C qq_2_224) rfl rfl rfl (hT _ qq_1_2) (hT _ qq_2_221) (by decide +kernel) (rm_R rfl rfl), (hT _ qq_2_222), (hT _ qq_2_223)⟩ (pr_V hPc hK hDc hN (hR.sub (wo' := []) [] rfl) hS hFc hX hXs (ci := 7) (q0 := 0) rfl rfl) rfl rfl hl.1 rfl (lv_room (Nat.le_of_ble_eq_true rfl)) dX9_takeNumber_45 ⟨Nat.le_of_ble_eq_true rfl, Nat.le_of_ble_eq_true rfl⟩) hS (fun q _ h => hFc q h) hFc (fun u_27 t_30 H1 locs ht9 hvm hw_28 hB_29 hz1 hk1 hS => ?_)
        obtain ⟨v_32, rp_33, hP1, hD1⟩ := hB_29
        rw [ht9] at hP1
        obtain ⟨hP, hD⟩ := va_join (wr := []) (w1 := [(ht, .inr (7, [.ref hs, .int tl, .int v_8, .int v_9, .int v_10, .int v_11, .int tp, .int v_32])), (hs, .inl ((cs 1), 400, .inl gt))]) hP hD [0, 1] [] rfl rfl (by decide) (by decide) hk1 hFc hP1 hD1
        generalize H1 = H at hP hS ⊢
        have hP : va_P D vwCl [(ht, .inr (7, [.ref hs, .int tl, .int v_8, .int v_9, .int v_10, .int v_11, .int tp, .int v_32])), (hs, .inl ((cs 1), 400, .inl gt))] H := hP
        have hD : va_D A [(ht, .inr (7, [.ref hs, .int tl, .int v_8, .int v_9, .int v_10, .int v_11, .int tp, .int v_32])), (hs, .inl ((cs 1), 400, .inl gt))] := hD
        refine lv_iconst (v := (-1)) hx hb dX9_takeNumber_48 (by decide) ?_
        refine W.widen (k := 0) (n := 0) (Nat.le_of_ble_eq_true rfl) (Nat.le_of_ble_eq_true rfl) ?_
        have hP9 := hP.sub (ws' := [(ht, .inr (7, [.ref hs, .int tl, .int v_8, .int v_9, .int v_10, .int v_11, .int tp, .int v_32])), (hs, .inl ((cs 1), 400, .inl gt))]) [0, 1] rfl
        have hD9 := hD.sub (ws' := [(ht, .inr (7, [.ref hs, .int tl, .int v_8, .int v_9, .int v_10, .int v_11, .int tp, .int v_32])), (hs, .inl ((cs 1), 400, .inl gt))]) [0, 1] (by decide) rfl
        exact W.iret (v := (-1)) hx hb hr (fun t9 ht9 hW9 => ⟨⟨_, v_32, rfl, ⟨⟨by decide, by decide⟩, fun q9 => absurd q9 rp_33, fun _ => rp_33⟩, ⟨v_8, v_9, v_10, v_11, tp, r_12, r_13, r_tp, by rw [ht9]; exact hP9, hD9⟩⟩, hS.F ht9⟩) hS.2.2 dX9_takeNumber_49
  · refine lv_aload_n hx hb dX9_takeNumber_18 rfl (lv_at hl 0 rfl) ?_
    refine lv_iconst (v := 0) hx hb dX9_takeNumber_19 (by decide) ?_
    have hPc := hP.sub (ws' := [(ht, .inr (7, [.ref hs, .int tl, .int tk, .int tp, .int tb, .int tv, .int tp, .int tf])), (hs, .inl ((cs 1), 400, .inl gt))]) [0, 1] rfl
    have hDc := hD.sub (ws' := [(ht, .inr (7, [.ref hs, .int tl, .int tk, .int tp, .int tb, .int tv, .int tp, .int tf])), (hs, .inl ((cs 1), 400, .inl gt))]) [0, 1] (by decide) rfl
    have hFc := va_free (wc := [(ht, .inr (7, [.ref hs, .int tl, .int tk, .int tp, .int tb, .int tv, .int tp, .int tf])), (hs, .inl ((cs 1), 400, .inl gt))]) hD hS hA [0, 1] rfl
    refine va_callv (va_runV (As := [.int 0]) (rest := []) ⟨hx, hb, hml, hown, hts⟩ (c_Text_failHere l D cs X H.size ht hs tl tk tp tb tv tp tf gt 0 r_tp (Rg.wk (lo2 := 0) (hi2 := 4) (Rg.c (c := 0) (k := 0) rfl) (by decide))) ⟨callB_of 1 hts (gd_C qq_2_205) rfl rfl rfl (hT _ qq_1_2) (hT _ qq_2_220) (by decide +kernel) (rm_R rfl rfl), (hT _ qq_2_203), (hT _ qq_2_204)⟩ (pr_V hPc hK hDc hN (hR.sub (wo' := []) [] rfl) hS hFc hX hXs (ci := 7) (q0 := 0) rfl rfl) rfl rfl hl.1 rfl (lv_room (Nat.le_of_ble_eq_true rfl)) dX9_takeNumber_20 ⟨Nat.le_of_ble_eq_true rfl, Nat.le_of_ble_eq_true rfl⟩) hS (fun q _ h => hFc q h) hFc (fun u_34 t_37 H1 locs ht9 hvm hw_35 hB_36 hz1 hk1 hS => ?_)
    obtain ⟨v_39, rp_40, hP1, hD1⟩ := hB_36
    rw [ht9] at hP1
    obtain ⟨hP, hD⟩ := va_join (wr := []) (w1 := [(ht, .inr (7, [.ref hs, .int tl, .int tk, .int tp, .int tb, .int tv, .int tp, .int v_39])), (hs, .inl ((cs 1), 400, .inl gt))]) hP hD [0, 1] [] rfl rfl (by decide) (by decide) hk1 hFc hP1 hD1
    generalize H1 = H at hP hS ⊢
    have hP : va_P D vwCl [(ht, .inr (7, [.ref hs, .int tl, .int tk, .int tp, .int tb, .int tv, .int tp, .int v_39])), (hs, .inl ((cs 1), 400, .inl gt))] H := hP
    have hD : va_D A [(ht, .inr (7, [.ref hs, .int tl, .int tk, .int tp, .int tb, .int tv, .int tp, .int v_39])), (hs, .inl ((cs 1), 400, .inl gt))] := hD
    refine lv_iconst (v := (-1)) hx hb dX9_takeNumber_23 (by decide) ?_
    refine W.widen (k := 0) (n := 0) (Nat.le_of_ble_eq_true rfl) (Nat.le_of_ble_eq_true rfl) ?_
    have hP9 := hP.sub (ws' := [(ht, .inr (7, [.ref hs, .int tl, .int tk, .int tp, .int tb, .int tv, .int tp, .int v_39])), (hs, .inl ((cs 1), 400, .inl gt))]) [0, 1] rfl
    have hD9 := hD.sub (ws' := [(ht, .inr (7, [.ref hs, .int tl, .int tk, .int tp, .int tb, .int tv, .int tp, .int v_39])), (hs, .inl ((cs 1), 400, .inl gt))]) [0, 1] (by decide) rfl
    exact W.iret (v := (-1)) hx hb hr (fun t9 ht9 hW9 => ⟨⟨_, v_39, rfl, ⟨⟨by decide, by decide⟩, fun q9 => absurd q9 rp_40, fun _ => rp_40⟩, ⟨tk, tp, tb, tv, tp, r_tp, r_tb, r_tp, by rw [ht9]; exact hP9, hD9⟩⟩, hS.F ht9⟩) hS.2.2 dX9_takeNumber_24
