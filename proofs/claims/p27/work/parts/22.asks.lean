theorem dX11_button_0 : decode cX11_button 0 = .ok (.aload_n 0, 1) := by decide +kernel
theorem dX11_button_1 : decode cX11_button 1 = .ok (.getfield 32, 3) := by decide +kernel
theorem qq_1_206 : Cond.fieldLink "WrongHole" 32 "WrongHole" "now" "LWrongHole$Worn;" ∈ TB := mk_tb (ti_1 (List.mem_of_getElem? (i := 206) rfl)) rfl
theorem iq_RX11 (cd : Cond) : ∀ w ∈ u_ws RX11 TX11 12, w ∈ cd :: TB := by
  intro w hw
  obtain ⟨k, hk, rfl⟩ := List.mem_map.mp hw
  have hk := List.mem_range.mp hk
  refine List.mem_cons_of_mem _ ?_
  match k, hk with
  | 0, _ => exact mk_tb (ti_1 (List.mem_of_getElem? (i := 214) rfl)) rfl
  | 1, _ => exact mk_tb (ti_1 (List.mem_of_getElem? (i := 216) rfl)) rfl
  | 2, _ => exact mk_tb (ti_1 (List.mem_of_getElem? (i := 218) rfl)) rfl
  | 3, _ => exact mk_tb (ti_1 (List.mem_of_getElem? (i := 220) rfl)) rfl
  | 4, _ => exact mk_tb (ti_1 (List.mem_of_getElem? (i := 222) rfl)) rfl
  | 5, _ => exact mk_tb (ti_1 (List.mem_of_getElem? (i := 224) rfl)) rfl
  | 6, _ => exact mk_tb (ti_1 (List.mem_of_getElem? (i := 226) rfl)) rfl
  | 7, _ => exact mk_tb (ti_1 (List.mem_of_getElem? (i := 228) rfl)) rfl
  | 8, _ => exact mk_tb (ti_1 (List.mem_of_getElem? (i := 230) rfl)) rfl
  | 9, _ => exact mk_tb (ti_1 (List.mem_of_getElem? (i := 232) rfl)) rfl
  | 10, _ => exact mk_tb (ti_1 (List.mem_of_getElem? (i := 234) rfl)) rfl
  | 11, _ => exact mk_tb (ti_1 (List.mem_of_getElem? (i := 236) rfl)) rfl
  | n + 12, h => exact absurd h (by omega)
theorem dX11_button_4 : decode cX11_button 4 = .ok (.getfield 86, 3) := by decide +kernel
theorem nq_1_99 : Cond.fieldLinkNest "WrongHole" 86 "WrongHole$Worn" "lift" "LWrongHole$Lift;" "WrongHole" ∈ NW := mk_nw (ti_1 (List.mem_of_getElem? (i := 99) rfl)) rfl
theorem dX11_button_7 : decode cX11_button 7 = .ok (.astore_n 3, 1) := by decide +kernel
theorem dX11_button_8 : decode cX11_button 8 = .ok (.aload_n 3, 1) := by decide +kernel
theorem dX11_button_9 : decode cX11_button 9 = .ok (.ifnull 11, 3) := by decide +kernel
theorem dX11_button_20 : decode cX11_button 20 = .ok (.bipush (-2), 2) := by decide +kernel
theorem dX11_button_22 : decode cX11_button 22 = .ok (.ireturn, 1) := by decide +kernel
set_option maxHeartbeats 4000000 in
set_option maxRecDepth 100000 in
theorem c_W_button_n (l : Launch) (D : va_G) (cs : Nat → ClassId) (ox : Nat) (ht : Nat) (hq : Nat) (og : Nat) (rc : Int32) (hw : Nat) (om : Nat) (hp : Nat) (ha : Nat) (hf : Nat) (hw0 : Nat) (qh : Option Nat) (qo : Option Nat) (wk : Int32) (wc : Int32) (wx : Int32) (wn : Int32) (wa0 : Nat) (wa1 : Nat) (wa2 : Nat) (wa3 : Nat) (b : Int32) (a : Int32)  : Met l yX11_button (Cond.code yX11_button cX11_button 4 (some .int) :: TB) (RM 3 0 0) (va_Pc [.ref ox, .int b, .int a] (PRR D cs [(ox, .inr (9, [.ref ht, .ref hq, .ref og, .int rc, .ref hw, .ref om, .ref hp, .ref ha, .ref hf, .ref hw0, va_rf qh, va_rf qo])), (hw, .inr (8, [.null, .int wk, .int wc, .int wx, .int wn, .ref wa0, .ref wa1, .ref wa2, .ref wa3]))])) (QP (fun v => ∃ x : Int32, v = .int x)) 0 0 (fun _ => False) := by
  refine MER (y := yX11_button) (cc := cX11_button) (maxL := 4) (ret := (some .int)) (d := 3) (D := D) (cs := cs) (ws := [(ox, .inr (9, [.ref ht, .ref hq, .ref og, .int rc, .ref hw, .ref om, .ref hp, .ref ha, .ref hf, .ref hw0, va_rf qh, va_rf qo])), (hw, .inr (8, [.null, .int wk, .int wc, .int wx, .int wn, .ref wa0, .ref wa1, .ref wa2, .ref wa3]))]) (av := [.ref ox, .int b, .int a]) (Qc := QP (fun v => ∃ x : Int32, v = .int x)) (by decide) (Nat.le_of_ble_eq_true rfl) ?_
  intro p e s m below meth c ls H hHe hx hb hr hml hown hts hlocks hP hK hN hl
  obtain ⟨locs, hlc⟩ : ∃ z : List Loc, z = [] := ⟨_, rfl⟩
  rw [← hlc]
  have hown : s.vm.findClass "WrongHole" = some m.cls := hown
  have hT : ∀ w ∈ TB, w.before ([.ref ox, .int b, .int a] : List Value).toArray s = true := fun w h => hts w (List.mem_cons_of_mem _ h)
  have hl : lv_has ls 4 [(0, .ref ox), (1, .int b), (2, .int a)] := hl
  have hP : va_P D vwCl [(ox, .inr (9, [.ref ht, .ref hq, .ref og, .int rc, .ref hw, .ref om, .ref hp, .ref ha, .ref hf, .ref hw0, va_rf qh, va_rf qo])), (hw, .inr (8, [.null, .int wk, .int wc, .int wx, .int wn, .ref wa0, .ref wa1, .ref wa2, .ref wa3]))] H := hP
  refine lv_aload_n hx hb dX11_button_0 rfl (lv_at hl 0 rfl) ?_
  refine va_get (D := D) (ci := 9) (v := .ref hw) (C := "WrongHole") (T := TX11) (N := 12) hx hb hts (iq_RX11 _) hown hK hP 0 rfl rfl 4 (by decide) (hT _ qq_1_206) (fun _ h9 => h9) rfl dX11_button_1 ?_
  refine va_getN (D := D) (ci := 8) (v := .null) (C := "WrongHole$Worn") (T := TX10) (N := 9) hx hb hts (iq_RX10 _) hown hK hP 1 rfl rfl 0 (by decide) (NN.f hN nq_1_99) (fun _ h9 => h9) rfl dX11_button_4 ?_
  refine lv_astore_nN (lv' := [(3, .null), (0, .ref ox), (1, .int b), (2, .int a)]) hx hb dX11_button_7 rfl hl (by decide) rfl (fun ls hl => ?_)
  refine lv_aload_nN hx hb dX11_button_8 rfl (lv_at hl 0 rfl) ?_
  refine lv_ifnullN (tgt := 20) hx hb dX11_button_9 (by decide) ?_
  refine lv_bipush (v := (-2)) hx hb dX11_button_20 (by decide) ?_
  exact W.iret (v := (-2)) hx hb hr (fun t9 ht9 hW9 => ⟨⟨_, rfl, _, rfl⟩, ht9.trans hHe⟩) (fun _ h9 => by rw [hlc] at h9; exact absurd h9 List.not_mem_nil) dX11_button_22
theorem dX11_button_12 : decode cX11_button 12 = .ok (.aload_n 3, 1) := by decide +kernel
theorem dX11_button_13 : decode cX11_button 13 = .ok (.iload_n 1, 1) := by decide +kernel
theorem dX11_button_14 : decode cX11_button 14 = .ok (.invokevirtual 115, 3) := by decide +kernel
theorem qq_3_161 : Cond.methodLink "WrongHole" 115 yX2_hasButton ∈ TB := mk_tb (ti_3 (List.mem_of_getElem? (i := 161) rfl)) rfl
theorem dX11_button_17 : decode cX11_button 17 = .ok (.ifCond .ne 6, 3) := by decide +kernel
theorem dX11_button_23 : decode cX11_button 23 = .ok (.iload_n 2, 1) := by decide +kernel
theorem dX11_button_24 : decode cX11_button 24 = .ok (.tableswitch 117 0 7 #[48, 60, 67, 76, 82, 88, 95, 108], 48) := by decide +kernel
theorem sw_0_7 (v : Int32) : (Int32.toInt v < 0 ∨ 7 < Int32.toInt v) ∨ v = 0 ∨ v = 1 ∨ v = 2 ∨ v = 3 ∨ v = 4 ∨ v = 5 ∨ v = 6 ∨ v = 7 := by
  simp only [← Int32.toInt_inj]
  simp (config := { decide := true }) only [show Int32.toInt 0 = 0 from rfl, show Int32.toInt 1 = 1 from rfl, show Int32.toInt 2 = 2 from rfl, show Int32.toInt 3 = 3 from rfl, show Int32.toInt 4 = 4 from rfl, show Int32.toInt 5 = 5 from rfl, show Int32.toInt 6 = 6 from rfl, show Int32.toInt 7 = 7 from rfl]
  omega
theorem dX11_button_141 : decode cX11_button 141 = .ok (.bipush (-2), 2) := by decide +kernel
theorem dX11_button_143 : decode cX11_button 143 = .ok (.ireturn, 1) := by decide +kernel
theorem dX11_button_72 : decode cX11_button 72 = .ok (.aload_n 0, 1) := by decide +kernel
theorem dX11_button_73 : decode cX11_button 73 = .ok (.getfield 32, 3) := by decide +kernel
theorem dX11_button_76 : decode cX11_button 76 = .ok (.getfield 95, 3) := by decide +kernel
theorem nq_1_101 : Cond.fieldLinkNest "WrongHole" 95 "WrongHole$Worn" "key" "I" "WrongHole" ∈ NW := mk_nw (ti_1 (List.mem_of_getElem? (i := 101) rfl)) rfl
theorem dX11_button_79 : decode cX11_button 79 = .ok (.iload_n 1, 1) := by decide +kernel
theorem dX11_button_80 : decode cX11_button 80 = .ok (.invokestatic 118, 3) := by decide +kernel
theorem qq_3_167 : Cond.code yX6_holeOf cX6_holeOf 2 (some .int) ∈ TB := mk_tb (ti_3 (List.mem_of_getElem? (i := 167) rfl)) rfl
theorem qq_3_165 : Cond.methodLink "WrongHole" 118 yX6_holeOf ∈ TB := mk_tb (ti_3 (List.mem_of_getElem? (i := 165) rfl)) rfl
theorem qq_3_166 : Cond.static yX6_holeOf ∈ TB := mk_tb (ti_3 (List.mem_of_getElem? (i := 166) rfl)) rfl
theorem dX11_button_83 : decode cX11_button 83 = .ok (.ireturn, 1) := by decide +kernel
theorem dX11_button_84 : decode cX11_button 84 = .ok (.aload_n 3, 1) := by decide +kernel
theorem dX11_button_85 : decode cX11_button 85 = .ok (.getfield 124, 3) := by decide +kernel
theorem nq_2_67 : Cond.fieldLinkNest "WrongHole" 124 "WrongHole$Lift" "sorts" "[I" "WrongHole" ∈ NW := mk_nw (ti_2 (List.mem_of_getElem? (i := 67) rfl)) rfl
theorem dX11_button_88 : decode cX11_button 88 = .ok (.iload_n 1, 1) := by decide +kernel
theorem dX11_button_89 : decode cX11_button 89 = .ok (.iaload, 1) := by decide +kernel
theorem dX11_button_90 : decode cX11_button 90 = .ok (.ireturn, 1) := by decide +kernel
theorem dX11_button_91 : decode cX11_button 91 = .ok (.aload_n 3, 1) := by decide +kernel
theorem dX11_button_92 : decode cX11_button 92 = .ok (.getfield 127, 3) := by decide +kernel
theorem nq_2_42 : Cond.fieldLinkNest "WrongHole" 127 "WrongHole$Lift" "gone" "I" "WrongHole" ∈ NW := mk_nw (ti_2 (List.mem_of_getElem? (i := 42) rfl)) rfl
theorem dX11_button_95 : decode cX11_button 95 = .ok (.iload_n 1, 1) := by decide +kernel
theorem dX11_button_96 : decode cX11_button 96 = .ok (.ishr, 1) := by decide +kernel
theorem dX11_button_97 : decode cX11_button 97 = .ok (.iconst 1, 1) := by decide +kernel
theorem dX11_button_98 : decode cX11_button 98 = .ok (.iand, 1) := by decide +kernel
theorem dX11_button_99 : decode cX11_button 99 = .ok (.ireturn, 1) := by decide +kernel
theorem dX11_button_100 : decode cX11_button 100 = .ok (.aload_n 3, 1) := by decide +kernel
theorem dX11_button_101 : decode cX11_button 101 = .ok (.iload_n 1, 1) := by decide +kernel
theorem dX11_button_102 : decode cX11_button 102 = .ok (.invokevirtual 130, 3) := by decide +kernel
theorem qq_3_171 : Cond.methodLink "WrongHole" 130 yX2_undoing ∈ TB := mk_tb (ti_3 (List.mem_of_getElem? (i := 171) rfl)) rfl
theorem dX11_button_105 : decode cX11_button 105 = .ok (.ireturn, 1) := by decide +kernel
theorem dX11_button_106 : decode cX11_button 106 = .ok (.aload_n 3, 1) := by decide +kernel
theorem dX11_button_107 : decode cX11_button 107 = .ok (.iload_n 1, 1) := by decide +kernel
theorem dX11_button_108 : decode cX11_button 108 = .ok (.invokevirtual 134, 3) := by decide +kernel
theorem qq_3_175 : Cond.methodLink "WrongHole" 134 yX2_doing ∈ TB := mk_tb (ti_3 (List.mem_of_getElem? (i := 175) rfl)) rfl
theorem dX11_button_111 : decode cX11_button 111 = .ok (.ireturn, 1) := by decide +kernel
theorem dX11_button_112 : decode cX11_button 112 = .ok (.aload_n 3, 1) := by decide +kernel
theorem dX11_button_113 : decode cX11_button 113 = .ok (.getfield 137, 3) := by decide +kernel
theorem nq_2_78 : Cond.fieldLinkNest "WrongHole" 137 "WrongHole$Lift" "worths" "[I" "WrongHole" ∈ NW := mk_nw (ti_2 (List.mem_of_getElem? (i := 78) rfl)) rfl
theorem dX11_button_116 : decode cX11_button 116 = .ok (.iload_n 1, 1) := by decide +kernel
theorem dX11_button_117 : decode cX11_button 117 = .ok (.iaload, 1) := by decide +kernel
theorem dX11_button_118 : decode cX11_button 118 = .ok (.ireturn, 1) := by decide +kernel
theorem dX11_button_119 : decode cX11_button 119 = .ok (.aload_n 3, 1) := by decide +kernel
theorem dX11_button_120 : decode cX11_button 120 = .ok (.iload_n 1, 1) := by decide +kernel
theorem dX11_button_121 : decode cX11_button 121 = .ok (.aload_n 0, 1) := by decide +kernel
theorem dX11_button_122 : decode cX11_button 122 = .ok (.getfield 32, 3) := by decide +kernel
theorem dX11_button_125 : decode cX11_button 125 = .ok (.getfield 96, 3) := by decide +kernel
theorem nq_1_103 : Cond.fieldLinkNest "WrongHole" 96 "WrongHole$Worn" "clock" "I" "WrongHole" ∈ NW := mk_nw (ti_1 (List.mem_of_getElem? (i := 103) rfl)) rfl
theorem dX11_button_128 : decode cX11_button 128 = .ok (.invokevirtual 140, 3) := by decide +kernel
theorem qq_3_182 : Cond.code yX2_eyesOn cX2_eyesOn 5 (some .int) ∈ TB := mk_tb (ti_3 (List.mem_of_getElem? (i := 182) rfl)) rfl
theorem qq_3_179 : Cond.methodLink "WrongHole" 140 yX2_eyesOn ∈ TB := mk_tb (ti_3 (List.mem_of_getElem? (i := 179) rfl)) rfl
theorem qq_3_180 : Cond.instanceMethod yX2_eyesOn ∈ TB := mk_tb (ti_3 (List.mem_of_getElem? (i := 180) rfl)) rfl
theorem qq_3_181 : Cond.selects "WrongHole$Lift" yX2_eyesOn yX2_eyesOn ∈ TB := mk_tb (ti_3 (List.mem_of_getElem? (i := 181) rfl)) rfl
theorem dX11_button_131 : decode cX11_button 131 = .ok (.ireturn, 1) := by decide +kernel
theorem dX11_button_132 : decode cX11_button 132 = .ok (.aload_n 3, 1) := by decide +kernel
theorem dX11_button_133 : decode cX11_button 133 = .ok (.getfield 143, 3) := by decide +kernel
theorem nq_2_63 : Cond.fieldLinkNest "WrongHole" 143 "WrongHole$Lift" "able" "I" "WrongHole" ∈ NW := mk_nw (ti_2 (List.mem_of_getElem? (i := 63) rfl)) rfl
theorem dX11_button_136 : decode cX11_button 136 = .ok (.iload_n 1, 1) := by decide +kernel
theorem dX11_button_137 : decode cX11_button 137 = .ok (.ishr, 1) := by decide +kernel
theorem dX11_button_138 : decode cX11_button 138 = .ok (.iconst 1, 1) := by decide +kernel
theorem dX11_button_139 : decode cX11_button 139 = .ok (.iand, 1) := by decide +kernel
theorem dX11_button_140 : decode cX11_button 140 = .ok (.ireturn, 1) := by decide +kernel
set_option maxHeartbeats 4000000 in
set_option maxRecDepth 100000 in
theorem c_W_button_r (l : Launch) (D : va_G) (cs : Nat → ClassId) (ox : Nat) (ht : Nat) (hq : Nat) (og : Nat) (rc : Int32) (hw : Nat) (om : Nat) (hp : Nat) (ha : Nat) (hf : Nat) (hw0 : Nat) (qh : Option Nat) (qo : Option Nat) (wk : Int32) (wc : Int32) (wx : Int32) (wn : Int32) (wa0 : Nat) (wa1 : Nat) (wa2 : Nat) (wa3 : Nat) (hl0 : Nat) (lb : Int32) (lh : Int32) (lg : Int32) (lw : Int32) (lv : Int32) (lbs : Int32) (lti : Int32) (lts : Int32) (le : Int32) (lk : Int32) (la : Int32) (l0 : Nat) (l1 : Nat) (l2 : Nat) (l3 : Nat) (l4 : Nat) (l5 : Nat) (l6 : Nat) (l7 : Nat) (f0 : Nat → Int32) (f2 : Nat → Int32) (f3 : Nat → Int32) (f4 : Nat → Int32) (f6 : Nat → Int32) (f7 : Nat → Int32) (b : Int32) (a : Int32) (r_lb : Rg 0 8 lb) (r_lh : Rg 0 8 lh) (r_le : Rg 0 6 le) : Met l yX11_button (Cond.code yX11_button cX11_button 4 (some .int) :: TB) (RM 3 0 0) (va_Pc [.ref ox, .int b, .int a] (PRR D cs [(ox, .inr (9, [.ref ht, .ref hq, .ref og, .int rc, .ref hw, .ref om, .ref hp, .ref ha, .ref hf, .ref hw0, va_rf qh, va_rf qo])), (hw, .inr (8, [.ref hl0, .int wk, .int wc, .int wx, .int wn, .ref wa0, .ref wa1, .ref wa2, .ref wa3])), (hl0, .inr (2, [.int lb, .int lh, .int lg, .int lw, .int lv, .int lbs, .int lti, .int lts, .int le, .int lk, .int la, .ref l0, .ref l1, .ref l2, .ref l3, .ref l4, .ref l5, .ref l6, .ref l7])), (l0, .inl ((cs 0), 8, .inl f0)), (l2, .inl ((cs 0), 8, .inl f2)), (l3, .inl ((cs 0), 8, .inl f3)), (l4, .inl ((cs 0), 8, .inl f4)), (l6, .inl ((cs 0), 6, .inl f6)), (l7, .inl ((cs 0), 6, .inl f7))])) (QP (fun v => ∃ x : Int32, v = .int x)) 0 0 (fun _ => False) := by
  refine MER (y := yX11_button) (cc := cX11_button) (maxL := 4) (ret := (some .int)) (d := 3) (D := D) (cs := cs) (ws := [(ox, .inr (9, [.ref ht, .ref hq, .ref og, .int rc, .ref hw, .ref om, .ref hp, .ref ha, .ref hf, .ref hw0, va_rf qh, va_rf qo])), (hw, .inr (8, [.ref hl0, .int wk, .int wc, .int wx, .int wn, .ref wa0, .ref wa1, .ref wa2, .ref wa3])), (hl0, .inr (2, [.int lb, .int lh, .int lg, .int lw, .int lv, .int lbs, .int lti, .int lts, .int le, .int lk, .int la, .ref l0, .ref l1, .ref l2, .ref l3, .ref l4, .ref l5, .ref l6, .ref l7])), (l0, .inl ((cs 0), 8, .inl f0)), (l2, .inl ((cs 0), 8, .inl f2)), (l3, .inl ((cs 0), 8, .inl f3)), (l4, .inl ((cs 0), 8, .inl f4)), (l6, .inl ((cs 0), 6, .inl f6)), (l7, .inl ((cs 0), 6, .inl f7))]) (av := [.ref ox, .int b, .int a]) (Qc := QP (fun v => ∃ x : Int32, v = .int x)) (by decide) (Nat.le_of_ble_eq_true rfl) ?_
  intro p e s m below meth c ls H hHe hx hb hr hml hown hts hlocks hP hK hN hl
  obtain ⟨locs, hlc⟩ : ∃ z : List Loc, z = [] := ⟨_, rfl⟩
  rw [← hlc]
  have hown : s.vm.findClass "WrongHole" = some m.cls := hown
  have hT : ∀ w ∈ TB, w.before ([.ref ox, .int b, .int a] : List Value).toArray s = true := fun w h => hts w (List.mem_cons_of_mem _ h)
  have hl : lv_has ls 4 [(0, .ref ox), (1, .int b), (2, .int a)] := hl
  have hP : va_P D vwCl [(ox, .inr (9, [.ref ht, .ref hq, .ref og, .int rc, .ref hw, .ref om, .ref hp, .ref ha, .ref hf, .ref hw0, va_rf qh, va_rf qo])), (hw, .inr (8, [.ref hl0, .int wk, .int wc, .int wx, .int wn, .ref wa0, .ref wa1, .ref wa2, .ref wa3])), (hl0, .inr (2, [.int lb, .int lh, .int lg, .int lw, .int lv, .int lbs, .int lti, .int lts, .int le, .int lk, .int la, .ref l0, .ref l1, .ref l2, .ref l3, .ref l4, .ref l5, .ref l6, .ref l7])), (l0, .inl ((cs 0), 8, .inl f0)), (l2, .inl ((cs 0), 8, .inl f2)), (l3, .inl ((cs 0), 8, .inl f3)), (l4, .inl ((cs 0), 8, .inl f4)), (l6, .inl ((cs 0), 6, .inl f6)), (l7, .inl ((cs 0), 6, .inl f7))] H := hP
  refine lv_aload_n hx hb dX11_button_0 rfl (lv_at hl 0 rfl) ?_
  refine va_get (D := D) (ci := 9) (v := .ref hw) (C := "WrongHole") (T := TX11) (N := 12) hx hb hts (iq_RX11 _) hown hK hP 0 rfl rfl 4 (by decide) (hT _ qq_1_206) (fun _ h9 => h9) rfl dX11_button_1 ?_
  refine va_getN (D := D) (ci := 8) (v := .ref hl0) (C := "WrongHole$Worn") (T := TX10) (N := 9) hx hb hts (iq_RX10 _) hown hK hP 1 rfl rfl 0 (by decide) (NN.f hN nq_1_99) (fun _ h9 => h9) rfl dX11_button_4 ?_
  refine lv_astore_n (lv' := [(3, .ref hl0), (0, .ref ox), (1, .int b), (2, .int a)]) hx hb dX11_button_7 rfl hl (by decide) rfl (fun ls hl => ?_)
  refine lv_aload_n hx hb dX11_button_8 rfl (lv_at hl 0 rfl) ?_
  refine lv_ifnull hx hb dX11_button_9 ?_
  refine lv_aload_n hx hb dX11_button_12 rfl (lv_at hl 0 rfl) ?_
  refine lv_iload_n hx hb dX11_button_13 rfl (lv_at hl 2 rfl) ?_
  have hPc := va_P.sub (ws' := [(hl0, .inr (2, [.int lb, .int lh, .int lg, .int lw, .int lv, .int lbs, .int lti, .int lts, .int le, .int lk, .int la, .ref l0, .ref l1, .ref l2, .ref l3, .ref l4, .ref l5, .ref l6, .ref l7]))]) hP [2] rfl
  refine cl_P (W.runV (As := [.int b]) (rest := []) ⟨hx, hb, hml, hown, hts⟩ (c_Lift_hasButton l D cs hl0 lb lh lg lw lv lbs lti lts le lk la l0 l1 l2 l3 l4 l5 l6 l7 b) ⟨callB_of 1 hts (gd_C qq_3_164) rfl rfl rfl (hT _ qq_1_11) (hT _ qq_3_161) (by decide +kernel) (rm_R rfl rfl), (hT _ qq_3_162), (hT _ qq_3_163)⟩ (pq_V hPc hK hN (ci := 2) (q0 := 0) rfl rfl) rfl rfl hl.1 rfl (lv_room (Nat.le_of_ble_eq_true rfl)) dX11_button_14 ⟨Nat.le_of_ble_eq_true rfl, Nat.le_of_ble_eq_true rfl⟩) (fun v9 hz_2 => ?_)
  obtain ⟨x_1, rfl, r_3⟩ := hz_2
  refine lv_if_ne (tgt := 23) hx hb dX11_button_17 (by decide) (fun c_4 => ?_) (fun c_4 => ?_)
  · have r_5 : Rg 1 1 x_1 := Rg.ne c_4 r_3.1 (Rg.c (c := 0) (k := 0) rfl) (by decide)
    have r_7 : Rg 0 7 b := hb_r (r_3.2 c_4) r_lb (by decide)
    refine lv_iload_n hx hb dX11_button_23 rfl (lv_at hl 3 rfl) ?_
    rcases sw_0_7 a with c_8 | c_8 | c_8 | c_8 | c_8 | c_8 | c_8 | c_8 | c_8
    · refine lv_tableOut (tgt := 141) hx hb dX11_button_24 c_8 (by decide) ?_
      refine lv_bipush (v := (-2)) hx hb dX11_button_141 (by decide) ?_
      exact W.iret (v := (-2)) hx hb hr (fun t9 ht9 hW9 => ⟨⟨_, rfl, _, rfl⟩, ht9.trans hHe⟩) (fun _ h9 => by rw [hlc] at h9; exact absurd h9 List.not_mem_nil) dX11_button_143
    · refine tc_i 0 c_8 ?_
      have r_9 : Rg 0 0 a := Rg.of c_8 (Rg.c rfl)
      refine lv_tableIn (tgt := 72) hx hb dX11_button_24 (by decide) (by decide) rfl (by decide) ?_
      refine lv_aload_n hx hb dX11_button_72 rfl (lv_at hl 1 rfl) ?_
      refine va_get (D := D) (ci := 9) (v := .ref hw) (C := "WrongHole") (T := TX11) (N := 12) hx hb hts (iq_RX11 _) hown hK hP 0 rfl rfl 4 (by decide) (hT _ qq_1_206) (fun _ h9 => h9) rfl dX11_button_73 ?_
      refine va_getN (D := D) (ci := 8) (v := .int wk) (C := "WrongHole$Worn") (T := TX10) (N := 9) hx hb hts (iq_RX10 _) hown hK hP 1 rfl rfl 1 (by decide) (NN.f hN nq_1_101) (fun _ h9 => h9) rfl dX11_button_76 ?_
      refine lv_iload_n hx hb dX11_button_79 rfl (lv_at hl 2 rfl) ?_
      have hPc := va_P.sub (ws' := []) hP [] rfl
      refine cl_P (W.runS (As := [.int wk, .int b]) (rest := []) ⟨hx, hb, hml, hown, hts⟩ (c_Rows_holeOf l D cs wk b) ⟨callB_of 2 hts (gd_C qq_3_167) rfl rfl rfl (hT _ qq_1_16) (hT _ qq_3_165) (by decide +kernel) (rm_R rfl rfl), (hT _ qq_3_166)⟩ (pq_S hPc hK hN) rfl rfl hl.1 rfl (lv_room (Nat.le_of_ble_eq_true rfl)) dX11_button_80 ⟨Nat.le_of_ble_eq_true rfl, Nat.le_of_ble_eq_true rfl⟩) (fun v9 hz_18 => ?_)
      obtain ⟨x_17, rfl, r_19⟩ := hz_18
      exact W.iret (v := x_17) hx hb hr (fun t9 ht9 hW9 => ⟨⟨_, rfl, _, rfl⟩, ht9.trans hHe⟩) (fun _ h9 => by rw [hlc] at h9; exact absurd h9 List.not_mem_nil) dX11_button_83
    · refine tc_i 1 c_8 ?_
      have r_10 : Rg 1 1 a := Rg.of c_8 (Rg.c rfl)
      refine lv_tableIn (tgt := 84) hx hb dX11_button_24 (by decide) (by decide) rfl (by decide) ?_
      refine lv_aload_n hx hb dX11_button_84 rfl (lv_at hl 0 rfl) ?_
      refine va_getN (D := D) (ci := 2) (v := .ref l0) (C := "WrongHole$Lift") (T := TX2) (N := 19) hx hb hts (iq_RX2 _) hown hK hP 2 rfl rfl 11 (by decide) (NN.f hN nq_2_67) (fun _ h9 => h9) rfl dX11_button_85 ?_
      refine lv_iload_n hx hb dX11_button_88 rfl (lv_at hl 2 rfl) ?_
      have hi_20 : vp_in b 8 := Rg.in r_7 (by decide)
      refine va_iald hx hb hK hP 3 0 rfl rfl hi_20 dX11_button_89 ?_
      refine lv_topi (fun x_21 e_22 => ?_)
      exact W.iret (v := x_21) hx hb hr (fun t9 ht9 hW9 => ⟨⟨_, rfl, _, rfl⟩, ht9.trans hHe⟩) (fun _ h9 => by rw [hlc] at h9; exact absurd h9 List.not_mem_nil) dX11_button_90
    · refine tc_i 2 c_8 ?_
      have r_11 : Rg 2 2 a := Rg.of c_8 (Rg.c rfl)
      refine lv_tableIn (tgt := 91) hx hb dX11_button_24 (by decide) (by decide) rfl (by decide) ?_
      refine lv_aload_n hx hb dX11_button_91 rfl (lv_at hl 0 rfl) ?_
      refine va_getN (D := D) (ci := 2) (v := .int lg) (C := "WrongHole$Lift") (T := TX2) (N := 19) hx hb hts (iq_RX2 _) hown hK hP 2 rfl rfl 2 (by decide) (NN.f hN nq_2_42) (fun _ h9 => h9) rfl dX11_button_92 ?_
      refine lv_iload_n hx hb dX11_button_95 rfl (lv_at hl 2 rfl) ?_
      refine lv_ishr hx hb dX11_button_96 ?_
      refine lv_topi (fun x_23 e_24 => ?_)
      refine lv_iconst (v := 1) hx hb dX11_button_97 (by decide) ?_
      refine lv_iand hx hb dX11_button_98 ?_
      refine lv_topi (fun x_25 e_26 => ?_)
      have r_27 : Rg 0 1 x_25 := Rg.and e_26 (Rg.c (c := 1) (k := 1) rfl) (by decide)
      exact W.iret (v := x_25) hx hb hr (fun t9 ht9 hW9 => ⟨⟨_, rfl, _, rfl⟩, ht9.trans hHe⟩) (fun _ h9 => by rw [hlc] at h9; exact absurd h9 List.not_mem_nil) dX11_button_99
    · refine tc_i 3 c_8 ?_
      have r_12 : Rg 3 3 a := Rg.of c_8 (Rg.c rfl)
      refine lv_tableIn (tgt := 100) hx hb dX11_button_24 (by decide) (by decide) rfl (by decide) ?_
      refine lv_aload_n hx hb dX11_button_100 rfl (lv_at hl 0 rfl) ?_
      refine lv_iload_n hx hb dX11_button_101 rfl (lv_at hl 2 rfl) ?_
      have hPc := va_P.sub (ws' := [(hl0, .inr (2, [.int lb, .int lh, .int lg, .int lw, .int lv, .int lbs, .int lti, .int lts, .int le, .int lk, .int la, .ref l0, .ref l1, .ref l2, .ref l3, .ref l4, .ref l5, .ref l6, .ref l7])), (l2, .inl ((cs 0), 8, .inl f2))]) hP [2, 4] rfl
      refine cl_P (W.runV (As := [.int b]) (rest := []) ⟨hx, hb, hml, hown, hts⟩ (c_Lift_undoing l D cs hl0 lb lh lg lw lv lbs lti lts le lk la l0 l1 l2 l3 l4 l5 l6 l7 f2 b r_lb r_lh r_le r_7) ⟨callB_of 1 hts (gd_C qq_3_174) rfl rfl rfl (hT _ qq_1_11) (hT _ qq_3_171) (by decide +kernel) (rm_R rfl rfl), (hT _ qq_3_172), (hT _ qq_3_173)⟩ (pq_V hPc hK hN (ci := 2) (q0 := 0) rfl rfl) rfl rfl hl.1 rfl (lv_room (Nat.le_of_ble_eq_true rfl)) dX11_button_102 ⟨Nat.le_of_ble_eq_true rfl, Nat.le_of_ble_eq_true rfl⟩) (fun v9 hz_29 => ?_)
      obtain ⟨x_28, rfl⟩ := hz_29
      exact W.iret (v := x_28) hx hb hr (fun t9 ht9 hW9 => ⟨⟨_, rfl, _, rfl⟩, ht9.trans hHe⟩) (fun _ h9 => by rw [hlc] at h9; exact absurd h9 List.not_mem_nil) dX11_button_105
    · refine tc_i 4 c_8 ?_
      have r_13 : Rg 4 4 a := Rg.of c_8 (Rg.c rfl)
      refine lv_tableIn (tgt := 106) hx hb dX11_button_24 (by decide) (by decide) rfl (by decide) ?_
      refine lv_aload_n hx hb dX11_button_106 rfl (lv_at hl 0 rfl) ?_
      refine lv_iload_n hx hb dX11_button_107 rfl (lv_at hl 2 rfl) ?_
      have hPc := va_P.sub (ws' := [(hl0, .inr (2, [.int lb, .int lh, .int lg, .int lw, .int lv, .int lbs, .int lti, .int lts, .int le, .int lk, .int la, .ref l0, .ref l1, .ref l2, .ref l3, .ref l4, .ref l5, .ref l6, .ref l7])), (l3, .inl ((cs 0), 8, .inl f3))]) hP [2, 5] rfl
      refine cl_P (W.runV (As := [.int b]) (rest := []) ⟨hx, hb, hml, hown, hts⟩ (c_Lift_doing l D cs hl0 lb lh lg lw lv lbs lti lts le lk la l0 l1 l2 l3 l4 l5 l6 l7 f3 b r_lb r_lh r_le r_7) ⟨callB_of 1 hts (gd_C qq_3_178) rfl rfl rfl (hT _ qq_1_11) (hT _ qq_3_175) (by decide +kernel) (rm_R rfl rfl), (hT _ qq_3_176), (hT _ qq_3_177)⟩ (pq_V hPc hK hN (ci := 2) (q0 := 0) rfl rfl) rfl rfl hl.1 rfl (lv_room (Nat.le_of_ble_eq_true rfl)) dX11_button_108 ⟨Nat.le_of_ble_eq_true rfl, Nat.le_of_ble_eq_true rfl⟩) (fun v9 hz_32 => ?_)
      obtain ⟨x_31, rfl⟩ := hz_32
      exact W.iret (v := x_31) hx hb hr (fun t9 ht9 hW9 => ⟨⟨_, rfl, _, rfl⟩, ht9.trans hHe⟩) (fun _ h9 => by rw [hlc] at h9; exact absurd h9 List.not_mem_nil) dX11_button_111
    · refine tc_i 5 c_8 ?_
      have r_14 : Rg 5 5 a := Rg.of c_8 (Rg.c rfl)
      refine lv_tableIn (tgt := 112) hx hb dX11_button_24 (by decide) (by decide) rfl (by decide) ?_
      refine lv_aload_n hx hb dX11_button_112 rfl (lv_at hl 0 rfl) ?_
      refine va_getN (D := D) (ci := 2) (v := .ref l4) (C := "WrongHole$Lift") (T := TX2) (N := 19) hx hb hts (iq_RX2 _) hown hK hP 2 rfl rfl 15 (by decide) (NN.f hN nq_2_78) (fun _ h9 => h9) rfl dX11_button_113 ?_
      refine lv_iload_n hx hb dX11_button_116 rfl (lv_at hl 2 rfl) ?_
      have hi_34 : vp_in b 8 := Rg.in r_7 (by decide)
      refine va_iald hx hb hK hP 6 0 rfl rfl hi_34 dX11_button_117 ?_
      refine lv_topi (fun x_35 e_36 => ?_)
      exact W.iret (v := x_35) hx hb hr (fun t9 ht9 hW9 => ⟨⟨_, rfl, _, rfl⟩, ht9.trans hHe⟩) (fun _ h9 => by rw [hlc] at h9; exact absurd h9 List.not_mem_nil) dX11_button_118
    · refine tc_i 6 c_8 ?_
      have r_15 : Rg 6 6 a := Rg.of c_8 (Rg.c rfl)
      refine lv_tableIn (tgt := 119) hx hb dX11_button_24 (by decide) (by decide) rfl (by decide) ?_
      refine lv_aload_n hx hb dX11_button_119 rfl (lv_at hl 0 rfl) ?_
      refine lv_iload_n hx hb dX11_button_120 rfl (lv_at hl 2 rfl) ?_
      refine lv_aload_n hx hb dX11_button_121 rfl (lv_at hl 1 rfl) ?_
      refine va_get (D := D) (ci := 9) (v := .ref hw) (C := "WrongHole") (T := TX11) (N := 12) hx hb hts (iq_RX11 _) hown hK hP 0 rfl rfl 4 (by decide) (hT _ qq_1_206) (fun _ h9 => h9) rfl dX11_button_122 ?_
      refine va_getN (D := D) (ci := 8) (v := .int wc) (C := "WrongHole$Worn") (T := TX10) (N := 9) hx hb hts (iq_RX10 _) hown hK hP 1 rfl rfl 2 (by decide) (NN.f hN nq_1_103) (fun _ h9 => h9) rfl dX11_button_125 ?_
      have hPc := va_P.sub (ws' := [(hl0, .inr (2, [.int lb, .int lh, .int lg, .int lw, .int lv, .int lbs, .int lti, .int lts, .int le, .int lk, .int la, .ref l0, .ref l1, .ref l2, .ref l3, .ref l4, .ref l5, .ref l6, .ref l7])), (l6, .inl ((cs 0), 6, .inl f6)), (l7, .inl ((cs 0), 6, .inl f7))]) hP [2, 7, 8] rfl
      refine cl_P (W.runV (As := [.int b, .int wc]) (rest := []) ⟨hx, hb, hml, hown, hts⟩ (c_Lift_eyesOn l D cs hl0 lb lh lg lw lv lbs lti lts le lk la l0 l1 l2 l3 l4 l5 l6 l7 f6 f7 b wc r_lb r_lh r_le) ⟨callB_of 2 hts (gd_C qq_3_182) rfl rfl rfl (hT _ qq_1_11) (hT _ qq_3_179) (by decide +kernel) (rm_R rfl rfl), (hT _ qq_3_180), (hT _ qq_3_181)⟩ (pq_V hPc hK hN (ci := 2) (q0 := 0) rfl rfl) rfl rfl hl.1 rfl (lv_room (Nat.le_of_ble_eq_true rfl)) dX11_button_128 ⟨Nat.le_of_ble_eq_true rfl, Nat.le_of_ble_eq_true rfl⟩) (fun v9 hz_38 => ?_)
      obtain ⟨x_37, rfl⟩ := hz_38
      exact W.iret (v := x_37) hx hb hr (fun t9 ht9 hW9 => ⟨⟨_, rfl, _, rfl⟩, ht9.trans hHe⟩) (fun _ h9 => by rw [hlc] at h9; exact absurd h9 List.not_mem_nil) dX11_button_131
    · refine tc_i 7 c_8 ?_
      have r_16 : Rg 7 7 a := Rg.of c_8 (Rg.c rfl)
      refine lv_tableIn (tgt := 132) hx hb dX11_button_24 (by decide) (by decide) rfl (by decide) ?_
      refine lv_aload_n hx hb dX11_button_132 rfl (lv_at hl 0 rfl) ?_
      refine va_getN (D := D) (ci := 2) (v := .int la) (C := "WrongHole$Lift") (T := TX2) (N := 19) hx hb hts (iq_RX2 _) hown hK hP 2 rfl rfl 10 (by decide) (NN.f hN nq_2_63) (fun _ h9 => h9) rfl dX11_button_133 ?_
      refine lv_iload_n hx hb dX11_button_136 rfl (lv_at hl 2 rfl) ?_
      refine lv_ishr hx hb dX11_button_137 ?_
      refine lv_topi (fun x_40 e_41 => ?_)
      refine lv_iconst (v := 1) hx hb dX11_button_138 (by decide) ?_
      refine lv_iand hx hb dX11_button_139 ?_
      refine lv_topi (fun x_42 e_43 => ?_)
      have r_44 : Rg 0 1 x_42 := Rg.and e_43 (Rg.c (c := 1) (k := 1) rfl) (by decide)
      exact W.iret (v := x_42) hx hb hr (fun t9 ht9 hW9 => ⟨⟨_, rfl, _, rfl⟩, ht9.trans hHe⟩) (fun _ h9 => by rw [hlc] at h9; exact absurd h9 List.not_mem_nil) dX11_button_140
  · have r_6 : Rg 0 0 x_1 := Rg.eq_l c_4 r_3.1 (Rg.c (c := 0) (k := 0) rfl) (by decide)
    refine lv_bipush (v := (-2)) hx hb dX11_button_20 (by decide) ?_
    exact W.iret (v := (-2)) hx hb hr (fun t9 ht9 hW9 => ⟨⟨_, rfl, _, rfl⟩, ht9.trans hHe⟩) (fun _ h9 => by rw [hlc] at h9; exact absurd h9 List.not_mem_nil) dX11_button_22
theorem dX11_hole_0 : decode cX11_hole 0 = .ok (.aload_n 0, 1) := by decide +kernel
theorem dX11_hole_1 : decode cX11_hole 1 = .ok (.getfield 32, 3) := by decide +kernel
theorem dX11_hole_4 : decode cX11_hole 4 = .ok (.getfield 86, 3) := by decide +kernel
theorem dX11_hole_7 : decode cX11_hole 7 = .ok (.astore_n 3, 1) := by decide +kernel
theorem dX11_hole_8 : decode cX11_hole 8 = .ok (.aload_n 3, 1) := by decide +kernel
theorem dX11_hole_9 : decode cX11_hole 9 = .ok (.ifnull 11, 3) := by decide +kernel
theorem dX11_hole_20 : decode cX11_hole 20 = .ok (.bipush (-2), 2) := by decide +kernel
theorem dX11_hole_22 : decode cX11_hole 22 = .ok (.ireturn, 1) := by decide +kernel
set_option maxHeartbeats 4000000 in
set_option maxRecDepth 100000 in
theorem c_W_hole_n (l : Launch) (D : va_G) (cs : Nat → ClassId) (ox : Nat) (ht : Nat) (hq : Nat) (og : Nat) (rc : Int32) (hw : Nat) (om : Nat) (hp : Nat) (ha : Nat) (hf : Nat) (hw0 : Nat) (qh : Option Nat) (qo : Option Nat) (wk : Int32) (wc : Int32) (wx : Int32) (wn : Int32) (wa0 : Nat) (wa1 : Nat) (wa2 : Nat) (wa3 : Nat) (b : Int32) (a : Int32)  : Met l yX11_hole (Cond.code yX11_hole cX11_hole 4 (some .int) :: TB) (RM 3 0 0) (va_Pc [.ref ox, .int b, .int a] (PRR D cs [(ox, .inr (9, [.ref ht, .ref hq, .ref og, .int rc, .ref hw, .ref om, .ref hp, .ref ha, .ref hf, .ref hw0, va_rf qh, va_rf qo])), (hw, .inr (8, [.null, .int wk, .int wc, .int wx, .int wn, .ref wa0, .ref wa1, .ref wa2, .ref wa3]))])) (QP (fun v => ∃ x : Int32, v = .int x)) 0 0 (fun _ => False) := by
  refine MER (y := yX11_hole) (cc := cX11_hole) (maxL := 4) (ret := (some .int)) (d := 3) (D := D) (cs := cs) (ws := [(ox, .inr (9, [.ref ht, .ref hq, .ref og, .int rc, .ref hw, .ref om, .ref hp, .ref ha, .ref hf, .ref hw0, va_rf qh, va_rf qo])), (hw, .inr (8, [.null, .int wk, .int wc, .int wx, .int wn, .ref wa0, .ref wa1, .ref wa2, .ref wa3]))]) (av := [.ref ox, .int b, .int a]) (Qc := QP (fun v => ∃ x : Int32, v = .int x)) (by decide) (Nat.le_of_ble_eq_true rfl) ?_
  intro p e s m below meth c ls H hHe hx hb hr hml hown hts hlocks hP hK hN hl
  obtain ⟨locs, hlc⟩ : ∃ z : List Loc, z = [] := ⟨_, rfl⟩
  rw [← hlc]
  have hown : s.vm.findClass "WrongHole" = some m.cls := hown
  have hT : ∀ w ∈ TB, w.before ([.ref ox, .int b, .int a] : List Value).toArray s = true := fun w h => hts w (List.mem_cons_of_mem _ h)
  have hl : lv_has ls 4 [(0, .ref ox), (1, .int b), (2, .int a)] := hl
  have hP : va_P D vwCl [(ox, .inr (9, [.ref ht, .ref hq, .ref og, .int rc, .ref hw, .ref om, .ref hp, .ref ha, .ref hf, .ref hw0, va_rf qh, va_rf qo])), (hw, .inr (8, [.null, .int wk, .int wc, .int wx, .int wn, .ref wa0, .ref wa1, .ref wa2, .ref wa3]))] H := hP
  refine lv_aload_n hx hb dX11_hole_0 rfl (lv_at hl 0 rfl) ?_
  refine va_get (D := D) (ci := 9) (v := .ref hw) (C := "WrongHole") (T := TX11) (N := 12) hx hb hts (iq_RX11 _) hown hK hP 0 rfl rfl 4 (by decide) (hT _ qq_1_206) (fun _ h9 => h9) rfl dX11_hole_1 ?_
  refine va_getN (D := D) (ci := 8) (v := .null) (C := "WrongHole$Worn") (T := TX10) (N := 9) hx hb hts (iq_RX10 _) hown hK hP 1 rfl rfl 0 (by decide) (NN.f hN nq_1_99) (fun _ h9 => h9) rfl dX11_hole_4 ?_
  refine lv_astore_nN (lv' := [(3, .null), (0, .ref ox), (1, .int b), (2, .int a)]) hx hb dX11_hole_7 rfl hl (by decide) rfl (fun ls hl => ?_)
  refine lv_aload_nN hx hb dX11_hole_8 rfl (lv_at hl 0 rfl) ?_
  refine lv_ifnullN (tgt := 20) hx hb dX11_hole_9 (by decide) ?_
  refine lv_bipush (v := (-2)) hx hb dX11_hole_20 (by decide) ?_
  exact W.iret (v := (-2)) hx hb hr (fun t9 ht9 hW9 => ⟨⟨_, rfl, _, rfl⟩, ht9.trans hHe⟩) (fun _ h9 => by rw [hlc] at h9; exact absurd h9 List.not_mem_nil) dX11_hole_22
theorem dX11_hole_12 : decode cX11_hole 12 = .ok (.aload_n 3, 1) := by decide +kernel
theorem dX11_hole_13 : decode cX11_hole 13 = .ok (.iload_n 1, 1) := by decide +kernel
theorem dX11_hole_14 : decode cX11_hole 14 = .ok (.invokevirtual 146, 3) := by decide +kernel
theorem qq_3_187 : Cond.methodLink "WrongHole" 146 yX2_hasHole ∈ TB := mk_tb (ti_3 (List.mem_of_getElem? (i := 187) rfl)) rfl
theorem dX11_hole_17 : decode cX11_hole 17 = .ok (.ifCond .ne 6, 3) := by decide +kernel
theorem dX11_hole_23 : decode cX11_hole 23 = .ok (.iload_n 2, 1) := by decide +kernel
theorem dX11_hole_24 : decode cX11_hole 24 = .ok (.tableswitch 56 0 2 #[28, 40, 47], 28) := by decide +kernel
theorem sw_0_2 (v : Int32) : (Int32.toInt v < 0 ∨ 2 < Int32.toInt v) ∨ v = 0 ∨ v = 1 ∨ v = 2 := by
  simp only [← Int32.toInt_inj]
  simp (config := { decide := true }) only [show Int32.toInt 0 = 0 from rfl, show Int32.toInt 1 = 1 from rfl, show Int32.toInt 2 = 2 from rfl]
  omega
theorem dX11_hole_80 : decode cX11_hole 80 = .ok (.bipush (-2), 2) := by decide +kernel
theorem dX11_hole_82 : decode cX11_hole 82 = .ok (.ireturn, 1) := by decide +kernel
theorem dX11_hole_52 : decode cX11_hole 52 = .ok (.aload_n 0, 1) := by decide +kernel
theorem dX11_hole_53 : decode cX11_hole 53 = .ok (.getfield 32, 3) := by decide +kernel
theorem dX11_hole_56 : decode cX11_hole 56 = .ok (.getfield 95, 3) := by decide +kernel
theorem dX11_hole_59 : decode cX11_hole 59 = .ok (.iload_n 1, 1) := by decide +kernel
theorem dX11_hole_60 : decode cX11_hole 60 = .ok (.invokestatic 149, 3) := by decide +kernel
theorem qq_3_193 : Cond.code yX6_buttonIn cX6_buttonIn 2 (some .int) ∈ TB := mk_tb (ti_3 (List.mem_of_getElem? (i := 193) rfl)) rfl
theorem qq_3_191 : Cond.methodLink "WrongHole" 149 yX6_buttonIn ∈ TB := mk_tb (ti_3 (List.mem_of_getElem? (i := 191) rfl)) rfl
theorem qq_3_192 : Cond.static yX6_buttonIn ∈ TB := mk_tb (ti_3 (List.mem_of_getElem? (i := 192) rfl)) rfl
theorem dX11_hole_63 : decode cX11_hole 63 = .ok (.ireturn, 1) := by decide +kernel
theorem dX11_hole_64 : decode cX11_hole 64 = .ok (.aload_n 3, 1) := by decide +kernel
theorem dX11_hole_65 : decode cX11_hole 65 = .ok (.getfield 152, 3) := by decide +kernel
theorem nq_2_71 : Cond.fieldLinkNest "WrongHole" 152 "WrongHole$Lift" "takes" "[I" "WrongHole" ∈ NW := mk_nw (ti_2 (List.mem_of_getElem? (i := 71) rfl)) rfl
theorem dX11_hole_68 : decode cX11_hole 68 = .ok (.iload_n 1, 1) := by decide +kernel
theorem dX11_hole_69 : decode cX11_hole 69 = .ok (.iaload, 1) := by decide +kernel
theorem dX11_hole_70 : decode cX11_hole 70 = .ok (.ireturn, 1) := by decide +kernel
theorem dX11_hole_71 : decode cX11_hole 71 = .ok (.aload_n 3, 1) := by decide +kernel
theorem dX11_hole_72 : decode cX11_hole 72 = .ok (.getfield 155, 3) := by decide +kernel
theorem nq_2_45 : Cond.fieldLinkNest "WrongHole" 155 "WrongHole$Lift" "sewn" "I" "WrongHole" ∈ NW := mk_nw (ti_2 (List.mem_of_getElem? (i := 45) rfl)) rfl
theorem dX11_hole_75 : decode cX11_hole 75 = .ok (.iload_n 1, 1) := by decide +kernel
theorem dX11_hole_76 : decode cX11_hole 76 = .ok (.ishr, 1) := by decide +kernel
theorem dX11_hole_77 : decode cX11_hole 77 = .ok (.iconst 1, 1) := by decide +kernel
theorem dX11_hole_78 : decode cX11_hole 78 = .ok (.iand, 1) := by decide +kernel
theorem dX11_hole_79 : decode cX11_hole 79 = .ok (.ireturn, 1) := by decide +kernel
set_option maxHeartbeats 4000000 in
set_option maxRecDepth 100000 in
theorem c_W_hole_r (l : Launch) (D : va_G) (cs : Nat → ClassId) (ox : Nat) (ht : Nat) (hq : Nat) (og : Nat) (rc : Int32) (hw : Nat) (om : Nat) (hp : Nat) (ha : Nat) (hf : Nat) (hw0 : Nat) (qh : Option Nat) (qo : Option Nat) (wk : Int32) (wc : Int32) (wx : Int32) (wn : Int32) (wa0 : Nat) (wa1 : Nat) (wa2 : Nat) (wa3 : Nat) (hl0 : Nat) (lb : Int32) (lh : Int32) (lg : Int32) (lw : Int32) (lv : Int32) (lbs : Int32) (lti : Int32) (lts : Int32) (le : Int32) (lk : Int32) (la : Int32) (l0 : Nat) (l1 : Nat) (l2 : Nat) (l3 : Nat) (l4 : Nat) (l5 : Nat) (l6 : Nat) (l7 : Nat) (f1 : Nat → Int32) (b : Int32) (a : Int32) (r_lb : Rg 0 8 lb) (r_lh : Rg 0 8 lh) (r_le : Rg 0 6 le) : Met l yX11_hole (Cond.code yX11_hole cX11_hole 4 (some .int) :: TB) (RM 3 0 0) (va_Pc [.ref ox, .int b, .int a] (PRR D cs [(ox, .inr (9, [.ref ht, .ref hq, .ref og, .int rc, .ref hw, .ref om, .ref hp, .ref ha, .ref hf, .ref hw0, va_rf qh, va_rf qo])), (hw, .inr (8, [.ref hl0, .int wk, .int wc, .int wx, .int wn, .ref wa0, .ref wa1, .ref wa2, .ref wa3])), (hl0, .inr (2, [.int lb, .int lh, .int lg, .int lw, .int lv, .int lbs, .int lti, .int lts, .int le, .int lk, .int la, .ref l0, .ref l1, .ref l2, .ref l3, .ref l4, .ref l5, .ref l6, .ref l7])), (l1, .inl ((cs 0), 8, .inl f1))])) (QP (fun v => ∃ x : Int32, v = .int x)) 0 0 (fun _ => False) := by
  refine MER (y := yX11_hole) (cc := cX11_hole) (maxL := 4) (ret := (some .int)) (d := 3) (D := D) (cs := cs) (ws := [(ox, .inr (9, [.ref ht, .ref hq, .ref og, .int rc, .ref hw, .ref om, .ref hp, .ref ha, .ref hf, .ref hw0, va_rf qh, va_rf qo])), (hw, .inr (8, [.ref hl0, .int wk, .int wc, .int wx, .int wn, .ref wa0, .ref wa1, .ref wa2, .ref wa3])), (hl0, .inr (2, [.int lb, .int lh, .int lg, .int lw, .int lv, .int lbs, .int lti, .int lts, .int le, .int lk, .int la, .ref l0, .ref l1, .ref l2, .ref l3, .ref l4, .ref l5, .ref l6, .ref l7])), (l1, .inl ((cs 0), 8, .inl f1))]) (av := [.ref ox, .int b, .int a]) (Qc := QP (fun v => ∃ x : Int32, v = .int x)) (by decide) (Nat.le_of_ble_eq_true rfl) ?_
  intro p e s m below meth c ls H hHe hx hb hr hml hown hts hlocks hP hK hN hl
  obtain ⟨locs, hlc⟩ : ∃ z : List Loc, z = [] := ⟨_, rfl⟩
  rw [← hlc]
  have hown : s.vm.findClass "WrongHole" = some m.cls := hown
  have hT : ∀ w ∈ TB, w.before ([.ref ox, .int b, .int a] : List Value).toArray s = true := fun w h => hts w (List.mem_cons_of_mem _ h)
  have hl : lv_has ls 4 [(0, .ref ox), (1, .int b), (2, .int a)] := hl
  have hP : va_P D vwCl [(ox, .inr (9, [.ref ht, .ref hq, .ref og, .int rc, .ref hw, .ref om, .ref hp, .ref ha, .ref hf, .ref hw0, va_rf qh, va_rf qo])), (hw, .inr (8, [.ref hl0, .int wk, .int wc, .int wx, .int wn, .ref wa0, .ref wa1, .ref wa2, .ref wa3])), (hl0, .inr (2, [.int lb, .int lh, .int lg, .int lw, .int lv, .int lbs, .int lti, .int lts, .int le, .int lk, .int la, .ref l0, .ref l1, .ref l2, .ref l3, .ref l4, .ref l5, .ref l6, .ref l7])), (l1, .inl ((cs 0), 8, .inl f1))] H := hP
  refine lv_aload_n hx hb dX11_hole_0 rfl (lv_at hl 0 rfl) ?_
  refine va_get (D := D) (ci := 9) (v := .ref hw) (C := "WrongHole") (T := TX11) (N := 12) hx hb hts (iq_RX11 _) hown hK hP 0 rfl rfl 4 (by decide) (hT _ qq_1_206) (fun _ h9 => h9) rfl dX11_hole_1 ?_
  refine va_getN (D := D) (ci := 8) (v := .ref hl0) (C := "WrongHole$Worn") (T := TX10) (N := 9) hx hb hts (iq_RX10 _) hown hK hP 1 rfl rfl 0 (by decide) (NN.f hN nq_1_99) (fun _ h9 => h9) rfl dX11_hole_4 ?_
  refine lv_astore_n (lv' := [(3, .ref hl0), (0, .ref ox), (1, .int b), (2, .int a)]) hx hb dX11_hole_7 rfl hl (by decide) rfl (fun ls hl => ?_)
  refine lv_aload_n hx hb dX11_hole_8 rfl (lv_at hl 0 rfl) ?_
  refine lv_ifnull hx hb dX11_hole_9 ?_
  refine lv_aload_n hx hb dX11_hole_12 rfl (lv_at hl 0 rfl) ?_
  refine lv_iload_n hx hb dX11_hole_13 rfl (lv_at hl 2 rfl) ?_
  have hPc := va_P.sub (ws' := [(hl0, .inr (2, [.int lb, .int lh, .int lg, .int lw, .int lv, .int lbs, .int lti, .int lts, .int le, .int lk, .int la, .ref l0, .ref l1, .ref l2, .ref l3, .ref l4, .ref l5, .ref l6, .ref l7]))]) hP [2] rfl
  refine cl_P (W.runV (As := [.int b]) (rest := []) ⟨hx, hb, hml, hown, hts⟩ (c_Lift_hasHole l D cs hl0 lb lh lg lw lv lbs lti lts le lk la l0 l1 l2 l3 l4 l5 l6 l7 b) ⟨callB_of 1 hts (gd_C qq_3_190) rfl rfl rfl (hT _ qq_1_11) (hT _ qq_3_187) (by decide +kernel) (rm_R rfl rfl), (hT _ qq_3_188), (hT _ qq_3_189)⟩ (pq_V hPc hK hN (ci := 2) (q0 := 0) rfl rfl) rfl rfl hl.1 rfl (lv_room (Nat.le_of_ble_eq_true rfl)) dX11_hole_14 ⟨Nat.le_of_ble_eq_true rfl, Nat.le_of_ble_eq_true rfl⟩) (fun v9 hz_2 => ?_)
  obtain ⟨x_1, rfl, r_3⟩ := hz_2
  refine lv_if_ne (tgt := 23) hx hb dX11_hole_17 (by decide) (fun c_4 => ?_) (fun c_4 => ?_)
  · have r_5 : Rg 1 1 x_1 := Rg.ne c_4 r_3.1 (Rg.c (c := 0) (k := 0) rfl) (by decide)
    have r_7 : Rg 0 7 b := hb_r (r_3.2 c_4) r_lh (by decide)
    refine lv_iload_n hx hb dX11_hole_23 rfl (lv_at hl 3 rfl) ?_
    rcases sw_0_2 a with c_8 | c_8 | c_8 | c_8
    · refine lv_tableOut (tgt := 80) hx hb dX11_hole_24 c_8 (by decide) ?_
      refine lv_bipush (v := (-2)) hx hb dX11_hole_80 (by decide) ?_
      exact W.iret (v := (-2)) hx hb hr (fun t9 ht9 hW9 => ⟨⟨_, rfl, _, rfl⟩, ht9.trans hHe⟩) (fun _ h9 => by rw [hlc] at h9; exact absurd h9 List.not_mem_nil) dX11_hole_82
    · refine tc_i 0 c_8 ?_
      have r_9 : Rg 0 0 a := Rg.of c_8 (Rg.c rfl)
      refine lv_tableIn (tgt := 52) hx hb dX11_hole_24 (by decide) (by decide) rfl (by decide) ?_
      refine lv_aload_n hx hb dX11_hole_52 rfl (lv_at hl 1 rfl) ?_
      refine va_get (D := D) (ci := 9) (v := .ref hw) (C := "WrongHole") (T := TX11) (N := 12) hx hb hts (iq_RX11 _) hown hK hP 0 rfl rfl 4 (by decide) (hT _ qq_1_206) (fun _ h9 => h9) rfl dX11_hole_53 ?_
      refine va_getN (D := D) (ci := 8) (v := .int wk) (C := "WrongHole$Worn") (T := TX10) (N := 9) hx hb hts (iq_RX10 _) hown hK hP 1 rfl rfl 1 (by decide) (NN.f hN nq_1_101) (fun _ h9 => h9) rfl dX11_hole_56 ?_
      refine lv_iload_n hx hb dX11_hole_59 rfl (lv_at hl 2 rfl) ?_
      have hPc := va_P.sub (ws' := []) hP [] rfl
      refine cl_P (W.runS (As := [.int wk, .int b]) (rest := []) ⟨hx, hb, hml, hown, hts⟩ (c_Rows_buttonIn l D cs wk b) ⟨callB_of 2 hts (gd_C qq_3_193) rfl rfl rfl (hT _ qq_1_16) (hT _ qq_3_191) (by decide +kernel) (rm_R rfl rfl), (hT _ qq_3_192)⟩ (pq_S hPc hK hN) rfl rfl hl.1 rfl (lv_room (Nat.le_of_ble_eq_true rfl)) dX11_hole_60 ⟨Nat.le_of_ble_eq_true rfl, Nat.le_of_ble_eq_true rfl⟩) (fun v9 hz_13 => ?_)
      obtain ⟨x_12, rfl, r_14⟩ := hz_13
      exact W.iret (v := x_12) hx hb hr (fun t9 ht9 hW9 => ⟨⟨_, rfl, _, rfl⟩, ht9.trans hHe⟩) (fun _ h9 => by rw [hlc] at h9; exact absurd h9 List.not_mem_nil) dX11_hole_63
    · refine tc_i 1 c_8 ?_
      have r_10 : Rg 1 1 a := Rg.of c_8 (Rg.c rfl)
      refine lv_tableIn (tgt := 64) hx hb dX11_hole_24 (by decide) (by decide) rfl (by decide) ?_
      refine lv_aload_n hx hb dX11_hole_64 rfl (lv_at hl 0 rfl) ?_
      refine va_getN (D := D) (ci := 2) (v := .ref l1) (C := "WrongHole$Lift") (T := TX2) (N := 19) hx hb hts (iq_RX2 _) hown hK hP 2 rfl rfl 12 (by decide) (NN.f hN nq_2_71) (fun _ h9 => h9) rfl dX11_hole_65 ?_
      refine lv_iload_n hx hb dX11_hole_68 rfl (lv_at hl 2 rfl) ?_
      have hi_15 : vp_in b 8 := Rg.in r_7 (by decide)
      refine va_iald hx hb hK hP 3 0 rfl rfl hi_15 dX11_hole_69 ?_
      refine lv_topi (fun x_16 e_17 => ?_)
      exact W.iret (v := x_16) hx hb hr (fun t9 ht9 hW9 => ⟨⟨_, rfl, _, rfl⟩, ht9.trans hHe⟩) (fun _ h9 => by rw [hlc] at h9; exact absurd h9 List.not_mem_nil) dX11_hole_70
    · refine tc_i 2 c_8 ?_
      have r_11 : Rg 2 2 a := Rg.of c_8 (Rg.c rfl)
      refine lv_tableIn (tgt := 71) hx hb dX11_hole_24 (by decide) (by decide) rfl (by decide) ?_
      refine lv_aload_n hx hb dX11_hole_71 rfl (lv_at hl 0 rfl) ?_
      refine va_getN (D := D) (ci := 2) (v := .int lw) (C := "WrongHole$Lift") (T := TX2) (N := 19) hx hb hts (iq_RX2 _) hown hK hP 2 rfl rfl 3 (by decide) (NN.f hN nq_2_45) (fun _ h9 => h9) rfl dX11_hole_72 ?_
      refine lv_iload_n hx hb dX11_hole_75 rfl (lv_at hl 2 rfl) ?_
      refine lv_ishr hx hb dX11_hole_76 ?_
      refine lv_topi (fun x_18 e_19 => ?_)
      refine lv_iconst (v := 1) hx hb dX11_hole_77 (by decide) ?_
      refine lv_iand hx hb dX11_hole_78 ?_
      refine lv_topi (fun x_20 e_21 => ?_)
      have r_22 : Rg 0 1 x_20 := Rg.and e_21 (Rg.c (c := 1) (k := 1) rfl) (by decide)
      exact W.iret (v := x_20) hx hb hr (fun t9 ht9 hW9 => ⟨⟨_, rfl, _, rfl⟩, ht9.trans hHe⟩) (fun _ h9 => by rw [hlc] at h9; exact absurd h9 List.not_mem_nil) dX11_hole_79
  · have r_6 : Rg 0 0 x_1 := Rg.eq_l c_4 r_3.1 (Rg.c (c := 0) (k := 0) rfl) (by decide)
    refine lv_bipush (v := (-2)) hx hb dX11_hole_20 (by decide) ?_
    exact W.iret (v := (-2)) hx hb hr (fun t9 ht9 hW9 => ⟨⟨_, rfl, _, rfl⟩, ht9.trans hHe⟩) (fun _ h9 => by rw [hlc] at h9; exact absurd h9 List.not_mem_nil) dX11_hole_22
theorem dX11_row_0 : decode cX11_row 0 = .ok (.aload_n 0, 1) := by decide +kernel
theorem dX11_row_1 : decode cX11_row 1 = .ok (.getfield 32, 3) := by decide +kernel
theorem dX11_row_4 : decode cX11_row 4 = .ok (.getfield 86, 3) := by decide +kernel
theorem dX11_row_7 : decode cX11_row 7 = .ok (.astore_n 2, 1) := by decide +kernel
theorem dX11_row_8 : decode cX11_row 8 = .ok (.aload_n 2, 1) := by decide +kernel
theorem dX11_row_9 : decode cX11_row 9 = .ok (.ifnonnull 5, 3) := by decide +kernel
theorem dX11_row_12 : decode cX11_row 12 = .ok (.iconst (-1), 1) := by decide +kernel
theorem dX11_row_13 : decode cX11_row 13 = .ok (.ireturn, 1) := by decide +kernel
set_option maxHeartbeats 4000000 in
set_option maxRecDepth 100000 in
theorem c_W_row_n (l : Launch) (D : va_G) (cs : Nat → ClassId) (ox : Nat) (ht : Nat) (hq : Nat) (og : Nat) (rc : Int32) (hw : Nat) (om : Nat) (hp : Nat) (ha : Nat) (hf : Nat) (hw0 : Nat) (qh : Option Nat) (qo : Option Nat) (wk : Int32) (wc : Int32) (wx : Int32) (wn : Int32) (wa0 : Nat) (wa1 : Nat) (wa2 : Nat) (wa3 : Nat) (a : Int32)  : Met l yX11_row (Cond.code yX11_row cX11_row 3 (some .int) :: TB) (RM 4 0 0) (va_Pc [.ref ox, .int a] (PRR D cs [(ox, .inr (9, [.ref ht, .ref hq, .ref og, .int rc, .ref hw, .ref om, .ref hp, .ref ha, .ref hf, .ref hw0, va_rf qh, va_rf qo])), (hw, .inr (8, [.null, .int wk, .int wc, .int wx, .int wn, .ref wa0, .ref wa1, .ref wa2, .ref wa3]))])) (QP (fun v => ∃ x : Int32, v = .int x)) 0 0 (fun _ => False) := by
  refine MER (y := yX11_row) (cc := cX11_row) (maxL := 3) (ret := (some .int)) (d := 4) (D := D) (cs := cs) (ws := [(ox, .inr (9, [.ref ht, .ref hq, .ref og, .int rc, .ref hw, .ref om, .ref hp, .ref ha, .ref hf, .ref hw0, va_rf qh, va_rf qo])), (hw, .inr (8, [.null, .int wk, .int wc, .int wx, .int wn, .ref wa0, .ref wa1, .ref wa2, .ref wa3]))]) (av := [.ref ox, .int a]) (Qc := QP (fun v => ∃ x : Int32, v = .int x)) (by decide) (Nat.le_of_ble_eq_true rfl) ?_
  intro p e s m below meth c ls H hHe hx hb hr hml hown hts hlocks hP hK hN hl
  obtain ⟨locs, hlc⟩ : ∃ z : List Loc, z = [] := ⟨_, rfl⟩
  rw [← hlc]
  have hown : s.vm.findClass "WrongHole" = some m.cls := hown
  have hT : ∀ w ∈ TB, w.before ([.ref ox, .int a] : List Value).toArray s = true := fun w h => hts w (List.mem_cons_of_mem _ h)
  have hl : lv_has ls 3 [(0, .ref ox), (1, .int a)] := hl
  have hP : va_P D vwCl [(ox, .inr (9, [.ref ht, .ref hq, .ref og, .int rc, .ref hw, .ref om, .ref hp, .ref ha, .ref hf, .ref hw0, va_rf qh, va_rf qo])), (hw, .inr (8, [.null, .int wk, .int wc, .int wx, .int wn, .ref wa0, .ref wa1, .ref wa2, .ref wa3]))] H := hP
  refine lv_aload_n hx hb dX11_row_0 rfl (lv_at hl 0 rfl) ?_
  refine va_get (D := D) (ci := 9) (v := .ref hw) (C := "WrongHole") (T := TX11) (N := 12) hx hb hts (iq_RX11 _) hown hK hP 0 rfl rfl 4 (by decide) (hT _ qq_1_206) (fun _ h9 => h9) rfl dX11_row_1 ?_
  refine va_getN (D := D) (ci := 8) (v := .null) (C := "WrongHole$Worn") (T := TX10) (N := 9) hx hb hts (iq_RX10 _) hown hK hP 1 rfl rfl 0 (by decide) (NN.f hN nq_1_99) (fun _ h9 => h9) rfl dX11_row_4 ?_
  refine lv_astore_nN (lv' := [(2, .null), (0, .ref ox), (1, .int a)]) hx hb dX11_row_7 rfl hl (by decide) rfl (fun ls hl => ?_)
  refine lv_aload_nN hx hb dX11_row_8 rfl (lv_at hl 0 rfl) ?_
  refine lv_ifnonnullN hx hb dX11_row_9 ?_
  refine lv_iconst (v := (-1)) hx hb dX11_row_12 (by decide) ?_
  exact W.iret (v := (-1)) hx hb hr (fun t9 ht9 hW9 => ⟨⟨_, rfl, _, rfl⟩, ht9.trans hHe⟩) (fun _ h9 => by rw [hlc] at h9; exact absurd h9 List.not_mem_nil) dX11_row_13
theorem dX11_row_14 : decode cX11_row 14 = .ok (.iload_n 1, 1) := by decide +kernel
theorem dX11_row_15 : decode cX11_row 15 = .ok (.tableswitch 142 0 5 #[37, 56, 70, 84, 99, 122], 37) := by decide +kernel
theorem sw_0_5 (v : Int32) : (Int32.toInt v < 0 ∨ 5 < Int32.toInt v) ∨ v = 0 ∨ v = 1 ∨ v = 2 ∨ v = 3 ∨ v = 4 ∨ v = 5 := by
  simp only [← Int32.toInt_inj]
  simp (config := { decide := true }) only [show Int32.toInt 0 = 0 from rfl, show Int32.toInt 1 = 1 from rfl, show Int32.toInt 2 = 2 from rfl, show Int32.toInt 3 = 3 from rfl, show Int32.toInt 4 = 4 from rfl, show Int32.toInt 5 = 5 from rfl]
  omega
theorem dX11_row_157 : decode cX11_row 157 = .ok (.iconst (-1), 1) := by decide +kernel
theorem dX11_row_158 : decode cX11_row 158 = .ok (.ireturn, 1) := by decide +kernel
theorem dX11_row_52 : decode cX11_row 52 = .ok (.aload_n 2, 1) := by decide +kernel
theorem dX11_row_53 : decode cX11_row 53 = .ok (.getfield 105, 3) := by decide +kernel
theorem nq_2_32 : Cond.fieldLinkNest "WrongHole" 105 "WrongHole$Lift" "buttons" "I" "WrongHole" ∈ NW := mk_nw (ti_2 (List.mem_of_getElem? (i := 32) rfl)) rfl
theorem dX11_row_56 : decode cX11_row 56 = .ok (.aload_n 0, 1) := by decide +kernel
theorem dX11_row_57 : decode cX11_row 57 = .ok (.getfield 32, 3) := by decide +kernel
theorem dX11_row_60 : decode cX11_row 60 = .ok (.getfield 95, 3) := by decide +kernel
theorem dX11_row_63 : decode cX11_row 63 = .ok (.invokestatic 158, 3) := by decide +kernel
theorem qq_3_198 : Cond.methodLink "WrongHole" 158 yX6_in ∈ TB := mk_tb (ti_3 (List.mem_of_getElem? (i := 198) rfl)) rfl
theorem dX11_row_66 : decode cX11_row 66 = .ok (.invokestatic 161, 3) := by decide +kernel
theorem qq_3_199 : Cond.methodLink "WrongHole" 161 yJ6_bitCount_0f7a4 ∈ TB := mk_tb (ti_3 (List.mem_of_getElem? (i := 199) rfl)) rfl
theorem dX11_row_69 : decode cX11_row 69 = .ok (.isub, 1) := by decide +kernel
theorem dX11_row_70 : decode cX11_row 70 = .ok (.ireturn, 1) := by decide +kernel
theorem dX11_row_71 : decode cX11_row 71 = .ok (.aload_n 0, 1) := by decide +kernel
theorem dX11_row_72 : decode cX11_row 72 = .ok (.getfield 32, 3) := by decide +kernel
theorem dX11_row_75 : decode cX11_row 75 = .ok (.getfield 95, 3) := by decide +kernel
theorem dX11_row_78 : decode cX11_row 78 = .ok (.invokestatic 166, 3) := by decide +kernel
theorem qq_3_202 : Cond.code yX6_wrong cX6_wrong 1 (some .int) ∈ TB := mk_tb (ti_3 (List.mem_of_getElem? (i := 202) rfl)) rfl
theorem qq_3_200 : Cond.methodLink "WrongHole" 166 yX6_wrong ∈ TB := mk_tb (ti_3 (List.mem_of_getElem? (i := 200) rfl)) rfl
theorem qq_3_201 : Cond.static yX6_wrong ∈ TB := mk_tb (ti_3 (List.mem_of_getElem? (i := 201) rfl)) rfl
theorem dX11_row_81 : decode cX11_row 81 = .ok (.invokestatic 161, 3) := by decide +kernel
theorem dX11_row_84 : decode cX11_row 84 = .ok (.ireturn, 1) := by decide +kernel
theorem dX11_row_85 : decode cX11_row 85 = .ok (.aload_n 0, 1) := by decide +kernel
theorem dX11_row_86 : decode cX11_row 86 = .ok (.getfield 32, 3) := by decide +kernel
theorem dX11_row_89 : decode cX11_row 89 = .ok (.getfield 95, 3) := by decide +kernel
theorem dX11_row_92 : decode cX11_row 92 = .ok (.invokestatic 169, 3) := by decide +kernel
theorem qq_3_207 : Cond.methodLink "WrongHole" 169 yX6_right ∈ TB := mk_tb (ti_3 (List.mem_of_getElem? (i := 207) rfl)) rfl
theorem dX11_row_95 : decode cX11_row 95 = .ok (.invokestatic 161, 3) := by decide +kernel
theorem dX11_row_98 : decode cX11_row 98 = .ok (.ireturn, 1) := by decide +kernel
theorem dX11_row_99 : decode cX11_row 99 = .ok (.aload_n 2, 1) := by decide +kernel
theorem dX11_row_100 : decode cX11_row 100 = .ok (.aload_n 0, 1) := by decide +kernel
theorem dX11_row_101 : decode cX11_row 101 = .ok (.getfield 32, 3) := by decide +kernel
theorem dX11_row_104 : decode cX11_row 104 = .ok (.getfield 95, 3) := by decide +kernel
theorem dX11_row_107 : decode cX11_row 107 = .ok (.invokestatic 158, 3) := by decide +kernel
theorem dX11_row_110 : decode cX11_row 110 = .ok (.invokevirtual 172, 3) := by decide +kernel
theorem qq_3_208 : Cond.methodLink "WrongHole" 172 yX2_longestOpen ∈ TB := mk_tb (ti_3 (List.mem_of_getElem? (i := 208) rfl)) rfl
theorem dX11_row_113 : decode cX11_row 113 = .ok (.ireturn, 1) := by decide +kernel
theorem dX11_row_114 : decode cX11_row 114 = .ok (.aload_n 2, 1) := by decide +kernel
theorem dX11_row_115 : decode cX11_row 115 = .ok (.aload_n 0, 1) := by decide +kernel
theorem dX11_row_116 : decode cX11_row 116 = .ok (.getfield 32, 3) := by decide +kernel
theorem dX11_row_119 : decode cX11_row 119 = .ok (.getfield 95, 3) := by decide +kernel
theorem dX11_row_122 : decode cX11_row 122 = .ok (.invokestatic 158, 3) := by decide +kernel
theorem dX11_row_125 : decode cX11_row 125 = .ok (.invokevirtual 175, 3) := by decide +kernel
theorem qq_3_212 : Cond.methodLink "WrongHole" 175 yX2_lawful ∈ TB := mk_tb (ti_3 (List.mem_of_getElem? (i := 212) rfl)) rfl
theorem dX11_row_128 : decode cX11_row 128 = .ok (.ifCond .eq 7, 3) := by decide +kernel
theorem dX11_row_135 : decode cX11_row 135 = .ok (.iconst 0, 1) := by decide +kernel
theorem dX11_row_136 : decode cX11_row 136 = .ok (.ireturn, 1) := by decide +kernel
theorem dX11_row_131 : decode cX11_row 131 = .ok (.iconst 1, 1) := by decide +kernel
theorem dX11_row_132 : decode cX11_row 132 = .ok (.goto 4, 3) := by decide +kernel
theorem dX11_row_137 : decode cX11_row 137 = .ok (.aload_n 2, 1) := by decide +kernel
theorem dX11_row_138 : decode cX11_row 138 = .ok (.aload_n 0, 1) := by decide +kernel
theorem dX11_row_139 : decode cX11_row 139 = .ok (.getfield 32, 3) := by decide +kernel
theorem dX11_row_142 : decode cX11_row 142 = .ok (.getfield 95, 3) := by decide +kernel
theorem dX11_row_145 : decode cX11_row 145 = .ok (.invokevirtual 178, 3) := by decide +kernel
theorem qq_3_220 : Cond.code yX2_reached cX2_reached 2 (some .boolean) ∈ TB := mk_tb (ti_3 (List.mem_of_getElem? (i := 220) rfl)) rfl
theorem qq_3_217 : Cond.methodLink "WrongHole" 178 yX2_reached ∈ TB := mk_tb (ti_3 (List.mem_of_getElem? (i := 217) rfl)) rfl
theorem qq_3_218 : Cond.instanceMethod yX2_reached ∈ TB := mk_tb (ti_3 (List.mem_of_getElem? (i := 218) rfl)) rfl
theorem qq_3_219 : Cond.selects "WrongHole$Lift" yX2_reached yX2_reached ∈ TB := mk_tb (ti_3 (List.mem_of_getElem? (i := 219) rfl)) rfl
theorem dX11_row_148 : decode cX11_row 148 = .ok (.ifCond .eq 7, 3) := by decide +kernel
theorem dX11_row_155 : decode cX11_row 155 = .ok (.iconst 0, 1) := by decide +kernel
theorem dX11_row_156 : decode cX11_row 156 = .ok (.ireturn, 1) := by decide +kernel
theorem dX11_row_151 : decode cX11_row 151 = .ok (.iconst 1, 1) := by decide +kernel
theorem dX11_row_152 : decode cX11_row 152 = .ok (.goto 4, 3) := by decide +kernel
set_option maxHeartbeats 4000000 in
set_option maxRecDepth 100000 in
theorem c_W_row_r (l : Launch) (D : va_G) (cs : Nat → ClassId) (ox : Nat) (ht : Nat) (hq : Nat) (og : Nat) (rc : Int32) (hw : Nat) (om : Nat) (hp : Nat) (ha : Nat) (hf : Nat) (hw0 : Nat) (qh : Option Nat) (qo : Option Nat) (wk : Int32) (wc : Int32) (wx : Int32) (wn : Int32) (wa0 : Nat) (wa1 : Nat) (wa2 : Nat) (wa3 : Nat) (hl0 : Nat) (lb : Int32) (lh : Int32) (lg : Int32) (lw : Int32) (lv : Int32) (lbs : Int32) (lti : Int32) (lts : Int32) (le : Int32) (lk : Int32) (la : Int32) (l0 : Nat) (l1 : Nat) (l2 : Nat) (l3 : Nat) (l4 : Nat) (l5 : Nat) (l6 : Nat) (l7 : Nat) (a : Int32) (r_lb : Rg 0 8 lb) (r_lh : Rg 0 8 lh) (r_le : Rg 0 6 le) : Met l yX11_row (Cond.code yX11_row cX11_row 3 (some .int) :: TB) (RM 4 0 0) (va_Pc [.ref ox, .int a] (PRR D cs [(ox, .inr (9, [.ref ht, .ref hq, .ref og, .int rc, .ref hw, .ref om, .ref hp, .ref ha, .ref hf, .ref hw0, va_rf qh, va_rf qo])), (hw, .inr (8, [.ref hl0, .int wk, .int wc, .int wx, .int wn, .ref wa0, .ref wa1, .ref wa2, .ref wa3])), (hl0, .inr (2, [.int lb, .int lh, .int lg, .int lw, .int lv, .int lbs, .int lti, .int lts, .int le, .int lk, .int la, .ref l0, .ref l1, .ref l2, .ref l3, .ref l4, .ref l5, .ref l6, .ref l7]))])) (QP (fun v => ∃ x : Int32, v = .int x)) 0 0 (fun _ => False) := by
  refine MER (y := yX11_row) (cc := cX11_row) (maxL := 3) (ret := (some .int)) (d := 4) (D := D) (cs := cs) (ws := [(ox, .inr (9, [.ref ht, .ref hq, .ref og, .int rc, .ref hw, .ref om, .ref hp, .ref ha, .ref hf, .ref hw0, va_rf qh, va_rf qo])), (hw, .inr (8, [.ref hl0, .int wk, .int wc, .int wx, .int wn, .ref wa0, .ref wa1, .ref wa2, .ref wa3])), (hl0, .inr (2, [.int lb, .int lh, .int lg, .int lw, .int lv, .int lbs, .int lti, .int lts, .int le, .int lk, .int la, .ref l0, .ref l1, .ref l2, .ref l3, .ref l4, .ref l5, .ref l6, .ref l7]))]) (av := [.ref ox, .int a]) (Qc := QP (fun v => ∃ x : Int32, v = .int x)) (by decide) (Nat.le_of_ble_eq_true rfl) ?_
  intro p e s m below meth c ls H hHe hx hb hr hml hown hts hlocks hP hK hN hl
  obtain ⟨locs, hlc⟩ : ∃ z : List Loc, z = [] := ⟨_, rfl⟩
  rw [← hlc]
  have hown : s.vm.findClass "WrongHole" = some m.cls := hown
  have hT : ∀ w ∈ TB, w.before ([.ref ox, .int a] : List Value).toArray s = true := fun w h => hts w (List.mem_cons_of_mem _ h)
  have hl : lv_has ls 3 [(0, .ref ox), (1, .int a)] := hl
  have hP : va_P D vwCl [(ox, .inr (9, [.ref ht, .ref hq, .ref og, .int rc, .ref hw, .ref om, .ref hp, .ref ha, .ref hf, .ref hw0, va_rf qh, va_rf qo])), (hw, .inr (8, [.ref hl0, .int wk, .int wc, .int wx, .int wn, .ref wa0, .ref wa1, .ref wa2, .ref wa3])), (hl0, .inr (2, [.int lb, .int lh, .int lg, .int lw, .int lv, .int lbs, .int lti, .int lts, .int le, .int lk, .int la, .ref l0, .ref l1, .ref l2, .ref l3, .ref l4, .ref l5, .ref l6, .ref l7]))] H := hP
  refine lv_aload_n hx hb dX11_row_0 rfl (lv_at hl 0 rfl) ?_
  refine va_get (D := D) (ci := 9) (v := .ref hw) (C := "WrongHole") (T := TX11) (N := 12) hx hb hts (iq_RX11 _) hown hK hP 0 rfl rfl 4 (by decide) (hT _ qq_1_206) (fun _ h9 => h9) rfl dX11_row_1 ?_
  refine va_getN (D := D) (ci := 8) (v := .ref hl0) (C := "WrongHole$Worn") (T := TX10) (N := 9) hx hb hts (iq_RX10 _) hown hK hP 1 rfl rfl 0 (by decide) (NN.f hN nq_1_99) (fun _ h9 => h9) rfl dX11_row_4 ?_
  refine lv_astore_n (lv' := [(2, .ref hl0), (0, .ref ox), (1, .int a)]) hx hb dX11_row_7 rfl hl (by decide) rfl (fun ls hl => ?_)
  refine lv_aload_n hx hb dX11_row_8 rfl (lv_at hl 0 rfl) ?_
  refine lv_ifnonnull (tgt := 14) hx hb dX11_row_9 (by decide) ?_
  refine lv_iload_n hx hb dX11_row_14 rfl (lv_at hl 2 rfl) ?_
  rcases sw_0_5 a with c_1 | c_1 | c_1 | c_1 | c_1 | c_1 | c_1
  · refine lv_tableOut (tgt := 157) hx hb dX11_row_15 c_1 (by decide) ?_
    refine lv_iconst (v := (-1)) hx hb dX11_row_157 (by decide) ?_
    exact W.iret (v := (-1)) hx hb hr (fun t9 ht9 hW9 => ⟨⟨_, rfl, _, rfl⟩, ht9.trans hHe⟩) (fun _ h9 => by rw [hlc] at h9; exact absurd h9 List.not_mem_nil) dX11_row_158
  · refine tc_i 0 c_1 ?_
    have r_2 : Rg 0 0 a := Rg.of c_1 (Rg.c rfl)
    refine lv_tableIn (tgt := 52) hx hb dX11_row_15 (by decide) (by decide) rfl (by decide) ?_
    refine lv_aload_n hx hb dX11_row_52 rfl (lv_at hl 0 rfl) ?_
    refine va_getN (D := D) (ci := 2) (v := .int lb) (C := "WrongHole$Lift") (T := TX2) (N := 19) hx hb hts (iq_RX2 _) hown hK hP 2 rfl rfl 0 (by decide) (NN.f hN nq_2_32) (fun _ h9 => h9) rfl dX11_row_53 ?_
    refine lv_aload_n hx hb dX11_row_56 rfl (lv_at hl 1 rfl) ?_
    refine va_get (D := D) (ci := 9) (v := .ref hw) (C := "WrongHole") (T := TX11) (N := 12) hx hb hts (iq_RX11 _) hown hK hP 0 rfl rfl 4 (by decide) (hT _ qq_1_206) (fun _ h9 => h9) rfl dX11_row_57 ?_
    refine va_getN (D := D) (ci := 8) (v := .int wk) (C := "WrongHole$Worn") (T := TX10) (N := 9) hx hb hts (iq_RX10 _) hown hK hP 1 rfl rfl 1 (by decide) (NN.f hN nq_1_101) (fun _ h9 => h9) rfl dX11_row_60 ?_
    have hPc := va_P.sub (ws' := []) hP [] rfl
    refine cl_P (W.runS (As := [.int wk]) (rest := [.int lb]) ⟨hx, hb, hml, hown, hts⟩ (c_Rows_in l D cs wk) ⟨callB_of 1 hts (gd_C qq_2_230) rfl rfl rfl (hT _ qq_1_16) (hT _ qq_3_198) (by decide +kernel) (rm_R rfl rfl), (hT _ qq_2_229)⟩ (pq_S hPc hK hN) rfl rfl hl.1 rfl (lv_room (Nat.le_of_ble_eq_true rfl)) dX11_row_63 ⟨Nat.le_of_ble_eq_true rfl, Nat.le_of_ble_eq_true rfl⟩) (fun v9 hz_9 => ?_)
    obtain ⟨x_8, rfl, r_10⟩ := hz_9
    have hPc := va_P.sub (ws' := []) hP [] rfl
    refine cl_P (W.runS (As := [.int x_8]) (rest := [.int lb]) ⟨hx, hb, hml, hown, hts⟩ (c_bitCount l D cs x_8) ⟨callB_of 1 hts (gd_C qq_3_26) rfl rfl rfl (hT _ qq_1_17) (hT _ qq_3_199) (by decide +kernel) (rm_R rfl rfl), (hT _ qq_3_25)⟩ (pq_S hPc hK hN) rfl rfl hl.1 rfl (lv_room (Nat.le_of_ble_eq_true rfl)) dX11_row_66 ⟨Nat.le_of_ble_eq_true rfl, Nat.le_of_ble_eq_true rfl⟩) (fun v9 hz_12 => ?_)
    obtain ⟨x_11, rfl, r_13⟩ := hz_12
    refine lv_isub hx hb dX11_row_69 ?_
    refine lv_topi (fun x_14 e_15 => ?_)
    have r_16 : Rg (-63) 8 x_14 := Rg.sub e_15 r_lb r_13 (by decide)
    exact W.iret (v := x_14) hx hb hr (fun t9 ht9 hW9 => ⟨⟨_, rfl, _, rfl⟩, ht9.trans hHe⟩) (fun _ h9 => by rw [hlc] at h9; exact absurd h9 List.not_mem_nil) dX11_row_70
  · refine tc_i 1 c_1 ?_
    have r_3 : Rg 1 1 a := Rg.of c_1 (Rg.c rfl)
    refine lv_tableIn (tgt := 71) hx hb dX11_row_15 (by decide) (by decide) rfl (by decide) ?_
    refine lv_aload_n hx hb dX11_row_71 rfl (lv_at hl 1 rfl) ?_
    refine va_get (D := D) (ci := 9) (v := .ref hw) (C := "WrongHole") (T := TX11) (N := 12) hx hb hts (iq_RX11 _) hown hK hP 0 rfl rfl 4 (by decide) (hT _ qq_1_206) (fun _ h9 => h9) rfl dX11_row_72 ?_
    refine va_getN (D := D) (ci := 8) (v := .int wk) (C := "WrongHole$Worn") (T := TX10) (N := 9) hx hb hts (iq_RX10 _) hown hK hP 1 rfl rfl 1 (by decide) (NN.f hN nq_1_101) (fun _ h9 => h9) rfl dX11_row_75 ?_
    have hPc := va_P.sub (ws' := []) hP [] rfl
    refine cl_P (W.runS (As := [.int wk]) (rest := []) ⟨hx, hb, hml, hown, hts⟩ (c_Rows_wrong l D cs wk) ⟨callB_of 1 hts (gd_C qq_3_202) rfl rfl rfl (hT _ qq_1_16) (hT _ qq_3_200) (by decide +kernel) (rm_R rfl rfl), (hT _ qq_3_201)⟩ (pq_S hPc hK hN) rfl rfl hl.1 rfl (lv_room (Nat.le_of_ble_eq_true rfl)) dX11_row_78 ⟨Nat.le_of_ble_eq_true rfl, Nat.le_of_ble_eq_true rfl⟩) (fun v9 hz_18 => ?_)
    obtain ⟨x_17, rfl, r_19⟩ := hz_18
    have hPc := va_P.sub (ws' := []) hP [] rfl
    refine cl_P (W.runS (As := [.int x_17]) (rest := []) ⟨hx, hb, hml, hown, hts⟩ (c_bitCount l D cs x_17) ⟨callB_of 1 hts (gd_C qq_3_26) rfl rfl rfl (hT _ qq_1_17) (hT _ qq_3_199) (by decide +kernel) (rm_R rfl rfl), (hT _ qq_3_25)⟩ (pq_S hPc hK hN) rfl rfl hl.1 rfl (lv_room (Nat.le_of_ble_eq_true rfl)) dX11_row_81 ⟨Nat.le_of_ble_eq_true rfl, Nat.le_of_ble_eq_true rfl⟩) (fun v9 hz_21 => ?_)
    obtain ⟨x_20, rfl, r_22⟩ := hz_21
    exact W.iret (v := x_20) hx hb hr (fun t9 ht9 hW9 => ⟨⟨_, rfl, _, rfl⟩, ht9.trans hHe⟩) (fun _ h9 => by rw [hlc] at h9; exact absurd h9 List.not_mem_nil) dX11_row_84
  · refine tc_i 2 c_1 ?_
    have r_4 : Rg 2 2 a := Rg.of c_1 (Rg.c rfl)
    refine lv_tableIn (tgt := 85) hx hb dX11_row_15 (by decide) (by decide) rfl (by decide) ?_
    refine lv_aload_n hx hb dX11_row_85 rfl (lv_at hl 1 rfl) ?_
    refine va_get (D := D) (ci := 9) (v := .ref hw) (C := "WrongHole") (T := TX11) (N := 12) hx hb hts (iq_RX11 _) hown hK hP 0 rfl rfl 4 (by decide) (hT _ qq_1_206) (fun _ h9 => h9) rfl dX11_row_86 ?_
    refine va_getN (D := D) (ci := 8) (v := .int wk) (C := "WrongHole$Worn") (T := TX10) (N := 9) hx hb hts (iq_RX10 _) hown hK hP 1 rfl rfl 1 (by decide) (NN.f hN nq_1_101) (fun _ h9 => h9) rfl dX11_row_89 ?_
    have hPc := va_P.sub (ws' := []) hP [] rfl
    refine cl_P (W.runS (As := [.int wk]) (rest := []) ⟨hx, hb, hml, hown, hts⟩ (c_Rows_right l D cs wk) ⟨callB_of 1 hts (gd_C qq_3_205) rfl rfl rfl (hT _ qq_1_16) (hT _ qq_3_207) (by decide +kernel) (rm_R rfl rfl), (hT _ qq_3_204)⟩ (pq_S hPc hK hN) rfl rfl hl.1 rfl (lv_room (Nat.le_of_ble_eq_true rfl)) dX11_row_92 ⟨Nat.le_of_ble_eq_true rfl, Nat.le_of_ble_eq_true rfl⟩) (fun v9 hz_24 => ?_)
    obtain ⟨x_23, rfl⟩ := hz_24
    have hPc := va_P.sub (ws' := []) hP [] rfl
    refine cl_P (W.runS (As := [.int x_23]) (rest := []) ⟨hx, hb, hml, hown, hts⟩ (c_bitCount l D cs x_23) ⟨callB_of 1 hts (gd_C qq_3_26) rfl rfl rfl (hT _ qq_1_17) (hT _ qq_3_199) (by decide +kernel) (rm_R rfl rfl), (hT _ qq_3_25)⟩ (pq_S hPc hK hN) rfl rfl hl.1 rfl (lv_room (Nat.le_of_ble_eq_true rfl)) dX11_row_95 ⟨Nat.le_of_ble_eq_true rfl, Nat.le_of_ble_eq_true rfl⟩) (fun v9 hz_27 => ?_)
    obtain ⟨x_26, rfl, r_28⟩ := hz_27
    exact W.iret (v := x_26) hx hb hr (fun t9 ht9 hW9 => ⟨⟨_, rfl, _, rfl⟩, ht9.trans hHe⟩) (fun _ h9 => by rw [hlc] at h9; exact absurd h9 List.not_mem_nil) dX11_row_98
  · refine tc_i 3 c_1 ?_
    have r_5 : Rg 3 3 a := Rg.of c_1 (Rg.c rfl)
    refine lv_tableIn (tgt := 99) hx hb dX11_row_15 (by decide) (by decide) rfl (by decide) ?_
    refine lv_aload_n hx hb dX11_row_99 rfl (lv_at hl 0 rfl) ?_
    refine lv_aload_n hx hb dX11_row_100 rfl (lv_at hl 1 rfl) ?_
    refine va_get (D := D) (ci := 9) (v := .ref hw) (C := "WrongHole") (T := TX11) (N := 12) hx hb hts (iq_RX11 _) hown hK hP 0 rfl rfl 4 (by decide) (hT _ qq_1_206) (fun _ h9 => h9) rfl dX11_row_101 ?_
    refine va_getN (D := D) (ci := 8) (v := .int wk) (C := "WrongHole$Worn") (T := TX10) (N := 9) hx hb hts (iq_RX10 _) hown hK hP 1 rfl rfl 1 (by decide) (NN.f hN nq_1_101) (fun _ h9 => h9) rfl dX11_row_104 ?_
    have hPc := va_P.sub (ws' := []) hP [] rfl
    refine cl_P (W.runS (As := [.int wk]) (rest := [.ref hl0]) ⟨hx, hb, hml, hown, hts⟩ (c_Rows_in l D cs wk) ⟨callB_of 1 hts (gd_C qq_2_230) rfl rfl rfl (hT _ qq_1_16) (hT _ qq_3_198) (by decide +kernel) (rm_R rfl rfl), (hT _ qq_2_229)⟩ (pq_S hPc hK hN) rfl rfl hl.1 rfl (lv_room (Nat.le_of_ble_eq_true rfl)) dX11_row_107 ⟨Nat.le_of_ble_eq_true rfl, Nat.le_of_ble_eq_true rfl⟩) (fun v9 hz_30 => ?_)
    obtain ⟨x_29, rfl, r_31⟩ := hz_30
    have hPc := va_P.sub (ws' := [(hl0, .inr (2, [.int lb, .int lh, .int lg, .int lw, .int lv, .int lbs, .int lti, .int lts, .int le, .int lk, .int la, .ref l0, .ref l1, .ref l2, .ref l3, .ref l4, .ref l5, .ref l6, .ref l7]))]) hP [2] rfl
    refine cl_P (W.runV (As := [.int x_29]) (rest := []) ⟨hx, hb, hml, hown, hts⟩ (c_Lift_longestOpen l D cs hl0 lb lh lg lw lv lbs lti lts le lk la l0 l1 l2 l3 l4 l5 l6 l7 x_29 r_lb r_lh r_le) ⟨callB_of 1 hts (gd_C qq_3_211) rfl rfl rfl (hT _ qq_1_11) (hT _ qq_3_208) (by decide +kernel) (rm_R rfl rfl), (hT _ qq_3_209), (hT _ qq_3_210)⟩ (pq_V hPc hK hN (ci := 2) (q0 := 0) rfl rfl) rfl rfl hl.1 rfl (lv_room (Nat.le_of_ble_eq_true rfl)) dX11_row_110 ⟨Nat.le_of_ble_eq_true rfl, Nat.le_of_ble_eq_true rfl⟩) (fun v9 hz_33 => ?_)
    obtain ⟨x_32, rfl⟩ := hz_33
    exact W.iret (v := x_32) hx hb hr (fun t9 ht9 hW9 => ⟨⟨_, rfl, _, rfl⟩, ht9.trans hHe⟩) (fun _ h9 => by rw [hlc] at h9; exact absurd h9 List.not_mem_nil) dX11_row_113
  · refine tc_i 4 c_1 ?_
    have r_6 : Rg 4 4 a := Rg.of c_1 (Rg.c rfl)
    refine lv_tableIn (tgt := 114) hx hb dX11_row_15 (by decide) (by decide) rfl (by decide) ?_
    refine lv_aload_n hx hb dX11_row_114 rfl (lv_at hl 0 rfl) ?_
    refine lv_aload_n hx hb dX11_row_115 rfl (lv_at hl 1 rfl) ?_
    refine va_get (D := D) (ci := 9) (v := .ref hw) (C := "WrongHole") (T := TX11) (N := 12) hx hb hts (iq_RX11 _) hown hK hP 0 rfl rfl 4 (by decide) (hT _ qq_1_206) (fun _ h9 => h9) rfl dX11_row_116 ?_
    refine va_getN (D := D) (ci := 8) (v := .int wk) (C := "WrongHole$Worn") (T := TX10) (N := 9) hx hb hts (iq_RX10 _) hown hK hP 1 rfl rfl 1 (by decide) (NN.f hN nq_1_101) (fun _ h9 => h9) rfl dX11_row_119 ?_
    have hPc := va_P.sub (ws' := []) hP [] rfl
    refine cl_P (W.runS (As := [.int wk]) (rest := [.ref hl0]) ⟨hx, hb, hml, hown, hts⟩ (c_Rows_in l D cs wk) ⟨callB_of 1 hts (gd_C qq_2_230) rfl rfl rfl (hT _ qq_1_16) (hT _ qq_3_198) (by decide +kernel) (rm_R rfl rfl), (hT _ qq_2_229)⟩ (pq_S hPc hK hN) rfl rfl hl.1 rfl (lv_room (Nat.le_of_ble_eq_true rfl)) dX11_row_122 ⟨Nat.le_of_ble_eq_true rfl, Nat.le_of_ble_eq_true rfl⟩) (fun v9 hz_36 => ?_)
    obtain ⟨x_35, rfl, r_37⟩ := hz_36
    have hPc := va_P.sub (ws' := [(hl0, .inr (2, [.int lb, .int lh, .int lg, .int lw, .int lv, .int lbs, .int lti, .int lts, .int le, .int lk, .int la, .ref l0, .ref l1, .ref l2, .ref l3, .ref l4, .ref l5, .ref l6, .ref l7]))]) hP [2] rfl
    refine cl_P (W.runV (As := [.int x_35]) (rest := []) ⟨hx, hb, hml, hown, hts⟩ (c_Lift_lawful l D cs hl0 lb lh lg lw lv lbs lti lts le lk la l0 l1 l2 l3 l4 l5 l6 l7 x_35 r_lb r_lh r_le) ⟨callB_of 1 hts (gd_C qq_3_215) rfl rfl rfl (hT _ qq_1_11) (hT _ qq_3_212) (by decide +kernel) (rm_R rfl rfl), (hT _ qq_3_213), (hT _ qq_3_214)⟩ (pq_V hPc hK hN (ci := 2) (q0 := 0) rfl rfl) rfl rfl hl.1 rfl (lv_room (Nat.le_of_ble_eq_true rfl)) dX11_row_125 ⟨Nat.le_of_ble_eq_true rfl, Nat.le_of_ble_eq_true rfl⟩) (fun v9 hz_39 => ?_)
    obtain ⟨x_38, rfl, r_40⟩ := hz_39
    refine lv_if_eq (tgt := 135) hx hb dX11_row_128 (by decide) (fun c_41 => ?_) (fun c_41 => ?_)
    · have r_42 : Rg 0 0 x_38 := Rg.eq_l c_41 r_40 (Rg.c (c := 0) (k := 0) rfl) (by decide)
      refine lv_iconst (v := 0) hx hb dX11_row_135 (by decide) ?_
      exact W.iret (v := 0) hx hb hr (fun t9 ht9 hW9 => ⟨⟨_, rfl, _, rfl⟩, ht9.trans hHe⟩) (fun _ h9 => by rw [hlc] at h9; exact absurd h9 List.not_mem_nil) dX11_row_136
    · have r_43 : Rg 1 1 x_38 := Rg.ne c_41 r_40 (Rg.c (c := 0) (k := 0) rfl) (by decide)
      refine lv_iconst (v := 1) hx hb dX11_row_131 (by decide) ?_
      refine lv_goto (tgt := 136) hx hb dX11_row_132 (by decide) ?_
      exact W.iret (v := 1) hx hb hr (fun t9 ht9 hW9 => ⟨⟨_, rfl, _, rfl⟩, ht9.trans hHe⟩) (fun _ h9 => by rw [hlc] at h9; exact absurd h9 List.not_mem_nil) dX11_row_136
  · refine tc_i 5 c_1 ?_
    have r_7 : Rg 5 5 a := Rg.of c_1 (Rg.c rfl)
    refine lv_tableIn (tgt := 137) hx hb dX11_row_15 (by decide) (by decide) rfl (by decide) ?_
    refine lv_aload_n hx hb dX11_row_137 rfl (lv_at hl 0 rfl) ?_
    refine lv_aload_n hx hb dX11_row_138 rfl (lv_at hl 1 rfl) ?_
    refine va_get (D := D) (ci := 9) (v := .ref hw) (C := "WrongHole") (T := TX11) (N := 12) hx hb hts (iq_RX11 _) hown hK hP 0 rfl rfl 4 (by decide) (hT _ qq_1_206) (fun _ h9 => h9) rfl dX11_row_139 ?_
    refine va_getN (D := D) (ci := 8) (v := .int wk) (C := "WrongHole$Worn") (T := TX10) (N := 9) hx hb hts (iq_RX10 _) hown hK hP 1 rfl rfl 1 (by decide) (NN.f hN nq_1_101) (fun _ h9 => h9) rfl dX11_row_142 ?_
    have hPc := va_P.sub (ws' := [(hl0, .inr (2, [.int lb, .int lh, .int lg, .int lw, .int lv, .int lbs, .int lti, .int lts, .int le, .int lk, .int la, .ref l0, .ref l1, .ref l2, .ref l3, .ref l4, .ref l5, .ref l6, .ref l7]))]) hP [2] rfl
    refine cl_P (W.runV (As := [.int wk]) (rest := []) ⟨hx, hb, hml, hown, hts⟩ (c_Lift_reached l D cs hl0 lb lh lg lw lv lbs lti lts le lk la l0 l1 l2 l3 l4 l5 l6 l7 wk r_lb r_lh r_le) ⟨callB_of 1 hts (gd_C qq_3_220) rfl rfl rfl (hT _ qq_1_11) (hT _ qq_3_217) (by decide +kernel) (rm_R rfl rfl), (hT _ qq_3_218), (hT _ qq_3_219)⟩ (pq_V hPc hK hN (ci := 2) (q0 := 0) rfl rfl) rfl rfl hl.1 rfl (lv_room (Nat.le_of_ble_eq_true rfl)) dX11_row_145 ⟨Nat.le_of_ble_eq_true rfl, Nat.le_of_ble_eq_true rfl⟩) (fun v9 hz_45 => ?_)
    obtain ⟨x_44, rfl, r_46⟩ := hz_45
    refine lv_if_eq (tgt := 155) hx hb dX11_row_148 (by decide) (fun c_47 => ?_) (fun c_47 => ?_)
    · have r_48 : Rg 0 0 x_44 := Rg.eq_l c_47 r_46 (Rg.c (c := 0) (k := 0) rfl) (by decide)
      refine lv_iconst (v := 0) hx hb dX11_row_155 (by decide) ?_
      exact W.iret (v := 0) hx hb hr (fun t9 ht9 hW9 => ⟨⟨_, rfl, _, rfl⟩, ht9.trans hHe⟩) (fun _ h9 => by rw [hlc] at h9; exact absurd h9 List.not_mem_nil) dX11_row_156
    · have r_49 : Rg 1 1 x_44 := Rg.ne c_47 r_46 (Rg.c (c := 0) (k := 0) rfl) (by decide)
      refine lv_iconst (v := 1) hx hb dX11_row_151 (by decide) ?_
      refine lv_goto (tgt := 156) hx hb dX11_row_152 (by decide) ?_
      exact W.iret (v := 1) hx hb hr (fun t9 ht9 hW9 => ⟨⟨_, rfl, _, rfl⟩, ht9.trans hHe⟩) (fun _ h9 => by rw [hlc] at h9; exact absurd h9 List.not_mem_nil) dX11_row_156
theorem dX11_shown_0 : decode cX11_shown 0 = .ok (.aload_n 0, 1) := by decide +kernel
theorem dX11_shown_1 : decode cX11_shown 1 = .ok (.getfield 32, 3) := by decide +kernel
theorem dX11_shown_4 : decode cX11_shown 4 = .ok (.getfield 86, 3) := by decide +kernel
theorem dX11_shown_7 : decode cX11_shown 7 = .ok (.ifnull 14, 3) := by decide +kernel
theorem dX11_shown_21 : decode cX11_shown 21 = .ok (.iconst (-1), 1) := by decide +kernel
theorem dX11_shown_22 : decode cX11_shown 22 = .ok (.ireturn, 1) := by decide +kernel
set_option maxHeartbeats 4000000 in
set_option maxRecDepth 100000 in
theorem c_W_shown_n (l : Launch) (D : va_G) (cs : Nat → ClassId) (ox : Nat) (ht : Nat) (hq : Nat) (og : Nat) (rc : Int32) (hw : Nat) (om : Nat) (hp : Nat) (ha : Nat) (hf : Nat) (hw0 : Nat) (qh : Option Nat) (qo : Option Nat) (wk : Int32) (wc : Int32) (wx : Int32) (wn : Int32) (wa0 : Nat) (wa1 : Nat) (wa2 : Nat) (wa3 : Nat) (a : Int32)  : Met l yX11_shown (Cond.code yX11_shown cX11_shown 2 (some .int) :: TB) (RM 3 0 0) (va_Pc [.ref ox, .int a] (PRR D cs [(ox, .inr (9, [.ref ht, .ref hq, .ref og, .int rc, .ref hw, .ref om, .ref hp, .ref ha, .ref hf, .ref hw0, va_rf qh, va_rf qo])), (hw, .inr (8, [.null, .int wk, .int wc, .int wx, .int wn, .ref wa0, .ref wa1, .ref wa2, .ref wa3]))])) (QP (fun v => ∃ x : Int32, v = .int x)) 0 0 (fun _ => False) := by
  refine MER (y := yX11_shown) (cc := cX11_shown) (maxL := 2) (ret := (some .int)) (d := 3) (D := D) (cs := cs) (ws := [(ox, .inr (9, [.ref ht, .ref hq, .ref og, .int rc, .ref hw, .ref om, .ref hp, .ref ha, .ref hf, .ref hw0, va_rf qh, va_rf qo])), (hw, .inr (8, [.null, .int wk, .int wc, .int wx, .int wn, .ref wa0, .ref wa1, .ref wa2, .ref wa3]))]) (av := [.ref ox, .int a]) (Qc := QP (fun v => ∃ x : Int32, v = .int x)) (by decide) (Nat.le_of_ble_eq_true rfl) ?_
  intro p e s m below meth c ls H hHe hx hb hr hml hown hts hlocks hP hK hN hl
  obtain ⟨locs, hlc⟩ : ∃ z : List Loc, z = [] := ⟨_, rfl⟩
  rw [← hlc]
  have hown : s.vm.findClass "WrongHole" = some m.cls := hown
  have hT : ∀ w ∈ TB, w.before ([.ref ox, .int a] : List Value).toArray s = true := fun w h => hts w (List.mem_cons_of_mem _ h)
  have hl : lv_has ls 2 [(0, .ref ox), (1, .int a)] := hl
  have hP : va_P D vwCl [(ox, .inr (9, [.ref ht, .ref hq, .ref og, .int rc, .ref hw, .ref om, .ref hp, .ref ha, .ref hf, .ref hw0, va_rf qh, va_rf qo])), (hw, .inr (8, [.null, .int wk, .int wc, .int wx, .int wn, .ref wa0, .ref wa1, .ref wa2, .ref wa3]))] H := hP
  refine lv_aload_n hx hb dX11_shown_0 rfl (lv_at hl 0 rfl) ?_
  refine va_get (D := D) (ci := 9) (v := .ref hw) (C := "WrongHole") (T := TX11) (N := 12) hx hb hts (iq_RX11 _) hown hK hP 0 rfl rfl 4 (by decide) (hT _ qq_1_206) (fun _ h9 => h9) rfl dX11_shown_1 ?_
  refine va_getN (D := D) (ci := 8) (v := .null) (C := "WrongHole$Worn") (T := TX10) (N := 9) hx hb hts (iq_RX10 _) hown hK hP 1 rfl rfl 0 (by decide) (NN.f hN nq_1_99) (fun _ h9 => h9) rfl dX11_shown_4 ?_
  refine lv_ifnullN (tgt := 21) hx hb dX11_shown_7 (by decide) ?_
  refine lv_iconst (v := (-1)) hx hb dX11_shown_21 (by decide) ?_
  exact W.iret (v := (-1)) hx hb hr (fun t9 ht9 hW9 => ⟨⟨_, rfl, _, rfl⟩, ht9.trans hHe⟩) (fun _ h9 => by rw [hlc] at h9; exact absurd h9 List.not_mem_nil) dX11_shown_22
theorem dX11_shown_10 : decode cX11_shown 10 = .ok (.iload_n 1, 1) := by decide +kernel
theorem dX11_shown_11 : decode cX11_shown 11 = .ok (.ifCond .lt 10, 3) := by decide +kernel
theorem dX11_shown_14 : decode cX11_shown 14 = .ok (.iload_n 1, 1) := by decide +kernel
theorem dX11_shown_15 : decode cX11_shown 15 = .ok (.sipush 9999, 3) := by decide +kernel
theorem dX11_shown_18 : decode cX11_shown 18 = .ok (.if_icmp .le 5, 3) := by decide +kernel
theorem dX11_shown_23 : decode cX11_shown 23 = .ok (.aload_n 0, 1) := by decide +kernel
theorem dX11_shown_24 : decode cX11_shown 24 = .ok (.getfield 32, 3) := by decide +kernel
theorem dX11_shown_27 : decode cX11_shown 27 = .ok (.getfield 86, 3) := by decide +kernel
theorem dX11_shown_30 : decode cX11_shown 30 = .ok (.aload_n 0, 1) := by decide +kernel
theorem dX11_shown_31 : decode cX11_shown 31 = .ok (.getfield 32, 3) := by decide +kernel
theorem dX11_shown_34 : decode cX11_shown 34 = .ok (.getfield 95, 3) := by decide +kernel
theorem dX11_shown_37 : decode cX11_shown 37 = .ok (.invokestatic 169, 3) := by decide +kernel
theorem dX11_shown_40 : decode cX11_shown 40 = .ok (.iload_n 1, 1) := by decide +kernel
theorem dX11_shown_41 : decode cX11_shown 41 = .ok (.invokevirtual 181, 3) := by decide +kernel
theorem qq_3_226 : Cond.methodLink "WrongHole" 181 yX2_shownTo ∈ TB := mk_tb (ti_3 (List.mem_of_getElem? (i := 226) rfl)) rfl
theorem dX11_shown_44 : decode cX11_shown 44 = .ok (.ireturn, 1) := by decide +kernel
set_option maxHeartbeats 4000000 in
set_option maxRecDepth 100000 in
theorem c_W_shown_r (l : Launch) (D : va_G) (cs : Nat → ClassId) (ox : Nat) (ht : Nat) (hq : Nat) (og : Nat) (rc : Int32) (hw : Nat) (om : Nat) (hp : Nat) (ha : Nat) (hf : Nat) (hw0 : Nat) (qh : Option Nat) (qo : Option Nat) (wk : Int32) (wc : Int32) (wx : Int32) (wn : Int32) (wa0 : Nat) (wa1 : Nat) (wa2 : Nat) (wa3 : Nat) (hl0 : Nat) (lb : Int32) (lh : Int32) (lg : Int32) (lw : Int32) (lv : Int32) (lbs : Int32) (lti : Int32) (lts : Int32) (le : Int32) (lk : Int32) (la : Int32) (l0 : Nat) (l1 : Nat) (l2 : Nat) (l3 : Nat) (l4 : Nat) (l5 : Nat) (l6 : Nat) (l7 : Nat) (f6 : Nat → Int32) (f7 : Nat → Int32) (a : Int32) (r_lb : Rg 0 8 lb) (r_lh : Rg 0 8 lh) (r_le : Rg 0 6 le) : Met l yX11_shown (Cond.code yX11_shown cX11_shown 2 (some .int) :: TB) (RM 3 0 0) (va_Pc [.ref ox, .int a] (PRR D cs [(ox, .inr (9, [.ref ht, .ref hq, .ref og, .int rc, .ref hw, .ref om, .ref hp, .ref ha, .ref hf, .ref hw0, va_rf qh, va_rf qo])), (hw, .inr (8, [.ref hl0, .int wk, .int wc, .int wx, .int wn, .ref wa0, .ref wa1, .ref wa2, .ref wa3])), (hl0, .inr (2, [.int lb, .int lh, .int lg, .int lw, .int lv, .int lbs, .int lti, .int lts, .int le, .int lk, .int la, .ref l0, .ref l1, .ref l2, .ref l3, .ref l4, .ref l5, .ref l6, .ref l7])), (l6, .inl ((cs 0), 6, .inl f6)), (l7, .inl ((cs 0), 6, .inl f7))])) (QP (fun v => ∃ x : Int32, v = .int x)) 0 0 (fun _ => False) := by
  refine MER (y := yX11_shown) (cc := cX11_shown) (maxL := 2) (ret := (some .int)) (d := 3) (D := D) (cs := cs) (ws := [(ox, .inr (9, [.ref ht, .ref hq, .ref og, .int rc, .ref hw, .ref om, .ref hp, .ref ha, .ref hf, .ref hw0, va_rf qh, va_rf qo])), (hw, .inr (8, [.ref hl0, .int wk, .int wc, .int wx, .int wn, .ref wa0, .ref wa1, .ref wa2, .ref wa3])), (hl0, .inr (2, [.int lb, .int lh, .int lg, .int lw, .int lv, .int lbs, .int lti, .int lts, .int le, .int lk, .int la, .ref l0, .ref l1, .ref l2, .ref l3, .ref l4, .ref l5, .ref l6, .ref l7])), (l6, .inl ((cs 0), 6, .inl f6)), (l7, .inl ((cs 0), 6, .inl f7))]) (av := [.ref ox, .int a]) (Qc := QP (fun v => ∃ x : Int32, v = .int x)) (by decide) (Nat.le_of_ble_eq_true rfl) ?_
  intro p e s m below meth c ls H hHe hx hb hr hml hown hts hlocks hP hK hN hl
  obtain ⟨locs, hlc⟩ : ∃ z : List Loc, z = [] := ⟨_, rfl⟩
  rw [← hlc]
  have hown : s.vm.findClass "WrongHole" = some m.cls := hown
  have hT : ∀ w ∈ TB, w.before ([.ref ox, .int a] : List Value).toArray s = true := fun w h => hts w (List.mem_cons_of_mem _ h)
  have hl : lv_has ls 2 [(0, .ref ox), (1, .int a)] := hl
  have hP : va_P D vwCl [(ox, .inr (9, [.ref ht, .ref hq, .ref og, .int rc, .ref hw, .ref om, .ref hp, .ref ha, .ref hf, .ref hw0, va_rf qh, va_rf qo])), (hw, .inr (8, [.ref hl0, .int wk, .int wc, .int wx, .int wn, .ref wa0, .ref wa1, .ref wa2, .ref wa3])), (hl0, .inr (2, [.int lb, .int lh, .int lg, .int lw, .int lv, .int lbs, .int lti, .int lts, .int le, .int lk, .int la, .ref l0, .ref l1, .ref l2, .ref l3, .ref l4, .ref l5, .ref l6, .ref l7])), (l6, .inl ((cs 0), 6, .inl f6)), (l7, .inl ((cs 0), 6, .inl f7))] H := hP
  refine lv_aload_n hx hb dX11_shown_0 rfl (lv_at hl 0 rfl) ?_
  refine va_get (D := D) (ci := 9) (v := .ref hw) (C := "WrongHole") (T := TX11) (N := 12) hx hb hts (iq_RX11 _) hown hK hP 0 rfl rfl 4 (by decide) (hT _ qq_1_206) (fun _ h9 => h9) rfl dX11_shown_1 ?_
  refine va_getN (D := D) (ci := 8) (v := .ref hl0) (C := "WrongHole$Worn") (T := TX10) (N := 9) hx hb hts (iq_RX10 _) hown hK hP 1 rfl rfl 0 (by decide) (NN.f hN nq_1_99) (fun _ h9 => h9) rfl dX11_shown_4 ?_
  refine lv_ifnull hx hb dX11_shown_7 ?_
  refine lv_iload_n hx hb dX11_shown_10 rfl (lv_at hl 1 rfl) ?_
  refine lv_if_lt (tgt := 21) hx hb dX11_shown_11 (by decide) (fun c_1 => ?_) (fun c_1 => ?_)
  · have r_2 : Rg (-2147483648) (-1) a := Rg.lt_l c_1 (Rg.top a) (Rg.c (c := 0) (k := 0) rfl) (by decide)
    refine lv_iconst (v := (-1)) hx hb dX11_shown_21 (by decide) ?_
    exact W.iret (v := (-1)) hx hb hr (fun t9 ht9 hW9 => ⟨⟨_, rfl, _, rfl⟩, ht9.trans hHe⟩) (fun _ h9 => by rw [hlc] at h9; exact absurd h9 List.not_mem_nil) dX11_shown_22
  · have r_3 : Rg 0 2147483647 a := Rg.le_r (nlt_le c_1) (Rg.c (c := 0) (k := 0) rfl) (Rg.top a) (by decide)
    refine lv_iload_n hx hb dX11_shown_14 rfl (lv_at hl 1 rfl) ?_
    refine lv_sipush (v := 9999) hx hb dX11_shown_15 (by decide) ?_
    refine lv_icmp_le (tgt := 23) hx hb dX11_shown_18 (by decide) (fun c_4 => ?_) (fun c_4 => ?_)
    · have r_5 : Rg 0 9999 a := Rg.le_l c_4 r_3 (Rg.c (c := 9999) (k := 9999) rfl) (by decide)
      refine lv_aload_n hx hb dX11_shown_23 rfl (lv_at hl 0 rfl) ?_
      refine va_get (D := D) (ci := 9) (v := .ref hw) (C := "WrongHole") (T := TX11) (N := 12) hx hb hts (iq_RX11 _) hown hK hP 0 rfl rfl 4 (by decide) (hT _ qq_1_206) (fun _ h9 => h9) rfl dX11_shown_24 ?_
      refine va_getN (D := D) (ci := 8) (v := .ref hl0) (C := "WrongHole$Worn") (T := TX10) (N := 9) hx hb hts (iq_RX10 _) hown hK hP 1 rfl rfl 0 (by decide) (NN.f hN nq_1_99) (fun _ h9 => h9) rfl dX11_shown_27 ?_
      refine lv_aload_n hx hb dX11_shown_30 rfl (lv_at hl 0 rfl) ?_
      refine va_get (D := D) (ci := 9) (v := .ref hw) (C := "WrongHole") (T := TX11) (N := 12) hx hb hts (iq_RX11 _) hown hK hP 0 rfl rfl 4 (by decide) (hT _ qq_1_206) (fun _ h9 => h9) rfl dX11_shown_31 ?_
      refine va_getN (D := D) (ci := 8) (v := .int wk) (C := "WrongHole$Worn") (T := TX10) (N := 9) hx hb hts (iq_RX10 _) hown hK hP 1 rfl rfl 1 (by decide) (NN.f hN nq_1_101) (fun _ h9 => h9) rfl dX11_shown_34 ?_
      have hPc := va_P.sub (ws' := []) hP [] rfl
      refine cl_P (W.runS (As := [.int wk]) (rest := [.ref hl0]) ⟨hx, hb, hml, hown, hts⟩ (c_Rows_right l D cs wk) ⟨callB_of 1 hts (gd_C qq_3_205) rfl rfl rfl (hT _ qq_1_16) (hT _ qq_3_207) (by decide +kernel) (rm_R rfl rfl), (hT _ qq_3_204)⟩ (pq_S hPc hK hN) rfl rfl hl.1 rfl (lv_room (Nat.le_of_ble_eq_true rfl)) dX11_shown_37 ⟨Nat.le_of_ble_eq_true rfl, Nat.le_of_ble_eq_true rfl⟩) (fun v9 hz_8 => ?_)
      obtain ⟨x_7, rfl⟩ := hz_8
      refine lv_iload_n hx hb dX11_shown_40 rfl (lv_at hl 1 rfl) ?_
      have hPc := va_P.sub (ws' := [(hl0, .inr (2, [.int lb, .int lh, .int lg, .int lw, .int lv, .int lbs, .int lti, .int lts, .int le, .int lk, .int la, .ref l0, .ref l1, .ref l2, .ref l3, .ref l4, .ref l5, .ref l6, .ref l7])), (l6, .inl ((cs 0), 6, .inl f6)), (l7, .inl ((cs 0), 6, .inl f7))]) hP [2, 3, 4] rfl
      refine cl_P (W.runV (As := [.int x_7, .int a]) (rest := []) ⟨hx, hb, hml, hown, hts⟩ (c_Lift_shownTo l D cs hl0 lb lh lg lw lv lbs lti lts le lk la l0 l1 l2 l3 l4 l5 l6 l7 f6 f7 x_7 a r_lb r_lh r_le) ⟨callB_of 2 hts (gd_C qq_3_229) rfl rfl rfl (hT _ qq_1_11) (hT _ qq_3_226) (by decide +kernel) (rm_R rfl rfl), (hT _ qq_3_227), (hT _ qq_3_228)⟩ (pq_V hPc hK hN (ci := 2) (q0 := 0) rfl rfl) rfl rfl hl.1 rfl (lv_room (Nat.le_of_ble_eq_true rfl)) dX11_shown_41 ⟨Nat.le_of_ble_eq_true rfl, Nat.le_of_ble_eq_true rfl⟩) (fun v9 hz_11 => ?_)
      obtain ⟨x_10, rfl⟩ := hz_11
      exact W.iret (v := x_10) hx hb hr (fun t9 ht9 hW9 => ⟨⟨_, rfl, _, rfl⟩, ht9.trans hHe⟩) (fun _ h9 => by rw [hlc] at h9; exact absurd h9 List.not_mem_nil) dX11_shown_44
    · have r_6 : Rg 10000 2147483647 a := Rg.lt_r (nle_lt c_4) (Rg.c (c := 9999) (k := 9999) rfl) r_3 (by decide)
      refine lv_iconst (v := (-1)) hx hb dX11_shown_21 (by decide) ?_
      exact W.iret (v := (-1)) hx hb hr (fun t9 ht9 hW9 => ⟨⟨_, rfl, _, rfl⟩, ht9.trans hHe⟩) (fun _ h9 => by rw [hlc] at h9; exact absurd h9 List.not_mem_nil) dX11_shown_22
theorem dX11_goes_0 : decode cX11_goes 0 = .ok (.aload_n 0, 1) := by decide +kernel
theorem dX11_goes_1 : decode cX11_goes 1 = .ok (.getfield 32, 3) := by decide +kernel
theorem dX11_goes_4 : decode cX11_goes 4 = .ok (.getfield 86, 3) := by decide +kernel
theorem dX11_goes_7 : decode cX11_goes 7 = .ok (.astore_n 2, 1) := by decide +kernel
theorem dX11_goes_8 : decode cX11_goes 8 = .ok (.aload_n 2, 1) := by decide +kernel
theorem dX11_goes_9 : decode cX11_goes 9 = .ok (.ifnull 14, 3) := by decide +kernel
theorem dX11_goes_23 : decode cX11_goes 23 = .ok (.iconst (-1), 1) := by decide +kernel
theorem dX11_goes_24 : decode cX11_goes 24 = .ok (.ireturn, 1) := by decide +kernel
set_option maxHeartbeats 4000000 in
set_option maxRecDepth 100000 in
theorem c_W_goes_n (l : Launch) (D : va_G) (cs : Nat → ClassId) (ox : Nat) (ht : Nat) (hq : Nat) (og : Nat) (rc : Int32) (hw : Nat) (om : Nat) (hp : Nat) (ha : Nat) (hf : Nat) (hw0 : Nat) (qh : Option Nat) (qo : Option Nat) (wk : Int32) (wc : Int32) (wx : Int32) (wn : Int32) (wa0 : Nat) (wa1 : Nat) (wa2 : Nat) (wa3 : Nat) (a : Int32)  : Met l yX11_goes (Cond.code yX11_goes cX11_goes 8 (some .int) :: TB) (RM 4 0 0) (va_Pc [.ref ox, .int a] (PRR D cs [(ox, .inr (9, [.ref ht, .ref hq, .ref og, .int rc, .ref hw, .ref om, .ref hp, .ref ha, .ref hf, .ref hw0, va_rf qh, va_rf qo])), (hw, .inr (8, [.null, .int wk, .int wc, .int wx, .int wn, .ref wa0, .ref wa1, .ref wa2, .ref wa3]))])) (QP (fun v => ∃ x : Int32, v = .int x)) 0 0 (fun _ => False) := by
  refine MER (y := yX11_goes) (cc := cX11_goes) (maxL := 8) (ret := (some .int)) (d := 4) (D := D) (cs := cs) (ws := [(ox, .inr (9, [.ref ht, .ref hq, .ref og, .int rc, .ref hw, .ref om, .ref hp, .ref ha, .ref hf, .ref hw0, va_rf qh, va_rf qo])), (hw, .inr (8, [.null, .int wk, .int wc, .int wx, .int wn, .ref wa0, .ref wa1, .ref wa2, .ref wa3]))]) (av := [.ref ox, .int a]) (Qc := QP (fun v => ∃ x : Int32, v = .int x)) (by decide) (Nat.le_of_ble_eq_true rfl) ?_
  intro p e s m below meth c ls H hHe hx hb hr hml hown hts hlocks hP hK hN hl
  obtain ⟨locs, hlc⟩ : ∃ z : List Loc, z = [] := ⟨_, rfl⟩
  rw [← hlc]
  have hown : s.vm.findClass "WrongHole" = some m.cls := hown
  have hT : ∀ w ∈ TB, w.before ([.ref ox, .int a] : List Value).toArray s = true := fun w h => hts w (List.mem_cons_of_mem _ h)
  have hl : lv_has ls 8 [(0, .ref ox), (1, .int a)] := hl
  have hP : va_P D vwCl [(ox, .inr (9, [.ref ht, .ref hq, .ref og, .int rc, .ref hw, .ref om, .ref hp, .ref ha, .ref hf, .ref hw0, va_rf qh, va_rf qo])), (hw, .inr (8, [.null, .int wk, .int wc, .int wx, .int wn, .ref wa0, .ref wa1, .ref wa2, .ref wa3]))] H := hP
  refine lv_aload_n hx hb dX11_goes_0 rfl (lv_at hl 0 rfl) ?_
  refine va_get (D := D) (ci := 9) (v := .ref hw) (C := "WrongHole") (T := TX11) (N := 12) hx hb hts (iq_RX11 _) hown hK hP 0 rfl rfl 4 (by decide) (hT _ qq_1_206) (fun _ h9 => h9) rfl dX11_goes_1 ?_
  refine va_getN (D := D) (ci := 8) (v := .null) (C := "WrongHole$Worn") (T := TX10) (N := 9) hx hb hts (iq_RX10 _) hown hK hP 1 rfl rfl 0 (by decide) (NN.f hN nq_1_99) (fun _ h9 => h9) rfl dX11_goes_4 ?_
  refine lv_astore_nN (lv' := [(2, .null), (0, .ref ox), (1, .int a)]) hx hb dX11_goes_7 rfl hl (by decide) rfl (fun ls hl => ?_)
  refine lv_aload_nN hx hb dX11_goes_8 rfl (lv_at hl 0 rfl) ?_
  refine lv_ifnullN (tgt := 23) hx hb dX11_goes_9 (by decide) ?_
  refine lv_iconst (v := (-1)) hx hb dX11_goes_23 (by decide) ?_
  exact W.iret (v := (-1)) hx hb hr (fun t9 ht9 hW9 => ⟨⟨_, rfl, _, rfl⟩, ht9.trans hHe⟩) (fun _ h9 => by rw [hlc] at h9; exact absurd h9 List.not_mem_nil) dX11_goes_24
theorem dX11_goes_12 : decode cX11_goes 12 = .ok (.iload_n 1, 1) := by decide +kernel
theorem dX11_goes_13 : decode cX11_goes 13 = .ok (.iconst 1, 1) := by decide +kernel
theorem dX11_goes_14 : decode cX11_goes 14 = .ok (.if_icmp .lt 9, 3) := by decide +kernel
theorem dX11_goes_17 : decode cX11_goes 17 = .ok (.iload_n 1, 1) := by decide +kernel
theorem dX11_goes_18 : decode cX11_goes 18 = .ok (.bipush 8, 2) := by decide +kernel
theorem dX11_goes_20 : decode cX11_goes 20 = .ok (.if_icmp .le 5, 3) := by decide +kernel
theorem dX11_goes_25 : decode cX11_goes 25 = .ok (.aload_n 0, 1) := by decide +kernel
theorem dX11_goes_26 : decode cX11_goes 26 = .ok (.getfield 32, 3) := by decide +kernel
theorem dX11_goes_29 : decode cX11_goes 29 = .ok (.getfield 95, 3) := by decide +kernel
theorem dX11_goes_32 : decode cX11_goes 32 = .ok (.invokestatic 166, 3) := by decide +kernel
theorem dX11_goes_35 : decode cX11_goes 35 = .ok (.istore_n 3, 1) := by decide +kernel
theorem dX11_goes_36 : decode cX11_goes 36 = .ok (.iconst 0, 1) := by decide +kernel
theorem dX11_goes_37 : decode cX11_goes 37 = .ok (.istore 4, 2) := by decide +kernel
theorem dX11_goes_39 : decode cX11_goes 39 = .ok (.iconst 0, 1) := by decide +kernel
theorem dX11_goes_40 : decode cX11_goes 40 = .ok (.istore 5, 2) := by decide +kernel
theorem dX11_goes_42 : decode cX11_goes 42 = .ok (.iconst 0, 1) := by decide +kernel
theorem dX11_goes_43 : decode cX11_goes 43 = .ok (.istore 6, 2) := by decide +kernel
theorem dX11_goes_45 : decode cX11_goes 45 = .ok (.iload 6, 2) := by decide +kernel
theorem dX11_goes_47 : decode cX11_goes 47 = .ok (.aload_n 2, 1) := by decide +kernel
theorem dX11_goes_48 : decode cX11_goes 48 = .ok (.getfield 105, 3) := by decide +kernel
theorem dX11_goes_51 : decode cX11_goes 51 = .ok (.if_icmp .ge 93, 3) := by decide +kernel
theorem dX11_goes_144 : decode cX11_goes 144 = .ok (.iload 4, 2) := by decide +kernel
theorem dX11_goes_146 : decode cX11_goes 146 = .ok (.iload 5, 2) := by decide +kernel
theorem dX11_goes_148 : decode cX11_goes 148 = .ok (.iload_n 1, 1) := by decide +kernel
theorem dX11_goes_149 : decode cX11_goes 149 = .ok (.iadd, 1) := by decide +kernel
theorem dX11_goes_150 : decode cX11_goes 150 = .ok (.iconst 1, 1) := by decide +kernel
theorem dX11_goes_151 : decode cX11_goes 151 = .ok (.isub, 1) := by decide +kernel
theorem dX11_goes_152 : decode cX11_goes 152 = .ok (.iload_n 1, 1) := by decide +kernel
theorem dX11_goes_153 : decode cX11_goes 153 = .ok (.idiv, 1) := by decide +kernel
theorem dX11_goes_154 : decode cX11_goes 154 = .ok (.iadd, 1) := by decide +kernel
theorem dX11_goes_155 : decode cX11_goes 155 = .ok (.ireturn, 1) := by decide +kernel
theorem dX11_goes_54 : decode cX11_goes 54 = .ok (.iload 5, 2) := by decide +kernel
theorem dX11_goes_56 : decode cX11_goes 56 = .ok (.ifCond .le 47, 3) := by decide +kernel
theorem dX11_goes_104 : decode cX11_goes 104 = .ok (.istore 7, 2) := by decide +kernel
theorem dX11_goes_106 : decode cX11_goes 106 = .ok (.iload 7, 2) := by decide +kernel
theorem dX11_goes_108 : decode cX11_goes 108 = .ok (.ifCond .eq 9, 3) := by decide +kernel
theorem dX11_goes_138 : decode cX11_goes 138 = .ok (.iinc 6 1, 3) := by decide +kernel
theorem dX11_goes_141 : decode cX11_goes 141 = .ok (.goto (-96), 3) := by decide +kernel
theorem dX11_goes_117 : decode cX11_goes 117 = .ok (.iload 4, 2) := by decide +kernel
theorem dX11_goes_119 : decode cX11_goes 119 = .ok (.iload 5, 2) := by decide +kernel
theorem dX11_goes_121 : decode cX11_goes 121 = .ok (.iload_n 1, 1) := by decide +kernel
theorem dX11_goes_122 : decode cX11_goes 122 = .ok (.iadd, 1) := by decide +kernel
theorem dX11_goes_123 : decode cX11_goes 123 = .ok (.iconst 1, 1) := by decide +kernel
theorem dX11_goes_124 : decode cX11_goes 124 = .ok (.isub, 1) := by decide +kernel
theorem dX11_goes_125 : decode cX11_goes 125 = .ok (.iload_n 1, 1) := by decide +kernel
theorem dX11_goes_126 : decode cX11_goes 126 = .ok (.idiv, 1) := by decide +kernel
theorem dX11_goes_127 : decode cX11_goes 127 = .ok (.iadd, 1) := by decide +kernel
theorem dX11_goes_128 : decode cX11_goes 128 = .ok (.istore 4, 2) := by decide +kernel
theorem dX11_goes_130 : decode cX11_goes 130 = .ok (.iload_n 3, 1) := by decide +kernel
theorem dX11_goes_131 : decode cX11_goes 131 = .ok (.iload 6, 2) := by decide +kernel
theorem dX11_goes_133 : decode cX11_goes 133 = .ok (.ishr, 1) := by decide +kernel
theorem dX11_goes_134 : decode cX11_goes 134 = .ok (.iconst 1, 1) := by decide +kernel
theorem dX11_goes_135 : decode cX11_goes 135 = .ok (.iand, 1) := by decide +kernel
theorem dX11_goes_136 : decode cX11_goes 136 = .ok (.istore 5, 2) := by decide +kernel
theorem dX11_goes_111 : decode cX11_goes 111 = .ok (.iinc 5 1, 3) := by decide +kernel
theorem dX11_goes_114 : decode cX11_goes 114 = .ok (.goto 24, 3) := by decide +kernel
theorem dX11_goes_103 : decode cX11_goes 103 = .ok (.iconst 0, 1) := by decide +kernel
theorem dX11_goes_59 : decode cX11_goes 59 = .ok (.iload_n 3, 1) := by decide +kernel
theorem dX11_goes_60 : decode cX11_goes 60 = .ok (.iload 6, 2) := by decide +kernel
theorem dX11_goes_62 : decode cX11_goes 62 = .ok (.ishr, 1) := by decide +kernel
theorem dX11_goes_63 : decode cX11_goes 63 = .ok (.iconst 1, 1) := by decide +kernel
theorem dX11_goes_64 : decode cX11_goes 64 = .ok (.iand, 1) := by decide +kernel
theorem dX11_goes_65 : decode cX11_goes 65 = .ok (.ifCond .eq 38, 3) := by decide +kernel
theorem dX11_goes_68 : decode cX11_goes 68 = .ok (.aload_n 0, 1) := by decide +kernel
theorem dX11_goes_69 : decode cX11_goes 69 = .ok (.getfield 32, 3) := by decide +kernel
theorem dX11_goes_72 : decode cX11_goes 72 = .ok (.getfield 95, 3) := by decide +kernel
theorem dX11_goes_75 : decode cX11_goes 75 = .ok (.iload 6, 2) := by decide +kernel
theorem dX11_goes_77 : decode cX11_goes 77 = .ok (.invokestatic 118, 3) := by decide +kernel
theorem dX11_goes_80 : decode cX11_goes 80 = .ok (.aload_n 0, 1) := by decide +kernel
theorem dX11_goes_81 : decode cX11_goes 81 = .ok (.getfield 32, 3) := by decide +kernel
theorem dX11_goes_84 : decode cX11_goes 84 = .ok (.getfield 95, 3) := by decide +kernel
theorem dX11_goes_87 : decode cX11_goes 87 = .ok (.iload 6, 2) := by decide +kernel
theorem dX11_goes_89 : decode cX11_goes 89 = .ok (.iconst 1, 1) := by decide +kernel
theorem dX11_goes_90 : decode cX11_goes 90 = .ok (.isub, 1) := by decide +kernel
theorem dX11_goes_91 : decode cX11_goes 91 = .ok (.invokestatic 118, 3) := by decide +kernel
theorem dX11_goes_94 : decode cX11_goes 94 = .ok (.iconst 1, 1) := by decide +kernel
theorem dX11_goes_95 : decode cX11_goes 95 = .ok (.iadd, 1) := by decide +kernel
theorem dX11_goes_96 : decode cX11_goes 96 = .ok (.if_icmp .ne 7, 3) := by decide +kernel
theorem dX11_goes_99 : decode cX11_goes 99 = .ok (.iconst 1, 1) := by decide +kernel
theorem dX11_goes_100 : decode cX11_goes 100 = .ok (.goto 4, 3) := by decide +kernel
set_option maxHeartbeats 4000000 in
set_option maxRecDepth 100000 in
theorem c_W_goes_r (l : Launch) (D : va_G) (cs : Nat → ClassId) (ox : Nat) (ht : Nat) (hq : Nat) (og : Nat) (rc : Int32) (hw : Nat) (om : Nat) (hp : Nat) (ha : Nat) (hf : Nat) (hw0 : Nat) (qh : Option Nat) (qo : Option Nat) (wk : Int32) (wc : Int32) (wx : Int32) (wn : Int32) (wa0 : Nat) (wa1 : Nat) (wa2 : Nat) (wa3 : Nat) (hl0 : Nat) (lb : Int32) (lh : Int32) (lg : Int32) (lw : Int32) (lv : Int32) (lbs : Int32) (lti : Int32) (lts : Int32) (le : Int32) (lk : Int32) (la : Int32) (l0 : Nat) (l1 : Nat) (l2 : Nat) (l3 : Nat) (l4 : Nat) (l5 : Nat) (l6 : Nat) (l7 : Nat) (a : Int32) (r_lb : Rg 0 8 lb) (r_lh : Rg 0 8 lh) (r_le : Rg 0 6 le) : Met l yX11_goes (Cond.code yX11_goes cX11_goes 8 (some .int) :: TB) (RM 4 0 0) (va_Pc [.ref ox, .int a] (PRR D cs [(ox, .inr (9, [.ref ht, .ref hq, .ref og, .int rc, .ref hw, .ref om, .ref hp, .ref ha, .ref hf, .ref hw0, va_rf qh, va_rf qo])), (hw, .inr (8, [.ref hl0, .int wk, .int wc, .int wx, .int wn, .ref wa0, .ref wa1, .ref wa2, .ref wa3])), (hl0, .inr (2, [.int lb, .int lh, .int lg, .int lw, .int lv, .int lbs, .int lti, .int lts, .int le, .int lk, .int la, .ref l0, .ref l1, .ref l2, .ref l3, .ref l4, .ref l5, .ref l6, .ref l7]))])) (QP (fun v => ∃ x : Int32, v = .int x)) 0 0 (fun _ => False) := by
  refine MER (y := yX11_goes) (cc := cX11_goes) (maxL := 8) (ret := (some .int)) (d := 4) (D := D) (cs := cs) (ws := [(ox, .inr (9, [.ref ht, .ref hq, .ref og, .int rc, .ref hw, .ref om, .ref hp, .ref ha, .ref hf, .ref hw0, va_rf qh, va_rf qo])), (hw, .inr (8, [.ref hl0, .int wk, .int wc, .int wx, .int wn, .ref wa0, .ref wa1, .ref wa2, .ref wa3])), (hl0, .inr (2, [.int lb, .int lh, .int lg, .int lw, .int lv, .int lbs, .int lti, .int lts, .int le, .int lk, .int la, .ref l0, .ref l1, .ref l2, .ref l3, .ref l4, .ref l5, .ref l6, .ref l7]))]) (av := [.ref ox, .int a]) (Qc := QP (fun v => ∃ x : Int32, v = .int x)) (by decide) (Nat.le_of_ble_eq_true rfl) ?_
  intro p e s m below meth c ls H hHe hx hb hr hml hown hts hlocks hP hK hN hl
  obtain ⟨locs, hlc⟩ : ∃ z : List Loc, z = [] := ⟨_, rfl⟩
  rw [← hlc]
  have hown : s.vm.findClass "WrongHole" = some m.cls := hown
  have hT : ∀ w ∈ TB, w.before ([.ref ox, .int a] : List Value).toArray s = true := fun w h => hts w (List.mem_cons_of_mem _ h)
  have hl : lv_has ls 8 [(0, .ref ox), (1, .int a)] := hl
  have hP : va_P D vwCl [(ox, .inr (9, [.ref ht, .ref hq, .ref og, .int rc, .ref hw, .ref om, .ref hp, .ref ha, .ref hf, .ref hw0, va_rf qh, va_rf qo])), (hw, .inr (8, [.ref hl0, .int wk, .int wc, .int wx, .int wn, .ref wa0, .ref wa1, .ref wa2, .ref wa3])), (hl0, .inr (2, [.int lb, .int lh, .int lg, .int lw, .int lv, .int lbs, .int lti, .int lts, .int le, .int lk, .int la, .ref l0, .ref l1, .ref l2, .ref l3, .ref l4, .ref l5, .ref l6, .ref l7]))] H := hP
  refine lv_aload_n hx hb dX11_goes_0 rfl (lv_at hl 0 rfl) ?_
  refine va_get (D := D) (ci := 9) (v := .ref hw) (C := "WrongHole") (T := TX11) (N := 12) hx hb hts (iq_RX11 _) hown hK hP 0 rfl rfl 4 (by decide) (hT _ qq_1_206) (fun _ h9 => h9) rfl dX11_goes_1 ?_
  refine va_getN (D := D) (ci := 8) (v := .ref hl0) (C := "WrongHole$Worn") (T := TX10) (N := 9) hx hb hts (iq_RX10 _) hown hK hP 1 rfl rfl 0 (by decide) (NN.f hN nq_1_99) (fun _ h9 => h9) rfl dX11_goes_4 ?_
  refine lv_astore_n (lv' := [(2, .ref hl0), (0, .ref ox), (1, .int a)]) hx hb dX11_goes_7 rfl hl (by decide) rfl (fun ls hl => ?_)
  refine lv_aload_n hx hb dX11_goes_8 rfl (lv_at hl 0 rfl) ?_
  refine lv_ifnull hx hb dX11_goes_9 ?_
  refine lv_iload_n hx hb dX11_goes_12 rfl (lv_at hl 2 rfl) ?_
  refine lv_iconst (v := 1) hx hb dX11_goes_13 (by decide) ?_
  refine lv_icmp_lt (tgt := 23) hx hb dX11_goes_14 (by decide) (fun c_1 => ?_) (fun c_1 => ?_)
  · have r_2 : Rg (-2147483648) 0 a := Rg.lt_l c_1 (Rg.top a) (Rg.c (c := 1) (k := 1) rfl) (by decide)
    refine lv_iconst (v := (-1)) hx hb dX11_goes_23 (by decide) ?_
    exact W.iret (v := (-1)) hx hb hr (fun t9 ht9 hW9 => ⟨⟨_, rfl, _, rfl⟩, ht9.trans hHe⟩) (fun _ h9 => by rw [hlc] at h9; exact absurd h9 List.not_mem_nil) dX11_goes_24
  · have r_3 : Rg 1 2147483647 a := Rg.le_r (nlt_le c_1) (Rg.c (c := 1) (k := 1) rfl) (Rg.top a) (by decide)
    refine lv_iload_n hx hb dX11_goes_17 rfl (lv_at hl 2 rfl) ?_
    refine lv_bipush (v := 8) hx hb dX11_goes_18 (by decide) ?_
    refine lv_icmp_le (tgt := 25) hx hb dX11_goes_20 (by decide) (fun c_4 => ?_) (fun c_4 => ?_)
    · have r_5 : Rg 1 8 a := Rg.le_l c_4 r_3 (Rg.c (c := 8) (k := 8) rfl) (by decide)
      refine lv_aload_n hx hb dX11_goes_25 rfl (lv_at hl 1 rfl) ?_
      refine va_get (D := D) (ci := 9) (v := .ref hw) (C := "WrongHole") (T := TX11) (N := 12) hx hb hts (iq_RX11 _) hown hK hP 0 rfl rfl 4 (by decide) (hT _ qq_1_206) (fun _ h9 => h9) rfl dX11_goes_26 ?_
      refine va_getN (D := D) (ci := 8) (v := .int wk) (C := "WrongHole$Worn") (T := TX10) (N := 9) hx hb hts (iq_RX10 _) hown hK hP 1 rfl rfl 1 (by decide) (NN.f hN nq_1_101) (fun _ h9 => h9) rfl dX11_goes_29 ?_
      have hPc := va_P.sub (ws' := []) hP [] rfl
      refine cl_P (W.runS (As := [.int wk]) (rest := []) ⟨hx, hb, hml, hown, hts⟩ (c_Rows_wrong l D cs wk) ⟨callB_of 1 hts (gd_C qq_3_202) rfl rfl rfl (hT _ qq_1_16) (hT _ qq_3_200) (by decide +kernel) (rm_R rfl rfl), (hT _ qq_3_201)⟩ (pq_S hPc hK hN) rfl rfl hl.1 rfl (lv_room (Nat.le_of_ble_eq_true rfl)) dX11_goes_32 ⟨Nat.le_of_ble_eq_true rfl, Nat.le_of_ble_eq_true rfl⟩) (fun v9 hz_8 => ?_)
      obtain ⟨x_7, rfl, r_9⟩ := hz_8
      refine lv_istore_n (lv' := [(3, .int x_7), (2, .ref hl0), (0, .ref ox), (1, .int a)]) hx hb dX11_goes_35 rfl hl (by decide) rfl (fun ls hl => ?_)
      refine lv_iconst (v := 0) hx hb dX11_goes_36 (by decide) ?_
      refine lv_istore (lv' := [(4, .int 0), (3, .int x_7), (2, .ref hl0), (0, .ref ox), (1, .int a)]) hx hb dX11_goes_37 hl (by decide) rfl (fun ls hl => ?_)
      refine lv_iconst (v := 0) hx hb dX11_goes_39 (by decide) ?_
      refine lv_istore (lv' := [(5, .int 0), (4, .int 0), (3, .int x_7), (2, .ref hl0), (0, .ref ox), (1, .int a)]) hx hb dX11_goes_40 hl (by decide) rfl (fun ls hl => ?_)
      refine lv_iconst (v := 0) hx hb dX11_goes_42 (by decide) ?_
      refine lv_istore (lv' := [(6, .int 0), (5, .int 0), (4, .int 0), (3, .int x_7), (2, .ref hl0), (0, .ref ox), (1, .int a)]) hx hb dX11_goes_43 hl (by decide) rfl (fun ls hl => ?_)
      refine w_wh (σ := (Int32) × (Int32) × (Int32)) (fun x9 H locs ls => match x9 with | (v_65, v_66, v_67) => Rg 0 8 v_65 ∧ H = s.heap ∧ locs = [] ∧ va_P D vwCl [(ox, .inr (9, [.ref ht, .ref hq, .ref og, .int rc, .ref hw, .ref om, .ref hp, .ref ha, .ref hf, .ref hw0, va_rf qh, va_rf qo])), (hw, .inr (8, [.ref hl0, .int wk, .int wc, .int wx, .int wn, .ref wa0, .ref wa1, .ref wa2, .ref wa3])), (hl0, .inr (2, [.int lb, .int lh, .int lg, .int lw, .int lv, .int lbs, .int lti, .int lts, .int le, .int lk, .int la, .ref l0, .ref l1, .ref l2, .ref l3, .ref l4, .ref l5, .ref l6, .ref l7]))] H ∧ lv_has ls 8 [(6, .int v_65), (5, .int v_66), (4, .int v_67), (3, .int x_7), (2, .ref hl0), (0, .ref ox), (1, .int a)]) (fun x9 => match x9 with | (v_65, v_66, v_67) => (8 - Int32.toInt v_65).toNat) 45 ?_ (0, 0, 0) H locs ls ⟨(Rg.wk (lo2 := 0) (hi2 := 8) (Rg.c (c := 0) (k := 0) rfl) (by decide)), hHe, hlc, hP, lv_sub hl [0, 1, 2, 3, 4, 5, 6] rfl⟩
      rintro ⟨v_65, v_66, v_67⟩ H locs ls ⟨r_2159, hHe, hlc, hP, hl⟩ ih_2158
      refine lv_iload hx hb dX11_goes_45 (lv_at hl 0 rfl) ?_
      refine lv_aload_n hx hb dX11_goes_47 rfl (lv_at hl 4 rfl) ?_
      refine va_getN (D := D) (ci := 2) (v := .int lb) (C := "WrongHole$Lift") (T := TX2) (N := 19) hx hb hts (iq_RX2 _) hown hK hP 2 rfl rfl 0 (by decide) (NN.f hN nq_2_32) (fun _ h9 => h9) rfl dX11_goes_48 ?_
      refine lv_icmp_ge (tgt := 144) hx hb dX11_goes_51 (by decide) (fun c_2160 => ?_) (fun c_2160 => ?_)
      · refine lv_iload hx hb dX11_goes_144 (lv_at hl 2 rfl) ?_
        refine lv_iload hx hb dX11_goes_146 (lv_at hl 1 rfl) ?_
        refine lv_iload_n hx hb dX11_goes_148 rfl (lv_at hl 6 rfl) ?_
        refine lv_iadd hx hb dX11_goes_149 ?_
        refine lv_topi (fun x_2257 e_2258 => ?_)
        refine lv_iconst (v := 1) hx hb dX11_goes_150 (by decide) ?_
        refine lv_isub hx hb dX11_goes_151 ?_
        refine lv_topi (fun x_2259 e_2260 => ?_)
        refine lv_iload_n hx hb dX11_goes_152 rfl (lv_at hl 6 rfl) ?_
        refine lv_idiv hx hb dX11_goes_153 (Rg.nz r_5 (by decide)) ?_
        refine lv_topi (fun x_2261 e_2262 => ?_)
        refine lv_iadd hx hb dX11_goes_154 ?_
        refine lv_topi (fun x_2263 e_2264 => ?_)
        exact W.iret (v := x_2263) hx hb hr (fun t9 ht9 hW9 => ⟨⟨_, rfl, _, rfl⟩, ht9.trans hHe⟩) (fun _ h9 => by rw [hlc] at h9; exact absurd h9 List.not_mem_nil) dX11_goes_155
      · have r_2161 : Rg 0 7 v_65 := Rg.lt_l (nle_lt c_2160) r_2159 r_lb (by decide)
        have r_2162 : Rg 1 8 lb := Rg.lt_r (nle_lt c_2160) r_2159 r_lb (by decide)
        refine lv_iload hx hb dX11_goes_54 (lv_at hl 1 rfl) ?_
        refine w_cut (σ := (Int32)) (fun (v_2293 : Int32) H locs ls => Rg 0 1 v_2293 ∧ H = s.heap ∧ locs = [] ∧ va_P D vwCl [(ox, .inr (9, [.ref ht, .ref hq, .ref og, .int rc, .ref hw, .ref om, .ref hp, .ref ha, .ref hf, .ref hw0, va_rf qh, va_rf qo])), (hw, .inr (8, [.ref hl0, .int wk, .int wc, .int wx, .int wn, .ref wa0, .ref wa1, .ref wa2, .ref wa3])), (hl0, .inr (2, [.int lb, .int lh, .int lg, .int lw, .int lv, .int lbs, .int lti, .int lts, .int le, .int lk, .int la, .ref l0, .ref l1, .ref l2, .ref l3, .ref l4, .ref l5, .ref l6, .ref l7]))] H ∧ lv_has ls 8 [(6, .int v_65), (5, .int v_66), (4, .int v_67), (3, .int x_7), (2, .ref hl0), (0, .ref ox), (1, .int a)]) 104 (fun (v_2293 : Int32) => [.int v_2293]) ?_ (fun hj_2294 => ?_)
        · rintro v_2293 H locs ls ⟨r_2295, hHe, hlc, hP, hl⟩
          refine lv_istore (lv' := [(7, .int v_2293), (6, .int v_65), (5, .int v_66), (4, .int v_67), (3, .int x_7), (2, .ref hl0), (0, .ref ox), (1, .int a)]) hx hb dX11_goes_104 hl (by decide) rfl (fun ls hl => ?_)
          refine lv_iload hx hb dX11_goes_106 (lv_at hl 0 rfl) ?_
          refine w_cut (σ := (Int32) × (Int32)) (fun x9 H locs ls => match x9 with | (v_2315, v_2316) => H = s.heap ∧ locs = [] ∧ va_P D vwCl [(ox, .inr (9, [.ref ht, .ref hq, .ref og, .int rc, .ref hw, .ref om, .ref hp, .ref ha, .ref hf, .ref hw0, va_rf qh, va_rf qo])), (hw, .inr (8, [.ref hl0, .int wk, .int wc, .int wx, .int wn, .ref wa0, .ref wa1, .ref wa2, .ref wa3])), (hl0, .inr (2, [.int lb, .int lh, .int lg, .int lw, .int lv, .int lbs, .int lti, .int lts, .int le, .int lk, .int la, .ref l0, .ref l1, .ref l2, .ref l3, .ref l4, .ref l5, .ref l6, .ref l7]))] H ∧ lv_has ls 8 [(5, .int v_2315), (4, .int v_2316), (7, .int v_2293), (6, .int v_65), (3, .int x_7), (2, .ref hl0), (0, .ref ox), (1, .int a)]) 138 (fun x9 => match x9 with | (v_2315, v_2316) => []) ?_ (fun hj_2317 => ?_)
          · rintro ⟨v_2315, v_2316⟩ H locs ls ⟨hHe, hlc, hP, hl⟩
            obtain ⟨x_2318, e_2319⟩ : ∃ z : Int32, z = v_65 + Int32.ofInt 1 := ⟨_, rfl⟩
            have r_2320 : Rg 1 8 x_2318 := Rg.add e_2319 r_2161 (Rg.c (c := Int32.ofInt 1) (k := 1) rfl) (by decide)
            refine lv_iinc (v := x_2318) (lv' := [(6, .int x_2318), (5, .int v_2315), (4, .int v_2316), (7, .int v_2293), (3, .int x_7), (2, .ref hl0), (0, .ref ox), (1, .int a)]) hx hb dX11_goes_138 hl (k := 3) rfl (e_2319.symm) (by decide) rfl (fun ls hl => ?_)
            refine lv_goto (tgt := 45) hx hb dX11_goes_141 (by decide) ?_
            exact ih_2158 (x_2318, v_2315, v_2316) _ _ _ ⟨(Rg.wk (lo2 := 0) (hi2 := 8) r_2320 (by decide)), hHe, hlc, hP, lv_sub hl [0, 1, 2, 4, 5, 6, 7] rfl⟩ (ms_up e_2319 r_2161 (Rg.c (c := Int32.ofInt 1) (k := 1) rfl) (by decide))
          · refine lv_if_eq (tgt := 117) hx hb dX11_goes_108 (by decide) (fun c_2296 => ?_) (fun c_2296 => ?_)
            · have r_2297 : Rg 0 0 v_2293 := Rg.eq_l c_2296 r_2295 (Rg.c (c := 0) (k := 0) rfl) (by decide)
              refine lv_iload hx hb dX11_goes_117 (lv_at hl 3 rfl) ?_
              refine lv_iload hx hb dX11_goes_119 (lv_at hl 2 rfl) ?_
              refine lv_iload_n hx hb dX11_goes_121 rfl (lv_at hl 7 rfl) ?_
              refine lv_iadd hx hb dX11_goes_122 ?_
              refine lv_topi (fun x_2321 e_2322 => ?_)
              refine lv_iconst (v := 1) hx hb dX11_goes_123 (by decide) ?_
              refine lv_isub hx hb dX11_goes_124 ?_
              refine lv_topi (fun x_2323 e_2324 => ?_)
              refine lv_iload_n hx hb dX11_goes_125 rfl (lv_at hl 7 rfl) ?_
              refine lv_idiv hx hb dX11_goes_126 (Rg.nz r_5 (by decide)) ?_
              refine lv_topi (fun x_2325 e_2326 => ?_)
              refine lv_iadd hx hb dX11_goes_127 ?_
              refine lv_topi (fun x_2327 e_2328 => ?_)
              refine lv_istore (lv' := [(4, .int x_2327), (7, .int v_2293), (6, .int v_65), (5, .int v_66), (3, .int x_7), (2, .ref hl0), (0, .ref ox), (1, .int a)]) hx hb dX11_goes_128 hl (by decide) rfl (fun ls hl => ?_)
              refine lv_iload_n hx hb dX11_goes_130 rfl (lv_at hl 4 rfl) ?_
              refine lv_iload hx hb dX11_goes_131 (lv_at hl 2 rfl) ?_
              refine lv_ishr hx hb dX11_goes_133 ?_
              refine lv_topi (fun x_2329 e_2330 => ?_)
              have r_2331 : Rg 0 255 x_2329 := Rg.shrn e_2330 r_9
              refine lv_iconst (v := 1) hx hb dX11_goes_134 (by decide) ?_
              refine lv_iand hx hb dX11_goes_135 ?_
              refine lv_topi (fun x_2332 e_2333 => ?_)
              have r_2334 : Rg 0 1 x_2332 := Rg.and e_2333 (Rg.c (c := 1) (k := 1) rfl) (by decide)
              refine lv_istore (lv' := [(5, .int x_2332), (4, .int x_2327), (7, .int v_2293), (6, .int v_65), (3, .int x_7), (2, .ref hl0), (0, .ref ox), (1, .int a)]) hx hb dX11_goes_136 hl (by decide) rfl (fun ls hl => ?_)
              exact hj_2317 (x_2332, x_2327) _ _ _ ⟨hHe, hlc, hP, lv_sub hl [0, 1, 2, 3, 4, 5, 6, 7] rfl⟩
            · have r_2298 : Rg 1 1 v_2293 := Rg.ne c_2296 r_2295 (Rg.c (c := 0) (k := 0) rfl) (by decide)
              obtain ⟨x_2335, e_2336⟩ : ∃ z : Int32, z = v_66 + Int32.ofInt 1 := ⟨_, rfl⟩
              refine lv_iinc (v := x_2335) (lv' := [(5, .int x_2335), (7, .int v_2293), (6, .int v_65), (4, .int v_67), (3, .int x_7), (2, .ref hl0), (0, .ref ox), (1, .int a)]) hx hb dX11_goes_111 hl (k := 2) rfl (e_2336.symm) (by decide) rfl (fun ls hl => ?_)
              refine lv_goto (tgt := 138) hx hb dX11_goes_114 (by decide) ?_
              exact hj_2317 (x_2335, v_67) _ _ _ ⟨hHe, hlc, hP, lv_sub hl [0, 3, 1, 2, 4, 5, 6, 7] rfl⟩
        · refine lv_if_le (tgt := 103) hx hb dX11_goes_56 (by decide) (fun c_2265 => ?_) (fun c_2265 => ?_)
          · have r_2266 : Rg (-2147483648) 0 v_66 := Rg.le_l c_2265 (Rg.top v_66) (Rg.c (c := 0) (k := 0) rfl) (by decide)
            refine lv_iconst (v := 0) hx hb dX11_goes_103 (by decide) ?_
            exact hj_2294 0 _ _ _ ⟨(Rg.wk (lo2 := 0) (hi2 := 1) (Rg.c (c := 0) (k := 0) rfl) (by decide)), hHe, hlc, hP, lv_sub hl [0, 1, 2, 3, 4, 5, 6] rfl⟩
          · have r_2267 : Rg 1 2147483647 v_66 := Rg.lt_r (nle_lt c_2265) (Rg.c (c := 0) (k := 0) rfl) (Rg.top v_66) (by decide)
            refine lv_iload_n hx hb dX11_goes_59 rfl (lv_at hl 3 rfl) ?_
            refine lv_iload hx hb dX11_goes_60 (lv_at hl 0 rfl) ?_
            refine lv_ishr hx hb dX11_goes_62 ?_
            refine lv_topi (fun x_2337 e_2338 => ?_)
            have r_2339 : Rg 0 255 x_2337 := Rg.shrn e_2338 r_9
            refine lv_iconst (v := 1) hx hb dX11_goes_63 (by decide) ?_
            refine lv_iand hx hb dX11_goes_64 ?_
            refine lv_topi (fun x_2340 e_2341 => ?_)
            have r_2342 : Rg 0 1 x_2340 := Rg.and e_2341 (Rg.c (c := 1) (k := 1) rfl) (by decide)
            refine lv_if_eq (tgt := 103) hx hb dX11_goes_65 (by decide) (fun c_2343 => ?_) (fun c_2343 => ?_)
            · have r_2344 : Rg 0 0 x_2340 := Rg.eq_l c_2343 r_2342 (Rg.c (c := 0) (k := 0) rfl) (by decide)
              refine lv_iconst (v := 0) hx hb dX11_goes_103 (by decide) ?_
              exact hj_2294 0 _ _ _ ⟨(Rg.wk (lo2 := 0) (hi2 := 1) (Rg.c (c := 0) (k := 0) rfl) (by decide)), hHe, hlc, hP, lv_sub hl [0, 1, 2, 3, 4, 5, 6] rfl⟩
            · have r_2345 : Rg 1 1 x_2340 := Rg.ne c_2343 r_2342 (Rg.c (c := 0) (k := 0) rfl) (by decide)
              refine lv_aload_n hx hb dX11_goes_68 rfl (lv_at hl 5 rfl) ?_
              refine va_get (D := D) (ci := 9) (v := .ref hw) (C := "WrongHole") (T := TX11) (N := 12) hx hb hts (iq_RX11 _) hown hK hP 0 rfl rfl 4 (by decide) (hT _ qq_1_206) (fun _ h9 => h9) rfl dX11_goes_69 ?_
              refine va_getN (D := D) (ci := 8) (v := .int wk) (C := "WrongHole$Worn") (T := TX10) (N := 9) hx hb hts (iq_RX10 _) hown hK hP 1 rfl rfl 1 (by decide) (NN.f hN nq_1_101) (fun _ h9 => h9) rfl dX11_goes_72 ?_
              refine lv_iload hx hb dX11_goes_75 (lv_at hl 0 rfl) ?_
              have hPc := va_P.sub (ws' := []) hP [] rfl
              refine cl_P (W.runS (As := [.int wk, .int v_65]) (rest := []) ⟨hx, hb, hml, hown, hts⟩ (c_Rows_holeOf l D cs wk v_65) ⟨callB_of 2 hts (gd_C qq_3_167) rfl rfl rfl (hT _ qq_1_16) (hT _ qq_3_165) (by decide +kernel) (rm_R rfl rfl), (hT _ qq_3_166)⟩ (pq_S hPc hK hN) rfl rfl hl.1 rfl (lv_room (Nat.le_of_ble_eq_true rfl)) dX11_goes_77 ⟨Nat.le_of_ble_eq_true rfl, Nat.le_of_ble_eq_true rfl⟩) (fun v9 hz_2347 => ?_)
              obtain ⟨x_2346, rfl, r_2348⟩ := hz_2347
              refine lv_aload_n hx hb dX11_goes_80 rfl (lv_at hl 5 rfl) ?_
              refine va_get (D := D) (ci := 9) (v := .ref hw) (C := "WrongHole") (T := TX11) (N := 12) hx hb hts (iq_RX11 _) hown hK hP 0 rfl rfl 4 (by decide) (hT _ qq_1_206) (fun _ h9 => h9) rfl dX11_goes_81 ?_
              refine va_getN (D := D) (ci := 8) (v := .int wk) (C := "WrongHole$Worn") (T := TX10) (N := 9) hx hb hts (iq_RX10 _) hown hK hP 1 rfl rfl 1 (by decide) (NN.f hN nq_1_101) (fun _ h9 => h9) rfl dX11_goes_84 ?_
              refine lv_iload hx hb dX11_goes_87 (lv_at hl 0 rfl) ?_
              refine lv_iconst (v := 1) hx hb dX11_goes_89 (by decide) ?_
              refine lv_isub hx hb dX11_goes_90 ?_
              refine lv_topi (fun x_2349 e_2350 => ?_)
              have r_2351 : Rg (-1) 6 x_2349 := Rg.sub e_2350 r_2161 (Rg.c (c := 1) (k := 1) rfl) (by decide)
              have hPc := va_P.sub (ws' := []) hP [] rfl
              refine cl_P (W.runS (As := [.int wk, .int x_2349]) (rest := [.int x_2346]) ⟨hx, hb, hml, hown, hts⟩ (c_Rows_holeOf l D cs wk x_2349) ⟨callB_of 2 hts (gd_C qq_3_167) rfl rfl rfl (hT _ qq_1_16) (hT _ qq_3_165) (by decide +kernel) (rm_R rfl rfl), (hT _ qq_3_166)⟩ (pq_S hPc hK hN) rfl rfl hl.1 rfl (lv_room (Nat.le_of_ble_eq_true rfl)) dX11_goes_91 ⟨Nat.le_of_ble_eq_true rfl, Nat.le_of_ble_eq_true rfl⟩) (fun v9 hz_2353 => ?_)
              obtain ⟨x_2352, rfl, r_2354⟩ := hz_2353
              refine lv_iconst (v := 1) hx hb dX11_goes_94 (by decide) ?_
              refine lv_iadd hx hb dX11_goes_95 ?_
              refine lv_topi (fun x_2355 e_2356 => ?_)
              have r_2357 : Rg 0 8 x_2355 := Rg.add e_2356 r_2354 (Rg.c (c := 1) (k := 1) rfl) (by decide)
              refine lv_icmp_ne (tgt := 103) hx hb dX11_goes_96 (by decide) (fun c_2358 => ?_) (fun c_2358 => ?_)
              · refine lv_iconst (v := 0) hx hb dX11_goes_103 (by decide) ?_
                exact hj_2294 0 _ _ _ ⟨(Rg.wk (lo2 := 0) (hi2 := 1) (Rg.c (c := 0) (k := 0) rfl) (by decide)), hHe, hlc, hP, lv_sub hl [0, 1, 2, 3, 4, 5, 6] rfl⟩
              · have r_2359 : Rg 0 7 x_2346 := Rg.eq_l c_2358 r_2348 r_2357 (by decide)
                have r_2360 : Rg 0 7 x_2355 := Rg.eq_l (Eq.symm c_2358) r_2357 r_2348 (by decide)
                have r_2361 : Rg (-1) 6 x_2352 := Rg.unadd e_2356 r_2354 (Rg.c (c := 1) (k := 1) rfl) r_2360 (by decide)
                refine lv_iconst (v := 1) hx hb dX11_goes_99 (by decide) ?_
                refine lv_goto (tgt := 104) hx hb dX11_goes_100 (by decide) ?_
                exact hj_2294 1 _ _ _ ⟨(Rg.wk (lo2 := 0) (hi2 := 1) (Rg.c (c := 1) (k := 1) rfl) (by decide)), hHe, hlc, hP, lv_sub hl [0, 1, 2, 3, 4, 5, 6] rfl⟩
    · have r_6 : Rg 9 2147483647 a := Rg.lt_r (nle_lt c_4) (Rg.c (c := 8) (k := 8) rfl) r_3 (by decide)
      refine lv_iconst (v := (-1)) hx hb dX11_goes_23 (by decide) ?_
      exact W.iret (v := (-1)) hx hb hr (fun t9 ht9 hW9 => ⟨⟨_, rfl, _, rfl⟩, ht9.trans hHe⟩) (fun _ h9 => by rw [hlc] at h9; exact absurd h9 List.not_mem_nil) dX11_goes_24
theorem dX11_spare_0 : decode cX11_spare 0 = .ok (.aload_n 0, 1) := by decide +kernel
theorem dX11_spare_1 : decode cX11_spare 1 = .ok (.getfield 32, 3) := by decide +kernel
theorem dX11_spare_4 : decode cX11_spare 4 = .ok (.getfield 86, 3) := by decide +kernel
theorem dX11_spare_7 : decode cX11_spare 7 = .ok (.astore_n 3, 1) := by decide +kernel
theorem dX11_spare_8 : decode cX11_spare 8 = .ok (.aload_n 3, 1) := by decide +kernel
theorem dX11_spare_9 : decode cX11_spare 9 = .ok (.ifnull 31, 3) := by decide +kernel
theorem dX11_spare_40 : decode cX11_spare 40 = .ok (.iconst (-1), 1) := by decide +kernel
theorem dX11_spare_41 : decode cX11_spare 41 = .ok (.ireturn, 1) := by decide +kernel
set_option maxHeartbeats 4000000 in
set_option maxRecDepth 100000 in
theorem c_W_spare_n (l : Launch) (D : va_G) (cs : Nat → ClassId) (ox : Nat) (ht : Nat) (hq : Nat) (og : Nat) (rc : Int32) (hw : Nat) (om : Nat) (hp : Nat) (ha : Nat) (hf : Nat) (hw0 : Nat) (qh : Option Nat) (qo : Option Nat) (wk : Int32) (wc : Int32) (wx : Int32) (wn : Int32) (wa0 : Nat) (wa1 : Nat) (wa2 : Nat) (wa3 : Nat) (b : Int32) (a : Int32)  : Met l yX11_spare (Cond.code yX11_spare cX11_spare 7 (some .int) :: TB) (RM 1 0 0) (va_Pc [.ref ox, .int b, .int a] (PRR D cs [(ox, .inr (9, [.ref ht, .ref hq, .ref og, .int rc, .ref hw, .ref om, .ref hp, .ref ha, .ref hf, .ref hw0, va_rf qh, va_rf qo])), (hw, .inr (8, [.null, .int wk, .int wc, .int wx, .int wn, .ref wa0, .ref wa1, .ref wa2, .ref wa3]))])) (QP (fun v => ∃ x : Int32, v = .int x)) 0 0 (fun _ => False) := by
  refine MER (y := yX11_spare) (cc := cX11_spare) (maxL := 7) (ret := (some .int)) (d := 1) (D := D) (cs := cs) (ws := [(ox, .inr (9, [.ref ht, .ref hq, .ref og, .int rc, .ref hw, .ref om, .ref hp, .ref ha, .ref hf, .ref hw0, va_rf qh, va_rf qo])), (hw, .inr (8, [.null, .int wk, .int wc, .int wx, .int wn, .ref wa0, .ref wa1, .ref wa2, .ref wa3]))]) (av := [.ref ox, .int b, .int a]) (Qc := QP (fun v => ∃ x : Int32, v = .int x)) (by decide) (Nat.le_of_ble_eq_true rfl) ?_
  intro p e s m below meth c ls H hHe hx hb hr hml hown hts hlocks hP hK hN hl
  obtain ⟨locs, hlc⟩ : ∃ z : List Loc, z = [] := ⟨_, rfl⟩
  rw [← hlc]
  have hown : s.vm.findClass "WrongHole" = some m.cls := hown
  have hT : ∀ w ∈ TB, w.before ([.ref ox, .int b, .int a] : List Value).toArray s = true := fun w h => hts w (List.mem_cons_of_mem _ h)
  have hl : lv_has ls 7 [(0, .ref ox), (1, .int b), (2, .int a)] := hl
  have hP : va_P D vwCl [(ox, .inr (9, [.ref ht, .ref hq, .ref og, .int rc, .ref hw, .ref om, .ref hp, .ref ha, .ref hf, .ref hw0, va_rf qh, va_rf qo])), (hw, .inr (8, [.null, .int wk, .int wc, .int wx, .int wn, .ref wa0, .ref wa1, .ref wa2, .ref wa3]))] H := hP
  refine lv_aload_n hx hb dX11_spare_0 rfl (lv_at hl 0 rfl) ?_
  refine va_get (D := D) (ci := 9) (v := .ref hw) (C := "WrongHole") (T := TX11) (N := 12) hx hb hts (iq_RX11 _) hown hK hP 0 rfl rfl 4 (by decide) (hT _ qq_1_206) (fun _ h9 => h9) rfl dX11_spare_1 ?_
  refine va_getN (D := D) (ci := 8) (v := .null) (C := "WrongHole$Worn") (T := TX10) (N := 9) hx hb hts (iq_RX10 _) hown hK hP 1 rfl rfl 0 (by decide) (NN.f hN nq_1_99) (fun _ h9 => h9) rfl dX11_spare_4 ?_
  refine lv_astore_nN (lv' := [(3, .null), (0, .ref ox), (1, .int b), (2, .int a)]) hx hb dX11_spare_7 rfl hl (by decide) rfl (fun ls hl => ?_)
  refine lv_aload_nN hx hb dX11_spare_8 rfl (lv_at hl 0 rfl) ?_
  refine lv_ifnullN (tgt := 40) hx hb dX11_spare_9 (by decide) ?_
  refine lv_iconst (v := (-1)) hx hb dX11_spare_40 (by decide) ?_
  exact W.iret (v := (-1)) hx hb hr (fun t9 ht9 hW9 => ⟨⟨_, rfl, _, rfl⟩, ht9.trans hHe⟩) (fun _ h9 => by rw [hlc] at h9; exact absurd h9 List.not_mem_nil) dX11_spare_41
theorem dX11_spare_12 : decode cX11_spare 12 = .ok (.aload_n 3, 1) := by decide +kernel
theorem dX11_spare_13 : decode cX11_spare 13 = .ok (.iload_n 1, 1) := by decide +kernel
theorem dX11_spare_14 : decode cX11_spare 14 = .ok (.invokevirtual 115, 3) := by decide +kernel
theorem dX11_spare_17 : decode cX11_spare 17 = .ok (.ifCond .eq 23, 3) := by decide +kernel
theorem dX11_spare_20 : decode cX11_spare 20 = .ok (.aload_n 3, 1) := by decide +kernel
theorem dX11_spare_21 : decode cX11_spare 21 = .ok (.getfield 127, 3) := by decide +kernel
theorem dX11_spare_24 : decode cX11_spare 24 = .ok (.iload_n 1, 1) := by decide +kernel
theorem dX11_spare_25 : decode cX11_spare 25 = .ok (.ishr, 1) := by decide +kernel
theorem dX11_spare_26 : decode cX11_spare 26 = .ok (.iconst 1, 1) := by decide +kernel
theorem dX11_spare_27 : decode cX11_spare 27 = .ok (.iand, 1) := by decide +kernel
theorem dX11_spare_28 : decode cX11_spare 28 = .ok (.ifCond .eq 12, 3) := by decide +kernel
theorem dX11_spare_31 : decode cX11_spare 31 = .ok (.iload_n 2, 1) := by decide +kernel
theorem dX11_spare_32 : decode cX11_spare 32 = .ok (.ifCond .lt 8, 3) := by decide +kernel
theorem dX11_spare_35 : decode cX11_spare 35 = .ok (.iload_n 2, 1) := by decide +kernel
theorem dX11_spare_36 : decode cX11_spare 36 = .ok (.iconst 1, 1) := by decide +kernel
theorem dX11_spare_37 : decode cX11_spare 37 = .ok (.if_icmp .le 5, 3) := by decide +kernel
theorem dX11_spare_42 : decode cX11_spare 42 = .ok (.iconst (-1), 1) := by decide +kernel
theorem dX11_spare_43 : decode cX11_spare 43 = .ok (.istore 4, 2) := by decide +kernel
theorem dX11_spare_45 : decode cX11_spare 45 = .ok (.iconst 0, 1) := by decide +kernel
theorem dX11_spare_46 : decode cX11_spare 46 = .ok (.istore 5, 2) := by decide +kernel
theorem dX11_spare_48 : decode cX11_spare 48 = .ok (.iload 5, 2) := by decide +kernel
theorem dX11_spare_50 : decode cX11_spare 50 = .ok (.aload_n 3, 1) := by decide +kernel
theorem dX11_spare_51 : decode cX11_spare 51 = .ok (.getfield 105, 3) := by decide +kernel
theorem dX11_spare_54 : decode cX11_spare 54 = .ok (.if_icmp .ge 92, 3) := by decide +kernel
theorem dX11_spare_146 : decode cX11_spare 146 = .ok (.iload 4, 2) := by decide +kernel
theorem dX11_spare_148 : decode cX11_spare 148 = .ok (.iconst (-1), 1) := by decide +kernel
theorem dX11_spare_149 : decode cX11_spare 149 = .ok (.if_icmp .ne 6, 3) := by decide +kernel
theorem dX11_spare_155 : decode cX11_spare 155 = .ok (.iload_n 2, 1) := by decide +kernel
theorem dX11_spare_156 : decode cX11_spare 156 = .ok (.ifCond .ne 8, 3) := by decide +kernel
theorem dX11_spare_164 : decode cX11_spare 164 = .ok (.aload_n 3, 1) := by decide +kernel
theorem dX11_spare_165 : decode cX11_spare 165 = .ok (.getfield 137, 3) := by decide +kernel
theorem dX11_spare_168 : decode cX11_spare 168 = .ok (.iload_n 1, 1) := by decide +kernel
theorem dX11_spare_169 : decode cX11_spare 169 = .ok (.iaload, 1) := by decide +kernel
theorem dX11_spare_170 : decode cX11_spare 170 = .ok (.aload_n 3, 1) := by decide +kernel
theorem dX11_spare_171 : decode cX11_spare 171 = .ok (.getfield 137, 3) := by decide +kernel
theorem dX11_spare_174 : decode cX11_spare 174 = .ok (.iload 4, 2) := by decide +kernel
theorem dX11_spare_176 : decode cX11_spare 176 = .ok (.iaload, 1) := by decide +kernel
theorem dX11_spare_177 : decode cX11_spare 177 = .ok (.isub, 1) := by decide +kernel
theorem dX11_spare_178 : decode cX11_spare 178 = .ok (.ireturn, 1) := by decide +kernel
theorem dX11_spare_159 : decode cX11_spare 159 = .ok (.iload 4, 2) := by decide +kernel
theorem dX11_spare_161 : decode cX11_spare 161 = .ok (.goto 17, 3) := by decide +kernel
theorem dX11_spare_152 : decode cX11_spare 152 = .ok (.bipush (-2), 2) := by decide +kernel
theorem dX11_spare_154 : decode cX11_spare 154 = .ok (.ireturn, 1) := by decide +kernel
theorem dX11_spare_57 : decode cX11_spare 57 = .ok (.aload_n 3, 1) := by decide +kernel
theorem dX11_spare_58 : decode cX11_spare 58 = .ok (.getfield 127, 3) := by decide +kernel
theorem dX11_spare_61 : decode cX11_spare 61 = .ok (.iload 5, 2) := by decide +kernel
theorem dX11_spare_63 : decode cX11_spare 63 = .ok (.ishr, 1) := by decide +kernel
theorem dX11_spare_64 : decode cX11_spare 64 = .ok (.iconst 1, 1) := by decide +kernel
theorem dX11_spare_65 : decode cX11_spare 65 = .ok (.iand, 1) := by decide +kernel
theorem dX11_spare_66 : decode cX11_spare 66 = .ok (.ifCond .ne 39, 3) := by decide +kernel
theorem dX11_spare_106 : decode cX11_spare 106 = .ok (.istore 6, 2) := by decide +kernel
theorem dX11_spare_108 : decode cX11_spare 108 = .ok (.iload 6, 2) := by decide +kernel
theorem dX11_spare_110 : decode cX11_spare 110 = .ok (.ifCond .eq 30, 3) := by decide +kernel
theorem dX11_spare_140 : decode cX11_spare 140 = .ok (.iinc 5 1, 3) := by decide +kernel
theorem dX11_spare_143 : decode cX11_spare 143 = .ok (.goto (-95), 3) := by decide +kernel
theorem dX11_spare_113 : decode cX11_spare 113 = .ok (.iload 4, 2) := by decide +kernel
theorem dX11_spare_115 : decode cX11_spare 115 = .ok (.iconst (-1), 1) := by decide +kernel
theorem dX11_spare_116 : decode cX11_spare 116 = .ok (.if_icmp .eq 20, 3) := by decide +kernel
theorem dX11_spare_136 : decode cX11_spare 136 = .ok (.iload 5, 2) := by decide +kernel
theorem dX11_spare_138 : decode cX11_spare 138 = .ok (.istore 4, 2) := by decide +kernel
theorem dX11_spare_119 : decode cX11_spare 119 = .ok (.aload_n 3, 1) := by decide +kernel
theorem dX11_spare_120 : decode cX11_spare 120 = .ok (.getfield 137, 3) := by decide +kernel
theorem dX11_spare_123 : decode cX11_spare 123 = .ok (.iload 5, 2) := by decide +kernel
theorem dX11_spare_125 : decode cX11_spare 125 = .ok (.iaload, 1) := by decide +kernel
theorem dX11_spare_126 : decode cX11_spare 126 = .ok (.aload_n 3, 1) := by decide +kernel
theorem dX11_spare_127 : decode cX11_spare 127 = .ok (.getfield 137, 3) := by decide +kernel
theorem dX11_spare_130 : decode cX11_spare 130 = .ok (.iload 4, 2) := by decide +kernel
theorem dX11_spare_132 : decode cX11_spare 132 = .ok (.iaload, 1) := by decide +kernel
theorem dX11_spare_133 : decode cX11_spare 133 = .ok (.if_icmp .gt 7, 3) := by decide +kernel
theorem dX11_spare_105 : decode cX11_spare 105 = .ok (.iconst 0, 1) := by decide +kernel
theorem dX11_spare_69 : decode cX11_spare 69 = .ok (.aload_n 3, 1) := by decide +kernel
theorem dX11_spare_70 : decode cX11_spare 70 = .ok (.getfield 124, 3) := by decide +kernel
theorem dX11_spare_73 : decode cX11_spare 73 = .ok (.iload 5, 2) := by decide +kernel
theorem dX11_spare_75 : decode cX11_spare 75 = .ok (.iaload, 1) := by decide +kernel
theorem dX11_spare_76 : decode cX11_spare 76 = .ok (.aload_n 3, 1) := by decide +kernel
theorem dX11_spare_77 : decode cX11_spare 77 = .ok (.getfield 124, 3) := by decide +kernel
theorem dX11_spare_80 : decode cX11_spare 80 = .ok (.iload_n 1, 1) := by decide +kernel
theorem dX11_spare_81 : decode cX11_spare 81 = .ok (.iaload, 1) := by decide +kernel
theorem dX11_spare_82 : decode cX11_spare 82 = .ok (.if_icmp .ne 23, 3) := by decide +kernel
theorem dX11_spare_85 : decode cX11_spare 85 = .ok (.aload_n 3, 1) := by decide +kernel
theorem dX11_spare_86 : decode cX11_spare 86 = .ok (.getfield 137, 3) := by decide +kernel
theorem dX11_spare_89 : decode cX11_spare 89 = .ok (.iload 5, 2) := by decide +kernel
theorem dX11_spare_91 : decode cX11_spare 91 = .ok (.iaload, 1) := by decide +kernel
theorem dX11_spare_92 : decode cX11_spare 92 = .ok (.aload_n 3, 1) := by decide +kernel
theorem dX11_spare_93 : decode cX11_spare 93 = .ok (.getfield 137, 3) := by decide +kernel
theorem dX11_spare_96 : decode cX11_spare 96 = .ok (.iload_n 1, 1) := by decide +kernel
theorem dX11_spare_97 : decode cX11_spare 97 = .ok (.iaload, 1) := by decide +kernel
theorem dX11_spare_98 : decode cX11_spare 98 = .ok (.if_icmp .ge 7, 3) := by decide +kernel
theorem dX11_spare_101 : decode cX11_spare 101 = .ok (.iconst 1, 1) := by decide +kernel
theorem dX11_spare_102 : decode cX11_spare 102 = .ok (.goto 4, 3) := by decide +kernel
set_option maxHeartbeats 4000000 in
set_option maxRecDepth 100000 in
theorem c_W_spare_r (l : Launch) (D : va_G) (cs : Nat → ClassId) (ox : Nat) (ht : Nat) (hq : Nat) (og : Nat) (rc : Int32) (hw : Nat) (om : Nat) (hp : Nat) (ha : Nat) (hf : Nat) (hw0 : Nat) (qh : Option Nat) (qo : Option Nat) (wk : Int32) (wc : Int32) (wx : Int32) (wn : Int32) (wa0 : Nat) (wa1 : Nat) (wa2 : Nat) (wa3 : Nat) (hl0 : Nat) (lb : Int32) (lh : Int32) (lg : Int32) (lw : Int32) (lv : Int32) (lbs : Int32) (lti : Int32) (lts : Int32) (le : Int32) (lk : Int32) (la : Int32) (l0 : Nat) (l1 : Nat) (l2 : Nat) (l3 : Nat) (l4 : Nat) (l5 : Nat) (l6 : Nat) (l7 : Nat) (f0 : Nat → Int32) (f4 : Nat → Int32) (b : Int32) (a : Int32) (r_lb : Rg 0 8 lb) (r_lh : Rg 0 8 lh) (r_le : Rg 0 6 le) : Met l yX11_spare (Cond.code yX11_spare cX11_spare 7 (some .int) :: TB) (RM 1 0 0) (va_Pc [.ref ox, .int b, .int a] (PRR D cs [(ox, .inr (9, [.ref ht, .ref hq, .ref og, .int rc, .ref hw, .ref om, .ref hp, .ref ha, .ref hf, .ref hw0, va_rf qh, va_rf qo])), (hw, .inr (8, [.ref hl0, .int wk, .int wc, .int wx, .int wn, .ref wa0, .ref wa1, .ref wa2, .ref wa3])), (hl0, .inr (2, [.int lb, .int lh, .int lg, .int lw, .int lv, .int lbs, .int lti, .int lts, .int le, .int lk, .int la, .ref l0, .ref l1, .ref l2, .ref l3, .ref l4, .ref l5, .ref l6, .ref l7])), (l0, .inl ((cs 0), 8, .inl f0)), (l4, .inl ((cs 0), 8, .inl f4))])) (QP (fun v => ∃ x : Int32, v = .int x)) 0 0 (fun _ => False) := by
  refine MER (y := yX11_spare) (cc := cX11_spare) (maxL := 7) (ret := (some .int)) (d := 1) (D := D) (cs := cs) (ws := [(ox, .inr (9, [.ref ht, .ref hq, .ref og, .int rc, .ref hw, .ref om, .ref hp, .ref ha, .ref hf, .ref hw0, va_rf qh, va_rf qo])), (hw, .inr (8, [.ref hl0, .int wk, .int wc, .int wx, .int wn, .ref wa0, .ref wa1, .ref wa2, .ref wa3])), (hl0, .inr (2, [.int lb, .int lh, .int lg, .int lw, .int lv, .int lbs, .int lti, .int lts, .int le, .int lk, .int la, .ref l0, .ref l1, .ref l2, .ref l3, .ref l4, .ref l5, .ref l6, .ref l7])), (l0, .inl ((cs 0), 8, .inl f0)), (l4, .inl ((cs 0), 8, .inl f4))]) (av := [.ref ox, .int b, .int a]) (Qc := QP (fun v => ∃ x : Int32, v = .int x)) (by decide) (Nat.le_of_ble_eq_true rfl) ?_
  intro p e s m below meth c ls H hHe hx hb hr hml hown hts hlocks hP hK hN hl
  obtain ⟨locs, hlc⟩ : ∃ z : List Loc, z = [] := ⟨_, rfl⟩
  rw [← hlc]
  have hown : s.vm.findClass "WrongHole" = some m.cls := hown
  have hT : ∀ w ∈ TB, w.before ([.ref ox, .int b, .int a] : List Value).toArray s = true := fun w h => hts w (List.mem_cons_of_mem _ h)
  have hl : lv_has ls 7 [(0, .ref ox), (1, .int b), (2, .int a)] := hl
  have hP : va_P D vwCl [(ox, .inr (9, [.ref ht, .ref hq, .ref og, .int rc, .ref hw, .ref om, .ref hp, .ref ha, .ref hf, .ref hw0, va_rf qh, va_rf qo])), (hw, .inr (8, [.ref hl0, .int wk, .int wc, .int wx, .int wn, .ref wa0, .ref wa1, .ref wa2, .ref wa3])), (hl0, .inr (2, [.int lb, .int lh, .int lg, .int lw, .int lv, .int lbs, .int lti, .int lts, .int le, .int lk, .int la, .ref l0, .ref l1, .ref l2, .ref l3, .ref l4, .ref l5, .ref l6, .ref l7])), (l0, .inl ((cs 0), 8, .inl f0)), (l4, .inl ((cs 0), 8, .inl f4))] H := hP
  refine lv_aload_n hx hb dX11_spare_0 rfl (lv_at hl 0 rfl) ?_
  refine va_get (D := D) (ci := 9) (v := .ref hw) (C := "WrongHole") (T := TX11) (N := 12) hx hb hts (iq_RX11 _) hown hK hP 0 rfl rfl 4 (by decide) (hT _ qq_1_206) (fun _ h9 => h9) rfl dX11_spare_1 ?_
  refine va_getN (D := D) (ci := 8) (v := .ref hl0) (C := "WrongHole$Worn") (T := TX10) (N := 9) hx hb hts (iq_RX10 _) hown hK hP 1 rfl rfl 0 (by decide) (NN.f hN nq_1_99) (fun _ h9 => h9) rfl dX11_spare_4 ?_
  refine lv_astore_n (lv' := [(3, .ref hl0), (0, .ref ox), (1, .int b), (2, .int a)]) hx hb dX11_spare_7 rfl hl (by decide) rfl (fun ls hl => ?_)
  refine lv_aload_n hx hb dX11_spare_8 rfl (lv_at hl 0 rfl) ?_
  refine lv_ifnull hx hb dX11_spare_9 ?_
  refine lv_aload_n hx hb dX11_spare_12 rfl (lv_at hl 0 rfl) ?_
  refine lv_iload_n hx hb dX11_spare_13 rfl (lv_at hl 2 rfl) ?_
  have hPc := va_P.sub (ws' := [(hl0, .inr (2, [.int lb, .int lh, .int lg, .int lw, .int lv, .int lbs, .int lti, .int lts, .int le, .int lk, .int la, .ref l0, .ref l1, .ref l2, .ref l3, .ref l4, .ref l5, .ref l6, .ref l7]))]) hP [2] rfl
  refine cl_P (W.runV (As := [.int b]) (rest := []) ⟨hx, hb, hml, hown, hts⟩ (c_Lift_hasButton l D cs hl0 lb lh lg lw lv lbs lti lts le lk la l0 l1 l2 l3 l4 l5 l6 l7 b) ⟨callB_of 1 hts (gd_C qq_3_164) rfl rfl rfl (hT _ qq_1_11) (hT _ qq_3_161) (by decide +kernel) (rm_R rfl rfl), (hT _ qq_3_162), (hT _ qq_3_163)⟩ (pq_V hPc hK hN (ci := 2) (q0 := 0) rfl rfl) rfl rfl hl.1 rfl (lv_room (Nat.le_of_ble_eq_true rfl)) dX11_spare_14 ⟨Nat.le_of_ble_eq_true rfl, Nat.le_of_ble_eq_true rfl⟩) (fun v9 hz_2 => ?_)
  obtain ⟨x_1, rfl, r_3⟩ := hz_2
  refine lv_if_eq (tgt := 40) hx hb dX11_spare_17 (by decide) (fun c_4 => ?_) (fun c_4 => ?_)
  · have r_5 : Rg 0 0 x_1 := Rg.eq_l c_4 r_3.1 (Rg.c (c := 0) (k := 0) rfl) (by decide)
    refine lv_iconst (v := (-1)) hx hb dX11_spare_40 (by decide) ?_
    exact W.iret (v := (-1)) hx hb hr (fun t9 ht9 hW9 => ⟨⟨_, rfl, _, rfl⟩, ht9.trans hHe⟩) (fun _ h9 => by rw [hlc] at h9; exact absurd h9 List.not_mem_nil) dX11_spare_41
  · have r_6 : Rg 1 1 x_1 := Rg.ne c_4 r_3.1 (Rg.c (c := 0) (k := 0) rfl) (by decide)
    have r_7 : Rg 0 7 b := hb_r (r_3.2 c_4) r_lb (by decide)
    refine lv_aload_n hx hb dX11_spare_20 rfl (lv_at hl 0 rfl) ?_
    refine va_getN (D := D) (ci := 2) (v := .int lg) (C := "WrongHole$Lift") (T := TX2) (N := 19) hx hb hts (iq_RX2 _) hown hK hP 2 rfl rfl 2 (by decide) (NN.f hN nq_2_42) (fun _ h9 => h9) rfl dX11_spare_21 ?_
    refine lv_iload_n hx hb dX11_spare_24 rfl (lv_at hl 2 rfl) ?_
    refine lv_ishr hx hb dX11_spare_25 ?_
    refine lv_topi (fun x_8 e_9 => ?_)
    refine lv_iconst (v := 1) hx hb dX11_spare_26 (by decide) ?_
    refine lv_iand hx hb dX11_spare_27 ?_
    refine lv_topi (fun x_10 e_11 => ?_)
    have r_12 : Rg 0 1 x_10 := Rg.and e_11 (Rg.c (c := 1) (k := 1) rfl) (by decide)
    refine lv_if_eq (tgt := 40) hx hb dX11_spare_28 (by decide) (fun c_13 => ?_) (fun c_13 => ?_)
    · have r_14 : Rg 0 0 x_10 := Rg.eq_l c_13 r_12 (Rg.c (c := 0) (k := 0) rfl) (by decide)
      refine lv_iconst (v := (-1)) hx hb dX11_spare_40 (by decide) ?_
      exact W.iret (v := (-1)) hx hb hr (fun t9 ht9 hW9 => ⟨⟨_, rfl, _, rfl⟩, ht9.trans hHe⟩) (fun _ h9 => by rw [hlc] at h9; exact absurd h9 List.not_mem_nil) dX11_spare_41
    · have r_15 : Rg 1 1 x_10 := Rg.ne c_13 r_12 (Rg.c (c := 0) (k := 0) rfl) (by decide)
      refine lv_iload_n hx hb dX11_spare_31 rfl (lv_at hl 3 rfl) ?_
      refine lv_if_lt (tgt := 40) hx hb dX11_spare_32 (by decide) (fun c_16 => ?_) (fun c_16 => ?_)
      · have r_17 : Rg (-2147483648) (-1) a := Rg.lt_l c_16 (Rg.top a) (Rg.c (c := 0) (k := 0) rfl) (by decide)
        refine lv_iconst (v := (-1)) hx hb dX11_spare_40 (by decide) ?_
        exact W.iret (v := (-1)) hx hb hr (fun t9 ht9 hW9 => ⟨⟨_, rfl, _, rfl⟩, ht9.trans hHe⟩) (fun _ h9 => by rw [hlc] at h9; exact absurd h9 List.not_mem_nil) dX11_spare_41
      · have r_18 : Rg 0 2147483647 a := Rg.le_r (nlt_le c_16) (Rg.c (c := 0) (k := 0) rfl) (Rg.top a) (by decide)
        refine lv_iload_n hx hb dX11_spare_35 rfl (lv_at hl 3 rfl) ?_
        refine lv_iconst (v := 1) hx hb dX11_spare_36 (by decide) ?_
        refine lv_icmp_le (tgt := 42) hx hb dX11_spare_37 (by decide) (fun c_19 => ?_) (fun c_19 => ?_)
        · have r_20 : Rg 0 1 a := Rg.le_l c_19 r_18 (Rg.c (c := 1) (k := 1) rfl) (by decide)
          refine lv_iconst (v := (-1)) hx hb dX11_spare_42 (by decide) ?_
          refine lv_istore (lv' := [(4, .int (-1)), (3, .ref hl0), (0, .ref ox), (1, .int b), (2, .int a)]) hx hb dX11_spare_43 hl (by decide) rfl (fun ls hl => ?_)
          refine lv_iconst (v := 0) hx hb dX11_spare_45 (by decide) ?_
          refine lv_istore (lv' := [(5, .int 0), (4, .int (-1)), (3, .ref hl0), (0, .ref ox), (1, .int b), (2, .int a)]) hx hb dX11_spare_46 hl (by decide) rfl (fun ls hl => ?_)
          refine w_wh (σ := (Int32) × (Int32)) (fun x9 H locs ls => match x9 with | (v_104, v_105) => Rg 0 8 v_104 ∧ Rg (-1) 7 v_105 ∧ H = s.heap ∧ locs = [] ∧ va_P D vwCl [(ox, .inr (9, [.ref ht, .ref hq, .ref og, .int rc, .ref hw, .ref om, .ref hp, .ref ha, .ref hf, .ref hw0, va_rf qh, va_rf qo])), (hw, .inr (8, [.ref hl0, .int wk, .int wc, .int wx, .int wn, .ref wa0, .ref wa1, .ref wa2, .ref wa3])), (hl0, .inr (2, [.int lb, .int lh, .int lg, .int lw, .int lv, .int lbs, .int lti, .int lts, .int le, .int lk, .int la, .ref l0, .ref l1, .ref l2, .ref l3, .ref l4, .ref l5, .ref l6, .ref l7])), (l0, .inl ((cs 0), 8, .inl f0)), (l4, .inl ((cs 0), 8, .inl f4))] H ∧ lv_has ls 7 [(5, .int v_104), (4, .int v_105), (3, .ref hl0), (0, .ref ox), (1, .int b), (2, .int a)]) (fun x9 => match x9 with | (v_104, v_105) => (8 - Int32.toInt v_104).toNat) 48 ?_ (0, (-1)) H locs ls ⟨(Rg.wk (lo2 := 0) (hi2 := 8) (Rg.c (c := 0) (k := 0) rfl) (by decide)), (Rg.wk (lo2 := (-1)) (hi2 := 7) (Rg.c (c := (-1)) (k := (-1)) rfl) (by decide)), hHe, hlc, hP, lv_sub hl [0, 1, 2, 3, 4, 5] rfl⟩
          rintro ⟨v_104, v_105⟩ H locs ls ⟨r_1235, r_1236, hHe, hlc, hP, hl⟩ ih_1234
          refine lv_iload hx hb dX11_spare_48 (lv_at hl 0 rfl) ?_
          refine lv_aload_n hx hb dX11_spare_50 rfl (lv_at hl 2 rfl) ?_
          refine va_getN (D := D) (ci := 2) (v := .int lb) (C := "WrongHole$Lift") (T := TX2) (N := 19) hx hb hts (iq_RX2 _) hown hK hP 2 rfl rfl 0 (by decide) (NN.f hN nq_2_32) (fun _ h9 => h9) rfl dX11_spare_51 ?_
          refine lv_icmp_ge (tgt := 146) hx hb dX11_spare_54 (by decide) (fun c_1237 => ?_) (fun c_1237 => ?_)
          · refine lv_iload hx hb dX11_spare_146 (lv_at hl 1 rfl) ?_
            refine lv_iconst (v := (-1)) hx hb dX11_spare_148 (by decide) ?_
            refine lv_icmp_ne (tgt := 155) hx hb dX11_spare_149 (by decide) (fun c_1300 => ?_) (fun c_1300 => ?_)
            · have r_1301 : Rg 0 7 v_105 := Rg.ne c_1300 r_1236 (Rg.c (c := (-1)) (k := (-1)) rfl) (by decide)
              refine lv_iload_n hx hb dX11_spare_155 rfl (lv_at hl 5 rfl) ?_
              refine lv_if_ne (tgt := 164) hx hb dX11_spare_156 (by decide) (fun c_1303 => ?_) (fun c_1303 => ?_)
              · have r_1304 : Rg 1 1 a := Rg.ne c_1303 r_20 (Rg.c (c := 0) (k := 0) rfl) (by decide)
                refine lv_aload_n hx hb dX11_spare_164 rfl (lv_at hl 2 rfl) ?_
                refine va_getN (D := D) (ci := 2) (v := .ref l4) (C := "WrongHole$Lift") (T := TX2) (N := 19) hx hb hts (iq_RX2 _) hown hK hP 2 rfl rfl 15 (by decide) (NN.f hN nq_2_78) (fun _ h9 => h9) rfl dX11_spare_165 ?_
                refine lv_iload_n hx hb dX11_spare_168 rfl (lv_at hl 4 rfl) ?_
                have hi_1312 : vp_in b 8 := Rg.in r_7 (by decide)
                refine va_iald hx hb hK hP 4 0 rfl rfl hi_1312 dX11_spare_169 ?_
                refine lv_topi (fun x_1313 e_1314 => ?_)
                refine lv_aload_n hx hb dX11_spare_170 rfl (lv_at hl 2 rfl) ?_
                refine va_getN (D := D) (ci := 2) (v := .ref l4) (C := "WrongHole$Lift") (T := TX2) (N := 19) hx hb hts (iq_RX2 _) hown hK hP 2 rfl rfl 15 (by decide) (NN.f hN nq_2_78) (fun _ h9 => h9) rfl dX11_spare_171 ?_
                refine lv_iload hx hb dX11_spare_174 (lv_at hl 1 rfl) ?_
                have hi_1315 : vp_in v_105 8 := Rg.in r_1301 (by decide)
                refine va_iald hx hb hK hP 4 0 rfl rfl hi_1315 dX11_spare_176 ?_
                refine lv_topi (fun x_1316 e_1317 => ?_)
                refine lv_isub hx hb dX11_spare_177 ?_
                refine lv_topi (fun x_1318 e_1319 => ?_)
                exact W.iret (v := x_1318) hx hb hr (fun t9 ht9 hW9 => ⟨⟨_, rfl, _, rfl⟩, ht9.trans hHe⟩) (fun _ h9 => by rw [hlc] at h9; exact absurd h9 List.not_mem_nil) dX11_spare_178
              · have r_1305 : Rg 0 0 a := Rg.eq_l c_1303 r_20 (Rg.c (c := 0) (k := 0) rfl) (by decide)
                refine lv_iload hx hb dX11_spare_159 (lv_at hl 1 rfl) ?_
                refine lv_goto (tgt := 178) hx hb dX11_spare_161 (by decide) ?_
                exact W.iret (v := v_105) hx hb hr (fun t9 ht9 hW9 => ⟨⟨_, rfl, _, rfl⟩, ht9.trans hHe⟩) (fun _ h9 => by rw [hlc] at h9; exact absurd h9 List.not_mem_nil) dX11_spare_178
            · have r_1302 : Rg (-1) (-1) v_105 := Rg.eq_l c_1300 r_1236 (Rg.c (c := (-1)) (k := (-1)) rfl) (by decide)
              refine lv_bipush (v := (-2)) hx hb dX11_spare_152 (by decide) ?_
              exact W.iret (v := (-2)) hx hb hr (fun t9 ht9 hW9 => ⟨⟨_, rfl, _, rfl⟩, ht9.trans hHe⟩) (fun _ h9 => by rw [hlc] at h9; exact absurd h9 List.not_mem_nil) dX11_spare_154
          · have r_1238 : Rg 0 7 v_104 := Rg.lt_l (nle_lt c_1237) r_1235 r_lb (by decide)
            have r_1239 : Rg 1 8 lb := Rg.lt_r (nle_lt c_1237) r_1235 r_lb (by decide)
            refine lv_aload_n hx hb dX11_spare_57 rfl (lv_at hl 2 rfl) ?_
            refine va_getN (D := D) (ci := 2) (v := .int lg) (C := "WrongHole$Lift") (T := TX2) (N := 19) hx hb hts (iq_RX2 _) hown hK hP 2 rfl rfl 2 (by decide) (NN.f hN nq_2_42) (fun _ h9 => h9) rfl dX11_spare_58 ?_
            refine lv_iload hx hb dX11_spare_61 (lv_at hl 0 rfl) ?_
            refine lv_ishr hx hb dX11_spare_63 ?_
            refine lv_topi (fun x_1320 e_1321 => ?_)
            refine lv_iconst (v := 1) hx hb dX11_spare_64 (by decide) ?_
            refine lv_iand hx hb dX11_spare_65 ?_
            refine lv_topi (fun x_1322 e_1323 => ?_)
            have r_1324 : Rg 0 1 x_1322 := Rg.and e_1323 (Rg.c (c := 1) (k := 1) rfl) (by decide)
            refine w_cut (σ := (Int32)) (fun (v_1340 : Int32) H locs ls => Rg 0 1 v_1340 ∧ H = s.heap ∧ locs = [] ∧ va_P D vwCl [(ox, .inr (9, [.ref ht, .ref hq, .ref og, .int rc, .ref hw, .ref om, .ref hp, .ref ha, .ref hf, .ref hw0, va_rf qh, va_rf qo])), (hw, .inr (8, [.ref hl0, .int wk, .int wc, .int wx, .int wn, .ref wa0, .ref wa1, .ref wa2, .ref wa3])), (hl0, .inr (2, [.int lb, .int lh, .int lg, .int lw, .int lv, .int lbs, .int lti, .int lts, .int le, .int lk, .int la, .ref l0, .ref l1, .ref l2, .ref l3, .ref l4, .ref l5, .ref l6, .ref l7])), (l0, .inl ((cs 0), 8, .inl f0)), (l4, .inl ((cs 0), 8, .inl f4))] H ∧ lv_has ls 7 [(5, .int v_104), (4, .int v_105), (3, .ref hl0), (0, .ref ox), (1, .int b), (2, .int a)]) 106 (fun (v_1340 : Int32) => [.int v_1340]) ?_ (fun hj_1341 => ?_)
            · rintro v_1340 H locs ls ⟨r_1342, hHe, hlc, hP, hl⟩
              refine lv_istore (lv' := [(6, .int v_1340), (5, .int v_104), (4, .int v_105), (3, .ref hl0), (0, .ref ox), (1, .int b), (2, .int a)]) hx hb dX11_spare_106 hl (by decide) rfl (fun ls hl => ?_)
              refine lv_iload hx hb dX11_spare_108 (lv_at hl 0 rfl) ?_
              refine w_cut (σ := (Int32)) (fun (v_1356 : Int32) H locs ls => Rg (-1) 7 v_1356 ∧ H = s.heap ∧ locs = [] ∧ va_P D vwCl [(ox, .inr (9, [.ref ht, .ref hq, .ref og, .int rc, .ref hw, .ref om, .ref hp, .ref ha, .ref hf, .ref hw0, va_rf qh, va_rf qo])), (hw, .inr (8, [.ref hl0, .int wk, .int wc, .int wx, .int wn, .ref wa0, .ref wa1, .ref wa2, .ref wa3])), (hl0, .inr (2, [.int lb, .int lh, .int lg, .int lw, .int lv, .int lbs, .int lti, .int lts, .int le, .int lk, .int la, .ref l0, .ref l1, .ref l2, .ref l3, .ref l4, .ref l5, .ref l6, .ref l7])), (l0, .inl ((cs 0), 8, .inl f0)), (l4, .inl ((cs 0), 8, .inl f4))] H ∧ lv_has ls 7 [(6, .int v_1340), (5, .int v_104), (4, .int v_1356), (3, .ref hl0), (0, .ref ox), (1, .int b), (2, .int a)]) 140 (fun (v_1356 : Int32) => []) ?_ (fun hj_1357 => ?_)
              · rintro v_1356 H locs ls ⟨r_1358, hHe, hlc, hP, hl⟩
                obtain ⟨x_1359, e_1360⟩ : ∃ z : Int32, z = v_104 + Int32.ofInt 1 := ⟨_, rfl⟩
                have r_1361 : Rg 1 8 x_1359 := Rg.add e_1360 r_1238 (Rg.c (c := Int32.ofInt 1) (k := 1) rfl) (by decide)
                refine lv_iinc (v := x_1359) (lv' := [(5, .int x_1359), (6, .int v_1340), (4, .int v_1356), (3, .ref hl0), (0, .ref ox), (1, .int b), (2, .int a)]) hx hb dX11_spare_140 hl (k := 1) rfl (e_1360.symm) (by decide) rfl (fun ls hl => ?_)
                refine lv_goto (tgt := 48) hx hb dX11_spare_143 (by decide) ?_
                exact ih_1234 (x_1359, v_1356) _ _ _ ⟨(Rg.wk (lo2 := 0) (hi2 := 8) r_1361 (by decide)), r_1358, hHe, hlc, hP, lv_sub hl [0, 2, 3, 4, 5, 6] rfl⟩ (ms_up e_1360 r_1238 (Rg.c (c := Int32.ofInt 1) (k := 1) rfl) (by decide))
              · refine lv_if_eq (tgt := 140) hx hb dX11_spare_110 (by decide) (fun c_1343 => ?_) (fun c_1343 => ?_)
                · have r_1344 : Rg 0 0 v_1340 := Rg.eq_l c_1343 r_1342 (Rg.c (c := 0) (k := 0) rfl) (by decide)
                  exact hj_1357 v_105 _ _ _ ⟨r_1236, hHe, hlc, hP, lv_sub hl [0, 1, 2, 3, 4, 5, 6] rfl⟩
                · have r_1345 : Rg 1 1 v_1340 := Rg.ne c_1343 r_1342 (Rg.c (c := 0) (k := 0) rfl) (by decide)
                  refine lv_iload hx hb dX11_spare_113 (lv_at hl 2 rfl) ?_
                  refine lv_iconst (v := (-1)) hx hb dX11_spare_115 (by decide) ?_
                  refine lv_icmp_eq (tgt := 136) hx hb dX11_spare_116 (by decide) (fun c_1362 => ?_) (fun c_1362 => ?_)
                  · have r_1363 : Rg (-1) (-1) v_105 := Rg.eq_l c_1362 r_1236 (Rg.c (c := (-1)) (k := (-1)) rfl) (by decide)
                    refine lv_iload hx hb dX11_spare_136 (lv_at hl 1 rfl) ?_
                    refine lv_istore (lv' := [(4, .int v_104), (6, .int v_1340), (5, .int v_104), (3, .ref hl0), (0, .ref ox), (1, .int b), (2, .int a)]) hx hb dX11_spare_138 hl (by decide) rfl (fun ls hl => ?_)
                    exact hj_1357 v_104 _ _ _ ⟨(Rg.wk (lo2 := (-1)) (hi2 := 7) r_1238 (by decide)), hHe, hlc, hP, lv_sub hl [1, 2, 0, 3, 4, 5, 6] rfl⟩
                  · have r_1364 : Rg 0 7 v_105 := Rg.ne c_1362 r_1236 (Rg.c (c := (-1)) (k := (-1)) rfl) (by decide)
                    refine lv_aload_n hx hb dX11_spare_119 rfl (lv_at hl 3 rfl) ?_
                    refine va_getN (D := D) (ci := 2) (v := .ref l4) (C := "WrongHole$Lift") (T := TX2) (N := 19) hx hb hts (iq_RX2 _) hown hK hP 2 rfl rfl 15 (by decide) (NN.f hN nq_2_78) (fun _ h9 => h9) rfl dX11_spare_120 ?_
                    refine lv_iload hx hb dX11_spare_123 (lv_at hl 1 rfl) ?_
                    have hi_1365 : vp_in v_104 8 := Rg.in r_1238 (by decide)
                    refine va_iald hx hb hK hP 4 0 rfl rfl hi_1365 dX11_spare_125 ?_
                    refine lv_topi (fun x_1366 e_1367 => ?_)
                    refine lv_aload_n hx hb dX11_spare_126 rfl (lv_at hl 3 rfl) ?_
                    refine va_getN (D := D) (ci := 2) (v := .ref l4) (C := "WrongHole$Lift") (T := TX2) (N := 19) hx hb hts (iq_RX2 _) hown hK hP 2 rfl rfl 15 (by decide) (NN.f hN nq_2_78) (fun _ h9 => h9) rfl dX11_spare_127 ?_
                    refine lv_iload hx hb dX11_spare_130 (lv_at hl 2 rfl) ?_
                    have hi_1368 : vp_in v_105 8 := Rg.in r_1364 (by decide)
                    refine va_iald hx hb hK hP 4 0 rfl rfl hi_1368 dX11_spare_132 ?_
                    refine lv_topi (fun x_1369 e_1370 => ?_)
                    refine lv_icmp_gt (tgt := 140) hx hb dX11_spare_133 (by decide) (fun c_1371 => ?_) (fun c_1371 => ?_)
                    · have r_1372 : Rg (-2147483648) 2147483646 x_1369 := Rg.lt_l c_1371 (Rg.top x_1369) (Rg.top x_1366) (by decide)
                      have r_1373 : Rg (-2147483647) 2147483647 x_1366 := Rg.lt_r c_1371 (Rg.top x_1369) (Rg.top x_1366) (by decide)
                      exact hj_1357 v_105 _ _ _ ⟨(Rg.wk (lo2 := (-1)) (hi2 := 7) r_1364 (by decide)), hHe, hlc, hP, lv_sub hl [0, 1, 2, 3, 4, 5, 6] rfl⟩
                    · refine lv_iload hx hb dX11_spare_136 (lv_at hl 1 rfl) ?_
                      refine lv_istore (lv' := [(4, .int v_104), (6, .int v_1340), (5, .int v_104), (3, .ref hl0), (0, .ref ox), (1, .int b), (2, .int a)]) hx hb dX11_spare_138 hl (by decide) rfl (fun ls hl => ?_)
                      exact hj_1357 v_104 _ _ _ ⟨(Rg.wk (lo2 := (-1)) (hi2 := 7) r_1238 (by decide)), hHe, hlc, hP, lv_sub hl [1, 2, 0, 3, 4, 5, 6] rfl⟩
            · refine lv_if_ne (tgt := 105) hx hb dX11_spare_66 (by decide) (fun c_1325 => ?_) (fun c_1325 => ?_)
              · have r_1326 : Rg 1 1 x_1322 := Rg.ne c_1325 r_1324 (Rg.c (c := 0) (k := 0) rfl) (by decide)
                refine lv_iconst (v := 0) hx hb dX11_spare_105 (by decide) ?_
                exact hj_1341 0 _ _ _ ⟨(Rg.wk (lo2 := 0) (hi2 := 1) (Rg.c (c := 0) (k := 0) rfl) (by decide)), hHe, hlc, hP, lv_sub hl [0, 1, 2, 3, 4, 5] rfl⟩
              · have r_1327 : Rg 0 0 x_1322 := Rg.eq_l c_1325 r_1324 (Rg.c (c := 0) (k := 0) rfl) (by decide)
                refine lv_aload_n hx hb dX11_spare_69 rfl (lv_at hl 2 rfl) ?_
                refine va_getN (D := D) (ci := 2) (v := .ref l0) (C := "WrongHole$Lift") (T := TX2) (N := 19) hx hb hts (iq_RX2 _) hown hK hP 2 rfl rfl 11 (by decide) (NN.f hN nq_2_67) (fun _ h9 => h9) rfl dX11_spare_70 ?_
                refine lv_iload hx hb dX11_spare_73 (lv_at hl 0 rfl) ?_
                have hi_1374 : vp_in v_104 8 := Rg.in r_1238 (by decide)
                refine va_iald hx hb hK hP 3 0 rfl rfl hi_1374 dX11_spare_75 ?_
                refine lv_topi (fun x_1375 e_1376 => ?_)
                refine lv_aload_n hx hb dX11_spare_76 rfl (lv_at hl 2 rfl) ?_
                refine va_getN (D := D) (ci := 2) (v := .ref l0) (C := "WrongHole$Lift") (T := TX2) (N := 19) hx hb hts (iq_RX2 _) hown hK hP 2 rfl rfl 11 (by decide) (NN.f hN nq_2_67) (fun _ h9 => h9) rfl dX11_spare_77 ?_
                refine lv_iload_n hx hb dX11_spare_80 rfl (lv_at hl 4 rfl) ?_
                have hi_1377 : vp_in b 8 := Rg.in r_7 (by decide)
                refine va_iald hx hb hK hP 3 0 rfl rfl hi_1377 dX11_spare_81 ?_
                refine lv_topi (fun x_1378 e_1379 => ?_)
                refine lv_icmp_ne (tgt := 105) hx hb dX11_spare_82 (by decide) (fun c_1380 => ?_) (fun c_1380 => ?_)
                · refine lv_iconst (v := 0) hx hb dX11_spare_105 (by decide) ?_
                  exact hj_1341 0 _ _ _ ⟨(Rg.wk (lo2 := 0) (hi2 := 1) (Rg.c (c := 0) (k := 0) rfl) (by decide)), hHe, hlc, hP, lv_sub hl [0, 1, 2, 3, 4, 5] rfl⟩
                · refine lv_aload_n hx hb dX11_spare_85 rfl (lv_at hl 2 rfl) ?_
                  refine va_getN (D := D) (ci := 2) (v := .ref l4) (C := "WrongHole$Lift") (T := TX2) (N := 19) hx hb hts (iq_RX2 _) hown hK hP 2 rfl rfl 15 (by decide) (NN.f hN nq_2_78) (fun _ h9 => h9) rfl dX11_spare_86 ?_
                  refine lv_iload hx hb dX11_spare_89 (lv_at hl 0 rfl) ?_
                  have hi_1381 : vp_in v_104 8 := Rg.in r_1238 (by decide)
                  refine va_iald hx hb hK hP 4 0 rfl rfl hi_1381 dX11_spare_91 ?_
                  refine lv_topi (fun x_1382 e_1383 => ?_)
                  refine lv_aload_n hx hb dX11_spare_92 rfl (lv_at hl 2 rfl) ?_
                  refine va_getN (D := D) (ci := 2) (v := .ref l4) (C := "WrongHole$Lift") (T := TX2) (N := 19) hx hb hts (iq_RX2 _) hown hK hP 2 rfl rfl 15 (by decide) (NN.f hN nq_2_78) (fun _ h9 => h9) rfl dX11_spare_93 ?_
                  refine lv_iload_n hx hb dX11_spare_96 rfl (lv_at hl 4 rfl) ?_
                  have hi_1384 : vp_in b 8 := Rg.in r_7 (by decide)
                  refine va_iald hx hb hK hP 4 0 rfl rfl hi_1384 dX11_spare_97 ?_
                  refine lv_topi (fun x_1385 e_1386 => ?_)
                  refine lv_icmp_ge (tgt := 105) hx hb dX11_spare_98 (by decide) (fun c_1387 => ?_) (fun c_1387 => ?_)
                  · refine lv_iconst (v := 0) hx hb dX11_spare_105 (by decide) ?_
                    exact hj_1341 0 _ _ _ ⟨(Rg.wk (lo2 := 0) (hi2 := 1) (Rg.c (c := 0) (k := 0) rfl) (by decide)), hHe, hlc, hP, lv_sub hl [0, 1, 2, 3, 4, 5] rfl⟩
                  · have r_1388 : Rg (-2147483648) 2147483646 x_1382 := Rg.lt_l (nle_lt c_1387) (Rg.top x_1382) (Rg.top x_1385) (by decide)
                    have r_1389 : Rg (-2147483647) 2147483647 x_1385 := Rg.lt_r (nle_lt c_1387) (Rg.top x_1382) (Rg.top x_1385) (by decide)
                    refine lv_iconst (v := 1) hx hb dX11_spare_101 (by decide) ?_
                    refine lv_goto (tgt := 106) hx hb dX11_spare_102 (by decide) ?_
                    exact hj_1341 1 _ _ _ ⟨(Rg.wk (lo2 := 0) (hi2 := 1) (Rg.c (c := 1) (k := 1) rfl) (by decide)), hHe, hlc, hP, lv_sub hl [0, 1, 2, 3, 4, 5] rfl⟩
        · have r_21 : Rg 2 2147483647 a := Rg.lt_r (nle_lt c_19) (Rg.c (c := 1) (k := 1) rfl) r_18 (by decide)
          refine lv_iconst (v := (-1)) hx hb dX11_spare_40 (by decide) ?_
          exact W.iret (v := (-1)) hx hb hr (fun t9 ht9 hW9 => ⟨⟨_, rfl, _, rfl⟩, ht9.trans hHe⟩) (fun _ h9 => by rw [hlc] at h9; exact absurd h9 List.not_mem_nil) dX11_spare_41
theorem dX11_emptySeats_0 : decode cX11_emptySeats 0 = .ok (.iconst 0, 1) := by decide +kernel
theorem dX11_emptySeats_1 : decode cX11_emptySeats 1 = .ok (.istore_n 1, 1) := by decide +kernel
theorem dX11_emptySeats_2 : decode cX11_emptySeats 2 = .ok (.iconst 0, 1) := by decide +kernel
theorem dX11_emptySeats_3 : decode cX11_emptySeats 3 = .ok (.istore_n 2, 1) := by decide +kernel
theorem dX11_emptySeats_4 : decode cX11_emptySeats 4 = .ok (.iload_n 2, 1) := by decide +kernel
theorem dX11_emptySeats_5 : decode cX11_emptySeats 5 = .ok (.bipush 10, 2) := by decide +kernel
theorem dX11_emptySeats_7 : decode cX11_emptySeats 7 = .ok (.if_icmp .ge 30, 3) := by decide +kernel
theorem dX11_emptySeats_37 : decode cX11_emptySeats 37 = .ok (.iload_n 1, 1) := by decide +kernel
theorem dX11_emptySeats_38 : decode cX11_emptySeats 38 = .ok (.ireturn, 1) := by decide +kernel
theorem dX11_emptySeats_10 : decode cX11_emptySeats 10 = .ok (.iload_n 1, 1) := by decide +kernel
theorem dX11_emptySeats_11 : decode cX11_emptySeats 11 = .ok (.aload_n 0, 1) := by decide +kernel
theorem dX11_emptySeats_12 : decode cX11_emptySeats 12 = .ok (.getfield 32, 3) := by decide +kernel
theorem dX11_emptySeats_15 : decode cX11_emptySeats 15 = .ok (.getfield 309, 3) := by decide +kernel
theorem nq_1_115 : Cond.fieldLinkNest "WrongHole" 309 "WrongHole$Worn" "seats" "[I" "WrongHole" ∈ NW := mk_nw (ti_1 (List.mem_of_getElem? (i := 115) rfl)) rfl
theorem dX11_emptySeats_18 : decode cX11_emptySeats 18 = .ok (.iload_n 2, 1) := by decide +kernel
theorem dX11_emptySeats_19 : decode cX11_emptySeats 19 = .ok (.iaload, 1) := by decide +kernel
theorem dX11_emptySeats_20 : decode cX11_emptySeats 20 = .ok (.iconst (-1), 1) := by decide +kernel
theorem dX11_emptySeats_21 : decode cX11_emptySeats 21 = .ok (.if_icmp .ne 7, 3) := by decide +kernel
theorem dX11_emptySeats_29 : decode cX11_emptySeats 29 = .ok (.iadd, 1) := by decide +kernel
theorem dX11_emptySeats_30 : decode cX11_emptySeats 30 = .ok (.istore_n 1, 1) := by decide +kernel
theorem dX11_emptySeats_31 : decode cX11_emptySeats 31 = .ok (.iinc 2 1, 3) := by decide +kernel
theorem dX11_emptySeats_34 : decode cX11_emptySeats 34 = .ok (.goto (-30), 3) := by decide +kernel
theorem dX11_emptySeats_28 : decode cX11_emptySeats 28 = .ok (.iconst 0, 1) := by decide +kernel
theorem dX11_emptySeats_24 : decode cX11_emptySeats 24 = .ok (.iconst 1, 1) := by decide +kernel
theorem dX11_emptySeats_25 : decode cX11_emptySeats 25 = .ok (.goto 4, 3) := by decide +kernel
set_option maxHeartbeats 4000000 in
set_option maxRecDepth 100000 in
theorem c_W_emptySeats_n (l : Launch) (D : va_G) (cs : Nat → ClassId) (ox : Nat) (ht : Nat) (hq : Nat) (og : Nat) (rc : Int32) (hw : Nat) (om : Nat) (hp : Nat) (ha : Nat) (hf : Nat) (hw0 : Nat) (qh : Option Nat) (qo : Option Nat) (wk : Int32) (wc : Int32) (wx : Int32) (wn : Int32) (wa0 : Nat) (wa1 : Nat) (wa2 : Nat) (wa3 : Nat) (wf3 : Nat → Int32)  : Met l yX11_emptySeats (Cond.code yX11_emptySeats cX11_emptySeats 3 (some .int) :: TB) (RM 0 0 0) (va_Pc [.ref ox] (PRR D cs [(ox, .inr (9, [.ref ht, .ref hq, .ref og, .int rc, .ref hw, .ref om, .ref hp, .ref ha, .ref hf, .ref hw0, va_rf qh, va_rf qo])), (hw, .inr (8, [.null, .int wk, .int wc, .int wx, .int wn, .ref wa0, .ref wa1, .ref wa2, .ref wa3])), (wa3, .inl ((cs 0), 10, .inl wf3))])) (QP (fun v => ∃ x : Int32, v = .int x)) 0 0 (fun _ => False) := by
  refine MER (y := yX11_emptySeats) (cc := cX11_emptySeats) (maxL := 3) (ret := (some .int)) (d := 0) (D := D) (cs := cs) (ws := [(ox, .inr (9, [.ref ht, .ref hq, .ref og, .int rc, .ref hw, .ref om, .ref hp, .ref ha, .ref hf, .ref hw0, va_rf qh, va_rf qo])), (hw, .inr (8, [.null, .int wk, .int wc, .int wx, .int wn, .ref wa0, .ref wa1, .ref wa2, .ref wa3])), (wa3, .inl ((cs 0), 10, .inl wf3))]) (av := [.ref ox]) (Qc := QP (fun v => ∃ x : Int32, v = .int x)) (by decide) (Nat.le_of_ble_eq_true rfl) ?_
  intro p e s m below meth c ls H hHe hx hb hr hml hown hts hlocks hP hK hN hl
  obtain ⟨locs, hlc⟩ : ∃ z : List Loc, z = [] := ⟨_, rfl⟩
  rw [← hlc]
  have hown : s.vm.findClass "WrongHole" = some m.cls := hown
  have hT : ∀ w ∈ TB, w.before ([.ref ox] : List Value).toArray s = true := fun w h => hts w (List.mem_cons_of_mem _ h)
  have hl : lv_has ls 3 [(0, .ref ox)] := hl
  have hP : va_P D vwCl [(ox, .inr (9, [.ref ht, .ref hq, .ref og, .int rc, .ref hw, .ref om, .ref hp, .ref ha, .ref hf, .ref hw0, va_rf qh, va_rf qo])), (hw, .inr (8, [.null, .int wk, .int wc, .int wx, .int wn, .ref wa0, .ref wa1, .ref wa2, .ref wa3])), (wa3, .inl ((cs 0), 10, .inl wf3))] H := hP
  refine lv_iconst (v := 0) hx hb dX11_emptySeats_0 (by decide) ?_
  refine lv_istore_n (lv' := [(1, .int 0), (0, .ref ox)]) hx hb dX11_emptySeats_1 rfl hl (by decide) rfl (fun ls hl => ?_)
  refine lv_iconst (v := 0) hx hb dX11_emptySeats_2 (by decide) ?_
  refine lv_istore_n (lv' := [(2, .int 0), (1, .int 0), (0, .ref ox)]) hx hb dX11_emptySeats_3 rfl hl (by decide) rfl (fun ls hl => ?_)
  refine w_wh (σ := (Int32) × (Int32)) (fun x9 H locs ls => match x9 with | (v_10, v_11) => Rg 0 10 v_10 ∧ H = s.heap ∧ locs = [] ∧ va_P D vwCl [(ox, .inr (9, [.ref ht, .ref hq, .ref og, .int rc, .ref hw, .ref om, .ref hp, .ref ha, .ref hf, .ref hw0, va_rf qh, va_rf qo])), (hw, .inr (8, [.null, .int wk, .int wc, .int wx, .int wn, .ref wa0, .ref wa1, .ref wa2, .ref wa3])), (wa3, .inl ((cs 0), 10, .inl wf3))] H ∧ lv_has ls 3 [(2, .int v_10), (1, .int v_11), (0, .ref ox)]) (fun x9 => match x9 with | (v_10, v_11) => (10 - Int32.toInt v_10).toNat) 4 ?_ (0, 0) H locs ls ⟨(Rg.wk (lo2 := 0) (hi2 := 10) (Rg.c (c := 0) (k := 0) rfl) (by decide)), hHe, hlc, hP, lv_sub hl [0, 1, 2] rfl⟩
  rintro ⟨v_10, v_11⟩ H locs ls ⟨r_214, hHe, hlc, hP, hl⟩ ih_213
  refine lv_iload_n hx hb dX11_emptySeats_4 rfl (lv_at hl 0 rfl) ?_
  refine lv_bipush (v := 10) hx hb dX11_emptySeats_5 (by decide) ?_
  refine lv_icmp_ge (tgt := 37) hx hb dX11_emptySeats_7 (by decide) (fun c_215 => ?_) (fun c_215 => ?_)
  · have r_216 : Rg 10 10 v_10 := Rg.le_r c_215 (Rg.c (c := 10) (k := 10) rfl) r_214 (by decide)
    refine lv_iload_n hx hb dX11_emptySeats_37 rfl (lv_at hl 1 rfl) ?_
    exact W.iret (v := v_11) hx hb hr (fun t9 ht9 hW9 => ⟨⟨_, rfl, _, rfl⟩, ht9.trans hHe⟩) (fun _ h9 => by rw [hlc] at h9; exact absurd h9 List.not_mem_nil) dX11_emptySeats_38
  · have r_217 : Rg 0 9 v_10 := Rg.lt_l (nle_lt c_215) r_214 (Rg.c (c := 10) (k := 10) rfl) (by decide)
    refine lv_iload_n hx hb dX11_emptySeats_10 rfl (lv_at hl 1 rfl) ?_
    refine lv_aload_n hx hb dX11_emptySeats_11 rfl (lv_at hl 2 rfl) ?_
    refine va_get (D := D) (ci := 9) (v := .ref hw) (C := "WrongHole") (T := TX11) (N := 12) hx hb hts (iq_RX11 _) hown hK hP 0 rfl rfl 4 (by decide) (hT _ qq_1_206) (fun _ h9 => h9) rfl dX11_emptySeats_12 ?_
    refine va_getN (D := D) (ci := 8) (v := .ref wa3) (C := "WrongHole$Worn") (T := TX10) (N := 9) hx hb hts (iq_RX10 _) hown hK hP 1 rfl rfl 8 (by decide) (NN.f hN nq_1_115) (fun _ h9 => h9) rfl dX11_emptySeats_15 ?_
    refine lv_iload_n hx hb dX11_emptySeats_18 rfl (lv_at hl 0 rfl) ?_
    have hi_228 : vp_in v_10 10 := Rg.in r_217 (by decide)
    refine va_iald hx hb hK hP 2 0 rfl rfl hi_228 dX11_emptySeats_19 ?_
    refine lv_topi (fun x_229 e_230 => ?_)
    refine lv_iconst (v := (-1)) hx hb dX11_emptySeats_20 (by decide) ?_
    refine w_cut (σ := (Int32)) (fun (v_233 : Int32) H locs ls => Rg 0 1 v_233 ∧ H = s.heap ∧ locs = [] ∧ va_P D vwCl [(ox, .inr (9, [.ref ht, .ref hq, .ref og, .int rc, .ref hw, .ref om, .ref hp, .ref ha, .ref hf, .ref hw0, va_rf qh, va_rf qo])), (hw, .inr (8, [.null, .int wk, .int wc, .int wx, .int wn, .ref wa0, .ref wa1, .ref wa2, .ref wa3])), (wa3, .inl ((cs 0), 10, .inl wf3))] H ∧ lv_has ls 3 [(2, .int v_10), (1, .int v_11), (0, .ref ox)]) 29 (fun (v_233 : Int32) => [.int v_233, .int v_11]) ?_ (fun hj_234 => ?_)
    · rintro v_233 H locs ls ⟨r_235, hHe, hlc, hP, hl⟩
      refine lv_iadd hx hb dX11_emptySeats_29 ?_
      refine lv_topi (fun x_236 e_237 => ?_)
      refine lv_istore_n (lv' := [(1, .int x_236), (2, .int v_10), (0, .ref ox)]) hx hb dX11_emptySeats_30 rfl hl (by decide) rfl (fun ls hl => ?_)
      obtain ⟨x_238, e_239⟩ : ∃ z : Int32, z = v_10 + Int32.ofInt 1 := ⟨_, rfl⟩
      have r_240 : Rg 1 10 x_238 := Rg.add e_239 r_217 (Rg.c (c := Int32.ofInt 1) (k := 1) rfl) (by decide)
      refine lv_iinc (v := x_238) (lv' := [(2, .int x_238), (1, .int x_236), (0, .ref ox)]) hx hb dX11_emptySeats_31 hl (k := 1) rfl (e_239.symm) (by decide) rfl (fun ls hl => ?_)
      refine lv_goto (tgt := 4) hx hb dX11_emptySeats_34 (by decide) ?_
      exact ih_213 (x_238, x_236) _ _ _ ⟨(Rg.wk (lo2 := 0) (hi2 := 10) r_240 (by decide)), hHe, hlc, hP, lv_sub hl [0, 1, 2] rfl⟩ (ms_up e_239 r_217 (Rg.c (c := Int32.ofInt 1) (k := 1) rfl) (by decide))
    · refine lv_icmp_ne (tgt := 28) hx hb dX11_emptySeats_21 (by decide) (fun c_231 => ?_) (fun c_231 => ?_)
      · refine lv_iconst (v := 0) hx hb dX11_emptySeats_28 (by decide) ?_
        exact hj_234 0 _ _ _ ⟨(Rg.wk (lo2 := 0) (hi2 := 1) (Rg.c (c := 0) (k := 0) rfl) (by decide)), hHe, hlc, hP, lv_sub hl [0, 1, 2] rfl⟩
      · have r_232 : Rg (-1) (-1) x_229 := Rg.eq_l c_231 (Rg.top x_229) (Rg.c (c := (-1)) (k := (-1)) rfl) (by decide)
        refine lv_iconst (v := 1) hx hb dX11_emptySeats_24 (by decide) ?_
        refine lv_goto (tgt := 29) hx hb dX11_emptySeats_25 (by decide) ?_
        exact hj_234 1 _ _ _ ⟨(Rg.wk (lo2 := 0) (hi2 := 1) (Rg.c (c := 1) (k := 1) rfl) (by decide)), hHe, hlc, hP, lv_sub hl [0, 1, 2] rfl⟩
set_option maxHeartbeats 4000000 in
set_option maxRecDepth 100000 in
theorem c_W_emptySeats_r (l : Launch) (D : va_G) (cs : Nat → ClassId) (ox : Nat) (ht : Nat) (hq : Nat) (og : Nat) (rc : Int32) (hw : Nat) (om : Nat) (hp : Nat) (ha : Nat) (hf : Nat) (hw0 : Nat) (qh : Option Nat) (qo : Option Nat) (wk : Int32) (wc : Int32) (wx : Int32) (wn : Int32) (wa0 : Nat) (wa1 : Nat) (wa2 : Nat) (wa3 : Nat) (wf3 : Nat → Int32) (hl0 : Nat) (lb : Int32) (lh : Int32) (lg : Int32) (lw : Int32) (lv : Int32) (lbs : Int32) (lti : Int32) (lts : Int32) (le : Int32) (lk : Int32) (la : Int32) (l0 : Nat) (l1 : Nat) (l2 : Nat) (l3 : Nat) (l4 : Nat) (l5 : Nat) (l6 : Nat) (l7 : Nat) (r_lb : Rg 0 8 lb) (r_lh : Rg 0 8 lh) (r_le : Rg 0 6 le) : Met l yX11_emptySeats (Cond.code yX11_emptySeats cX11_emptySeats 3 (some .int) :: TB) (RM 0 0 0) (va_Pc [.ref ox] (PRR D cs [(ox, .inr (9, [.ref ht, .ref hq, .ref og, .int rc, .ref hw, .ref om, .ref hp, .ref ha, .ref hf, .ref hw0, va_rf qh, va_rf qo])), (hw, .inr (8, [.ref hl0, .int wk, .int wc, .int wx, .int wn, .ref wa0, .ref wa1, .ref wa2, .ref wa3])), (wa3, .inl ((cs 0), 10, .inl wf3)), (hl0, .inr (2, [.int lb, .int lh, .int lg, .int lw, .int lv, .int lbs, .int lti, .int lts, .int le, .int lk, .int la, .ref l0, .ref l1, .ref l2, .ref l3, .ref l4, .ref l5, .ref l6, .ref l7]))])) (QP (fun v => ∃ x : Int32, v = .int x)) 0 0 (fun _ => False) := by
  refine MER (y := yX11_emptySeats) (cc := cX11_emptySeats) (maxL := 3) (ret := (some .int)) (d := 0) (D := D) (cs := cs) (ws := [(ox, .inr (9, [.ref ht, .ref hq, .ref og, .int rc, .ref hw, .ref om, .ref hp, .ref ha, .ref hf, .ref hw0, va_rf qh, va_rf qo])), (hw, .inr (8, [.ref hl0, .int wk, .int wc, .int wx, .int wn, .ref wa0, .ref wa1, .ref wa2, .ref wa3])), (wa3, .inl ((cs 0), 10, .inl wf3)), (hl0, .inr (2, [.int lb, .int lh, .int lg, .int lw, .int lv, .int lbs, .int lti, .int lts, .int le, .int lk, .int la, .ref l0, .ref l1, .ref l2, .ref l3, .ref l4, .ref l5, .ref l6, .ref l7]))]) (av := [.ref ox]) (Qc := QP (fun v => ∃ x : Int32, v = .int x)) (by decide) (Nat.le_of_ble_eq_true rfl) ?_
  intro p e s m below meth c ls H hHe hx hb hr hml hown hts hlocks hP hK hN hl
  obtain ⟨locs, hlc⟩ : ∃ z : List Loc, z = [] := ⟨_, rfl⟩
  rw [← hlc]
  have hown : s.vm.findClass "WrongHole" = some m.cls := hown
  have hT : ∀ w ∈ TB, w.before ([.ref ox] : List Value).toArray s = true := fun w h => hts w (List.mem_cons_of_mem _ h)
  have hl : lv_has ls 3 [(0, .ref ox)] := hl
  have hP : va_P D vwCl [(ox, .inr (9, [.ref ht, .ref hq, .ref og, .int rc, .ref hw, .ref om, .ref hp, .ref ha, .ref hf, .ref hw0, va_rf qh, va_rf qo])), (hw, .inr (8, [.ref hl0, .int wk, .int wc, .int wx, .int wn, .ref wa0, .ref wa1, .ref wa2, .ref wa3])), (wa3, .inl ((cs 0), 10, .inl wf3)), (hl0, .inr (2, [.int lb, .int lh, .int lg, .int lw, .int lv, .int lbs, .int lti, .int lts, .int le, .int lk, .int la, .ref l0, .ref l1, .ref l2, .ref l3, .ref l4, .ref l5, .ref l6, .ref l7]))] H := hP
  refine lv_iconst (v := 0) hx hb dX11_emptySeats_0 (by decide) ?_
  refine lv_istore_n (lv' := [(1, .int 0), (0, .ref ox)]) hx hb dX11_emptySeats_1 rfl hl (by decide) rfl (fun ls hl => ?_)
  refine lv_iconst (v := 0) hx hb dX11_emptySeats_2 (by decide) ?_
  refine lv_istore_n (lv' := [(2, .int 0), (1, .int 0), (0, .ref ox)]) hx hb dX11_emptySeats_3 rfl hl (by decide) rfl (fun ls hl => ?_)
  refine w_wh (σ := (Int32) × (Int32)) (fun x9 H locs ls => match x9 with | (v_10, v_11) => Rg 0 10 v_10 ∧ H = s.heap ∧ locs = [] ∧ va_P D vwCl [(ox, .inr (9, [.ref ht, .ref hq, .ref og, .int rc, .ref hw, .ref om, .ref hp, .ref ha, .ref hf, .ref hw0, va_rf qh, va_rf qo])), (hw, .inr (8, [.ref hl0, .int wk, .int wc, .int wx, .int wn, .ref wa0, .ref wa1, .ref wa2, .ref wa3])), (wa3, .inl ((cs 0), 10, .inl wf3)), (hl0, .inr (2, [.int lb, .int lh, .int lg, .int lw, .int lv, .int lbs, .int lti, .int lts, .int le, .int lk, .int la, .ref l0, .ref l1, .ref l2, .ref l3, .ref l4, .ref l5, .ref l6, .ref l7]))] H ∧ lv_has ls 3 [(2, .int v_10), (1, .int v_11), (0, .ref ox)]) (fun x9 => match x9 with | (v_10, v_11) => (10 - Int32.toInt v_10).toNat) 4 ?_ (0, 0) H locs ls ⟨(Rg.wk (lo2 := 0) (hi2 := 10) (Rg.c (c := 0) (k := 0) rfl) (by decide)), hHe, hlc, hP, lv_sub hl [0, 1, 2] rfl⟩
  rintro ⟨v_10, v_11⟩ H locs ls ⟨r_214, hHe, hlc, hP, hl⟩ ih_213
  refine lv_iload_n hx hb dX11_emptySeats_4 rfl (lv_at hl 0 rfl) ?_
  refine lv_bipush (v := 10) hx hb dX11_emptySeats_5 (by decide) ?_
  refine lv_icmp_ge (tgt := 37) hx hb dX11_emptySeats_7 (by decide) (fun c_215 => ?_) (fun c_215 => ?_)
  · have r_216 : Rg 10 10 v_10 := Rg.le_r c_215 (Rg.c (c := 10) (k := 10) rfl) r_214 (by decide)
    refine lv_iload_n hx hb dX11_emptySeats_37 rfl (lv_at hl 1 rfl) ?_
    exact W.iret (v := v_11) hx hb hr (fun t9 ht9 hW9 => ⟨⟨_, rfl, _, rfl⟩, ht9.trans hHe⟩) (fun _ h9 => by rw [hlc] at h9; exact absurd h9 List.not_mem_nil) dX11_emptySeats_38
  · have r_217 : Rg 0 9 v_10 := Rg.lt_l (nle_lt c_215) r_214 (Rg.c (c := 10) (k := 10) rfl) (by decide)
    refine lv_iload_n hx hb dX11_emptySeats_10 rfl (lv_at hl 1 rfl) ?_
    refine lv_aload_n hx hb dX11_emptySeats_11 rfl (lv_at hl 2 rfl) ?_
    refine va_get (D := D) (ci := 9) (v := .ref hw) (C := "WrongHole") (T := TX11) (N := 12) hx hb hts (iq_RX11 _) hown hK hP 0 rfl rfl 4 (by decide) (hT _ qq_1_206) (fun _ h9 => h9) rfl dX11_emptySeats_12 ?_
    refine va_getN (D := D) (ci := 8) (v := .ref wa3) (C := "WrongHole$Worn") (T := TX10) (N := 9) hx hb hts (iq_RX10 _) hown hK hP 1 rfl rfl 8 (by decide) (NN.f hN nq_1_115) (fun _ h9 => h9) rfl dX11_emptySeats_15 ?_
    refine lv_iload_n hx hb dX11_emptySeats_18 rfl (lv_at hl 0 rfl) ?_
    have hi_228 : vp_in v_10 10 := Rg.in r_217 (by decide)
    refine va_iald hx hb hK hP 2 0 rfl rfl hi_228 dX11_emptySeats_19 ?_
    refine lv_topi (fun x_229 e_230 => ?_)
    refine lv_iconst (v := (-1)) hx hb dX11_emptySeats_20 (by decide) ?_
    refine w_cut (σ := (Int32)) (fun (v_233 : Int32) H locs ls => Rg 0 1 v_233 ∧ H = s.heap ∧ locs = [] ∧ va_P D vwCl [(ox, .inr (9, [.ref ht, .ref hq, .ref og, .int rc, .ref hw, .ref om, .ref hp, .ref ha, .ref hf, .ref hw0, va_rf qh, va_rf qo])), (hw, .inr (8, [.ref hl0, .int wk, .int wc, .int wx, .int wn, .ref wa0, .ref wa1, .ref wa2, .ref wa3])), (wa3, .inl ((cs 0), 10, .inl wf3)), (hl0, .inr (2, [.int lb, .int lh, .int lg, .int lw, .int lv, .int lbs, .int lti, .int lts, .int le, .int lk, .int la, .ref l0, .ref l1, .ref l2, .ref l3, .ref l4, .ref l5, .ref l6, .ref l7]))] H ∧ lv_has ls 3 [(2, .int v_10), (1, .int v_11), (0, .ref ox)]) 29 (fun (v_233 : Int32) => [.int v_233, .int v_11]) ?_ (fun hj_234 => ?_)
    · rintro v_233 H locs ls ⟨r_235, hHe, hlc, hP, hl⟩
      refine lv_iadd hx hb dX11_emptySeats_29 ?_
      refine lv_topi (fun x_236 e_237 => ?_)
      refine lv_istore_n (lv' := [(1, .int x_236), (2, .int v_10), (0, .ref ox)]) hx hb dX11_emptySeats_30 rfl hl (by decide) rfl (fun ls hl => ?_)
      obtain ⟨x_238, e_239⟩ : ∃ z : Int32, z = v_10 + Int32.ofInt 1 := ⟨_, rfl⟩
      have r_240 : Rg 1 10 x_238 := Rg.add e_239 r_217 (Rg.c (c := Int32.ofInt 1) (k := 1) rfl) (by decide)
      refine lv_iinc (v := x_238) (lv' := [(2, .int x_238), (1, .int x_236), (0, .ref ox)]) hx hb dX11_emptySeats_31 hl (k := 1) rfl (e_239.symm) (by decide) rfl (fun ls hl => ?_)
      refine lv_goto (tgt := 4) hx hb dX11_emptySeats_34 (by decide) ?_
      exact ih_213 (x_238, x_236) _ _ _ ⟨(Rg.wk (lo2 := 0) (hi2 := 10) r_240 (by decide)), hHe, hlc, hP, lv_sub hl [0, 1, 2] rfl⟩ (ms_up e_239 r_217 (Rg.c (c := Int32.ofInt 1) (k := 1) rfl) (by decide))
    · refine lv_icmp_ne (tgt := 28) hx hb dX11_emptySeats_21 (by decide) (fun c_231 => ?_) (fun c_231 => ?_)
      · refine lv_iconst (v := 0) hx hb dX11_emptySeats_28 (by decide) ?_
        exact hj_234 0 _ _ _ ⟨(Rg.wk (lo2 := 0) (hi2 := 1) (Rg.c (c := 0) (k := 0) rfl) (by decide)), hHe, hlc, hP, lv_sub hl [0, 1, 2] rfl⟩
      · have r_232 : Rg (-1) (-1) x_229 := Rg.eq_l c_231 (Rg.top x_229) (Rg.c (c := (-1)) (k := (-1)) rfl) (by decide)
        refine lv_iconst (v := 1) hx hb dX11_emptySeats_24 (by decide) ?_
        refine lv_goto (tgt := 29) hx hb dX11_emptySeats_25 (by decide) ?_
        exact hj_234 1 _ _ _ ⟨(Rg.wk (lo2 := 0) (hi2 := 1) (Rg.c (c := 1) (k := 1) rfl) (by decide)), hHe, hlc, hP, lv_sub hl [0, 1, 2] rfl⟩
