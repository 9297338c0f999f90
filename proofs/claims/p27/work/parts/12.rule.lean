theorem dX7_wordAt_0 : decode cX7_wordAt 0 = .ok (.iload_n 1, 1) := by decide +kernel
theorem dX7_wordAt_1 : decode cX7_wordAt 1 = .ok (.ifCond .lt 15, 3) := by decide +kernel
theorem dX7_wordAt_16 : decode cX7_wordAt 16 = .ok (.iconst 0, 1) := by decide +kernel
theorem dX7_wordAt_17 : decode cX7_wordAt 17 = .ok (.ireturn, 1) := by decide +kernel
theorem dX7_wordAt_4 : decode cX7_wordAt 4 = .ok (.iload_n 1, 1) := by decide +kernel
theorem dX7_wordAt_5 : decode cX7_wordAt 5 = .ok (.aload_n 0, 1) := by decide +kernel
theorem dX7_wordAt_6 : decode cX7_wordAt 6 = .ok (.arraylength, 1) := by decide +kernel
theorem dX7_wordAt_7 : decode cX7_wordAt 7 = .ok (.if_icmp .ge 9, 3) := by decide +kernel
theorem dX7_wordAt_10 : decode cX7_wordAt 10 = .ok (.aload_n 0, 1) := by decide +kernel
theorem dX7_wordAt_11 : decode cX7_wordAt 11 = .ok (.iload_n 1, 1) := by decide +kernel
theorem dX7_wordAt_12 : decode cX7_wordAt 12 = .ok (.iaload, 1) := by decide +kernel
theorem dX7_wordAt_13 : decode cX7_wordAt 13 = .ok (.goto 4, 3) := by decide +kernel
set_option maxHeartbeats 4000000 in
set_option maxRecDepth 100000 in
theorem c_Rule_wordAt (l : Launch) (D : va_G) (cs : Nat → ClassId) (hw0 : Nat) (gw : Nat → Int32) (a : Int32)  : Met l yX7_wordAt (Cond.code yX7_wordAt cX7_wordAt 2 (some .int) :: TB) (RM 0 0 0) (va_Pc [.ref hw0, .int a] (PRR D cs [(hw0, .inl ((cs 0), 12, .inl gw))])) (QP (fun v => ∃ x : Int32, v = .int x)) 0 0 (fun _ => False) := by
  refine MER (y := yX7_wordAt) (cc := cX7_wordAt) (maxL := 2) (ret := (some .int)) (d := 0) (D := D) (cs := cs) (ws := [(hw0, .inl ((cs 0), 12, .inl gw))]) (av := [.ref hw0, .int a]) (Qc := QP (fun v => ∃ x : Int32, v = .int x)) (by decide) (Nat.le_of_ble_eq_true rfl) ?_
  intro p e s m below meth c ls H hHe hx hb hr hml hown hts hlocks hP hK hN hl
  obtain ⟨locs, hlc⟩ : ∃ z : List Loc, z = [] := ⟨_, rfl⟩
  rw [← hlc]
  have hown : s.vm.findClass "WrongHole$Rule" = some m.cls := hown
  have hT : ∀ w ∈ TB, w.before ([.ref hw0, .int a] : List Value).toArray s = true := fun w h => hts w (List.mem_cons_of_mem _ h)
  have hl : lv_has ls 2 [(0, .ref hw0), (1, .int a)] := hl
  have hP : va_P D vwCl [(hw0, .inl ((cs 0), 12, .inl gw))] H := hP
  refine lv_iload_n hx hb dX7_wordAt_0 rfl (lv_at hl 1 rfl) ?_
  refine lv_if_lt (tgt := 16) hx hb dX7_wordAt_1 (by decide) (fun c_1 => ?_) (fun c_1 => ?_)
  · have r_2 : Rg (-2147483648) (-1) a := Rg.lt_l c_1 (Rg.top a) (Rg.c (c := 0) (k := 0) rfl) (by decide)
    refine lv_iconst (v := 0) hx hb dX7_wordAt_16 (by decide) ?_
    exact W.iret (v := 0) hx hb hr (fun t9 ht9 hW9 => ⟨⟨_, rfl, _, rfl⟩, ht9.trans hHe⟩) (fun _ h9 => by rw [hlc] at h9; exact absurd h9 List.not_mem_nil) dX7_wordAt_17
  · have r_3 : Rg 0 2147483647 a := Rg.le_r (nlt_le c_1) (Rg.c (c := 0) (k := 0) rfl) (Rg.top a) (by decide)
    refine lv_iload_n hx hb dX7_wordAt_4 rfl (lv_at hl 1 rfl) ?_
    refine lv_aload_n hx hb dX7_wordAt_5 rfl (lv_at hl 0 rfl) ?_
    refine va_alen (v := 12) hx hb hK hP 0 0 rfl rfl rfl dX7_wordAt_6 ?_
    refine lv_icmp_ge (tgt := 16) hx hb dX7_wordAt_7 (by decide) (fun c_9 => ?_) (fun c_9 => ?_)
    · have r_10 : Rg 12 2147483647 a := Rg.le_r c_9 (Rg.c (c := 12) (k := 12) rfl) r_3 (by decide)
      refine lv_iconst (v := 0) hx hb dX7_wordAt_16 (by decide) ?_
      exact W.iret (v := 0) hx hb hr (fun t9 ht9 hW9 => ⟨⟨_, rfl, _, rfl⟩, ht9.trans hHe⟩) (fun _ h9 => by rw [hlc] at h9; exact absurd h9 List.not_mem_nil) dX7_wordAt_17
    · have r_11 : Rg 0 11 a := Rg.lt_l (nle_lt c_9) r_3 (Rg.c (c := 12) (k := 12) rfl) (by decide)
      refine lv_aload_n hx hb dX7_wordAt_10 rfl (lv_at hl 0 rfl) ?_
      refine lv_iload_n hx hb dX7_wordAt_11 rfl (lv_at hl 1 rfl) ?_
      have hi_14 : vp_in a 12 := Rg.in r_11 (by decide)
      refine va_iald hx hb hK hP 0 0 rfl rfl hi_14 dX7_wordAt_12 ?_
      refine lv_topi (fun x_15 e_16 => ?_)
      refine lv_goto (tgt := 17) hx hb dX7_wordAt_13 (by decide) ?_
      exact W.iret (v := x_15) hx hb hr (fun t9 ht9 hW9 => ⟨⟨_, rfl, _, rfl⟩, ht9.trans hHe⟩) (fun _ h9 => by rw [hlc] at h9; exact absurd h9 List.not_mem_nil) dX7_wordAt_17
theorem dX7_join_0 : decode cX7_join 0 = .ok (.iload_n 0, 1) := by decide +kernel
theorem dX7_join_1 : decode cX7_join 1 = .ok (.tableswitch 167 2 13 #[63, 67, 71, 75, 89, 103, 115, 127, 139, 151, 167, 163], 63) := by decide +kernel
theorem sw_2_13 (v : Int32) : (Int32.toInt v < 2 ∨ 13 < Int32.toInt v) ∨ v = 2 ∨ v = 3 ∨ v = 4 ∨ v = 5 ∨ v = 6 ∨ v = 7 ∨ v = 8 ∨ v = 9 ∨ v = 10 ∨ v = 11 ∨ v = 12 ∨ v = 13 := by
  simp only [← Int32.toInt_inj]
  simp (config := { decide := true }) only [show Int32.toInt 2 = 2 from rfl, show Int32.toInt 3 = 3 from rfl, show Int32.toInt 4 = 4 from rfl, show Int32.toInt 5 = 5 from rfl, show Int32.toInt 6 = 6 from rfl, show Int32.toInt 7 = 7 from rfl, show Int32.toInt 8 = 8 from rfl, show Int32.toInt 9 = 9 from rfl, show Int32.toInt 10 = 10 from rfl, show Int32.toInt 11 = 11 from rfl, show Int32.toInt 12 = 12 from rfl, show Int32.toInt 13 = 13 from rfl]
  omega
theorem dX7_join_168 : decode cX7_join 168 = .ok (.lload_n 1, 1) := by decide +kernel
theorem dX7_join_169 : decode cX7_join 169 = .ok (.lload_n 3, 1) := by decide +kernel
theorem dX7_join_170 : decode cX7_join 170 = .ok (.lor, 1) := by decide +kernel
theorem dX7_join_171 : decode cX7_join 171 = .ok (.lreturn, 1) := by decide +kernel
theorem dX7_join_64 : decode cX7_join 64 = .ok (.lload_n 1, 1) := by decide +kernel
theorem dX7_join_65 : decode cX7_join 65 = .ok (.lload_n 3, 1) := by decide +kernel
theorem dX7_join_66 : decode cX7_join 66 = .ok (.ladd, 1) := by decide +kernel
theorem dX7_join_67 : decode cX7_join 67 = .ok (.lreturn, 1) := by decide +kernel
theorem dX7_join_68 : decode cX7_join 68 = .ok (.lload_n 1, 1) := by decide +kernel
theorem dX7_join_69 : decode cX7_join 69 = .ok (.lload_n 3, 1) := by decide +kernel
theorem dX7_join_70 : decode cX7_join 70 = .ok (.lsub, 1) := by decide +kernel
theorem dX7_join_71 : decode cX7_join 71 = .ok (.lreturn, 1) := by decide +kernel
theorem dX7_join_72 : decode cX7_join 72 = .ok (.lload_n 1, 1) := by decide +kernel
theorem dX7_join_73 : decode cX7_join 73 = .ok (.lload_n 3, 1) := by decide +kernel
theorem dX7_join_74 : decode cX7_join 74 = .ok (.lmul, 1) := by decide +kernel
theorem dX7_join_75 : decode cX7_join 75 = .ok (.lreturn, 1) := by decide +kernel
theorem dX7_join_76 : decode cX7_join 76 = .ok (.lload_n 3, 1) := by decide +kernel
theorem dX7_join_77 : decode cX7_join 77 = .ok (.lconst 0, 1) := by decide +kernel
theorem dX7_join_78 : decode cX7_join 78 = .ok (.lcmp, 1) := by decide +kernel
theorem dX7_join_79 : decode cX7_join 79 = .ok (.ifCond .ne 7, 3) := by decide +kernel
theorem dX7_join_86 : decode cX7_join 86 = .ok (.lload_n 1, 1) := by decide +kernel
theorem dX7_join_87 : decode cX7_join 87 = .ok (.lload_n 3, 1) := by decide +kernel
theorem dX7_join_88 : decode cX7_join 88 = .ok (.ldiv, 1) := by decide +kernel
theorem dX7_join_89 : decode cX7_join 89 = .ok (.lreturn, 1) := by decide +kernel
theorem dX7_join_82 : decode cX7_join 82 = .ok (.lconst 0, 1) := by decide +kernel
theorem dX7_join_83 : decode cX7_join 83 = .ok (.goto 6, 3) := by decide +kernel
theorem dX7_join_90 : decode cX7_join 90 = .ok (.lload_n 3, 1) := by decide +kernel
theorem dX7_join_91 : decode cX7_join 91 = .ok (.lconst 0, 1) := by decide +kernel
theorem dX7_join_92 : decode cX7_join 92 = .ok (.lcmp, 1) := by decide +kernel
theorem dX7_join_93 : decode cX7_join 93 = .ok (.ifCond .ne 7, 3) := by decide +kernel
theorem dX7_join_100 : decode cX7_join 100 = .ok (.lload_n 1, 1) := by decide +kernel
theorem dX7_join_101 : decode cX7_join 101 = .ok (.lload_n 3, 1) := by decide +kernel
theorem dX7_join_102 : decode cX7_join 102 = .ok (.lrem, 1) := by decide +kernel
theorem dX7_join_103 : decode cX7_join 103 = .ok (.lreturn, 1) := by decide +kernel
theorem dX7_join_96 : decode cX7_join 96 = .ok (.lconst 0, 1) := by decide +kernel
theorem dX7_join_97 : decode cX7_join 97 = .ok (.goto 6, 3) := by decide +kernel
theorem dX7_join_104 : decode cX7_join 104 = .ok (.lload_n 1, 1) := by decide +kernel
theorem dX7_join_105 : decode cX7_join 105 = .ok (.lload_n 3, 1) := by decide +kernel
theorem dX7_join_106 : decode cX7_join 106 = .ok (.lcmp, 1) := by decide +kernel
theorem dX7_join_107 : decode cX7_join 107 = .ok (.ifCond .ge 7, 3) := by decide +kernel
theorem dX7_join_114 : decode cX7_join 114 = .ok (.lconst 0, 1) := by decide +kernel
theorem dX7_join_115 : decode cX7_join 115 = .ok (.lreturn, 1) := by decide +kernel
theorem dX7_join_110 : decode cX7_join 110 = .ok (.lconst 1, 1) := by decide +kernel
theorem dX7_join_111 : decode cX7_join 111 = .ok (.goto 4, 3) := by decide +kernel
theorem dX7_join_116 : decode cX7_join 116 = .ok (.lload_n 1, 1) := by decide +kernel
theorem dX7_join_117 : decode cX7_join 117 = .ok (.lload_n 3, 1) := by decide +kernel
theorem dX7_join_118 : decode cX7_join 118 = .ok (.lcmp, 1) := by decide +kernel
theorem dX7_join_119 : decode cX7_join 119 = .ok (.ifCond .gt 7, 3) := by decide +kernel
theorem dX7_join_126 : decode cX7_join 126 = .ok (.lconst 0, 1) := by decide +kernel
theorem dX7_join_127 : decode cX7_join 127 = .ok (.lreturn, 1) := by decide +kernel
theorem dX7_join_122 : decode cX7_join 122 = .ok (.lconst 1, 1) := by decide +kernel
theorem dX7_join_123 : decode cX7_join 123 = .ok (.goto 4, 3) := by decide +kernel
theorem dX7_join_128 : decode cX7_join 128 = .ok (.lload_n 1, 1) := by decide +kernel
theorem dX7_join_129 : decode cX7_join 129 = .ok (.lload_n 3, 1) := by decide +kernel
theorem dX7_join_130 : decode cX7_join 130 = .ok (.lcmp, 1) := by decide +kernel
theorem dX7_join_131 : decode cX7_join 131 = .ok (.ifCond .ne 7, 3) := by decide +kernel
theorem dX7_join_138 : decode cX7_join 138 = .ok (.lconst 0, 1) := by decide +kernel
theorem dX7_join_139 : decode cX7_join 139 = .ok (.lreturn, 1) := by decide +kernel
theorem dX7_join_134 : decode cX7_join 134 = .ok (.lconst 1, 1) := by decide +kernel
theorem dX7_join_135 : decode cX7_join 135 = .ok (.goto 4, 3) := by decide +kernel
theorem dX7_join_140 : decode cX7_join 140 = .ok (.lload_n 1, 1) := by decide +kernel
theorem dX7_join_141 : decode cX7_join 141 = .ok (.lload_n 3, 1) := by decide +kernel
theorem dX7_join_142 : decode cX7_join 142 = .ok (.lcmp, 1) := by decide +kernel
theorem dX7_join_143 : decode cX7_join 143 = .ok (.ifCond .lt 7, 3) := by decide +kernel
theorem dX7_join_150 : decode cX7_join 150 = .ok (.lconst 0, 1) := by decide +kernel
theorem dX7_join_151 : decode cX7_join 151 = .ok (.lreturn, 1) := by decide +kernel
theorem dX7_join_146 : decode cX7_join 146 = .ok (.lconst 1, 1) := by decide +kernel
theorem dX7_join_147 : decode cX7_join 147 = .ok (.goto 4, 3) := by decide +kernel
theorem dX7_join_152 : decode cX7_join 152 = .ok (.lload_n 1, 1) := by decide +kernel
theorem dX7_join_153 : decode cX7_join 153 = .ok (.lload_n 3, 1) := by decide +kernel
theorem dX7_join_154 : decode cX7_join 154 = .ok (.lcmp, 1) := by decide +kernel
theorem dX7_join_155 : decode cX7_join 155 = .ok (.ifCond .le 7, 3) := by decide +kernel
theorem dX7_join_162 : decode cX7_join 162 = .ok (.lconst 0, 1) := by decide +kernel
theorem dX7_join_163 : decode cX7_join 163 = .ok (.lreturn, 1) := by decide +kernel
theorem dX7_join_158 : decode cX7_join 158 = .ok (.lconst 1, 1) := by decide +kernel
theorem dX7_join_159 : decode cX7_join 159 = .ok (.goto 4, 3) := by decide +kernel
theorem dX7_join_164 : decode cX7_join 164 = .ok (.lload_n 1, 1) := by decide +kernel
theorem dX7_join_165 : decode cX7_join 165 = .ok (.lload_n 3, 1) := by decide +kernel
theorem dX7_join_166 : decode cX7_join 166 = .ok (.land, 1) := by decide +kernel
theorem dX7_join_167 : decode cX7_join 167 = .ok (.lreturn, 1) := by decide +kernel
set_option maxHeartbeats 4000000 in
set_option maxRecDepth 100000 in
theorem c_Rule_join (l : Launch) (D : va_G) (cs : Nat → ClassId) (a : Int32) (y1 : Int64) (y2 : Int64)  : Met l yX7_join (Cond.code yX7_join cX7_join 5 (some .long) :: TB) (RM 0 0 0) (va_Pc [.int a, .long y1, .long y2] (PRR D cs [])) (QP (fun v => ∃ x : Int64, v = .long x)) 0 0 (fun _ => False) := by
  refine MER (y := yX7_join) (cc := cX7_join) (maxL := 5) (ret := (some .long)) (d := 0) (D := D) (cs := cs) (ws := []) (av := [.int a, .long y1, .long y2]) (Qc := QP (fun v => ∃ x : Int64, v = .long x)) (by decide) (Nat.le_of_ble_eq_true rfl) ?_
  intro p e s m below meth c ls H hHe hx hb hr hml hown hts hlocks hP hK hN hl
  obtain ⟨locs, hlc⟩ : ∃ z : List Loc, z = [] := ⟨_, rfl⟩
  rw [← hlc]
  have hown : s.vm.findClass "WrongHole$Rule" = some m.cls := hown
  have hT : ∀ w ∈ TB, w.before ([.int a, .long y1, .long y2] : List Value).toArray s = true := fun w h => hts w (List.mem_cons_of_mem _ h)
  have hl : lv_has ls 5 [(0, .int a), (1, .long y1), (3, .long y2)] := hl
  have hP : va_P D vwCl [] H := hP
  refine lv_iload_n hx hb dX7_join_0 rfl (lv_at hl 0 rfl) ?_
  rcases sw_2_13 a with c_1 | c_1 | c_1 | c_1 | c_1 | c_1 | c_1 | c_1 | c_1 | c_1 | c_1 | c_1 | c_1
  · refine lv_tableOut (tgt := 168) hx hb dX7_join_1 c_1 (by decide) ?_
    refine lv_lload_n hx hb dX7_join_168 rfl (lv_at hl 1 rfl) ?_
    refine lv_lload_n hx hb dX7_join_169 rfl (lv_at hl 2 rfl) ?_
    refine lv_lor hx hb dX7_join_170 ?_
    refine lv_topl (fun x_14 e_15 => ?_)
    exact W.lret (v := x_14) hx hb hr (fun t9 ht9 hW9 => ⟨⟨_, rfl, _, rfl⟩, ht9.trans hHe⟩) (fun _ h9 => by rw [hlc] at h9; exact absurd h9 List.not_mem_nil) dX7_join_171
  · refine tc_i 2 c_1 ?_
    have r_2 : Rg 2 2 a := Rg.of c_1 (Rg.c rfl)
    refine lv_tableIn (tgt := 64) hx hb dX7_join_1 (by decide) (by decide) rfl (by decide) ?_
    refine lv_lload_n hx hb dX7_join_64 rfl (lv_at hl 1 rfl) ?_
    refine lv_lload_n hx hb dX7_join_65 rfl (lv_at hl 2 rfl) ?_
    refine lv_ladd hx hb dX7_join_66 ?_
    refine lv_topl (fun x_16 e_17 => ?_)
    exact W.lret (v := x_16) hx hb hr (fun t9 ht9 hW9 => ⟨⟨_, rfl, _, rfl⟩, ht9.trans hHe⟩) (fun _ h9 => by rw [hlc] at h9; exact absurd h9 List.not_mem_nil) dX7_join_67
  · refine tc_i 3 c_1 ?_
    have r_3 : Rg 3 3 a := Rg.of c_1 (Rg.c rfl)
    refine lv_tableIn (tgt := 68) hx hb dX7_join_1 (by decide) (by decide) rfl (by decide) ?_
    refine lv_lload_n hx hb dX7_join_68 rfl (lv_at hl 1 rfl) ?_
    refine lv_lload_n hx hb dX7_join_69 rfl (lv_at hl 2 rfl) ?_
    refine lv_lsub hx hb dX7_join_70 ?_
    refine lv_topl (fun x_18 e_19 => ?_)
    exact W.lret (v := x_18) hx hb hr (fun t9 ht9 hW9 => ⟨⟨_, rfl, _, rfl⟩, ht9.trans hHe⟩) (fun _ h9 => by rw [hlc] at h9; exact absurd h9 List.not_mem_nil) dX7_join_71
  · refine tc_i 4 c_1 ?_
    have r_4 : Rg 4 4 a := Rg.of c_1 (Rg.c rfl)
    refine lv_tableIn (tgt := 72) hx hb dX7_join_1 (by decide) (by decide) rfl (by decide) ?_
    refine lv_lload_n hx hb dX7_join_72 rfl (lv_at hl 1 rfl) ?_
    refine lv_lload_n hx hb dX7_join_73 rfl (lv_at hl 2 rfl) ?_
    refine lv_lmul hx hb dX7_join_74 ?_
    refine lv_topl (fun x_20 e_21 => ?_)
    exact W.lret (v := x_20) hx hb hr (fun t9 ht9 hW9 => ⟨⟨_, rfl, _, rfl⟩, ht9.trans hHe⟩) (fun _ h9 => by rw [hlc] at h9; exact absurd h9 List.not_mem_nil) dX7_join_75
  · refine tc_i 5 c_1 ?_
    have r_5 : Rg 5 5 a := Rg.of c_1 (Rg.c rfl)
    refine lv_tableIn (tgt := 76) hx hb dX7_join_1 (by decide) (by decide) rfl (by decide) ?_
    refine lv_lload_n hx hb dX7_join_76 rfl (lv_at hl 2 rfl) ?_
    refine lv_lconst (v := 0) hx hb dX7_join_77 (by decide) ?_
    refine W.lcmp hx hb dX7_join_78 ?_
    refine lv_topi (fun x_22 e_23 => ?_)
    have r_24 : Rg (-1) 1 x_22 := Rg.of e_23 (cmp_r _ _)
    refine lv_if_ne (tgt := 86) hx hb dX7_join_79 (by decide) (fun c_25 => ?_) (fun c_25 => ?_)
    · refine lv_lload_n hx hb dX7_join_86 rfl (lv_at hl 1 rfl) ?_
      refine lv_lload_n hx hb dX7_join_87 rfl (lv_at hl 2 rfl) ?_
      refine lv_ldiv hx hb dX7_join_88 (lz_c e_23 c_25) ?_
      refine lv_topl (fun x_29 e_30 => ?_)
      exact W.lret (v := x_29) hx hb hr (fun t9 ht9 hW9 => ⟨⟨_, rfl, _, rfl⟩, ht9.trans hHe⟩) (fun _ h9 => by rw [hlc] at h9; exact absurd h9 List.not_mem_nil) dX7_join_89
    · have r_26 : Rg 0 0 x_22 := Rg.eq_l c_25 r_24 (Rg.c (c := 0) (k := 0) rfl) (by decide)
      refine lv_lconst (v := 0) hx hb dX7_join_82 (by decide) ?_
      refine lv_goto (tgt := 89) hx hb dX7_join_83 (by decide) ?_
      exact W.lret (v := 0) hx hb hr (fun t9 ht9 hW9 => ⟨⟨_, rfl, _, rfl⟩, ht9.trans hHe⟩) (fun _ h9 => by rw [hlc] at h9; exact absurd h9 List.not_mem_nil) dX7_join_89
  · refine tc_i 6 c_1 ?_
    have r_6 : Rg 6 6 a := Rg.of c_1 (Rg.c rfl)
    refine lv_tableIn (tgt := 90) hx hb dX7_join_1 (by decide) (by decide) rfl (by decide) ?_
    refine lv_lload_n hx hb dX7_join_90 rfl (lv_at hl 2 rfl) ?_
    refine lv_lconst (v := 0) hx hb dX7_join_91 (by decide) ?_
    refine W.lcmp hx hb dX7_join_92 ?_
    refine lv_topi (fun x_31 e_32 => ?_)
    have r_33 : Rg (-1) 1 x_31 := Rg.of e_32 (cmp_r _ _)
    refine lv_if_ne (tgt := 100) hx hb dX7_join_93 (by decide) (fun c_34 => ?_) (fun c_34 => ?_)
    · refine lv_lload_n hx hb dX7_join_100 rfl (lv_at hl 1 rfl) ?_
      refine lv_lload_n hx hb dX7_join_101 rfl (lv_at hl 2 rfl) ?_
      refine lv_lrem hx hb dX7_join_102 (lz_c e_32 c_34) ?_
      refine lv_topl (fun x_38 e_39 => ?_)
      exact W.lret (v := x_38) hx hb hr (fun t9 ht9 hW9 => ⟨⟨_, rfl, _, rfl⟩, ht9.trans hHe⟩) (fun _ h9 => by rw [hlc] at h9; exact absurd h9 List.not_mem_nil) dX7_join_103
    · have r_35 : Rg 0 0 x_31 := Rg.eq_l c_34 r_33 (Rg.c (c := 0) (k := 0) rfl) (by decide)
      refine lv_lconst (v := 0) hx hb dX7_join_96 (by decide) ?_
      refine lv_goto (tgt := 103) hx hb dX7_join_97 (by decide) ?_
      exact W.lret (v := 0) hx hb hr (fun t9 ht9 hW9 => ⟨⟨_, rfl, _, rfl⟩, ht9.trans hHe⟩) (fun _ h9 => by rw [hlc] at h9; exact absurd h9 List.not_mem_nil) dX7_join_103
  · refine tc_i 7 c_1 ?_
    have r_7 : Rg 7 7 a := Rg.of c_1 (Rg.c rfl)
    refine lv_tableIn (tgt := 104) hx hb dX7_join_1 (by decide) (by decide) rfl (by decide) ?_
    refine lv_lload_n hx hb dX7_join_104 rfl (lv_at hl 1 rfl) ?_
    refine lv_lload_n hx hb dX7_join_105 rfl (lv_at hl 2 rfl) ?_
    refine W.lcmp hx hb dX7_join_106 ?_
    refine lv_topi (fun x_40 e_41 => ?_)
    have r_42 : Rg (-1) 1 x_40 := Rg.of e_41 (cmp_r _ _)
    refine lv_if_ge (tgt := 114) hx hb dX7_join_107 (by decide) (fun c_43 => ?_) (fun c_43 => ?_)
    · have r_44 : Rg 0 1 x_40 := Rg.le_r c_43 (Rg.c (c := 0) (k := 0) rfl) r_42 (by decide)
      refine lv_lconst (v := 0) hx hb dX7_join_114 (by decide) ?_
      exact W.lret (v := 0) hx hb hr (fun t9 ht9 hW9 => ⟨⟨_, rfl, _, rfl⟩, ht9.trans hHe⟩) (fun _ h9 => by rw [hlc] at h9; exact absurd h9 List.not_mem_nil) dX7_join_115
    · have r_45 : Rg (-1) (-1) x_40 := Rg.lt_l (nle_lt c_43) r_42 (Rg.c (c := 0) (k := 0) rfl) (by decide)
      refine lv_lconst (v := 1) hx hb dX7_join_110 (by decide) ?_
      refine lv_goto (tgt := 115) hx hb dX7_join_111 (by decide) ?_
      exact W.lret (v := 1) hx hb hr (fun t9 ht9 hW9 => ⟨⟨_, rfl, _, rfl⟩, ht9.trans hHe⟩) (fun _ h9 => by rw [hlc] at h9; exact absurd h9 List.not_mem_nil) dX7_join_115
  · refine tc_i 8 c_1 ?_
    have r_8 : Rg 8 8 a := Rg.of c_1 (Rg.c rfl)
    refine lv_tableIn (tgt := 116) hx hb dX7_join_1 (by decide) (by decide) rfl (by decide) ?_
    refine lv_lload_n hx hb dX7_join_116 rfl (lv_at hl 1 rfl) ?_
    refine lv_lload_n hx hb dX7_join_117 rfl (lv_at hl 2 rfl) ?_
    refine W.lcmp hx hb dX7_join_118 ?_
    refine lv_topi (fun x_46 e_47 => ?_)
    have r_48 : Rg (-1) 1 x_46 := Rg.of e_47 (cmp_r _ _)
    refine lv_if_gt (tgt := 126) hx hb dX7_join_119 (by decide) (fun c_49 => ?_) (fun c_49 => ?_)
    · have r_50 : Rg 1 1 x_46 := Rg.lt_r c_49 (Rg.c (c := 0) (k := 0) rfl) r_48 (by decide)
      refine lv_lconst (v := 0) hx hb dX7_join_126 (by decide) ?_
      exact W.lret (v := 0) hx hb hr (fun t9 ht9 hW9 => ⟨⟨_, rfl, _, rfl⟩, ht9.trans hHe⟩) (fun _ h9 => by rw [hlc] at h9; exact absurd h9 List.not_mem_nil) dX7_join_127
    · have r_51 : Rg (-1) 0 x_46 := Rg.le_l (nlt_le c_49) r_48 (Rg.c (c := 0) (k := 0) rfl) (by decide)
      refine lv_lconst (v := 1) hx hb dX7_join_122 (by decide) ?_
      refine lv_goto (tgt := 127) hx hb dX7_join_123 (by decide) ?_
      exact W.lret (v := 1) hx hb hr (fun t9 ht9 hW9 => ⟨⟨_, rfl, _, rfl⟩, ht9.trans hHe⟩) (fun _ h9 => by rw [hlc] at h9; exact absurd h9 List.not_mem_nil) dX7_join_127
  · refine tc_i 9 c_1 ?_
    have r_9 : Rg 9 9 a := Rg.of c_1 (Rg.c rfl)
    refine lv_tableIn (tgt := 128) hx hb dX7_join_1 (by decide) (by decide) rfl (by decide) ?_
    refine lv_lload_n hx hb dX7_join_128 rfl (lv_at hl 1 rfl) ?_
    refine lv_lload_n hx hb dX7_join_129 rfl (lv_at hl 2 rfl) ?_
    refine W.lcmp hx hb dX7_join_130 ?_
    refine lv_topi (fun x_52 e_53 => ?_)
    have r_54 : Rg (-1) 1 x_52 := Rg.of e_53 (cmp_r _ _)
    refine lv_if_ne (tgt := 138) hx hb dX7_join_131 (by decide) (fun c_55 => ?_) (fun c_55 => ?_)
    · refine lv_lconst (v := 0) hx hb dX7_join_138 (by decide) ?_
      exact W.lret (v := 0) hx hb hr (fun t9 ht9 hW9 => ⟨⟨_, rfl, _, rfl⟩, ht9.trans hHe⟩) (fun _ h9 => by rw [hlc] at h9; exact absurd h9 List.not_mem_nil) dX7_join_139
    · have r_56 : Rg 0 0 x_52 := Rg.eq_l c_55 r_54 (Rg.c (c := 0) (k := 0) rfl) (by decide)
      refine lv_lconst (v := 1) hx hb dX7_join_134 (by decide) ?_
      refine lv_goto (tgt := 139) hx hb dX7_join_135 (by decide) ?_
      exact W.lret (v := 1) hx hb hr (fun t9 ht9 hW9 => ⟨⟨_, rfl, _, rfl⟩, ht9.trans hHe⟩) (fun _ h9 => by rw [hlc] at h9; exact absurd h9 List.not_mem_nil) dX7_join_139
  · refine tc_i 10 c_1 ?_
    have r_10 : Rg 10 10 a := Rg.of c_1 (Rg.c rfl)
    refine lv_tableIn (tgt := 140) hx hb dX7_join_1 (by decide) (by decide) rfl (by decide) ?_
    refine lv_lload_n hx hb dX7_join_140 rfl (lv_at hl 1 rfl) ?_
    refine lv_lload_n hx hb dX7_join_141 rfl (lv_at hl 2 rfl) ?_
    refine W.lcmp hx hb dX7_join_142 ?_
    refine lv_topi (fun x_57 e_58 => ?_)
    have r_59 : Rg (-1) 1 x_57 := Rg.of e_58 (cmp_r _ _)
    refine lv_if_lt (tgt := 150) hx hb dX7_join_143 (by decide) (fun c_60 => ?_) (fun c_60 => ?_)
    · have r_61 : Rg (-1) (-1) x_57 := Rg.lt_l c_60 r_59 (Rg.c (c := 0) (k := 0) rfl) (by decide)
      refine lv_lconst (v := 0) hx hb dX7_join_150 (by decide) ?_
      exact W.lret (v := 0) hx hb hr (fun t9 ht9 hW9 => ⟨⟨_, rfl, _, rfl⟩, ht9.trans hHe⟩) (fun _ h9 => by rw [hlc] at h9; exact absurd h9 List.not_mem_nil) dX7_join_151
    · have r_62 : Rg 0 1 x_57 := Rg.le_r (nlt_le c_60) (Rg.c (c := 0) (k := 0) rfl) r_59 (by decide)
      refine lv_lconst (v := 1) hx hb dX7_join_146 (by decide) ?_
      refine lv_goto (tgt := 151) hx hb dX7_join_147 (by decide) ?_
      exact W.lret (v := 1) hx hb hr (fun t9 ht9 hW9 => ⟨⟨_, rfl, _, rfl⟩, ht9.trans hHe⟩) (fun _ h9 => by rw [hlc] at h9; exact absurd h9 List.not_mem_nil) dX7_join_151
  · refine tc_i 11 c_1 ?_
    have r_11 : Rg 11 11 a := Rg.of c_1 (Rg.c rfl)
    refine lv_tableIn (tgt := 152) hx hb dX7_join_1 (by decide) (by decide) rfl (by decide) ?_
    refine lv_lload_n hx hb dX7_join_152 rfl (lv_at hl 1 rfl) ?_
    refine lv_lload_n hx hb dX7_join_153 rfl (lv_at hl 2 rfl) ?_
    refine W.lcmp hx hb dX7_join_154 ?_
    refine lv_topi (fun x_63 e_64 => ?_)
    have r_65 : Rg (-1) 1 x_63 := Rg.of e_64 (cmp_r _ _)
    refine lv_if_le (tgt := 162) hx hb dX7_join_155 (by decide) (fun c_66 => ?_) (fun c_66 => ?_)
    · have r_67 : Rg (-1) 0 x_63 := Rg.le_l c_66 r_65 (Rg.c (c := 0) (k := 0) rfl) (by decide)
      refine lv_lconst (v := 0) hx hb dX7_join_162 (by decide) ?_
      exact W.lret (v := 0) hx hb hr (fun t9 ht9 hW9 => ⟨⟨_, rfl, _, rfl⟩, ht9.trans hHe⟩) (fun _ h9 => by rw [hlc] at h9; exact absurd h9 List.not_mem_nil) dX7_join_163
    · have r_68 : Rg 1 1 x_63 := Rg.lt_r (nle_lt c_66) (Rg.c (c := 0) (k := 0) rfl) r_65 (by decide)
      refine lv_lconst (v := 1) hx hb dX7_join_158 (by decide) ?_
      refine lv_goto (tgt := 163) hx hb dX7_join_159 (by decide) ?_
      exact W.lret (v := 1) hx hb hr (fun t9 ht9 hW9 => ⟨⟨_, rfl, _, rfl⟩, ht9.trans hHe⟩) (fun _ h9 => by rw [hlc] at h9; exact absurd h9 List.not_mem_nil) dX7_join_163
  · refine tc_i 12 c_1 ?_
    have r_12 : Rg 12 12 a := Rg.of c_1 (Rg.c rfl)
    refine lv_tableIn (tgt := 168) hx hb dX7_join_1 (by decide) (by decide) rfl (by decide) ?_
    refine lv_lload_n hx hb dX7_join_168 rfl (lv_at hl 1 rfl) ?_
    refine lv_lload_n hx hb dX7_join_169 rfl (lv_at hl 2 rfl) ?_
    refine lv_lor hx hb dX7_join_170 ?_
    refine lv_topl (fun x_69 e_70 => ?_)
    exact W.lret (v := x_69) hx hb hr (fun t9 ht9 hW9 => ⟨⟨_, rfl, _, rfl⟩, ht9.trans hHe⟩) (fun _ h9 => by rw [hlc] at h9; exact absurd h9 List.not_mem_nil) dX7_join_171
  · refine tc_i 13 c_1 ?_
    have r_13 : Rg 13 13 a := Rg.of c_1 (Rg.c rfl)
    refine lv_tableIn (tgt := 164) hx hb dX7_join_1 (by decide) (by decide) rfl (by decide) ?_
    refine lv_lload_n hx hb dX7_join_164 rfl (lv_at hl 1 rfl) ?_
    refine lv_lload_n hx hb dX7_join_165 rfl (lv_at hl 2 rfl) ?_
    refine lv_land hx hb dX7_join_166 ?_
    refine lv_topl (fun x_71 e_72 => ?_)
    exact W.lret (v := x_71) hx hb hr (fun t9 ht9 hW9 => ⟨⟨_, rfl, _, rfl⟩, ht9.trans hHe⟩) (fun _ h9 => by rw [hlc] at h9; exact absurd h9 List.not_mem_nil) dX7_join_167
theorem dX7_reckon_0 : decode cX7_reckon 0 = .ok (.iconst 0, 1) := by decide +kernel
theorem dX7_reckon_1 : decode cX7_reckon 1 = .ok (.istore 4, 2) := by decide +kernel
theorem dX7_reckon_3 : decode cX7_reckon 3 = .ok (.iload_n 1, 1) := by decide +kernel
theorem dX7_reckon_4 : decode cX7_reckon 4 = .ok (.istore 5, 2) := by decide +kernel
theorem dX7_reckon_6 : decode cX7_reckon 6 = .ok (.iload 5, 2) := by decide +kernel
theorem dX7_reckon_8 : decode cX7_reckon 8 = .ok (.iload_n 2, 1) := by decide +kernel
theorem dX7_reckon_9 : decode cX7_reckon 9 = .ok (.if_icmp .ge 169, 3) := by decide +kernel
theorem dX7_reckon_178 : decode cX7_reckon 178 = .ok (.iload 4, 2) := by decide +kernel
theorem dX7_reckon_180 : decode cX7_reckon 180 = .ok (.iconst 1, 1) := by decide +kernel
theorem dX7_reckon_181 : decode cX7_reckon 181 = .ok (.if_icmp .lt 15, 3) := by decide +kernel
theorem dX7_reckon_196 : decode cX7_reckon 196 = .ok (.lconst 0, 1) := by decide +kernel
theorem dX7_reckon_197 : decode cX7_reckon 197 = .ok (.lreturn, 1) := by decide +kernel
theorem dX7_reckon_184 : decode cX7_reckon 184 = .ok (.aload_n 0, 1) := by decide +kernel
theorem dX7_reckon_185 : decode cX7_reckon 185 = .ok (.getfield 9, 3) := by decide +kernel
theorem qq_3_148 : Cond.fieldLink "WrongHole$Rule" 9 "WrongHole$Rule" "stack" "[J" ∈ TB := mk_tb (ti_3 (List.mem_of_getElem? (i := 148) rfl)) rfl
theorem iq_RX7 (cd : Cond) : ∀ w ∈ u_ws RX7 TX7 3, w ∈ cd :: TB := by
  intro w hw
  obtain ⟨k, hk, rfl⟩ := List.mem_map.mp hw
  have hk := List.mem_range.mp hk
  refine List.mem_cons_of_mem _ ?_
  match k, hk with
  | 0, _ => exact mk_tb (ti_3 (List.mem_of_getElem? (i := 149) rfl)) rfl
  | 1, _ => exact mk_tb (ti_3 (List.mem_of_getElem? (i := 151) rfl)) rfl
  | 2, _ => exact mk_tb (ti_3 (List.mem_of_getElem? (i := 153) rfl)) rfl
  | n + 3, h => exact absurd h (by omega)
theorem dX7_reckon_188 : decode cX7_reckon 188 = .ok (.iload 4, 2) := by decide +kernel
theorem dX7_reckon_190 : decode cX7_reckon 190 = .ok (.iconst 1, 1) := by decide +kernel
theorem dX7_reckon_191 : decode cX7_reckon 191 = .ok (.isub, 1) := by decide +kernel
theorem dX7_reckon_192 : decode cX7_reckon 192 = .ok (.laload, 1) := by decide +kernel
theorem dX7_reckon_193 : decode cX7_reckon 193 = .ok (.goto 4, 3) := by decide +kernel
theorem dX7_reckon_12 : decode cX7_reckon 12 = .ok (.iload 5, 2) := by decide +kernel
theorem dX7_reckon_14 : decode cX7_reckon 14 = .ok (.aload_n 0, 1) := by decide +kernel
theorem dX7_reckon_15 : decode cX7_reckon 15 = .ok (.getfield 13, 3) := by decide +kernel
theorem qq_3_146 : Cond.fieldLink "WrongHole$Rule" 13 "WrongHole$Rule" "code" "[I" ∈ TB := mk_tb (ti_3 (List.mem_of_getElem? (i := 146) rfl)) rfl
theorem dX7_reckon_18 : decode cX7_reckon 18 = .ok (.arraylength, 1) := by decide +kernel
theorem dX7_reckon_19 : decode cX7_reckon 19 = .ok (.if_icmp .ge 159, 3) := by decide +kernel
theorem dX7_reckon_22 : decode cX7_reckon 22 = .ok (.aload_n 0, 1) := by decide +kernel
theorem dX7_reckon_23 : decode cX7_reckon 23 = .ok (.getfield 13, 3) := by decide +kernel
theorem dX7_reckon_26 : decode cX7_reckon 26 = .ok (.iload 5, 2) := by decide +kernel
theorem dX7_reckon_28 : decode cX7_reckon 28 = .ok (.iaload, 1) := by decide +kernel
theorem dX7_reckon_29 : decode cX7_reckon 29 = .ok (.bipush 15, 2) := by decide +kernel
theorem dX7_reckon_31 : decode cX7_reckon 31 = .ok (.iand, 1) := by decide +kernel
theorem dX7_reckon_32 : decode cX7_reckon 32 = .ok (.istore 6, 2) := by decide +kernel
theorem dX7_reckon_34 : decode cX7_reckon 34 = .ok (.aload_n 0, 1) := by decide +kernel
theorem dX7_reckon_35 : decode cX7_reckon 35 = .ok (.getfield 13, 3) := by decide +kernel
theorem dX7_reckon_38 : decode cX7_reckon 38 = .ok (.iload 5, 2) := by decide +kernel
theorem dX7_reckon_40 : decode cX7_reckon 40 = .ok (.iaload, 1) := by decide +kernel
theorem dX7_reckon_41 : decode cX7_reckon 41 = .ok (.iconst 4, 1) := by decide +kernel
theorem dX7_reckon_42 : decode cX7_reckon 42 = .ok (.ishr, 1) := by decide +kernel
theorem dX7_reckon_43 : decode cX7_reckon 43 = .ok (.istore 7, 2) := by decide +kernel
theorem dX7_reckon_45 : decode cX7_reckon 45 = .ok (.iload 6, 2) := by decide +kernel
theorem dX7_reckon_47 : decode cX7_reckon 47 = .ok (.iconst 1, 1) := by decide +kernel
theorem dX7_reckon_48 : decode cX7_reckon 48 = .ok (.if_icmp .gt 41, 3) := by decide +kernel
theorem dX7_reckon_172 : decode cX7_reckon 172 = .ok (.iinc 5 1, 3) := by decide +kernel
theorem dX7_reckon_175 : decode cX7_reckon 175 = .ok (.goto (-169), 3) := by decide +kernel
theorem dX7_reckon_89 : decode cX7_reckon 89 = .ok (.iload 6, 2) := by decide +kernel
theorem dX7_reckon_91 : decode cX7_reckon 91 = .ok (.bipush 12, 2) := by decide +kernel
theorem dX7_reckon_93 : decode cX7_reckon 93 = .ok (.if_icmp .ne 40, 3) := by decide +kernel
theorem dX7_reckon_133 : decode cX7_reckon 133 = .ok (.iload 4, 2) := by decide +kernel
theorem dX7_reckon_135 : decode cX7_reckon 135 = .ok (.iconst 2, 1) := by decide +kernel
theorem dX7_reckon_136 : decode cX7_reckon 136 = .ok (.if_icmp .lt 36, 3) := by decide +kernel
theorem dX7_reckon_139 : decode cX7_reckon 139 = .ok (.iinc 4 (-1), 3) := by decide +kernel
theorem dX7_reckon_142 : decode cX7_reckon 142 = .ok (.aload_n 0, 1) := by decide +kernel
theorem dX7_reckon_143 : decode cX7_reckon 143 = .ok (.getfield 9, 3) := by decide +kernel
theorem dX7_reckon_146 : decode cX7_reckon 146 = .ok (.iload 4, 2) := by decide +kernel
theorem dX7_reckon_148 : decode cX7_reckon 148 = .ok (.iconst 1, 1) := by decide +kernel
theorem dX7_reckon_149 : decode cX7_reckon 149 = .ok (.isub, 1) := by decide +kernel
theorem dX7_reckon_150 : decode cX7_reckon 150 = .ok (.iload 6, 2) := by decide +kernel
theorem dX7_reckon_152 : decode cX7_reckon 152 = .ok (.aload_n 0, 1) := by decide +kernel
theorem dX7_reckon_153 : decode cX7_reckon 153 = .ok (.getfield 9, 3) := by decide +kernel
theorem dX7_reckon_156 : decode cX7_reckon 156 = .ok (.iload 4, 2) := by decide +kernel
theorem dX7_reckon_158 : decode cX7_reckon 158 = .ok (.iconst 1, 1) := by decide +kernel
theorem dX7_reckon_159 : decode cX7_reckon 159 = .ok (.isub, 1) := by decide +kernel
theorem dX7_reckon_160 : decode cX7_reckon 160 = .ok (.laload, 1) := by decide +kernel
theorem dX7_reckon_161 : decode cX7_reckon 161 = .ok (.aload_n 0, 1) := by decide +kernel
theorem dX7_reckon_162 : decode cX7_reckon 162 = .ok (.getfield 9, 3) := by decide +kernel
theorem dX7_reckon_165 : decode cX7_reckon 165 = .ok (.iload 4, 2) := by decide +kernel
theorem dX7_reckon_167 : decode cX7_reckon 167 = .ok (.laload, 1) := by decide +kernel
theorem dX7_reckon_168 : decode cX7_reckon 168 = .ok (.invokestatic 30, 3) := by decide +kernel
theorem qq_4_100 : Cond.code yX7_join cX7_join 5 (some .long) ∈ TB := mk_tb (ti_4 (List.mem_of_getElem? (i := 100) rfl)) rfl
theorem qq_1_18 : Cond.initialized "WrongHole$Rule" ∈ TB := mk_tb (ti_1 (List.mem_of_getElem? (i := 18) rfl)) rfl
theorem qq_4_98 : Cond.methodLink "WrongHole$Rule" 30 yX7_join ∈ TB := mk_tb (ti_4 (List.mem_of_getElem? (i := 98) rfl)) rfl
theorem qq_4_99 : Cond.static yX7_join ∈ TB := mk_tb (ti_4 (List.mem_of_getElem? (i := 99) rfl)) rfl
theorem dX7_reckon_171 : decode cX7_reckon 171 = .ok (.lastore, 1) := by decide +kernel
theorem dX7_reckon_96 : decode cX7_reckon 96 = .ok (.iload 4, 2) := by decide +kernel
theorem dX7_reckon_98 : decode cX7_reckon 98 = .ok (.iconst 1, 1) := by decide +kernel
theorem dX7_reckon_99 : decode cX7_reckon 99 = .ok (.if_icmp .lt 73, 3) := by decide +kernel
theorem dX7_reckon_102 : decode cX7_reckon 102 = .ok (.aload_n 0, 1) := by decide +kernel
theorem dX7_reckon_103 : decode cX7_reckon 103 = .ok (.getfield 9, 3) := by decide +kernel
theorem dX7_reckon_106 : decode cX7_reckon 106 = .ok (.iload 4, 2) := by decide +kernel
theorem dX7_reckon_108 : decode cX7_reckon 108 = .ok (.iconst 1, 1) := by decide +kernel
theorem dX7_reckon_109 : decode cX7_reckon 109 = .ok (.isub, 1) := by decide +kernel
theorem dX7_reckon_110 : decode cX7_reckon 110 = .ok (.aload_n 0, 1) := by decide +kernel
theorem dX7_reckon_111 : decode cX7_reckon 111 = .ok (.getfield 9, 3) := by decide +kernel
theorem dX7_reckon_114 : decode cX7_reckon 114 = .ok (.iload 4, 2) := by decide +kernel
theorem dX7_reckon_116 : decode cX7_reckon 116 = .ok (.iconst 1, 1) := by decide +kernel
theorem dX7_reckon_117 : decode cX7_reckon 117 = .ok (.isub, 1) := by decide +kernel
theorem dX7_reckon_118 : decode cX7_reckon 118 = .ok (.laload, 1) := by decide +kernel
theorem dX7_reckon_119 : decode cX7_reckon 119 = .ok (.lconst 0, 1) := by decide +kernel
theorem dX7_reckon_120 : decode cX7_reckon 120 = .ok (.lcmp, 1) := by decide +kernel
theorem dX7_reckon_121 : decode cX7_reckon 121 = .ok (.ifCond .ne 7, 3) := by decide +kernel
theorem dX7_reckon_129 : decode cX7_reckon 129 = .ok (.lastore, 1) := by decide +kernel
theorem dX7_reckon_130 : decode cX7_reckon 130 = .ok (.goto 42, 3) := by decide +kernel
theorem dX7_reckon_128 : decode cX7_reckon 128 = .ok (.lconst 0, 1) := by decide +kernel
theorem dX7_reckon_124 : decode cX7_reckon 124 = .ok (.lconst 1, 1) := by decide +kernel
theorem dX7_reckon_125 : decode cX7_reckon 125 = .ok (.goto 4, 3) := by decide +kernel
theorem dX7_reckon_51 : decode cX7_reckon 51 = .ok (.iload 4, 2) := by decide +kernel
theorem dX7_reckon_53 : decode cX7_reckon 53 = .ok (.bipush 64, 2) := by decide +kernel
theorem dX7_reckon_55 : decode cX7_reckon 55 = .ok (.if_icmp .ge 117, 3) := by decide +kernel
theorem dX7_reckon_58 : decode cX7_reckon 58 = .ok (.aload_n 0, 1) := by decide +kernel
theorem dX7_reckon_59 : decode cX7_reckon 59 = .ok (.getfield 9, 3) := by decide +kernel
theorem dX7_reckon_62 : decode cX7_reckon 62 = .ok (.iload 4, 2) := by decide +kernel
theorem dX7_reckon_64 : decode cX7_reckon 64 = .ok (.iload 6, 2) := by decide +kernel
theorem dX7_reckon_66 : decode cX7_reckon 66 = .ok (.ifCond .ne 9, 3) := by decide +kernel
theorem dX7_reckon_82 : decode cX7_reckon 82 = .ok (.lastore, 1) := by decide +kernel
theorem dX7_reckon_83 : decode cX7_reckon 83 = .ok (.iinc 4 1, 3) := by decide +kernel
theorem dX7_reckon_86 : decode cX7_reckon 86 = .ok (.goto 86, 3) := by decide +kernel
theorem dX7_reckon_75 : decode cX7_reckon 75 = .ok (.aload_n 3, 1) := by decide +kernel
theorem dX7_reckon_76 : decode cX7_reckon 76 = .ok (.iload 7, 2) := by decide +kernel
theorem dX7_reckon_78 : decode cX7_reckon 78 = .ok (.invokestatic 26, 3) := by decide +kernel
theorem qq_4_97 : Cond.code yX7_wordAt cX7_wordAt 2 (some .int) ∈ TB := mk_tb (ti_4 (List.mem_of_getElem? (i := 97) rfl)) rfl
theorem qq_4_95 : Cond.methodLink "WrongHole$Rule" 26 yX7_wordAt ∈ TB := mk_tb (ti_4 (List.mem_of_getElem? (i := 95) rfl)) rfl
theorem qq_4_96 : Cond.static yX7_wordAt ∈ TB := mk_tb (ti_4 (List.mem_of_getElem? (i := 96) rfl)) rfl
theorem dX7_reckon_81 : decode cX7_reckon 81 = .ok (.i2l, 1) := by decide +kernel
theorem dX7_reckon_69 : decode cX7_reckon 69 = .ok (.iload 7, 2) := by decide +kernel
theorem dX7_reckon_71 : decode cX7_reckon 71 = .ok (.i2l, 1) := by decide +kernel
theorem dX7_reckon_72 : decode cX7_reckon 72 = .ok (.goto 10, 3) := by decide +kernel
set_option maxHeartbeats 4000000 in
set_option maxRecDepth 100000 in
theorem c_Rule_reckon (l : Launch) (D : va_G) (cs : Nat → ClassId) (X : XX) (sz : Nat) (hu : Nat) (ru1 : Nat) (ru2 : Nat) (ru3 : Nat) (n1 : Nat) (n2 : Nat) (gc_ : Nat → Int32) (gb_ : Nat → Int32) (gs_ : Nat → Int64) (hw0 : Nat) (gw : Nat → Int32) (a : Int32) (b : Int32) (hn1 : n1 ≤ 400) (hn2 : n2 ≤ 25) (r_a : Rg 0 400 a) (r_b : Rg 0 400 b) : Met l yX7_reckon (Cond.code yX7_reckon cX7_reckon 8 (some .long) :: TB) (RM 1 0 0) (va_Pc [.ref hu, .int a, .int b, .ref hw0] (PRE D cs X [(ru3, .inl ((cs 4), 64, .inr (.inl gs_)))] [(hu, .inr (5, [.ref ru1, .ref ru2, .ref ru3])), (ru1, .inl ((cs 0), n1, .inl gc_)), (ru2, .inl ((cs 0), n2, .inl gb_)), (hw0, .inl ((cs 0), 12, .inl gw))] sz)) (va_Ql (S := Unit) (fun _ _ => True) (fun _ t => ∃ (gs2 : Nat → Int64), va_P D vwCl [(ru3, .inl ((cs 4), 64, .inr (.inl gs2)))] t.heap ∧ va_D (va_A [(ru3, .inl ((cs 4), 64, .inr (.inl gs_)))] sz) [(ru3, .inl ((cs 4), 64, .inr (.inl gs2)))]) (va_A [(ru3, .inl ((cs 4), 64, .inr (.inl gs_)))] sz)) 0 0 (va_A [(ru3, .inl ((cs 4), 64, .inr (.inl gs_)))] sz) := by
  refine MET (y := yX7_reckon) (cc := cX7_reckon) (maxL := 8) (ret := (some .long)) (d := 1) (mc := 0) (ms := 0) (D := D) (cs := cs) (X := X) (ws := [(ru3, .inl ((cs 4), 64, .inr (.inl gs_)))]) (wo := [(hu, .inr (5, [.ref ru1, .ref ru2, .ref ru3])), (ru1, .inl ((cs 0), n1, .inl gc_)), (ru2, .inl ((cs 0), n2, .inl gb_)), (hw0, .inl ((cs 0), 12, .inl gw))]) (sz := sz) (av := [.ref hu, .int a, .int b, .ref hw0]) (Qc := fun A => va_Ql (S := Unit) (fun _ _ => True) (fun _ t => ∃ (gs2 : Nat → Int64), va_P D vwCl [(ru3, .inl ((cs 4), 64, .inr (.inl gs2)))] t.heap ∧ va_D A [(ru3, .inl ((cs 4), 64, .inr (.inl gs2)))]) A) (by decide) (Nat.le_of_ble_eq_true rfl) ?_
  intro p e s m below meth c ls A H hHe hx hb hr hml hown hts hlocks hnm hP hK hD hA hS hN hR hX hXs hl
  have hD : va_D A [(ru3, .inl ((cs 4), 64, .inr (.inl gs_)))] := hD
  have hPo := hR.at hS
  obtain ⟨locs, hlc⟩ : ∃ z : List Loc, z = [] := ⟨_, rfl⟩
  rw [← hlc] at hS ⊢
  have hown : s.vm.findClass "WrongHole$Rule" = some m.cls := hown
  have hT : ∀ w ∈ TB, w.before ([.ref hu, .int a, .int b, .ref hw0] : List Value).toArray s = true := fun w h => hts w (List.mem_cons_of_mem _ h)
  have hl : lv_has ls 8 [(0, .ref hu), (1, .int a), (2, .int b), (3, .ref hw0)] := hl
  have hP : va_P D vwCl [(ru3, .inl ((cs 4), 64, .inr (.inl gs_)))] H := hP
  refine lv_iconst (v := 0) hx hb dX7_reckon_0 (by decide) ?_
  refine lv_istore (lv' := [(4, .int 0), (0, .ref hu), (1, .int a), (2, .int b), (3, .ref hw0)]) hx hb dX7_reckon_1 hl (by decide) rfl (fun ls hl => ?_)
  refine lv_iload_n hx hb dX7_reckon_3 rfl (lv_at hl 2 rfl) ?_
  refine lv_istore (lv' := [(5, .int a), (4, .int 0), (0, .ref hu), (1, .int a), (2, .int b), (3, .ref hw0)]) hx hb dX7_reckon_4 hl (by decide) rfl (fun ls hl => ?_)
  refine w_wh (σ := (Int32) × (Int32) × (Nat → Int64)) (fun x9 H locs ls => match x9 with | (v_141, v_142, g_143) => Rg 0 400 v_141 ∧ Rg 0 64 v_142 ∧ va_P D vwCl [(ru3, .inl ((cs 4), 64, .inr (.inl g_143)))] H ∧ va_D A [(ru3, .inl ((cs 4), 64, .inr (.inl g_143)))] ∧ va_S A s.heap H locs ∧ lv_has ls 8 [(5, .int v_141), (4, .int v_142), (0, .ref hu), (1, .int a), (2, .int b), (3, .ref hw0)]) (fun x9 => match x9 with | (v_141, v_142, g_143) => (400 - Int32.toInt v_141).toNat) 6 ?_ (a, 0, gs_) H locs ls ⟨r_a, (Rg.wk (lo2 := 0) (hi2 := 64) (Rg.c (c := 0) (k := 0) rfl) (by decide)), hP, hD, hS, lv_sub hl [0, 1, 2, 3, 4, 5] rfl⟩
  rintro ⟨v_141, v_142, g_143⟩ H locs ls ⟨r_5029, r_5030, hP, hD, hS, hl⟩ ih_5028
  have hPo := hR.at hS
  refine lv_iload hx hb dX7_reckon_6 (lv_at hl 0 rfl) ?_
  refine lv_iload_n hx hb dX7_reckon_8 rfl (lv_at hl 4 rfl) ?_
  refine w_cut (σ := Unit) (fun _ H locs ls => va_P D vwCl [(ru3, .inl ((cs 4), 64, .inr (.inl g_143)))] H ∧ va_D A [(ru3, .inl ((cs 4), 64, .inr (.inl g_143)))] ∧ va_S A s.heap H locs ∧ lv_has ls 8 [(5, .int v_141), (4, .int v_142), (0, .ref hu), (1, .int a), (2, .int b), (3, .ref hw0)]) 178 (fun _ => []) ?_ (fun hj_5184 => ?_)
  · rintro _ H locs ls ⟨hP, hD, hS, hl⟩
    have hPo := hR.at hS
    refine lv_iload hx hb dX7_reckon_178 (lv_at hl 1 rfl) ?_
    refine lv_iconst (v := 1) hx hb dX7_reckon_180 (by decide) ?_
    refine lv_icmp_lt (tgt := 196) hx hb dX7_reckon_181 (by decide) (fun c_5185 => ?_) (fun c_5185 => ?_)
    · have r_5186 : Rg 0 0 v_142 := Rg.lt_l c_5185 r_5030 (Rg.c (c := 1) (k := 1) rfl) (by decide)
      refine lv_lconst (v := 0) hx hb dX7_reckon_196 (by decide) ?_
      refine W.widen (k := 0) (n := 0) (Nat.le_of_ble_eq_true rfl) (Nat.le_of_ble_eq_true rfl) ?_
      have hP9 := hP.sub (ws' := [(ru3, .inl ((cs 4), 64, .inr (.inl g_143)))]) [0] rfl
      have hD9 := hD.sub (ws' := [(ru3, .inl ((cs 4), 64, .inr (.inl g_143)))]) [0] (by decide) rfl
      exact W.lret (v := 0) hx hb hr (fun t9 ht9 hW9 => ⟨⟨_, (), rfl, trivial, ⟨g_143, by rw [ht9]; exact hP9, hD9⟩⟩, hS.F ht9⟩) hS.2.2 dX7_reckon_197
    · have r_5187 : Rg 1 64 v_142 := Rg.le_r (nlt_le c_5185) (Rg.c (c := 1) (k := 1) rfl) r_5030 (by decide)
      refine lv_aload_n hx hb dX7_reckon_184 rfl (lv_at hl 2 rfl) ?_
      refine va_get (D := D) (ci := 5) (v := .ref ru3) (C := "WrongHole$Rule") (T := TX7) (N := 3) hx hb hts (iq_RX7 _) hown hK hPo 0 rfl rfl 2 (by decide) (hT _ qq_3_148) (fun _ h9 => h9) rfl dX7_reckon_185 ?_
      refine lv_iload hx hb dX7_reckon_188 (lv_at hl 1 rfl) ?_
      refine lv_iconst (v := 1) hx hb dX7_reckon_190 (by decide) ?_
      refine lv_isub hx hb dX7_reckon_191 ?_
      refine lv_topi (fun x_5193 e_5194 => ?_)
      have r_5195 : Rg 0 63 x_5193 := Rg.sub e_5194 r_5187 (Rg.c (c := 1) (k := 1) rfl) (by decide)
      have hi_5196 : vp_in x_5193 64 := Rg.in r_5195 (by decide)
      refine va_lald hx hb hK hP 0 4 rfl rfl hi_5196 dX7_reckon_192 ?_
      refine lv_topl (fun x_5197 e_5198 => ?_)
      refine lv_goto (tgt := 197) hx hb dX7_reckon_193 (by decide) ?_
      refine W.widen (k := 0) (n := 0) (Nat.le_of_ble_eq_true rfl) (Nat.le_of_ble_eq_true rfl) ?_
      have hP9 := hP.sub (ws' := [(ru3, .inl ((cs 4), 64, .inr (.inl g_143)))]) [0] rfl
      have hD9 := hD.sub (ws' := [(ru3, .inl ((cs 4), 64, .inr (.inl g_143)))]) [0] (by decide) rfl
      exact W.lret (v := x_5197) hx hb hr (fun t9 ht9 hW9 => ⟨⟨_, (), rfl, trivial, ⟨g_143, by rw [ht9]; exact hP9, hD9⟩⟩, hS.F ht9⟩) hS.2.2 dX7_reckon_197
  · refine lv_icmp_ge (tgt := 178) hx hb dX7_reckon_9 (by decide) (fun c_5031 => ?_) (fun c_5031 => ?_)
    · exact hj_5184 () _ _ _ ⟨hP, hD, hS, lv_sub hl [0, 1, 2, 3, 4, 5] rfl⟩
    · have r_5032 : Rg 0 399 v_141 := Rg.lt_l (nle_lt c_5031) r_5029 r_b (by decide)
      have r_5033 : Rg 1 400 b := Rg.lt_r (nle_lt c_5031) r_5029 r_b (by decide)
      refine lv_iload hx hb dX7_reckon_12 (lv_at hl 0 rfl) ?_
      refine lv_aload_n hx hb dX7_reckon_14 rfl (lv_at hl 2 rfl) ?_
      refine va_get (D := D) (ci := 5) (v := .ref ru1) (C := "WrongHole$Rule") (T := TX7) (N := 3) hx hb hts (iq_RX7 _) hown hK hPo 0 rfl rfl 0 (by decide) (hT _ qq_3_146) (fun _ h9 => h9) rfl dX7_reckon_15 ?_
      refine va_alen (v := nI n1) hx hb hK hPo 1 0 rfl rfl rfl dX7_reckon_18 ?_
      refine lv_icmp_ge (tgt := 178) hx hb dX7_reckon_19 (by decide) (fun c_5199 => ?_) (fun c_5199 => ?_)
      · have r_5200 : Rg (-2147483648) 399 (nI n1) := Rg.le_l c_5199 (Rg.top (nI n1)) r_5032 (by decide)
        exact hj_5184 () _ _ _ ⟨hP, hD, hS, lv_sub hl [0, 1, 2, 3, 4, 5] rfl⟩
      · have r_5201 : Rg 1 2147483647 (nI n1) := Rg.lt_r (nle_lt c_5199) r_5032 (Rg.top (nI n1)) (by decide)
        refine lv_aload_n hx hb dX7_reckon_22 rfl (lv_at hl 2 rfl) ?_
        refine va_get (D := D) (ci := 5) (v := .ref ru1) (C := "WrongHole$Rule") (T := TX7) (N := 3) hx hb hts (iq_RX7 _) hown hK hPo 0 rfl rfl 0 (by decide) (hT _ qq_3_146) (fun _ h9 => h9) rfl dX7_reckon_23 ?_
        refine lv_iload hx hb dX7_reckon_26 (lv_at hl 0 rfl) ?_
        have hi_5202 : vp_in v_141 n1 := in_ge c_5199 r_5032 (by decide) (Nat.lt_of_le_of_lt hn1 (by decide))
        refine va_iald hx hb hK hPo 1 0 rfl rfl hi_5202 dX7_reckon_28 ?_
        refine lv_topi (fun x_5203 e_5204 => ?_)
        refine lv_bipush (v := 15) hx hb dX7_reckon_29 (by decide) ?_
        refine lv_iand hx hb dX7_reckon_31 ?_
        refine lv_topi (fun x_5205 e_5206 => ?_)
        have r_5207 : Rg 0 15 x_5205 := Rg.and e_5206 (Rg.c (c := 15) (k := 15) rfl) (by decide)
        refine lv_istore (lv' := [(6, .int x_5205), (5, .int v_141), (4, .int v_142), (0, .ref hu), (1, .int a), (2, .int b), (3, .ref hw0)]) hx hb dX7_reckon_32 hl (by decide) rfl (fun ls hl => ?_)
        refine lv_aload_n hx hb dX7_reckon_34 rfl (lv_at hl 3 rfl) ?_
        refine va_get (D := D) (ci := 5) (v := .ref ru1) (C := "WrongHole$Rule") (T := TX7) (N := 3) hx hb hts (iq_RX7 _) hown hK hPo 0 rfl rfl 0 (by decide) (hT _ qq_3_146) (fun _ h9 => h9) rfl dX7_reckon_35 ?_
        refine lv_iload hx hb dX7_reckon_38 (lv_at hl 1 rfl) ?_
        have hi_5208 : vp_in v_141 n1 := in_ge c_5199 r_5032 (by decide) (Nat.lt_of_le_of_lt hn1 (by decide))
        refine va_iald hx hb hK hPo 1 0 rfl rfl hi_5208 dX7_reckon_40 ?_
        refine lv_topi (fun x_5209 e_5210 => ?_)
        refine lv_iconst (v := 4) hx hb dX7_reckon_41 (by decide) ?_
        refine lv_ishr hx hb dX7_reckon_42 ?_
        refine lv_topi (fun x_5211 e_5212 => ?_)
        refine lv_istore (lv' := [(7, .int x_5211), (6, .int x_5205), (5, .int v_141), (4, .int v_142), (0, .ref hu), (1, .int a), (2, .int b), (3, .ref hw0)]) hx hb dX7_reckon_43 hl (by decide) rfl (fun ls hl => ?_)
        refine lv_iload hx hb dX7_reckon_45 (lv_at hl 1 rfl) ?_
        refine lv_iconst (v := 1) hx hb dX7_reckon_47 (by decide) ?_
        refine w_cut (σ := (Int32) × (Nat → Int64)) (fun x9 H locs ls => match x9 with | (v_5281, g_5282) => Rg 0 64 v_5281 ∧ va_P D vwCl [(ru3, .inl ((cs 4), 64, .inr (.inl g_5282)))] H ∧ va_D A [(ru3, .inl ((cs 4), 64, .inr (.inl g_5282)))] ∧ va_S A s.heap H locs ∧ lv_has ls 8 [(7, .int x_5211), (6, .int x_5205), (5, .int v_141), (4, .int v_5281), (0, .ref hu), (1, .int a), (2, .int b), (3, .ref hw0)]) 172 (fun x9 => match x9 with | (v_5281, g_5282) => []) ?_ (fun hj_5283 => ?_)
        · rintro ⟨v_5281, g_5282⟩ H locs ls ⟨r_5284, hP, hD, hS, hl⟩
          have hPo := hR.at hS
          obtain ⟨x_5285, e_5286⟩ : ∃ z : Int32, z = v_141 + Int32.ofInt 1 := ⟨_, rfl⟩
          have r_5287 : Rg 1 400 x_5285 := Rg.add e_5286 r_5032 (Rg.c (c := Int32.ofInt 1) (k := 1) rfl) (by decide)
          refine lv_iinc (v := x_5285) (lv' := [(5, .int x_5285), (7, .int x_5211), (6, .int x_5205), (4, .int v_5281), (0, .ref hu), (1, .int a), (2, .int b), (3, .ref hw0)]) hx hb dX7_reckon_172 hl (k := 2) rfl (e_5286.symm) (by decide) rfl (fun ls hl => ?_)
          refine lv_goto (tgt := 6) hx hb dX7_reckon_175 (by decide) ?_
          exact ih_5028 (x_5285, v_5281, g_5282) _ _ _ ⟨(Rg.wk (lo2 := 0) (hi2 := 400) r_5287 (by decide)), r_5284, hP, hD, hS, lv_sub hl [0, 3, 4, 5, 6, 7] rfl⟩ (ms_up e_5286 r_5032 (Rg.c (c := Int32.ofInt 1) (k := 1) rfl) (by decide))
        · refine lv_icmp_gt (tgt := 89) hx hb dX7_reckon_48 (by decide) (fun c_5213 => ?_) (fun c_5213 => ?_)
          · have r_5214 : Rg 2 15 x_5205 := Rg.lt_r c_5213 (Rg.c (c := 1) (k := 1) rfl) r_5207 (by decide)
            refine lv_iload hx hb dX7_reckon_89 (lv_at hl 1 rfl) ?_
            refine lv_bipush (v := 12) hx hb dX7_reckon_91 (by decide) ?_
            refine lv_icmp_ne (tgt := 133) hx hb dX7_reckon_93 (by decide) (fun c_5288 => ?_) (fun c_5288 => ?_)
            · refine lv_iload hx hb dX7_reckon_133 (lv_at hl 3 rfl) ?_
              refine lv_iconst (v := 2) hx hb dX7_reckon_135 (by decide) ?_
              refine lv_icmp_lt (tgt := 172) hx hb dX7_reckon_136 (by decide) (fun c_5290 => ?_) (fun c_5290 => ?_)
              · have r_5291 : Rg 0 1 v_142 := Rg.lt_l c_5290 r_5030 (Rg.c (c := 2) (k := 2) rfl) (by decide)
                exact hj_5283 (v_142, g_143) _ _ _ ⟨(Rg.wk (lo2 := 0) (hi2 := 64) r_5291 (by decide)), hP, hD, hS, lv_sub hl [0, 1, 2, 3, 4, 5, 6, 7] rfl⟩
              · have r_5292 : Rg 2 64 v_142 := Rg.le_r (nlt_le c_5290) (Rg.c (c := 2) (k := 2) rfl) r_5030 (by decide)
                obtain ⟨x_5293, e_5294⟩ : ∃ z : Int32, z = v_142 + Int32.ofInt (-1) := ⟨_, rfl⟩
                have r_5295 : Rg 1 63 x_5293 := Rg.add e_5294 r_5292 (Rg.c (c := Int32.ofInt (-1)) (k := (-1)) rfl) (by decide)
                refine lv_iinc (v := x_5293) (lv' := [(4, .int x_5293), (7, .int x_5211), (6, .int x_5205), (5, .int v_141), (0, .ref hu), (1, .int a), (2, .int b), (3, .ref hw0)]) hx hb dX7_reckon_139 hl (k := 3) rfl (e_5294.symm) (by decide) rfl (fun ls hl => ?_)
                refine lv_aload_n hx hb dX7_reckon_142 rfl (lv_at hl 4 rfl) ?_
                refine va_get (D := D) (ci := 5) (v := .ref ru3) (C := "WrongHole$Rule") (T := TX7) (N := 3) hx hb hts (iq_RX7 _) hown hK hPo 0 rfl rfl 2 (by decide) (hT _ qq_3_148) (fun _ h9 => h9) rfl dX7_reckon_143 ?_
                refine lv_iload hx hb dX7_reckon_146 (lv_at hl 0 rfl) ?_
                refine lv_iconst (v := 1) hx hb dX7_reckon_148 (by decide) ?_
                refine lv_isub hx hb dX7_reckon_149 ?_
                refine lv_topi (fun x_5296 e_5297 => ?_)
                have r_5298 : Rg 0 62 x_5296 := Rg.sub e_5297 r_5295 (Rg.c (c := 1) (k := 1) rfl) (by decide)
                refine lv_iload hx hb dX7_reckon_150 (lv_at hl 2 rfl) ?_
                refine lv_aload_n hx hb dX7_reckon_152 rfl (lv_at hl 4 rfl) ?_
                refine va_get (D := D) (ci := 5) (v := .ref ru3) (C := "WrongHole$Rule") (T := TX7) (N := 3) hx hb hts (iq_RX7 _) hown hK hPo 0 rfl rfl 2 (by decide) (hT _ qq_3_148) (fun _ h9 => h9) rfl dX7_reckon_153 ?_
                refine lv_iload hx hb dX7_reckon_156 (lv_at hl 0 rfl) ?_
                refine lv_iconst (v := 1) hx hb dX7_reckon_158 (by decide) ?_
                refine lv_isub hx hb dX7_reckon_159 ?_
                refine lv_topi (fun x_5299 e_5300 => ?_)
                have r_5301 : Rg 0 62 x_5299 := Rg.sub e_5300 r_5295 (Rg.c (c := 1) (k := 1) rfl) (by decide)
                have hi_5302 : vp_in x_5299 64 := Rg.in r_5301 (by decide)
                refine va_lald hx hb hK hP 0 4 rfl rfl hi_5302 dX7_reckon_160 ?_
                refine lv_topl (fun x_5303 e_5304 => ?_)
                refine lv_aload_n hx hb dX7_reckon_161 rfl (lv_at hl 4 rfl) ?_
                refine va_get (D := D) (ci := 5) (v := .ref ru3) (C := "WrongHole$Rule") (T := TX7) (N := 3) hx hb hts (iq_RX7 _) hown hK hPo 0 rfl rfl 2 (by decide) (hT _ qq_3_148) (fun _ h9 => h9) rfl dX7_reckon_162 ?_
                refine lv_iload hx hb dX7_reckon_165 (lv_at hl 0 rfl) ?_
                have hi_5305 : vp_in x_5293 64 := Rg.in r_5295 (by decide)
                refine va_lald hx hb hK hP 0 4 rfl rfl hi_5305 dX7_reckon_167 ?_
                refine lv_topl (fun x_5306 e_5307 => ?_)
                have hPc := va_P.sub (ws' := []) hP [] rfl
                refine cl_P (W.runS (As := [.int x_5205, .long x_5303, .long x_5306]) (rest := [.int x_5296, .ref ru3]) ⟨hx, hb, hml, hown, hts⟩ (c_Rule_join l D cs x_5205 x_5303 x_5306) ⟨callB_of 3 hts (gd_C qq_4_100) rfl rfl rfl (hT _ qq_1_18) (hT _ qq_4_98) (by decide +kernel) (rm_R rfl rfl), (hT _ qq_4_99)⟩ (pq_S hPc hK hN) rfl rfl hl.1 rfl (lv_room (Nat.le_of_ble_eq_true rfl)) dX7_reckon_168 ⟨Nat.le_of_ble_eq_true rfl, Nat.le_of_ble_eq_true rfl⟩) (fun v9 hz_5309 => ?_)
                obtain ⟨x_5308, rfl⟩ := hz_5309
                have hi_5311 : vp_in x_5296 64 := Rg.in r_5298 (by decide)
                refine va_last hx hb hK hP hD hS 0 4 rfl rfl hi_5311 dX7_reckon_171 (fun H locs hP hD hS => ?_)
                obtain ⟨g_5312, hP, hD⟩ : ∃ g_5312 : Nat → Int64, va_P D vwCl [(ru3, .inl ((cs 4), 64, .inr (.inl g_5312)))] H ∧ va_D A [(ru3, .inl ((cs 4), 64, .inr (.inl g_5312)))] := ⟨_, hP, hD⟩
                have hPo := hR.at hS
                exact hj_5283 (x_5293, g_5312) _ _ _ ⟨(Rg.wk (lo2 := 0) (hi2 := 64) r_5295 (by decide)), hP, hD, hS, lv_sub hl [1, 2, 3, 0, 4, 5, 6, 7] rfl⟩
            · have r_5289 : Rg 12 12 x_5205 := Rg.eq_l c_5288 r_5214 (Rg.c (c := 12) (k := 12) rfl) (by decide)
              refine lv_iload hx hb dX7_reckon_96 (lv_at hl 3 rfl) ?_
              refine lv_iconst (v := 1) hx hb dX7_reckon_98 (by decide) ?_
              refine lv_icmp_lt (tgt := 172) hx hb dX7_reckon_99 (by decide) (fun c_5313 => ?_) (fun c_5313 => ?_)
              · have r_5314 : Rg 0 0 v_142 := Rg.lt_l c_5313 r_5030 (Rg.c (c := 1) (k := 1) rfl) (by decide)
                exact hj_5283 (v_142, g_143) _ _ _ ⟨(Rg.wk (lo2 := 0) (hi2 := 64) r_5314 (by decide)), hP, hD, hS, lv_sub hl [0, 1, 2, 3, 4, 5, 6, 7] rfl⟩
              · have r_5315 : Rg 1 64 v_142 := Rg.le_r (nlt_le c_5313) (Rg.c (c := 1) (k := 1) rfl) r_5030 (by decide)
                refine lv_aload_n hx hb dX7_reckon_102 rfl (lv_at hl 4 rfl) ?_
                refine va_get (D := D) (ci := 5) (v := .ref ru3) (C := "WrongHole$Rule") (T := TX7) (N := 3) hx hb hts (iq_RX7 _) hown hK hPo 0 rfl rfl 2 (by decide) (hT _ qq_3_148) (fun _ h9 => h9) rfl dX7_reckon_103 ?_
                refine lv_iload hx hb dX7_reckon_106 (lv_at hl 3 rfl) ?_
                refine lv_iconst (v := 1) hx hb dX7_reckon_108 (by decide) ?_
                refine lv_isub hx hb dX7_reckon_109 ?_
                refine lv_topi (fun x_5316 e_5317 => ?_)
                have r_5318 : Rg 0 63 x_5316 := Rg.sub e_5317 r_5315 (Rg.c (c := 1) (k := 1) rfl) (by decide)
                refine lv_aload_n hx hb dX7_reckon_110 rfl (lv_at hl 4 rfl) ?_
                refine va_get (D := D) (ci := 5) (v := .ref ru3) (C := "WrongHole$Rule") (T := TX7) (N := 3) hx hb hts (iq_RX7 _) hown hK hPo 0 rfl rfl 2 (by decide) (hT _ qq_3_148) (fun _ h9 => h9) rfl dX7_reckon_111 ?_
                refine lv_iload hx hb dX7_reckon_114 (lv_at hl 3 rfl) ?_
                refine lv_iconst (v := 1) hx hb dX7_reckon_116 (by decide) ?_
                refine lv_isub hx hb dX7_reckon_117 ?_
                refine lv_topi (fun x_5319 e_5320 => ?_)
                have r_5321 : Rg 0 63 x_5319 := Rg.sub e_5320 r_5315 (Rg.c (c := 1) (k := 1) rfl) (by decide)
                have hi_5322 : vp_in x_5319 64 := Rg.in r_5321 (by decide)
                refine va_lald hx hb hK hP 0 4 rfl rfl hi_5322 dX7_reckon_118 ?_
                refine lv_topl (fun x_5323 e_5324 => ?_)
                refine lv_lconst (v := 0) hx hb dX7_reckon_119 (by decide) ?_
                refine W.lcmp hx hb dX7_reckon_120 ?_
                refine lv_topi (fun x_5325 e_5326 => ?_)
                have r_5327 : Rg (-1) 1 x_5325 := Rg.of e_5326 (cmp_r _ _)
                refine w_cut (σ := (Int64)) (fun (z_5330 : Int64) H locs ls => va_P D vwCl [(ru3, .inl ((cs 4), 64, .inr (.inl g_143)))] H ∧ va_D A [(ru3, .inl ((cs 4), 64, .inr (.inl g_143)))] ∧ va_S A s.heap H locs ∧ lv_has ls 8 [(7, .int x_5211), (6, .int x_5205), (5, .int v_141), (4, .int v_142), (0, .ref hu), (1, .int a), (2, .int b), (3, .ref hw0)]) 129 (fun (z_5330 : Int64) => [.long z_5330, .int x_5316, .ref ru3]) ?_ (fun hj_5331 => ?_)
                · rintro z_5330 H locs ls ⟨hP, hD, hS, hl⟩
                  have hPo := hR.at hS
                  have hi_5332 : vp_in x_5316 64 := Rg.in r_5318 (by decide)
                  refine va_last hx hb hK hP hD hS 0 4 rfl rfl hi_5332 dX7_reckon_129 (fun H locs hP hD hS => ?_)
                  obtain ⟨g_5333, hP, hD⟩ : ∃ g_5333 : Nat → Int64, va_P D vwCl [(ru3, .inl ((cs 4), 64, .inr (.inl g_5333)))] H ∧ va_D A [(ru3, .inl ((cs 4), 64, .inr (.inl g_5333)))] := ⟨_, hP, hD⟩
                  have hPo := hR.at hS
                  refine lv_goto (tgt := 172) hx hb dX7_reckon_130 (by decide) ?_
                  exact hj_5283 (v_142, g_5333) _ _ _ ⟨(Rg.wk (lo2 := 0) (hi2 := 64) r_5315 (by decide)), hP, hD, hS, lv_sub hl [0, 1, 2, 3, 4, 5, 6, 7] rfl⟩
                · refine lv_if_ne (tgt := 128) hx hb dX7_reckon_121 (by decide) (fun c_5328 => ?_) (fun c_5328 => ?_)
                  · refine lv_lconst (v := 0) hx hb dX7_reckon_128 (by decide) ?_
                    exact hj_5331 0 _ _ _ ⟨hP, hD, hS, lv_sub hl [0, 1, 2, 3, 4, 5, 6, 7] rfl⟩
                  · have r_5329 : Rg 0 0 x_5325 := Rg.eq_l c_5328 r_5327 (Rg.c (c := 0) (k := 0) rfl) (by decide)
                    refine lv_lconst (v := 1) hx hb dX7_reckon_124 (by decide) ?_
                    refine lv_goto (tgt := 129) hx hb dX7_reckon_125 (by decide) ?_
                    exact hj_5331 1 _ _ _ ⟨hP, hD, hS, lv_sub hl [0, 1, 2, 3, 4, 5, 6, 7] rfl⟩
          · have r_5215 : Rg 0 1 x_5205 := Rg.le_l (nlt_le c_5213) r_5207 (Rg.c (c := 1) (k := 1) rfl) (by decide)
            refine lv_iload hx hb dX7_reckon_51 (lv_at hl 3 rfl) ?_
            refine lv_bipush (v := 64) hx hb dX7_reckon_53 (by decide) ?_
            refine lv_icmp_ge (tgt := 172) hx hb dX7_reckon_55 (by decide) (fun c_5334 => ?_) (fun c_5334 => ?_)
            · have r_5335 : Rg 64 64 v_142 := Rg.le_r c_5334 (Rg.c (c := 64) (k := 64) rfl) r_5030 (by decide)
              exact hj_5283 (v_142, g_143) _ _ _ ⟨(Rg.wk (lo2 := 0) (hi2 := 64) r_5335 (by decide)), hP, hD, hS, lv_sub hl [0, 1, 2, 3, 4, 5, 6, 7] rfl⟩
            · have r_5336 : Rg 0 63 v_142 := Rg.lt_l (nle_lt c_5334) r_5030 (Rg.c (c := 64) (k := 64) rfl) (by decide)
              refine lv_aload_n hx hb dX7_reckon_58 rfl (lv_at hl 4 rfl) ?_
              refine va_get (D := D) (ci := 5) (v := .ref ru3) (C := "WrongHole$Rule") (T := TX7) (N := 3) hx hb hts (iq_RX7 _) hown hK hPo 0 rfl rfl 2 (by decide) (hT _ qq_3_148) (fun _ h9 => h9) rfl dX7_reckon_59 ?_
              refine lv_iload hx hb dX7_reckon_62 (lv_at hl 3 rfl) ?_
              refine lv_iload hx hb dX7_reckon_64 (lv_at hl 1 rfl) ?_
              refine w_cut (σ := (Int64)) (fun (z_5347 : Int64) H locs ls => va_P D vwCl [(ru3, .inl ((cs 4), 64, .inr (.inl g_143)))] H ∧ va_D A [(ru3, .inl ((cs 4), 64, .inr (.inl g_143)))] ∧ va_S A s.heap H locs ∧ lv_has ls 8 [(7, .int x_5211), (6, .int x_5205), (5, .int v_141), (4, .int v_142), (0, .ref hu), (1, .int a), (2, .int b), (3, .ref hw0)]) 82 (fun (z_5347 : Int64) => [.long z_5347, .int v_142, .ref ru3]) ?_ (fun hj_5348 => ?_)
              · rintro z_5347 H locs ls ⟨hP, hD, hS, hl⟩
                have hPo := hR.at hS
                have hi_5349 : vp_in v_142 64 := Rg.in r_5336 (by decide)
                refine va_last hx hb hK hP hD hS 0 4 rfl rfl hi_5349 dX7_reckon_82 (fun H locs hP hD hS => ?_)
                obtain ⟨g_5350, hP, hD⟩ : ∃ g_5350 : Nat → Int64, va_P D vwCl [(ru3, .inl ((cs 4), 64, .inr (.inl g_5350)))] H ∧ va_D A [(ru3, .inl ((cs 4), 64, .inr (.inl g_5350)))] := ⟨_, hP, hD⟩
                have hPo := hR.at hS
                obtain ⟨x_5351, e_5352⟩ : ∃ z : Int32, z = v_142 + Int32.ofInt 1 := ⟨_, rfl⟩
                have r_5353 : Rg 1 64 x_5351 := Rg.add e_5352 r_5336 (Rg.c (c := Int32.ofInt 1) (k := 1) rfl) (by decide)
                refine lv_iinc (v := x_5351) (lv' := [(4, .int x_5351), (7, .int x_5211), (6, .int x_5205), (5, .int v_141), (0, .ref hu), (1, .int a), (2, .int b), (3, .ref hw0)]) hx hb dX7_reckon_83 hl (k := 3) rfl (e_5352.symm) (by decide) rfl (fun ls hl => ?_)
                refine lv_goto (tgt := 172) hx hb dX7_reckon_86 (by decide) ?_
                exact hj_5283 (x_5351, g_5350) _ _ _ ⟨(Rg.wk (lo2 := 0) (hi2 := 64) r_5353 (by decide)), hP, hD, hS, lv_sub hl [1, 2, 3, 0, 4, 5, 6, 7] rfl⟩
              · refine lv_if_ne (tgt := 75) hx hb dX7_reckon_66 (by decide) (fun c_5337 => ?_) (fun c_5337 => ?_)
                · have r_5338 : Rg 1 1 x_5205 := Rg.ne c_5337 r_5215 (Rg.c (c := 0) (k := 0) rfl) (by decide)
                  refine lv_aload_n hx hb dX7_reckon_75 rfl (lv_at hl 7 rfl) ?_
                  refine lv_iload hx hb dX7_reckon_76 (lv_at hl 0 rfl) ?_
                  have hPc := va_P.sub (ws' := [(hw0, .inl ((cs 0), 12, .inl gw))]) hPo [3] rfl
                  refine cl_P (W.runS (As := [.ref hw0, .int x_5211]) (rest := [.int v_142, .ref ru3]) ⟨hx, hb, hml, hown, hts⟩ (c_Rule_wordAt l D cs hw0 gw x_5211) ⟨callB_of 2 hts (gd_C qq_4_97) rfl rfl rfl (hT _ qq_1_18) (hT _ qq_4_95) (by decide +kernel) (rm_R rfl rfl), (hT _ qq_4_96)⟩ (pq_S hPc hK hN) rfl rfl hl.1 rfl (lv_room (Nat.le_of_ble_eq_true rfl)) dX7_reckon_78 ⟨Nat.le_of_ble_eq_true rfl, Nat.le_of_ble_eq_true rfl⟩) (fun v9 hz_5355 => ?_)
                  obtain ⟨x_5354, rfl⟩ := hz_5355
                  refine lv_i2l (v := Int32.toInt64 x_5354) hx hb dX7_reckon_81 rfl ?_
                  refine lv_topl (fun x_5357 e_5358 => ?_)
                  exact hj_5348 x_5357 _ _ _ ⟨hP, hD, hS, lv_sub hl [0, 1, 2, 3, 4, 5, 6, 7] rfl⟩
                · have r_5339 : Rg 0 0 x_5205 := Rg.eq_l c_5337 r_5215 (Rg.c (c := 0) (k := 0) rfl) (by decide)
                  refine lv_iload hx hb dX7_reckon_69 (lv_at hl 0 rfl) ?_
                  refine lv_i2l (v := Int32.toInt64 x_5211) hx hb dX7_reckon_71 rfl ?_
                  refine lv_topl (fun x_5359 e_5360 => ?_)
                  refine lv_goto (tgt := 82) hx hb dX7_reckon_72 (by decide) ?_
                  exact hj_5348 x_5359 _ _ _ ⟨hP, hD, hS, lv_sub hl [0, 1, 2, 3, 4, 5, 6, 7] rfl⟩
theorem dX7_sumFor_0 : decode cX7_sumFor 0 = .ok (.iconst 0, 1) := by decide +kernel
theorem dX7_sumFor_1 : decode cX7_sumFor 1 = .ok (.istore_n 2, 1) := by decide +kernel
theorem dX7_sumFor_2 : decode cX7_sumFor 2 = .ok (.iload_n 2, 1) := by decide +kernel
theorem dX7_sumFor_3 : decode cX7_sumFor 3 = .ok (.iconst 2, 1) := by decide +kernel
theorem dX7_sumFor_4 : decode cX7_sumFor 4 = .ok (.iadd, 1) := by decide +kernel
theorem dX7_sumFor_5 : decode cX7_sumFor 5 = .ok (.aload_n 0, 1) := by decide +kernel
theorem dX7_sumFor_6 : decode cX7_sumFor 6 = .ok (.getfield 17, 3) := by decide +kernel
theorem qq_3_147 : Cond.fieldLink "WrongHole$Rule" 17 "WrongHole$Rule" "bounds" "[I" ∈ TB := mk_tb (ti_3 (List.mem_of_getElem? (i := 147) rfl)) rfl
theorem dX7_sumFor_9 : decode cX7_sumFor 9 = .ok (.arraylength, 1) := by decide +kernel
theorem dX7_sumFor_10 : decode cX7_sumFor 10 = .ok (.if_icmp .ge 60, 3) := by decide +kernel
theorem dX7_sumFor_70 : decode cX7_sumFor 70 = .ok (.lconst 0, 1) := by decide +kernel
theorem dX7_sumFor_71 : decode cX7_sumFor 71 = .ok (.lreturn, 1) := by decide +kernel
theorem dX7_sumFor_13 : decode cX7_sumFor 13 = .ok (.aload_n 0, 1) := by decide +kernel
theorem dX7_sumFor_14 : decode cX7_sumFor 14 = .ok (.getfield 17, 3) := by decide +kernel
theorem dX7_sumFor_17 : decode cX7_sumFor 17 = .ok (.iload_n 2, 1) := by decide +kernel
theorem dX7_sumFor_18 : decode cX7_sumFor 18 = .ok (.iconst 1, 1) := by decide +kernel
theorem dX7_sumFor_19 : decode cX7_sumFor 19 = .ok (.iadd, 1) := by decide +kernel
theorem dX7_sumFor_20 : decode cX7_sumFor 20 = .ok (.iaload, 1) := by decide +kernel
theorem dX7_sumFor_21 : decode cX7_sumFor 21 = .ok (.istore_n 3, 1) := by decide +kernel
theorem dX7_sumFor_22 : decode cX7_sumFor 22 = .ok (.aload_n 0, 1) := by decide +kernel
theorem dX7_sumFor_23 : decode cX7_sumFor 23 = .ok (.getfield 17, 3) := by decide +kernel
theorem dX7_sumFor_26 : decode cX7_sumFor 26 = .ok (.iload_n 2, 1) := by decide +kernel
theorem dX7_sumFor_27 : decode cX7_sumFor 27 = .ok (.iconst 2, 1) := by decide +kernel
theorem dX7_sumFor_28 : decode cX7_sumFor 28 = .ok (.iadd, 1) := by decide +kernel
theorem dX7_sumFor_29 : decode cX7_sumFor 29 = .ok (.iaload, 1) := by decide +kernel
theorem dX7_sumFor_30 : decode cX7_sumFor 30 = .ok (.istore 4, 2) := by decide +kernel
theorem dX7_sumFor_32 : decode cX7_sumFor 32 = .ok (.iload_n 3, 1) := by decide +kernel
theorem dX7_sumFor_33 : decode cX7_sumFor 33 = .ok (.iload 4, 2) := by decide +kernel
theorem dX7_sumFor_35 : decode cX7_sumFor 35 = .ok (.if_icmp .eq 16, 3) := by decide +kernel
theorem dX7_sumFor_51 : decode cX7_sumFor 51 = .ok (.aload_n 0, 1) := by decide +kernel
theorem dX7_sumFor_52 : decode cX7_sumFor 52 = .ok (.aload_n 0, 1) := by decide +kernel
theorem dX7_sumFor_53 : decode cX7_sumFor 53 = .ok (.getfield 17, 3) := by decide +kernel
theorem dX7_sumFor_56 : decode cX7_sumFor 56 = .ok (.iload_n 2, 1) := by decide +kernel
theorem dX7_sumFor_57 : decode cX7_sumFor 57 = .ok (.iaload, 1) := by decide +kernel
theorem dX7_sumFor_58 : decode cX7_sumFor 58 = .ok (.iload_n 3, 1) := by decide +kernel
theorem dX7_sumFor_59 : decode cX7_sumFor 59 = .ok (.aload_n 1, 1) := by decide +kernel
theorem dX7_sumFor_60 : decode cX7_sumFor 60 = .ok (.invokevirtual 20, 3) := by decide +kernel
theorem qq_4_94 : Cond.code yX7_reckon cX7_reckon 8 (some .long) ∈ TB := mk_tb (ti_4 (List.mem_of_getElem? (i := 94) rfl)) rfl
theorem qq_4_91 : Cond.methodLink "WrongHole$Rule" 20 yX7_reckon ∈ TB := mk_tb (ti_4 (List.mem_of_getElem? (i := 91) rfl)) rfl
theorem qq_4_93 : Cond.instanceMethod yX7_reckon ∈ TB := mk_tb (ti_4 (List.mem_of_getElem? (i := 93) rfl)) rfl
theorem qs_0_15 : Cond.selects "WrongHole$Rule" yX7_reckon yX7_reckon ∈ TB := mk_tb (ti_s (q := (yX7_reckon, 3)) (List.mem_append_left _ (List.mem_of_getElem? (i := 15) rfl))) rfl
theorem dX7_sumFor_63 : decode cX7_sumFor 63 = .ok (.lreturn, 1) := by decide +kernel
theorem dX7_sumFor_38 : decode cX7_sumFor 38 = .ok (.aload_n 0, 1) := by decide +kernel
theorem dX7_sumFor_39 : decode cX7_sumFor 39 = .ok (.iload_n 3, 1) := by decide +kernel
theorem dX7_sumFor_40 : decode cX7_sumFor 40 = .ok (.iload 4, 2) := by decide +kernel
theorem dX7_sumFor_42 : decode cX7_sumFor 42 = .ok (.aload_n 1, 1) := by decide +kernel
theorem dX7_sumFor_43 : decode cX7_sumFor 43 = .ok (.invokevirtual 20, 3) := by decide +kernel
theorem dX7_sumFor_46 : decode cX7_sumFor 46 = .ok (.lconst 0, 1) := by decide +kernel
theorem dX7_sumFor_47 : decode cX7_sumFor 47 = .ok (.lcmp, 1) := by decide +kernel
theorem dX7_sumFor_48 : decode cX7_sumFor 48 = .ok (.ifCond .eq 16, 3) := by decide +kernel
theorem dX7_sumFor_64 : decode cX7_sumFor 64 = .ok (.iinc 2 2, 3) := by decide +kernel
theorem dX7_sumFor_67 : decode cX7_sumFor 67 = .ok (.goto (-65), 3) := by decide +kernel
set_option maxHeartbeats 4000000 in
set_option maxRecDepth 100000 in
theorem c_Rule_sumFor (l : Launch) (D : va_G) (cs : Nat → ClassId) (X : XX) (sz : Nat) (hu : Nat) (ru1 : Nat) (ru2 : Nat) (ru3 : Nat) (n1 : Nat) (n2 : Nat) (gc_ : Nat → Int32) (gb_ : Nat → Int32) (gs_ : Nat → Int64) (hw0 : Nat) (gw : Nat → Int32) (hn1 : n1 ≤ 400) (hn2 : n2 ≤ 25) (a_gb_ : ∀ j, j < n2 → Rg 0 400 (gb_ j)) : Met l yX7_sumFor (Cond.code yX7_sumFor cX7_sumFor 5 (some .long) :: TB) (RM 2 0 0) (va_Pc [.ref hu, .ref hw0] (PRE D cs X [(ru3, .inl ((cs 4), 64, .inr (.inl gs_)))] [(hu, .inr (5, [.ref ru1, .ref ru2, .ref ru3])), (ru1, .inl ((cs 0), n1, .inl gc_)), (ru2, .inl ((cs 0), n2, .inl gb_)), (hw0, .inl ((cs 0), 12, .inl gw))] sz)) (va_Ql (S := Unit) (fun _ _ => True) (fun _ t => ∃ (gs2 : Nat → Int64), va_P D vwCl [(ru3, .inl ((cs 4), 64, .inr (.inl gs2)))] t.heap ∧ va_D (va_A [(ru3, .inl ((cs 4), 64, .inr (.inl gs_)))] sz) [(ru3, .inl ((cs 4), 64, .inr (.inl gs2)))]) (va_A [(ru3, .inl ((cs 4), 64, .inr (.inl gs_)))] sz)) 0 0 (va_A [(ru3, .inl ((cs 4), 64, .inr (.inl gs_)))] sz) := by
  refine MET (y := yX7_sumFor) (cc := cX7_sumFor) (maxL := 5) (ret := (some .long)) (d := 2) (mc := 0) (ms := 0) (D := D) (cs := cs) (X := X) (ws := [(ru3, .inl ((cs 4), 64, .inr (.inl gs_)))]) (wo := [(hu, .inr (5, [.ref ru1, .ref ru2, .ref ru3])), (ru1, .inl ((cs 0), n1, .inl gc_)), (ru2, .inl ((cs 0), n2, .inl gb_)), (hw0, .inl ((cs 0), 12, .inl gw))]) (sz := sz) (av := [.ref hu, .ref hw0]) (Qc := fun A => va_Ql (S := Unit) (fun _ _ => True) (fun _ t => ∃ (gs2 : Nat → Int64), va_P D vwCl [(ru3, .inl ((cs 4), 64, .inr (.inl gs2)))] t.heap ∧ va_D A [(ru3, .inl ((cs 4), 64, .inr (.inl gs2)))]) A) (by decide) (Nat.le_of_ble_eq_true rfl) ?_
  intro p e s m below meth c ls A H hHe hx hb hr hml hown hts hlocks hnm hP hK hD hA hS hN hR hX hXs hl
  have hD : va_D A [(ru3, .inl ((cs 4), 64, .inr (.inl gs_)))] := hD
  have hPo := hR.at hS
  obtain ⟨locs, hlc⟩ : ∃ z : List Loc, z = [] := ⟨_, rfl⟩
  rw [← hlc] at hS ⊢
  have hown : s.vm.findClass "WrongHole$Rule" = some m.cls := hown
  have hT : ∀ w ∈ TB, w.before ([.ref hu, .ref hw0] : List Value).toArray s = true := fun w h => hts w (List.mem_cons_of_mem _ h)
  have hl : lv_has ls 5 [(0, .ref hu), (1, .ref hw0)] := hl
  have hP : va_P D vwCl [(ru3, .inl ((cs 4), 64, .inr (.inl gs_)))] H := hP
  refine lv_iconst (v := 0) hx hb dX7_sumFor_0 (by decide) ?_
  refine lv_istore_n (lv' := [(2, .int 0), (0, .ref hu), (1, .ref hw0)]) hx hb dX7_sumFor_1 rfl hl (by decide) rfl (fun ls hl => ?_)
  refine w_wh (σ := (Int32) × (Nat → Int64)) (fun x9 H locs ls => match x9 with | (v_40, g_41) => Rg 0 24 v_40 ∧ va_P D vwCl [(ru3, .inl ((cs 4), 64, .inr (.inl g_41)))] H ∧ va_D A [(ru3, .inl ((cs 4), 64, .inr (.inl g_41)))] ∧ va_S A s.heap H locs ∧ lv_has ls 5 [(2, .int v_40), (0, .ref hu), (1, .ref hw0)]) (fun x9 => match x9 with | (v_40, g_41) => (23 - Int32.toInt v_40).toNat) 2 ?_ (0, gs_) H locs ls ⟨(Rg.wk (lo2 := 0) (hi2 := 24) (Rg.c (c := 0) (k := 0) rfl) (by decide)), hP, hD, hS, lv_sub hl [0, 1, 2] rfl⟩
  rintro ⟨v_40, g_41⟩ H locs ls ⟨r_251, hP, hD, hS, hl⟩ ih_250
  have hPo := hR.at hS
  refine lv_iload_n hx hb dX7_sumFor_2 rfl (lv_at hl 0 rfl) ?_
  refine lv_iconst (v := 2) hx hb dX7_sumFor_3 (by decide) ?_
  refine lv_iadd hx hb dX7_sumFor_4 ?_
  refine lv_topi (fun x_252 e_253 => ?_)
  have r_254 : Rg 2 26 x_252 := Rg.add e_253 r_251 (Rg.c (c := 2) (k := 2) rfl) (by decide)
  refine lv_aload_n hx hb dX7_sumFor_5 rfl (lv_at hl 1 rfl) ?_
  refine va_get (D := D) (ci := 5) (v := .ref ru2) (C := "WrongHole$Rule") (T := TX7) (N := 3) hx hb hts (iq_RX7 _) hown hK hPo 0 rfl rfl 1 (by decide) (hT _ qq_3_147) (fun _ h9 => h9) rfl dX7_sumFor_6 ?_
  refine va_alen (v := nI n2) hx hb hK hPo 2 0 rfl rfl rfl dX7_sumFor_9 ?_
  refine lv_icmp_ge (tgt := 70) hx hb dX7_sumFor_10 (by decide) (fun c_255 => ?_) (fun c_255 => ?_)
  · refine lv_lconst (v := 0) hx hb dX7_sumFor_70 (by decide) ?_
    refine W.widen (k := 0) (n := 0) (Nat.le_of_ble_eq_true rfl) (Nat.le_of_ble_eq_true rfl) ?_
    have hP9 := hP.sub (ws' := [(ru3, .inl ((cs 4), 64, .inr (.inl g_41)))]) [0] rfl
    have hD9 := hD.sub (ws' := [(ru3, .inl ((cs 4), 64, .inr (.inl g_41)))]) [0] (by decide) rfl
    exact W.lret (v := 0) hx hb hr (fun t9 ht9 hW9 => ⟨⟨_, (), rfl, trivial, ⟨g_41, by rw [ht9]; exact hP9, hD9⟩⟩, hS.F ht9⟩) hS.2.2 dX7_sumFor_71
  · have r_256 : Rg 2 24 x_252 := Rg.lt_l (nle_lt c_255) r_254 (nI_rg (hi := 25) (Int.ofNat_le.mpr hn2) (by decide)) (by decide)
    have r_257 : Rg 0 22 v_40 := Rg.unadd e_253 r_251 (Rg.c (c := 2) (k := 2) rfl) r_256 (by decide)
    have r_258 : Rg 3 25 (nI n2) := Rg.lt_r (nle_lt c_255) r_254 (nI_rg (hi := 25) (Int.ofNat_le.mpr hn2) (by decide)) (by decide)
    refine lv_aload_n hx hb dX7_sumFor_13 rfl (lv_at hl 1 rfl) ?_
    refine va_get (D := D) (ci := 5) (v := .ref ru2) (C := "WrongHole$Rule") (T := TX7) (N := 3) hx hb hts (iq_RX7 _) hown hK hPo 0 rfl rfl 1 (by decide) (hT _ qq_3_147) (fun _ h9 => h9) rfl dX7_sumFor_14 ?_
    refine lv_iload_n hx hb dX7_sumFor_17 rfl (lv_at hl 0 rfl) ?_
    refine lv_iconst (v := 1) hx hb dX7_sumFor_18 (by decide) ?_
    refine lv_iadd hx hb dX7_sumFor_19 ?_
    refine lv_topi (fun x_259 e_260 => ?_)
    have r_261 : Rg 1 23 x_259 := Rg.add e_260 r_257 (Rg.c (c := 1) (k := 1) rfl) (by decide)
    have hi_262 : vp_in x_259 n2 := in_b e_253 c_255 e_260 r_257 (Rg.c (c := 2) (k := 2) rfl) (Rg.c (c := 1) (k := 1) rfl) (by decide) (Nat.lt_of_le_of_lt hn2 (by decide))
    refine va_iald hx hb hK hPo 2 0 rfl rfl hi_262 dX7_sumFor_20 ?_
    refine lv_topi (fun x_263 e_264 => ?_)
    have r_265 : Rg 0 400 x_263 := Rg.of e_264 (a_gb_ _ (in_lt hi_262))
    refine lv_istore_n (lv' := [(3, .int x_263), (2, .int v_40), (0, .ref hu), (1, .ref hw0)]) hx hb dX7_sumFor_21 rfl hl (by decide) rfl (fun ls hl => ?_)
    refine lv_aload_n hx hb dX7_sumFor_22 rfl (lv_at hl 2 rfl) ?_
    refine va_get (D := D) (ci := 5) (v := .ref ru2) (C := "WrongHole$Rule") (T := TX7) (N := 3) hx hb hts (iq_RX7 _) hown hK hPo 0 rfl rfl 1 (by decide) (hT _ qq_3_147) (fun _ h9 => h9) rfl dX7_sumFor_23 ?_
    refine lv_iload_n hx hb dX7_sumFor_26 rfl (lv_at hl 1 rfl) ?_
    refine lv_iconst (v := 2) hx hb dX7_sumFor_27 (by decide) ?_
    refine lv_iadd hx hb dX7_sumFor_28 ?_
    refine lv_topi (fun x_266 e_267 => ?_)
    have r_268 : Rg 2 24 x_266 := Rg.add e_267 r_257 (Rg.c (c := 2) (k := 2) rfl) (by decide)
    have hi_269 : vp_in x_266 n2 := in_b e_253 c_255 e_267 r_257 (Rg.c (c := 2) (k := 2) rfl) (Rg.c (c := 2) (k := 2) rfl) (by decide) (Nat.lt_of_le_of_lt hn2 (by decide))
    refine va_iald hx hb hK hPo 2 0 rfl rfl hi_269 dX7_sumFor_29 ?_
    refine lv_topi (fun x_270 e_271 => ?_)
    have r_272 : Rg 0 400 x_270 := Rg.of e_271 (a_gb_ _ (in_lt hi_269))
    refine lv_istore (lv' := [(4, .int x_270), (3, .int x_263), (2, .int v_40), (0, .ref hu), (1, .ref hw0)]) hx hb dX7_sumFor_30 hl (by decide) rfl (fun ls hl => ?_)
    refine lv_iload_n hx hb dX7_sumFor_32 rfl (lv_at hl 1 rfl) ?_
    refine lv_iload hx hb dX7_sumFor_33 (lv_at hl 0 rfl) ?_
    refine lv_icmp_eq (tgt := 51) hx hb dX7_sumFor_35 (by decide) (fun c_273 => ?_) (fun c_273 => ?_)
    · refine lv_aload_n hx hb dX7_sumFor_51 rfl (lv_at hl 3 rfl) ?_
      refine lv_aload_n hx hb dX7_sumFor_52 rfl (lv_at hl 3 rfl) ?_
      refine va_get (D := D) (ci := 5) (v := .ref ru2) (C := "WrongHole$Rule") (T := TX7) (N := 3) hx hb hts (iq_RX7 _) hown hK hPo 0 rfl rfl 1 (by decide) (hT _ qq_3_147) (fun _ h9 => h9) rfl dX7_sumFor_53 ?_
      refine lv_iload_n hx hb dX7_sumFor_56 rfl (lv_at hl 2 rfl) ?_
      have hi_274 : vp_in v_40 n2 := in_b0 e_253 c_255 r_257 (Rg.c (c := 2) (k := 2) rfl) (by decide) (Nat.lt_of_le_of_lt hn2 (by decide))
      refine va_iald hx hb hK hPo 2 0 rfl rfl hi_274 dX7_sumFor_57 ?_
      refine lv_topi (fun x_275 e_276 => ?_)
      have r_277 : Rg 0 400 x_275 := Rg.of e_276 (a_gb_ _ (in_lt hi_274))
      refine lv_iload_n hx hb dX7_sumFor_58 rfl (lv_at hl 1 rfl) ?_
      refine lv_aload_n hx hb dX7_sumFor_59 rfl (lv_at hl 4 rfl) ?_
      have hPc := hP.sub (ws' := [(ru3, .inl ((cs 4), 64, .inr (.inl g_41)))]) [0] rfl
      have hDc := hD.sub (ws' := [(ru3, .inl ((cs 4), 64, .inr (.inl g_41)))]) [0] (by decide) rfl
      have hFc := va_free (wc := [(ru3, .inl ((cs 4), 64, .inr (.inl g_41)))]) hD hS hA [0] rfl
      refine va_calll (va_runV (As := [.int x_275, .int x_263, .ref hw0]) (rest := []) ⟨hx, hb, hml, hown, hts⟩ (c_Rule_reckon l D cs X H.size hu ru1 ru2 ru3 n1 n2 gc_ gb_ g_41 hw0 gw x_275 x_263 hn1 hn2 r_277 r_265) ⟨callB_of 3 hts (gd_C qq_4_94) rfl rfl rfl (hT _ qq_1_18) (hT _ qq_4_91) (by decide +kernel) (rm_R rfl rfl), (hT _ qq_4_93), (hT _ qs_0_15)⟩ (pr_W hPc hK hDc hN (hR.sub (wo' := [(hu, .inr (5, [.ref ru1, .ref ru2, .ref ru3])), (ru1, .inl ((cs 0), n1, .inl gc_)), (ru2, .inl ((cs 0), n2, .inl gb_)), (hw0, .inl ((cs 0), 12, .inl gw))]) [0, 1, 2, 3] rfl) hS hFc hX hXs (ci := 5) (q0 := 0) rfl rfl) rfl rfl hl.1 rfl (lv_room (Nat.le_of_ble_eq_true rfl)) dX7_sumFor_60 ⟨Nat.le_of_ble_eq_true rfl, Nat.le_of_ble_eq_true rfl⟩) hS (fun q _ h => hFc q h) hFc (fun x_282 u_278 t_281 H1 locs ht9 hvm hw_279 hB_280 hz1 hk1 hS => ?_)
      obtain ⟨g_283, hP1, hD1⟩ := hB_280
      rw [ht9] at hP1
      obtain ⟨hP, hD⟩ := va_join (wr := []) (w1 := [(ru3, .inl ((cs 4), 64, .inr (.inl g_283)))]) hP hD [0] [] rfl rfl (by decide) (by decide) hk1 hFc hP1 hD1
      generalize H1 = H at hP hS ⊢
      have hP : va_P D vwCl [(ru3, .inl ((cs 4), 64, .inr (.inl g_283)))] H := hP
      have hD : va_D A [(ru3, .inl ((cs 4), 64, .inr (.inl g_283)))] := hD
      have hPo := hR.at hS
      refine W.widen (k := 0) (n := 0) (Nat.le_of_ble_eq_true rfl) (Nat.le_of_ble_eq_true rfl) ?_
      have hP9 := hP.sub (ws' := [(ru3, .inl ((cs 4), 64, .inr (.inl g_283)))]) [0] rfl
      have hD9 := hD.sub (ws' := [(ru3, .inl ((cs 4), 64, .inr (.inl g_283)))]) [0] (by decide) rfl
      exact W.lret (v := x_282) hx hb hr (fun t9 ht9 hW9 => ⟨⟨_, (), rfl, trivial, ⟨g_283, by rw [ht9]; exact hP9, hD9⟩⟩, hS.F ht9⟩) hS.2.2 dX7_sumFor_63
    · refine lv_aload_n hx hb dX7_sumFor_38 rfl (lv_at hl 3 rfl) ?_
      refine lv_iload_n hx hb dX7_sumFor_39 rfl (lv_at hl 1 rfl) ?_
      refine lv_iload hx hb dX7_sumFor_40 (lv_at hl 0 rfl) ?_
      refine lv_aload_n hx hb dX7_sumFor_42 rfl (lv_at hl 4 rfl) ?_
      have hPc := hP.sub (ws' := [(ru3, .inl ((cs 4), 64, .inr (.inl g_41)))]) [0] rfl
      have hDc := hD.sub (ws' := [(ru3, .inl ((cs 4), 64, .inr (.inl g_41)))]) [0] (by decide) rfl
      have hFc := va_free (wc := [(ru3, .inl ((cs 4), 64, .inr (.inl g_41)))]) hD hS hA [0] rfl
      refine va_calll (va_runV (As := [.int x_263, .int x_270, .ref hw0]) (rest := []) ⟨hx, hb, hml, hown, hts⟩ (c_Rule_reckon l D cs X H.size hu ru1 ru2 ru3 n1 n2 gc_ gb_ g_41 hw0 gw x_263 x_270 hn1 hn2 r_265 r_272) ⟨callB_of 3 hts (gd_C qq_4_94) rfl rfl rfl (hT _ qq_1_18) (hT _ qq_4_91) (by decide +kernel) (rm_R rfl rfl), (hT _ qq_4_93), (hT _ qs_0_15)⟩ (pr_W hPc hK hDc hN (hR.sub (wo' := [(hu, .inr (5, [.ref ru1, .ref ru2, .ref ru3])), (ru1, .inl ((cs 0), n1, .inl gc_)), (ru2, .inl ((cs 0), n2, .inl gb_)), (hw0, .inl ((cs 0), 12, .inl gw))]) [0, 1, 2, 3] rfl) hS hFc hX hXs (ci := 5) (q0 := 0) rfl rfl) rfl rfl hl.1 rfl (lv_room (Nat.le_of_ble_eq_true rfl)) dX7_sumFor_43 ⟨Nat.le_of_ble_eq_true rfl, Nat.le_of_ble_eq_true rfl⟩) hS (fun q _ h => hFc q h) hFc (fun x_288 u_284 t_287 H1 locs ht9 hvm hw_285 hB_286 hz1 hk1 hS => ?_)
      obtain ⟨g_289, hP1, hD1⟩ := hB_286
      rw [ht9] at hP1
      obtain ⟨hP, hD⟩ := va_join (wr := []) (w1 := [(ru3, .inl ((cs 4), 64, .inr (.inl g_289)))]) hP hD [0] [] rfl rfl (by decide) (by decide) hk1 hFc hP1 hD1
      generalize H1 = H at hP hS ⊢
      have hP : va_P D vwCl [(ru3, .inl ((cs 4), 64, .inr (.inl g_289)))] H := hP
      have hD : va_D A [(ru3, .inl ((cs 4), 64, .inr (.inl g_289)))] := hD
      have hPo := hR.at hS
      refine lv_lconst (v := 0) hx hb dX7_sumFor_46 (by decide) ?_
      refine W.lcmp hx hb dX7_sumFor_47 ?_
      refine lv_topi (fun x_290 e_291 => ?_)
      have r_292 : Rg (-1) 1 x_290 := Rg.of e_291 (cmp_r _ _)
      refine lv_if_eq (tgt := 64) hx hb dX7_sumFor_48 (by decide) (fun c_293 => ?_) (fun c_293 => ?_)
      · have r_294 : Rg 0 0 x_290 := Rg.eq_l c_293 r_292 (Rg.c (c := 0) (k := 0) rfl) (by decide)
        obtain ⟨x_295, e_296⟩ : ∃ z : Int32, z = v_40 + Int32.ofInt 2 := ⟨_, rfl⟩
        have r_297 : Rg 2 24 x_295 := Rg.add e_296 r_257 (Rg.c (c := Int32.ofInt 2) (k := 2) rfl) (by decide)
        refine lv_iinc (v := x_295) (lv' := [(2, .int x_295), (4, .int x_270), (3, .int x_263), (0, .ref hu), (1, .ref hw0)]) hx hb dX7_sumFor_64 hl (k := 2) rfl (e_296.symm) (by decide) rfl (fun ls hl => ?_)
        refine lv_goto (tgt := 2) hx hb dX7_sumFor_67 (by decide) ?_
        exact ih_250 (x_295, g_289) _ _ _ ⟨(Rg.wk (lo2 := 0) (hi2 := 24) r_297 (by decide)), hP, hD, hS, lv_sub hl [0, 3, 4] rfl⟩ (ms_up e_296 r_257 (Rg.c (c := Int32.ofInt 2) (k := 2) rfl) (by decide))
      · refine lv_aload_n hx hb dX7_sumFor_51 rfl (lv_at hl 3 rfl) ?_
        refine lv_aload_n hx hb dX7_sumFor_52 rfl (lv_at hl 3 rfl) ?_
        refine va_get (D := D) (ci := 5) (v := .ref ru2) (C := "WrongHole$Rule") (T := TX7) (N := 3) hx hb hts (iq_RX7 _) hown hK hPo 0 rfl rfl 1 (by decide) (hT _ qq_3_147) (fun _ h9 => h9) rfl dX7_sumFor_53 ?_
        refine lv_iload_n hx hb dX7_sumFor_56 rfl (lv_at hl 2 rfl) ?_
        have hi_298 : vp_in v_40 n2 := in_b0 e_253 c_255 r_257 (Rg.c (c := 2) (k := 2) rfl) (by decide) (Nat.lt_of_le_of_lt hn2 (by decide))
        refine va_iald hx hb hK hPo 2 0 rfl rfl hi_298 dX7_sumFor_57 ?_
        refine lv_topi (fun x_299 e_300 => ?_)
        have r_301 : Rg 0 400 x_299 := Rg.of e_300 (a_gb_ _ (in_lt hi_298))
        refine lv_iload_n hx hb dX7_sumFor_58 rfl (lv_at hl 1 rfl) ?_
        refine lv_aload_n hx hb dX7_sumFor_59 rfl (lv_at hl 4 rfl) ?_
        have hPc := hP.sub (ws' := [(ru3, .inl ((cs 4), 64, .inr (.inl g_289)))]) [0] rfl
        have hDc := hD.sub (ws' := [(ru3, .inl ((cs 4), 64, .inr (.inl g_289)))]) [0] (by decide) rfl
        have hFc := va_free (wc := [(ru3, .inl ((cs 4), 64, .inr (.inl g_289)))]) hD hS hA [0] rfl
        refine va_calll (va_runV (As := [.int x_299, .int x_263, .ref hw0]) (rest := []) ⟨hx, hb, hml, hown, hts⟩ (c_Rule_reckon l D cs X H.size hu ru1 ru2 ru3 n1 n2 gc_ gb_ g_289 hw0 gw x_299 x_263 hn1 hn2 r_301 r_265) ⟨callB_of 3 hts (gd_C qq_4_94) rfl rfl rfl (hT _ qq_1_18) (hT _ qq_4_91) (by decide +kernel) (rm_R rfl rfl), (hT _ qq_4_93), (hT _ qs_0_15)⟩ (pr_W hPc hK hDc hN (hR.sub (wo' := [(hu, .inr (5, [.ref ru1, .ref ru2, .ref ru3])), (ru1, .inl ((cs 0), n1, .inl gc_)), (ru2, .inl ((cs 0), n2, .inl gb_)), (hw0, .inl ((cs 0), 12, .inl gw))]) [0, 1, 2, 3] rfl) hS hFc hX hXs (ci := 5) (q0 := 0) rfl rfl) rfl rfl hl.1 rfl (lv_room (Nat.le_of_ble_eq_true rfl)) dX7_sumFor_60 ⟨Nat.le_of_ble_eq_true rfl, Nat.le_of_ble_eq_true rfl⟩) hS (fun q _ h => hFc q h) hFc (fun x_306 u_302 t_305 H1 locs ht9 hvm hw_303 hB_304 hz1 hk1 hS => ?_)
        obtain ⟨g_307, hP1, hD1⟩ := hB_304
        rw [ht9] at hP1
        obtain ⟨hP, hD⟩ := va_join (wr := []) (w1 := [(ru3, .inl ((cs 4), 64, .inr (.inl g_307)))]) hP hD [0] [] rfl rfl (by decide) (by decide) hk1 hFc hP1 hD1
        generalize H1 = H at hP hS ⊢
        have hP : va_P D vwCl [(ru3, .inl ((cs 4), 64, .inr (.inl g_307)))] H := hP
        have hD : va_D A [(ru3, .inl ((cs 4), 64, .inr (.inl g_307)))] := hD
        have hPo := hR.at hS
        refine W.widen (k := 0) (n := 0) (Nat.le_of_ble_eq_true rfl) (Nat.le_of_ble_eq_true rfl) ?_
        have hP9 := hP.sub (ws' := [(ru3, .inl ((cs 4), 64, .inr (.inl g_307)))]) [0] rfl
        have hD9 := hD.sub (ws' := [(ru3, .inl ((cs 4), 64, .inr (.inl g_307)))]) [0] (by decide) rfl
        exact W.lret (v := x_306) hx hb hr (fun t9 ht9 hW9 => ⟨⟨_, (), rfl, trivial, ⟨g_307, by rw [ht9]; exact hP9, hD9⟩⟩, hS.F ht9⟩) hS.2.2 dX7_sumFor_63
