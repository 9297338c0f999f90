theorem dX11_count_0 : decode cX11_count 0 = .ok (.aload_n 0, 1) := by decide +kernel
theorem dX11_count_1 : decode cX11_count 1 = .ok (.getfield 32, 3) := by decide +kernel
theorem dX11_count_4 : decode cX11_count 4 = .ok (.getfield 86, 3) := by decide +kernel
theorem dX11_count_7 : decode cX11_count 7 = .ok (.astore_n 2, 1) := by decide +kernel
theorem dX11_count_8 : decode cX11_count 8 = .ok (.iload_n 1, 1) := by decide +kernel
theorem dX11_count_9 : decode cX11_count 9 = .ok (.tableswitch 178 0 11 #[63, 76, 89, 94, 107, 115, 123, 136, 149, 157, 162, 170], 63) := by decide +kernel
theorem dX11_count_187 : decode cX11_count 187 = .ok (.iconst (-1), 1) := by decide +kernel
theorem dX11_count_188 : decode cX11_count 188 = .ok (.ireturn, 1) := by decide +kernel
theorem dX11_count_72 : decode cX11_count 72 = .ok (.aload_n 2, 1) := by decide +kernel
theorem dX11_count_73 : decode cX11_count 73 = .ok (.ifnonnull 7, 3) := by decide +kernel
theorem dX11_count_76 : decode cX11_count 76 = .ok (.iconst 0, 1) := by decide +kernel
theorem dX11_count_77 : decode cX11_count 77 = .ok (.goto 7, 3) := by decide +kernel
theorem dX11_count_84 : decode cX11_count 84 = .ok (.ireturn, 1) := by decide +kernel
theorem dX11_count_85 : decode cX11_count 85 = .ok (.aload_n 2, 1) := by decide +kernel
theorem dX11_count_86 : decode cX11_count 86 = .ok (.ifnonnull 7, 3) := by decide +kernel
theorem dX11_count_89 : decode cX11_count 89 = .ok (.iconst 0, 1) := by decide +kernel
theorem dX11_count_90 : decode cX11_count 90 = .ok (.goto 7, 3) := by decide +kernel
theorem dX11_count_97 : decode cX11_count 97 = .ok (.ireturn, 1) := by decide +kernel
theorem dX11_count_98 : decode cX11_count 98 = .ok (.aload_n 0, 1) := by decide +kernel
theorem dX11_count_99 : decode cX11_count 99 = .ok (.getfield 108, 3) := by decide +kernel
theorem qq_1_205 : Cond.fieldLink "WrongHole" 108 "WrongHole" "ruleCount" "I" ∈ TB := mk_tb (ti_1 (List.mem_of_getElem? (i := 205) rfl)) rfl
theorem dX11_count_102 : decode cX11_count 102 = .ok (.ireturn, 1) := by decide +kernel
theorem dX11_count_103 : decode cX11_count 103 = .ok (.aload_n 2, 1) := by decide +kernel
theorem dX11_count_104 : decode cX11_count 104 = .ok (.ifnonnull 7, 3) := by decide +kernel
theorem dX11_count_107 : decode cX11_count 107 = .ok (.iconst 0, 1) := by decide +kernel
theorem dX11_count_108 : decode cX11_count 108 = .ok (.goto 7, 3) := by decide +kernel
theorem dX11_count_115 : decode cX11_count 115 = .ok (.ireturn, 1) := by decide +kernel
theorem dX11_count_116 : decode cX11_count 116 = .ok (.aload_n 0, 1) := by decide +kernel
theorem dX11_count_117 : decode cX11_count 117 = .ok (.getfield 32, 3) := by decide +kernel
theorem dX11_count_120 : decode cX11_count 120 = .ok (.getfield 96, 3) := by decide +kernel
theorem dX11_count_123 : decode cX11_count 123 = .ok (.ireturn, 1) := by decide +kernel
theorem dX11_count_124 : decode cX11_count 124 = .ok (.aload_n 0, 1) := by decide +kernel
theorem dX11_count_125 : decode cX11_count 125 = .ok (.getfield 43, 3) := by decide +kernel
theorem dX11_count_128 : decode cX11_count 128 = .ok (.getfield 203, 3) := by decide +kernel
theorem dX11_count_131 : decode cX11_count 131 = .ok (.ireturn, 1) := by decide +kernel
theorem dX11_count_132 : decode cX11_count 132 = .ok (.aload_n 2, 1) := by decide +kernel
theorem dX11_count_133 : decode cX11_count 133 = .ok (.ifnonnull 7, 3) := by decide +kernel
theorem dX11_count_136 : decode cX11_count 136 = .ok (.iconst (-1), 1) := by decide +kernel
theorem dX11_count_137 : decode cX11_count 137 = .ok (.goto 7, 3) := by decide +kernel
theorem dX11_count_144 : decode cX11_count 144 = .ok (.ireturn, 1) := by decide +kernel
theorem dX11_count_145 : decode cX11_count 145 = .ok (.aload_n 2, 1) := by decide +kernel
theorem dX11_count_146 : decode cX11_count 146 = .ok (.ifnonnull 7, 3) := by decide +kernel
theorem dX11_count_149 : decode cX11_count 149 = .ok (.iconst 0, 1) := by decide +kernel
theorem dX11_count_150 : decode cX11_count 150 = .ok (.goto 7, 3) := by decide +kernel
theorem dX11_count_157 : decode cX11_count 157 = .ok (.ireturn, 1) := by decide +kernel
theorem dX11_count_158 : decode cX11_count 158 = .ok (.aload_n 0, 1) := by decide +kernel
theorem dX11_count_159 : decode cX11_count 159 = .ok (.getfield 32, 3) := by decide +kernel
theorem dX11_count_162 : decode cX11_count 162 = .ok (.getfield 99, 3) := by decide +kernel
theorem dX11_count_165 : decode cX11_count 165 = .ok (.ireturn, 1) := by decide +kernel
theorem dX11_count_166 : decode cX11_count 166 = .ok (.aload_n 0, 1) := by decide +kernel
theorem dX11_count_167 : decode cX11_count 167 = .ok (.invokevirtual 333, 3) := by decide +kernel
theorem qq_5_131 : Cond.code yX11_emptySeats cX11_emptySeats 3 (some .int) ∈ TB := mk_tb (ti_5 (List.mem_of_getElem? (i := 131) rfl)) rfl
theorem qq_5_128 : Cond.methodLink "WrongHole" 333 yX11_emptySeats ∈ TB := mk_tb (ti_5 (List.mem_of_getElem? (i := 128) rfl)) rfl
theorem qq_5_130 : Cond.instanceMethod yX11_emptySeats ∈ TB := mk_tb (ti_5 (List.mem_of_getElem? (i := 130) rfl)) rfl
theorem qs_1_14 : Cond.selects "WrongHole" yX11_emptySeats yX11_emptySeats ∈ TB := mk_tb (ti_s (q := (yX11_emptySeats, 12)) (List.mem_append_right _ (List.mem_append_left _ (List.mem_of_getElem? (i := 14) rfl)))) rfl
theorem dX11_count_170 : decode cX11_count 170 = .ok (.ireturn, 1) := by decide +kernel
theorem dX11_count_171 : decode cX11_count 171 = .ok (.aload_n 0, 1) := by decide +kernel
theorem dX11_count_172 : decode cX11_count 172 = .ok (.getfield 32, 3) := by decide +kernel
theorem dX11_count_175 : decode cX11_count 175 = .ok (.getfield 315, 3) := by decide +kernel
theorem dX11_count_178 : decode cX11_count 178 = .ok (.ireturn, 1) := by decide +kernel
theorem dX11_count_179 : decode cX11_count 179 = .ok (.aload_n 0, 1) := by decide +kernel
theorem dX11_count_180 : decode cX11_count 180 = .ok (.getfield 10, 3) := by decide +kernel
theorem dX11_count_183 : decode cX11_count 183 = .ok (.getfield 73, 3) := by decide +kernel
theorem dX11_count_186 : decode cX11_count 186 = .ok (.ireturn, 1) := by decide +kernel
set_option maxHeartbeats 4000000 in
set_option maxRecDepth 100000 in
theorem c_W_count_n (l : Launch) (D : va_G) (cs : Nat → ClassId) (ox : Nat) (ht : Nat) (hq : Nat) (og : Nat) (rc : Int32) (hw : Nat) (om : Nat) (hp : Nat) (ha : Nat) (hf : Nat) (hw0 : Nat) (qh : Option Nat) (qo : Option Nat) (wk : Int32) (wc : Int32) (wx : Int32) (wn : Int32) (wa0 : Nat) (wa1 : Nat) (wa2 : Nat) (wa3 : Nat) (wf3 : Nat → Int32) (pk : Nat) (pc_ : Nat) (pn : Int32) (ps : Int32) (gk : Nat → Int32) (gk2 : Nat → Int32) (hs : Nat) (tl : Int32) (tk : Int32) (tp : Int32) (tb : Int32) (tv : Int32) (tn : Int32) (tf : Int32) (gt : Nat → Int32) (a : Int32)  : Met l yX11_count (Cond.code yX11_count cX11_count 3 (some .int) :: TB) (RM 1 0 0) (va_Pc [.ref ox, .int a] (PRR D cs [(ox, .inr (9, [.ref ht, .ref hq, .ref og, .int rc, .ref hw, .ref om, .ref hp, .ref ha, .ref hf, .ref hw0, va_rf qh, va_rf qo])), (hw, .inr (8, [.null, .int wk, .int wc, .int wx, .int wn, .ref wa0, .ref wa1, .ref wa2, .ref wa3])), (wa3, .inl ((cs 0), 10, .inl wf3)), (hp, .inr (3, [.ref pk, .ref pc_, .int pn, .int ps])), (ht, .inr (7, [.ref hs, .int tl, .int tk, .int tp, .int tb, .int tv, .int tn, .int tf]))])) (QP (fun v => ∃ x : Int32, v = .int x)) 0 0 (fun _ => False) := by
  refine MER (y := yX11_count) (cc := cX11_count) (maxL := 3) (ret := (some .int)) (d := 1) (D := D) (cs := cs) (ws := [(ox, .inr (9, [.ref ht, .ref hq, .ref og, .int rc, .ref hw, .ref om, .ref hp, .ref ha, .ref hf, .ref hw0, va_rf qh, va_rf qo])), (hw, .inr (8, [.null, .int wk, .int wc, .int wx, .int wn, .ref wa0, .ref wa1, .ref wa2, .ref wa3])), (wa3, .inl ((cs 0), 10, .inl wf3)), (hp, .inr (3, [.ref pk, .ref pc_, .int pn, .int ps])), (ht, .inr (7, [.ref hs, .int tl, .int tk, .int tp, .int tb, .int tv, .int tn, .int tf]))]) (av := [.ref ox, .int a]) (Qc := QP (fun v => ∃ x : Int32, v = .int x)) (by decide) (Nat.le_of_ble_eq_true rfl) ?_
  intro p e s m below meth c ls H hHe hx hb hr hml hown hts hlocks hP hK hN hl
  obtain ⟨locs, hlc⟩ : ∃ z : List Loc, z = [] := ⟨_, rfl⟩
  rw [← hlc]
  have hown : s.vm.findClass "WrongHole" = some m.cls := hown
  have hT : ∀ w ∈ TB, w.before ([.ref ox, .int a] : List Value).toArray s = true := fun w h => hts w (List.mem_cons_of_mem _ h)
  have hl : lv_has ls 3 [(0, .ref ox), (1, .int a)] := hl
  have hP : va_P D vwCl [(ox, .inr (9, [.ref ht, .ref hq, .ref og, .int rc, .ref hw, .ref om, .ref hp, .ref ha, .ref hf, .ref hw0, va_rf qh, va_rf qo])), (hw, .inr (8, [.null, .int wk, .int wc, .int wx, .int wn, .ref wa0, .ref wa1, .ref wa2, .ref wa3])), (wa3, .inl ((cs 0), 10, .inl wf3)), (hp, .inr (3, [.ref pk, .ref pc_, .int pn, .int ps])), (ht, .inr (7, [.ref hs, .int tl, .int tk, .int tp, .int tb, .int tv, .int tn, .int tf]))] H := hP
  refine lv_aload_n hx hb dX11_count_0 rfl (lv_at hl 0 rfl) ?_
  refine va_get (D := D) (ci := 9) (v := .ref hw) (C := "WrongHole") (T := TX11) (N := 12) hx hb hts (iq_RX11 _) hown hK hP 0 rfl rfl 4 (by decide) (hT _ qq_1_206) (fun _ h9 => h9) rfl dX11_count_1 ?_
  refine va_getN (D := D) (ci := 8) (v := .null) (C := "WrongHole$Worn") (T := TX10) (N := 9) hx hb hts (iq_RX10 _) hown hK hP 1 rfl rfl 0 (by decide) (NN.f hN nq_1_99) (fun _ h9 => h9) rfl dX11_count_4 ?_
  refine lv_astore_nN (lv' := [(2, .null), (0, .ref ox), (1, .int a)]) hx hb dX11_count_7 rfl hl (by decide) rfl (fun ls hl => ?_)
  refine lv_iload_n hx hb dX11_count_8 rfl (lv_at hl 2 rfl) ?_
  rcases sw_0_11 a with c_1 | c_1 | c_1 | c_1 | c_1 | c_1 | c_1 | c_1 | c_1 | c_1 | c_1 | c_1 | c_1
  · refine lv_tableOut (tgt := 187) hx hb dX11_count_9 c_1 (by decide) ?_
    refine lv_iconst (v := (-1)) hx hb dX11_count_187 (by decide) ?_
    exact W.iret (v := (-1)) hx hb hr (fun t9 ht9 hW9 => ⟨⟨_, rfl, _, rfl⟩, ht9.trans hHe⟩) (fun _ h9 => by rw [hlc] at h9; exact absurd h9 List.not_mem_nil) dX11_count_188
  · refine tc_i 0 c_1 ?_
    have r_2 : Rg 0 0 a := Rg.of c_1 (Rg.c rfl)
    refine lv_tableIn (tgt := 72) hx hb dX11_count_9 (by decide) (by decide) rfl (by decide) ?_
    refine lv_aload_nN hx hb dX11_count_72 rfl (lv_at hl 0 rfl) ?_
    refine lv_ifnonnullN hx hb dX11_count_73 ?_
    refine lv_iconst (v := 0) hx hb dX11_count_76 (by decide) ?_
    refine lv_goto (tgt := 84) hx hb dX11_count_77 (by decide) ?_
    exact W.iret (v := 0) hx hb hr (fun t9 ht9 hW9 => ⟨⟨_, rfl, _, rfl⟩, ht9.trans hHe⟩) (fun _ h9 => by rw [hlc] at h9; exact absurd h9 List.not_mem_nil) dX11_count_84
  · refine tc_i 1 c_1 ?_
    have r_3 : Rg 1 1 a := Rg.of c_1 (Rg.c rfl)
    refine lv_tableIn (tgt := 85) hx hb dX11_count_9 (by decide) (by decide) rfl (by decide) ?_
    refine lv_aload_nN hx hb dX11_count_85 rfl (lv_at hl 0 rfl) ?_
    refine lv_ifnonnullN hx hb dX11_count_86 ?_
    refine lv_iconst (v := 0) hx hb dX11_count_89 (by decide) ?_
    refine lv_goto (tgt := 97) hx hb dX11_count_90 (by decide) ?_
    exact W.iret (v := 0) hx hb hr (fun t9 ht9 hW9 => ⟨⟨_, rfl, _, rfl⟩, ht9.trans hHe⟩) (fun _ h9 => by rw [hlc] at h9; exact absurd h9 List.not_mem_nil) dX11_count_97
  · refine tc_i 2 c_1 ?_
    have r_4 : Rg 2 2 a := Rg.of c_1 (Rg.c rfl)
    refine lv_tableIn (tgt := 98) hx hb dX11_count_9 (by decide) (by decide) rfl (by decide) ?_
    refine lv_aload_n hx hb dX11_count_98 rfl (lv_at hl 1 rfl) ?_
    refine va_get (D := D) (ci := 9) (v := .int rc) (C := "WrongHole") (T := TX11) (N := 12) hx hb hts (iq_RX11 _) hown hK hP 0 rfl rfl 3 (by decide) (hT _ qq_1_205) (fun _ h9 => h9) rfl dX11_count_99 ?_
    exact W.iret (v := rc) hx hb hr (fun t9 ht9 hW9 => ⟨⟨_, rfl, _, rfl⟩, ht9.trans hHe⟩) (fun _ h9 => by rw [hlc] at h9; exact absurd h9 List.not_mem_nil) dX11_count_102
  · refine tc_i 3 c_1 ?_
    have r_5 : Rg 3 3 a := Rg.of c_1 (Rg.c rfl)
    refine lv_tableIn (tgt := 103) hx hb dX11_count_9 (by decide) (by decide) rfl (by decide) ?_
    refine lv_aload_nN hx hb dX11_count_103 rfl (lv_at hl 0 rfl) ?_
    refine lv_ifnonnullN hx hb dX11_count_104 ?_
    refine lv_iconst (v := 0) hx hb dX11_count_107 (by decide) ?_
    refine lv_goto (tgt := 115) hx hb dX11_count_108 (by decide) ?_
    exact W.iret (v := 0) hx hb hr (fun t9 ht9 hW9 => ⟨⟨_, rfl, _, rfl⟩, ht9.trans hHe⟩) (fun _ h9 => by rw [hlc] at h9; exact absurd h9 List.not_mem_nil) dX11_count_115
  · refine tc_i 4 c_1 ?_
    have r_6 : Rg 4 4 a := Rg.of c_1 (Rg.c rfl)
    refine lv_tableIn (tgt := 116) hx hb dX11_count_9 (by decide) (by decide) rfl (by decide) ?_
    refine lv_aload_n hx hb dX11_count_116 rfl (lv_at hl 1 rfl) ?_
    refine va_get (D := D) (ci := 9) (v := .ref hw) (C := "WrongHole") (T := TX11) (N := 12) hx hb hts (iq_RX11 _) hown hK hP 0 rfl rfl 4 (by decide) (hT _ qq_1_206) (fun _ h9 => h9) rfl dX11_count_117 ?_
    refine va_getN (D := D) (ci := 8) (v := .int wc) (C := "WrongHole$Worn") (T := TX10) (N := 9) hx hb hts (iq_RX10 _) hown hK hP 1 rfl rfl 2 (by decide) (NN.f hN nq_1_103) (fun _ h9 => h9) rfl dX11_count_120 ?_
    exact W.iret (v := wc) hx hb hr (fun t9 ht9 hW9 => ⟨⟨_, rfl, _, rfl⟩, ht9.trans hHe⟩) (fun _ h9 => by rw [hlc] at h9; exact absurd h9 List.not_mem_nil) dX11_count_123
  · refine tc_i 5 c_1 ?_
    have r_7 : Rg 5 5 a := Rg.of c_1 (Rg.c rfl)
    refine lv_tableIn (tgt := 124) hx hb dX11_count_9 (by decide) (by decide) rfl (by decide) ?_
    refine lv_aload_n hx hb dX11_count_124 rfl (lv_at hl 1 rfl) ?_
    refine va_get (D := D) (ci := 9) (v := .ref hp) (C := "WrongHole") (T := TX11) (N := 12) hx hb hts (iq_RX11 _) hown hK hP 0 rfl rfl 6 (by decide) (hT _ qq_1_208) (fun _ h9 => h9) rfl dX11_count_125 ?_
    refine va_getN (D := D) (ci := 3) (v := .int ps) (C := "WrongHole$Past") (T := TX4) (N := 4) hx hb hts (iq_RX4 _) hown hK hP 3 rfl rfl 3 (by decide) (NN.f hN nq_1_146) (fun _ h9 => h9) rfl dX11_count_128 ?_
    exact W.iret (v := ps) hx hb hr (fun t9 ht9 hW9 => ⟨⟨_, rfl, _, rfl⟩, ht9.trans hHe⟩) (fun _ h9 => by rw [hlc] at h9; exact absurd h9 List.not_mem_nil) dX11_count_131
  · refine tc_i 6 c_1 ?_
    have r_8 : Rg 6 6 a := Rg.of c_1 (Rg.c rfl)
    refine lv_tableIn (tgt := 132) hx hb dX11_count_9 (by decide) (by decide) rfl (by decide) ?_
    refine lv_aload_nN hx hb dX11_count_132 rfl (lv_at hl 0 rfl) ?_
    refine lv_ifnonnullN hx hb dX11_count_133 ?_
    refine lv_iconst (v := (-1)) hx hb dX11_count_136 (by decide) ?_
    refine lv_goto (tgt := 144) hx hb dX11_count_137 (by decide) ?_
    exact W.iret (v := (-1)) hx hb hr (fun t9 ht9 hW9 => ⟨⟨_, rfl, _, rfl⟩, ht9.trans hHe⟩) (fun _ h9 => by rw [hlc] at h9; exact absurd h9 List.not_mem_nil) dX11_count_144
  · refine tc_i 7 c_1 ?_
    have r_9 : Rg 7 7 a := Rg.of c_1 (Rg.c rfl)
    refine lv_tableIn (tgt := 145) hx hb dX11_count_9 (by decide) (by decide) rfl (by decide) ?_
    refine lv_aload_nN hx hb dX11_count_145 rfl (lv_at hl 0 rfl) ?_
    refine lv_ifnonnullN hx hb dX11_count_146 ?_
    refine lv_iconst (v := 0) hx hb dX11_count_149 (by decide) ?_
    refine lv_goto (tgt := 157) hx hb dX11_count_150 (by decide) ?_
    exact W.iret (v := 0) hx hb hr (fun t9 ht9 hW9 => ⟨⟨_, rfl, _, rfl⟩, ht9.trans hHe⟩) (fun _ h9 => by rw [hlc] at h9; exact absurd h9 List.not_mem_nil) dX11_count_157
  · refine tc_i 8 c_1 ?_
    have r_10 : Rg 8 8 a := Rg.of c_1 (Rg.c rfl)
    refine lv_tableIn (tgt := 158) hx hb dX11_count_9 (by decide) (by decide) rfl (by decide) ?_
    refine lv_aload_n hx hb dX11_count_158 rfl (lv_at hl 1 rfl) ?_
    refine va_get (D := D) (ci := 9) (v := .ref hw) (C := "WrongHole") (T := TX11) (N := 12) hx hb hts (iq_RX11 _) hown hK hP 0 rfl rfl 4 (by decide) (hT _ qq_1_206) (fun _ h9 => h9) rfl dX11_count_159 ?_
    refine va_getN (D := D) (ci := 8) (v := .int wn) (C := "WrongHole$Worn") (T := TX10) (N := 9) hx hb hts (iq_RX10 _) hown hK hP 1 rfl rfl 4 (by decide) (NN.f hN nq_1_107) (fun _ h9 => h9) rfl dX11_count_162 ?_
    exact W.iret (v := wn) hx hb hr (fun t9 ht9 hW9 => ⟨⟨_, rfl, _, rfl⟩, ht9.trans hHe⟩) (fun _ h9 => by rw [hlc] at h9; exact absurd h9 List.not_mem_nil) dX11_count_165
  · refine tc_i 9 c_1 ?_
    have r_11 : Rg 9 9 a := Rg.of c_1 (Rg.c rfl)
    refine lv_tableIn (tgt := 166) hx hb dX11_count_9 (by decide) (by decide) rfl (by decide) ?_
    refine lv_aload_n hx hb dX11_count_166 rfl (lv_at hl 1 rfl) ?_
    have hPc := va_P.sub (ws' := [(ox, .inr (9, [.ref ht, .ref hq, .ref og, .int rc, .ref hw, .ref om, .ref hp, .ref ha, .ref hf, .ref hw0, va_rf qh, va_rf qo])), (hw, .inr (8, [.null, .int wk, .int wc, .int wx, .int wn, .ref wa0, .ref wa1, .ref wa2, .ref wa3])), (wa3, .inl ((cs 0), 10, .inl wf3))]) hP [0, 1, 2] rfl
    refine cl_P (W.runV (As := []) (rest := []) ⟨hx, hb, hml, hown, hts⟩ (c_W_emptySeats_n l D cs ox ht hq og rc hw om hp ha hf hw0 qh qo wk wc wx wn wa0 wa1 wa2 wa3 wf3) ⟨callB_of 0 hts (gd_C qq_5_131) rfl rfl rfl (hT _ qq_1_1) (hT _ qq_5_128) (by decide +kernel) (rm_R rfl rfl), (hT _ qq_5_130), (hT _ qs_1_14)⟩ (pq_V hPc hK hN (ci := 9) (q0 := 0) rfl rfl) rfl rfl hl.1 rfl (lv_room (Nat.le_of_ble_eq_true rfl)) dX11_count_167 ⟨Nat.le_of_ble_eq_true rfl, Nat.le_of_ble_eq_true rfl⟩) (fun v9 hz_15 => ?_)
    obtain ⟨x_14, rfl⟩ := hz_15
    exact W.iret (v := x_14) hx hb hr (fun t9 ht9 hW9 => ⟨⟨_, rfl, _, rfl⟩, ht9.trans hHe⟩) (fun _ h9 => by rw [hlc] at h9; exact absurd h9 List.not_mem_nil) dX11_count_170
  · refine tc_i 10 c_1 ?_
    have r_12 : Rg 10 10 a := Rg.of c_1 (Rg.c rfl)
    refine lv_tableIn (tgt := 171) hx hb dX11_count_9 (by decide) (by decide) rfl (by decide) ?_
    refine lv_aload_n hx hb dX11_count_171 rfl (lv_at hl 1 rfl) ?_
    refine va_get (D := D) (ci := 9) (v := .ref hw) (C := "WrongHole") (T := TX11) (N := 12) hx hb hts (iq_RX11 _) hown hK hP 0 rfl rfl 4 (by decide) (hT _ qq_1_206) (fun _ h9 => h9) rfl dX11_count_172 ?_
    refine va_getN (D := D) (ci := 8) (v := .int wx) (C := "WrongHole$Worn") (T := TX10) (N := 9) hx hb hts (iq_RX10 _) hown hK hP 1 rfl rfl 3 (by decide) (NN.f hN nq_1_105) (fun _ h9 => h9) rfl dX11_count_175 ?_
    exact W.iret (v := wx) hx hb hr (fun t9 ht9 hW9 => ⟨⟨_, rfl, _, rfl⟩, ht9.trans hHe⟩) (fun _ h9 => by rw [hlc] at h9; exact absurd h9 List.not_mem_nil) dX11_count_178
  · refine tc_i 11 c_1 ?_
    have r_13 : Rg 11 11 a := Rg.of c_1 (Rg.c rfl)
    refine lv_tableIn (tgt := 179) hx hb dX11_count_9 (by decide) (by decide) rfl (by decide) ?_
    refine lv_aload_n hx hb dX11_count_179 rfl (lv_at hl 1 rfl) ?_
    refine va_get (D := D) (ci := 9) (v := .ref ht) (C := "WrongHole") (T := TX11) (N := 12) hx hb hts (iq_RX11 _) hown hK hP 0 rfl rfl 0 (by decide) (hT _ qq_1_202) (fun _ h9 => h9) rfl dX11_count_180 ?_
    refine va_getN (D := D) (ci := 7) (v := .int tl) (C := "WrongHole$Text") (T := TX9) (N := 8) hx hb hts (iq_RX9 _) hown hK hP 4 rfl rfl 1 (by decide) (NN.f hN nq_1_38) (fun _ h9 => h9) rfl dX11_count_183 ?_
    exact W.iret (v := tl) hx hb hr (fun t9 ht9 hW9 => ⟨⟨_, rfl, _, rfl⟩, ht9.trans hHe⟩) (fun _ h9 => by rw [hlc] at h9; exact absurd h9 List.not_mem_nil) dX11_count_186
theorem dX11_count_80 : decode cX11_count 80 = .ok (.aload_n 2, 1) := by decide +kernel
theorem dX11_count_81 : decode cX11_count 81 = .ok (.getfield 105, 3) := by decide +kernel
theorem dX11_count_93 : decode cX11_count 93 = .ok (.aload_n 2, 1) := by decide +kernel
theorem dX11_count_94 : decode cX11_count 94 = .ok (.getfield 321, 3) := by decide +kernel
theorem nq_2_39 : Cond.fieldLinkNest "WrongHole" 321 "WrongHole$Lift" "holes" "I" "WrongHole" ∈ NW := mk_nw (ti_2 (List.mem_of_getElem? (i := 39) rfl)) rfl
theorem dX11_count_111 : decode cX11_count 111 = .ok (.aload_n 2, 1) := by decide +kernel
theorem dX11_count_112 : decode cX11_count 112 = .ok (.getfield 324, 3) := by decide +kernel
theorem nq_2_58 : Cond.fieldLinkNest "WrongHole" 324 "WrongHole$Lift" "eyes" "I" "WrongHole" ∈ NW := mk_nw (ti_2 (List.mem_of_getElem? (i := 58) rfl)) rfl
theorem dX11_count_140 : decode cX11_count 140 = .ok (.aload_n 2, 1) := by decide +kernel
theorem dX11_count_141 : decode cX11_count 141 = .ok (.getfield 327, 3) := by decide +kernel
theorem nq_2_51 : Cond.fieldLinkNest "WrongHole" 327 "WrongHole$Lift" "beside" "I" "WrongHole" ∈ NW := mk_nw (ti_2 (List.mem_of_getElem? (i := 51) rfl)) rfl
theorem dX11_count_153 : decode cX11_count 153 = .ok (.aload_n 2, 1) := by decide +kernel
theorem dX11_count_154 : decode cX11_count 154 = .ok (.getfield 330, 3) := by decide +kernel
theorem nq_2_48 : Cond.fieldLinkNest "WrongHole" 330 "WrongHole$Lift" "never" "I" "WrongHole" ∈ NW := mk_nw (ti_2 (List.mem_of_getElem? (i := 48) rfl)) rfl
set_option maxHeartbeats 4000000 in
set_option maxRecDepth 100000 in
theorem c_W_count_r (l : Launch) (D : va_G) (cs : Nat → ClassId) (ox : Nat) (ht : Nat) (hq : Nat) (og : Nat) (rc : Int32) (hw : Nat) (om : Nat) (hp : Nat) (ha : Nat) (hf : Nat) (hw0 : Nat) (qh : Option Nat) (qo : Option Nat) (wk : Int32) (wc : Int32) (wx : Int32) (wn : Int32) (wa0 : Nat) (wa1 : Nat) (wa2 : Nat) (wa3 : Nat) (wf3 : Nat → Int32) (pk : Nat) (pc_ : Nat) (pn : Int32) (ps : Int32) (gk : Nat → Int32) (gk2 : Nat → Int32) (hs : Nat) (tl : Int32) (tk : Int32) (tp : Int32) (tb : Int32) (tv : Int32) (tn : Int32) (tf : Int32) (gt : Nat → Int32) (hl0 : Nat) (lb : Int32) (lh : Int32) (lg : Int32) (lw : Int32) (lv : Int32) (lbs : Int32) (lti : Int32) (lts : Int32) (le : Int32) (lk : Int32) (la : Int32) (l0 : Nat) (l1 : Nat) (l2 : Nat) (l3 : Nat) (l4 : Nat) (l5 : Nat) (l6 : Nat) (l7 : Nat) (a : Int32) (r_lb : Rg 0 8 lb) (r_lh : Rg 0 8 lh) (r_le : Rg 0 6 le) : Met l yX11_count (Cond.code yX11_count cX11_count 3 (some .int) :: TB) (RM 1 0 0) (va_Pc [.ref ox, .int a] (PRR D cs [(ox, .inr (9, [.ref ht, .ref hq, .ref og, .int rc, .ref hw, .ref om, .ref hp, .ref ha, .ref hf, .ref hw0, va_rf qh, va_rf qo])), (hw, .inr (8, [.ref hl0, .int wk, .int wc, .int wx, .int wn, .ref wa0, .ref wa1, .ref wa2, .ref wa3])), (wa3, .inl ((cs 0), 10, .inl wf3)), (hp, .inr (3, [.ref pk, .ref pc_, .int pn, .int ps])), (ht, .inr (7, [.ref hs, .int tl, .int tk, .int tp, .int tb, .int tv, .int tn, .int tf])), (hl0, .inr (2, [.int lb, .int lh, .int lg, .int lw, .int lv, .int lbs, .int lti, .int lts, .int le, .int lk, .int la, .ref l0, .ref l1, .ref l2, .ref l3, .ref l4, .ref l5, .ref l6, .ref l7]))])) (QP (fun v => ∃ x : Int32, v = .int x)) 0 0 (fun _ => False) := by
  refine MER (y := yX11_count) (cc := cX11_count) (maxL := 3) (ret := (some .int)) (d := 1) (D := D) (cs := cs) (ws := [(ox, .inr (9, [.ref ht, .ref hq, .ref og, .int rc, .ref hw, .ref om, .ref hp, .ref ha, .ref hf, .ref hw0, va_rf qh, va_rf qo])), (hw, .inr (8, [.ref hl0, .int wk, .int wc, .int wx, .int wn, .ref wa0, .ref wa1, .ref wa2, .ref wa3])), (wa3, .inl ((cs 0), 10, .inl wf3)), (hp, .inr (3, [.ref pk, .ref pc_, .int pn, .int ps])), (ht, .inr (7, [.ref hs, .int tl, .int tk, .int tp, .int tb, .int tv, .int tn, .int tf])), (hl0, .inr (2, [.int lb, .int lh, .int lg, .int lw, .int lv, .int lbs, .int lti, .int lts, .int le, .int lk, .int la, .ref l0, .ref l1, .ref l2, .ref l3, .ref l4, .ref l5, .ref l6, .ref l7]))]) (av := [.ref ox, .int a]) (Qc := QP (fun v => ∃ x : Int32, v = .int x)) (by decide) (Nat.le_of_ble_eq_true rfl) ?_
  intro p e s m below meth c ls H hHe hx hb hr hml hown hts hlocks hP hK hN hl
  obtain ⟨locs, hlc⟩ : ∃ z : List Loc, z = [] := ⟨_, rfl⟩
  rw [← hlc]
  have hown : s.vm.findClass "WrongHole" = some m.cls := hown
  have hT : ∀ w ∈ TB, w.before ([.ref ox, .int a] : List Value).toArray s = true := fun w h => hts w (List.mem_cons_of_mem _ h)
  have hl : lv_has ls 3 [(0, .ref ox), (1, .int a)] := hl
  have hP : va_P D vwCl [(ox, .inr (9, [.ref ht, .ref hq, .ref og, .int rc, .ref hw, .ref om, .ref hp, .ref ha, .ref hf, .ref hw0, va_rf qh, va_rf qo])), (hw, .inr (8, [.ref hl0, .int wk, .int wc, .int wx, .int wn, .ref wa0, .ref wa1, .ref wa2, .ref wa3])), (wa3, .inl ((cs 0), 10, .inl wf3)), (hp, .inr (3, [.ref pk, .ref pc_, .int pn, .int ps])), (ht, .inr (7, [.ref hs, .int tl, .int tk, .int tp, .int tb, .int tv, .int tn, .int tf])), (hl0, .inr (2, [.int lb, .int lh, .int lg, .int lw, .int lv, .int lbs, .int lti, .int lts, .int le, .int lk, .int la, .ref l0, .ref l1, .ref l2, .ref l3, .ref l4, .ref l5, .ref l6, .ref l7]))] H := hP
  refine lv_aload_n hx hb dX11_count_0 rfl (lv_at hl 0 rfl) ?_
  refine va_get (D := D) (ci := 9) (v := .ref hw) (C := "WrongHole") (T := TX11) (N := 12) hx hb hts (iq_RX11 _) hown hK hP 0 rfl rfl 4 (by decide) (hT _ qq_1_206) (fun _ h9 => h9) rfl dX11_count_1 ?_
  refine va_getN (D := D) (ci := 8) (v := .ref hl0) (C := "WrongHole$Worn") (T := TX10) (N := 9) hx hb hts (iq_RX10 _) hown hK hP 1 rfl rfl 0 (by decide) (NN.f hN nq_1_99) (fun _ h9 => h9) rfl dX11_count_4 ?_
  refine lv_astore_n (lv' := [(2, .ref hl0), (0, .ref ox), (1, .int a)]) hx hb dX11_count_7 rfl hl (by decide) rfl (fun ls hl => ?_)
  refine lv_iload_n hx hb dX11_count_8 rfl (lv_at hl 2 rfl) ?_
  rcases sw_0_11 a with c_1 | c_1 | c_1 | c_1 | c_1 | c_1 | c_1 | c_1 | c_1 | c_1 | c_1 | c_1 | c_1
  · refine lv_tableOut (tgt := 187) hx hb dX11_count_9 c_1 (by decide) ?_
    refine lv_iconst (v := (-1)) hx hb dX11_count_187 (by decide) ?_
    exact W.iret (v := (-1)) hx hb hr (fun t9 ht9 hW9 => ⟨⟨_, rfl, _, rfl⟩, ht9.trans hHe⟩) (fun _ h9 => by rw [hlc] at h9; exact absurd h9 List.not_mem_nil) dX11_count_188
  · refine tc_i 0 c_1 ?_
    have r_2 : Rg 0 0 a := Rg.of c_1 (Rg.c rfl)
    refine lv_tableIn (tgt := 72) hx hb dX11_count_9 (by decide) (by decide) rfl (by decide) ?_
    refine lv_aload_n hx hb dX11_count_72 rfl (lv_at hl 0 rfl) ?_
    refine lv_ifnonnull (tgt := 80) hx hb dX11_count_73 (by decide) ?_
    refine lv_aload_n hx hb dX11_count_80 rfl (lv_at hl 0 rfl) ?_
    refine va_getN (D := D) (ci := 2) (v := .int lb) (C := "WrongHole$Lift") (T := TX2) (N := 19) hx hb hts (iq_RX2 _) hown hK hP 5 rfl rfl 0 (by decide) (NN.f hN nq_2_32) (fun _ h9 => h9) rfl dX11_count_81 ?_
    exact W.iret (v := lb) hx hb hr (fun t9 ht9 hW9 => ⟨⟨_, rfl, _, rfl⟩, ht9.trans hHe⟩) (fun _ h9 => by rw [hlc] at h9; exact absurd h9 List.not_mem_nil) dX11_count_84
  · refine tc_i 1 c_1 ?_
    have r_3 : Rg 1 1 a := Rg.of c_1 (Rg.c rfl)
    refine lv_tableIn (tgt := 85) hx hb dX11_count_9 (by decide) (by decide) rfl (by decide) ?_
    refine lv_aload_n hx hb dX11_count_85 rfl (lv_at hl 0 rfl) ?_
    refine lv_ifnonnull (tgt := 93) hx hb dX11_count_86 (by decide) ?_
    refine lv_aload_n hx hb dX11_count_93 rfl (lv_at hl 0 rfl) ?_
    refine va_getN (D := D) (ci := 2) (v := .int lh) (C := "WrongHole$Lift") (T := TX2) (N := 19) hx hb hts (iq_RX2 _) hown hK hP 5 rfl rfl 1 (by decide) (NN.f hN nq_2_39) (fun _ h9 => h9) rfl dX11_count_94 ?_
    exact W.iret (v := lh) hx hb hr (fun t9 ht9 hW9 => ⟨⟨_, rfl, _, rfl⟩, ht9.trans hHe⟩) (fun _ h9 => by rw [hlc] at h9; exact absurd h9 List.not_mem_nil) dX11_count_97
  · refine tc_i 2 c_1 ?_
    have r_4 : Rg 2 2 a := Rg.of c_1 (Rg.c rfl)
    refine lv_tableIn (tgt := 98) hx hb dX11_count_9 (by decide) (by decide) rfl (by decide) ?_
    refine lv_aload_n hx hb dX11_count_98 rfl (lv_at hl 1 rfl) ?_
    refine va_get (D := D) (ci := 9) (v := .int rc) (C := "WrongHole") (T := TX11) (N := 12) hx hb hts (iq_RX11 _) hown hK hP 0 rfl rfl 3 (by decide) (hT _ qq_1_205) (fun _ h9 => h9) rfl dX11_count_99 ?_
    exact W.iret (v := rc) hx hb hr (fun t9 ht9 hW9 => ⟨⟨_, rfl, _, rfl⟩, ht9.trans hHe⟩) (fun _ h9 => by rw [hlc] at h9; exact absurd h9 List.not_mem_nil) dX11_count_102
  · refine tc_i 3 c_1 ?_
    have r_5 : Rg 3 3 a := Rg.of c_1 (Rg.c rfl)
    refine lv_tableIn (tgt := 103) hx hb dX11_count_9 (by decide) (by decide) rfl (by decide) ?_
    refine lv_aload_n hx hb dX11_count_103 rfl (lv_at hl 0 rfl) ?_
    refine lv_ifnonnull (tgt := 111) hx hb dX11_count_104 (by decide) ?_
    refine lv_aload_n hx hb dX11_count_111 rfl (lv_at hl 0 rfl) ?_
    refine va_getN (D := D) (ci := 2) (v := .int le) (C := "WrongHole$Lift") (T := TX2) (N := 19) hx hb hts (iq_RX2 _) hown hK hP 5 rfl rfl 8 (by decide) (NN.f hN nq_2_58) (fun _ h9 => h9) rfl dX11_count_112 ?_
    exact W.iret (v := le) hx hb hr (fun t9 ht9 hW9 => ⟨⟨_, rfl, _, rfl⟩, ht9.trans hHe⟩) (fun _ h9 => by rw [hlc] at h9; exact absurd h9 List.not_mem_nil) dX11_count_115
  · refine tc_i 4 c_1 ?_
    have r_6 : Rg 4 4 a := Rg.of c_1 (Rg.c rfl)
    refine lv_tableIn (tgt := 116) hx hb dX11_count_9 (by decide) (by decide) rfl (by decide) ?_
    refine lv_aload_n hx hb dX11_count_116 rfl (lv_at hl 1 rfl) ?_
    refine va_get (D := D) (ci := 9) (v := .ref hw) (C := "WrongHole") (T := TX11) (N := 12) hx hb hts (iq_RX11 _) hown hK hP 0 rfl rfl 4 (by decide) (hT _ qq_1_206) (fun _ h9 => h9) rfl dX11_count_117 ?_
    refine va_getN (D := D) (ci := 8) (v := .int wc) (C := "WrongHole$Worn") (T := TX10) (N := 9) hx hb hts (iq_RX10 _) hown hK hP 1 rfl rfl 2 (by decide) (NN.f hN nq_1_103) (fun _ h9 => h9) rfl dX11_count_120 ?_
    exact W.iret (v := wc) hx hb hr (fun t9 ht9 hW9 => ⟨⟨_, rfl, _, rfl⟩, ht9.trans hHe⟩) (fun _ h9 => by rw [hlc] at h9; exact absurd h9 List.not_mem_nil) dX11_count_123
  · refine tc_i 5 c_1 ?_
    have r_7 : Rg 5 5 a := Rg.of c_1 (Rg.c rfl)
    refine lv_tableIn (tgt := 124) hx hb dX11_count_9 (by decide) (by decide) rfl (by decide) ?_
    refine lv_aload_n hx hb dX11_count_124 rfl (lv_at hl 1 rfl) ?_
    refine va_get (D := D) (ci := 9) (v := .ref hp) (C := "WrongHole") (T := TX11) (N := 12) hx hb hts (iq_RX11 _) hown hK hP 0 rfl rfl 6 (by decide) (hT _ qq_1_208) (fun _ h9 => h9) rfl dX11_count_125 ?_
    refine va_getN (D := D) (ci := 3) (v := .int ps) (C := "WrongHole$Past") (T := TX4) (N := 4) hx hb hts (iq_RX4 _) hown hK hP 3 rfl rfl 3 (by decide) (NN.f hN nq_1_146) (fun _ h9 => h9) rfl dX11_count_128 ?_
    exact W.iret (v := ps) hx hb hr (fun t9 ht9 hW9 => ⟨⟨_, rfl, _, rfl⟩, ht9.trans hHe⟩) (fun _ h9 => by rw [hlc] at h9; exact absurd h9 List.not_mem_nil) dX11_count_131
  · refine tc_i 6 c_1 ?_
    have r_8 : Rg 6 6 a := Rg.of c_1 (Rg.c rfl)
    refine lv_tableIn (tgt := 132) hx hb dX11_count_9 (by decide) (by decide) rfl (by decide) ?_
    refine lv_aload_n hx hb dX11_count_132 rfl (lv_at hl 0 rfl) ?_
    refine lv_ifnonnull (tgt := 140) hx hb dX11_count_133 (by decide) ?_
    refine lv_aload_n hx hb dX11_count_140 rfl (lv_at hl 0 rfl) ?_
    refine va_getN (D := D) (ci := 2) (v := .int lbs) (C := "WrongHole$Lift") (T := TX2) (N := 19) hx hb hts (iq_RX2 _) hown hK hP 5 rfl rfl 5 (by decide) (NN.f hN nq_2_51) (fun _ h9 => h9) rfl dX11_count_141 ?_
    exact W.iret (v := lbs) hx hb hr (fun t9 ht9 hW9 => ⟨⟨_, rfl, _, rfl⟩, ht9.trans hHe⟩) (fun _ h9 => by rw [hlc] at h9; exact absurd h9 List.not_mem_nil) dX11_count_144
  · refine tc_i 7 c_1 ?_
    have r_9 : Rg 7 7 a := Rg.of c_1 (Rg.c rfl)
    refine lv_tableIn (tgt := 145) hx hb dX11_count_9 (by decide) (by decide) rfl (by decide) ?_
    refine lv_aload_n hx hb dX11_count_145 rfl (lv_at hl 0 rfl) ?_
    refine lv_ifnonnull (tgt := 153) hx hb dX11_count_146 (by decide) ?_
    refine lv_aload_n hx hb dX11_count_153 rfl (lv_at hl 0 rfl) ?_
    refine va_getN (D := D) (ci := 2) (v := .int lv) (C := "WrongHole$Lift") (T := TX2) (N := 19) hx hb hts (iq_RX2 _) hown hK hP 5 rfl rfl 4 (by decide) (NN.f hN nq_2_48) (fun _ h9 => h9) rfl dX11_count_154 ?_
    exact W.iret (v := lv) hx hb hr (fun t9 ht9 hW9 => ⟨⟨_, rfl, _, rfl⟩, ht9.trans hHe⟩) (fun _ h9 => by rw [hlc] at h9; exact absurd h9 List.not_mem_nil) dX11_count_157
  · refine tc_i 8 c_1 ?_
    have r_10 : Rg 8 8 a := Rg.of c_1 (Rg.c rfl)
    refine lv_tableIn (tgt := 158) hx hb dX11_count_9 (by decide) (by decide) rfl (by decide) ?_
    refine lv_aload_n hx hb dX11_count_158 rfl (lv_at hl 1 rfl) ?_
    refine va_get (D := D) (ci := 9) (v := .ref hw) (C := "WrongHole") (T := TX11) (N := 12) hx hb hts (iq_RX11 _) hown hK hP 0 rfl rfl 4 (by decide) (hT _ qq_1_206) (fun _ h9 => h9) rfl dX11_count_159 ?_
    refine va_getN (D := D) (ci := 8) (v := .int wn) (C := "WrongHole$Worn") (T := TX10) (N := 9) hx hb hts (iq_RX10 _) hown hK hP 1 rfl rfl 4 (by decide) (NN.f hN nq_1_107) (fun _ h9 => h9) rfl dX11_count_162 ?_
    exact W.iret (v := wn) hx hb hr (fun t9 ht9 hW9 => ⟨⟨_, rfl, _, rfl⟩, ht9.trans hHe⟩) (fun _ h9 => by rw [hlc] at h9; exact absurd h9 List.not_mem_nil) dX11_count_165
  · refine tc_i 9 c_1 ?_
    have r_11 : Rg 9 9 a := Rg.of c_1 (Rg.c rfl)
    refine lv_tableIn (tgt := 166) hx hb dX11_count_9 (by decide) (by decide) rfl (by decide) ?_
    refine lv_aload_n hx hb dX11_count_166 rfl (lv_at hl 1 rfl) ?_
    have hPc := va_P.sub (ws' := [(ox, .inr (9, [.ref ht, .ref hq, .ref og, .int rc, .ref hw, .ref om, .ref hp, .ref ha, .ref hf, .ref hw0, va_rf qh, va_rf qo])), (hw, .inr (8, [.ref hl0, .int wk, .int wc, .int wx, .int wn, .ref wa0, .ref wa1, .ref wa2, .ref wa3])), (wa3, .inl ((cs 0), 10, .inl wf3)), (hl0, .inr (2, [.int lb, .int lh, .int lg, .int lw, .int lv, .int lbs, .int lti, .int lts, .int le, .int lk, .int la, .ref l0, .ref l1, .ref l2, .ref l3, .ref l4, .ref l5, .ref l6, .ref l7]))]) hP [0, 1, 2, 5] rfl
    refine cl_P (W.runV (As := []) (rest := []) ⟨hx, hb, hml, hown, hts⟩ (c_W_emptySeats_r l D cs ox ht hq og rc hw om hp ha hf hw0 qh qo wk wc wx wn wa0 wa1 wa2 wa3 wf3 hl0 lb lh lg lw lv lbs lti lts le lk la l0 l1 l2 l3 l4 l5 l6 l7 r_lb r_lh r_le) ⟨callB_of 0 hts (gd_C qq_5_131) rfl rfl rfl (hT _ qq_1_1) (hT _ qq_5_128) (by decide +kernel) (rm_R rfl rfl), (hT _ qq_5_130), (hT _ qs_1_14)⟩ (pq_V hPc hK hN (ci := 9) (q0 := 0) rfl rfl) rfl rfl hl.1 rfl (lv_room (Nat.le_of_ble_eq_true rfl)) dX11_count_167 ⟨Nat.le_of_ble_eq_true rfl, Nat.le_of_ble_eq_true rfl⟩) (fun v9 hz_15 => ?_)
    obtain ⟨x_14, rfl⟩ := hz_15
    exact W.iret (v := x_14) hx hb hr (fun t9 ht9 hW9 => ⟨⟨_, rfl, _, rfl⟩, ht9.trans hHe⟩) (fun _ h9 => by rw [hlc] at h9; exact absurd h9 List.not_mem_nil) dX11_count_170
  · refine tc_i 10 c_1 ?_
    have r_12 : Rg 10 10 a := Rg.of c_1 (Rg.c rfl)
    refine lv_tableIn (tgt := 171) hx hb dX11_count_9 (by decide) (by decide) rfl (by decide) ?_
    refine lv_aload_n hx hb dX11_count_171 rfl (lv_at hl 1 rfl) ?_
    refine va_get (D := D) (ci := 9) (v := .ref hw) (C := "WrongHole") (T := TX11) (N := 12) hx hb hts (iq_RX11 _) hown hK hP 0 rfl rfl 4 (by decide) (hT _ qq_1_206) (fun _ h9 => h9) rfl dX11_count_172 ?_
    refine va_getN (D := D) (ci := 8) (v := .int wx) (C := "WrongHole$Worn") (T := TX10) (N := 9) hx hb hts (iq_RX10 _) hown hK hP 1 rfl rfl 3 (by decide) (NN.f hN nq_1_105) (fun _ h9 => h9) rfl dX11_count_175 ?_
    exact W.iret (v := wx) hx hb hr (fun t9 ht9 hW9 => ⟨⟨_, rfl, _, rfl⟩, ht9.trans hHe⟩) (fun _ h9 => by rw [hlc] at h9; exact absurd h9 List.not_mem_nil) dX11_count_178
  · refine tc_i 11 c_1 ?_
    have r_13 : Rg 11 11 a := Rg.of c_1 (Rg.c rfl)
    refine lv_tableIn (tgt := 179) hx hb dX11_count_9 (by decide) (by decide) rfl (by decide) ?_
    refine lv_aload_n hx hb dX11_count_179 rfl (lv_at hl 1 rfl) ?_
    refine va_get (D := D) (ci := 9) (v := .ref ht) (C := "WrongHole") (T := TX11) (N := 12) hx hb hts (iq_RX11 _) hown hK hP 0 rfl rfl 0 (by decide) (hT _ qq_1_202) (fun _ h9 => h9) rfl dX11_count_180 ?_
    refine va_getN (D := D) (ci := 7) (v := .int tl) (C := "WrongHole$Text") (T := TX9) (N := 8) hx hb hts (iq_RX9 _) hown hK hP 4 rfl rfl 1 (by decide) (NN.f hN nq_1_38) (fun _ h9 => h9) rfl dX11_count_183 ?_
    exact W.iret (v := tl) hx hb hr (fun t9 ht9 hW9 => ⟨⟨_, rfl, _, rfl⟩, ht9.trans hHe⟩) (fun _ h9 => by rw [hlc] at h9; exact absurd h9 List.not_mem_nil) dX11_count_186
