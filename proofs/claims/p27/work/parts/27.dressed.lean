theorem dX11_dressed_0 : decode cX11_dressed 0 = .ok (.aload_n 0, 1) := by decide +kernel
theorem dX11_dressed_1 : decode cX11_dressed 1 = .ok (.getfield 32, 3) := by decide +kernel
theorem dX11_dressed_4 : decode cX11_dressed 4 = .ok (.getfield 86, 3) := by decide +kernel
theorem dX11_dressed_7 : decode cX11_dressed 7 = .ok (.astore 4, 2) := by decide +kernel
theorem dX11_dressed_9 : decode cX11_dressed 9 = .ok (.aload 4, 2) := by decide +kernel
theorem dX11_dressed_11 : decode cX11_dressed 11 = .ok (.ifnull 34, 3) := by decide +kernel
theorem dX11_dressed_45 : decode cX11_dressed 45 = .ok (.iconst (-1), 1) := by decide +kernel
theorem dX11_dressed_46 : decode cX11_dressed 46 = .ok (.ireturn, 1) := by decide +kernel
set_option maxHeartbeats 4000000 in
set_option maxRecDepth 100000 in
theorem c_W_dressed_n (l : Launch) (D : va_G) (cs : Nat → ClassId) (X : XX) (sz : Nat) (ox : Nat) (ht : Nat) (hq : Nat) (og : Nat) (rc : Int32) (hw : Nat) (om : Nat) (hp : Nat) (ha : Nat) (hf : Nat) (hw0 : Nat) (qh : Option Nat) (qo : Option Nat) (wk : Int32) (wc : Int32) (wx : Int32) (wn : Int32) (wa0 : Nat) (wa1 : Nat) (wa2 : Nat) (wa3 : Nat) (as : Nat) (ad : Nat) (ac : Int32) (gs : Nat → Int32) (gc : Nat → Int32) (a : Int32) (b : Int32) (h : Int32) (r_ac : Rg 0 72 ac) (r_wx : Rg 0 2147483647 wx) : Met l yX11_dressed (Cond.code yX11_dressed cX11_dressed 13 (some .int) :: TB) (RM 4 0 0) (va_Pc [.ref ox, .int a, .int b, .int h] (PRE D cs X [(ox, .inr (9, [.ref ht, .ref hq, .ref og, .int rc, .ref hw, .ref om, .ref hp, .ref ha, .ref hf, .ref hw0, va_rf qh, va_rf qo])), (hw, .inr (8, [.null, .int wk, .int wc, .int wx, .int wn, .ref wa0, .ref wa1, .ref wa2, .ref wa3])), (ha, .inr (0, [.ref as, .ref ad, .int ac])), (as, .inl ((cs 0), 8, .inl gs)), (ad, .inl ((cs 0), 72, .inl gc))] [] sz)) (va_Qi (S := Unit) (fun r _ => True) (fun _ t => ∃ (ac2 : Int32), ∃ (gs2 : Nat → Int32), ∃ (gc2 : Nat → Int32), Rg 0 72 ac2 ∧ va_P D vwCl [(ox, .inr (9, [.ref ht, .ref hq, .ref og, .int rc, .ref hw, .ref om, .ref hp, .ref ha, .ref hf, .ref hw0, va_rf qh, va_rf qo])), (hw, .inr (8, [.null, .int wk, .int wc, .int wx, .int wn, .ref wa0, .ref wa1, .ref wa2, .ref wa3])), (ha, .inr (0, [.ref as, .ref ad, .int ac2])), (as, .inl ((cs 0), 8, .inl gs2)), (ad, .inl ((cs 0), 72, .inl gc2))] t.heap ∧ va_D (va_A [(ox, .inr (9, [.ref ht, .ref hq, .ref og, .int rc, .ref hw, .ref om, .ref hp, .ref ha, .ref hf, .ref hw0, va_rf qh, va_rf qo])), (hw, .inr (8, [.null, .int wk, .int wc, .int wx, .int wn, .ref wa0, .ref wa1, .ref wa2, .ref wa3])), (ha, .inr (0, [.ref as, .ref ad, .int ac])), (as, .inl ((cs 0), 8, .inl gs)), (ad, .inl ((cs 0), 72, .inl gc))] sz) [(ox, .inr (9, [.ref ht, .ref hq, .ref og, .int rc, .ref hw, .ref om, .ref hp, .ref ha, .ref hf, .ref hw0, va_rf qh, va_rf qo])), (hw, .inr (8, [.null, .int wk, .int wc, .int wx, .int wn, .ref wa0, .ref wa1, .ref wa2, .ref wa3])), (ha, .inr (0, [.ref as, .ref ad, .int ac2])), (as, .inl ((cs 0), 8, .inl gs2)), (ad, .inl ((cs 0), 72, .inl gc2))]) (va_A [(ox, .inr (9, [.ref ht, .ref hq, .ref og, .int rc, .ref hw, .ref om, .ref hp, .ref ha, .ref hf, .ref hw0, va_rf qh, va_rf qo])), (hw, .inr (8, [.null, .int wk, .int wc, .int wx, .int wn, .ref wa0, .ref wa1, .ref wa2, .ref wa3])), (ha, .inr (0, [.ref as, .ref ad, .int ac])), (as, .inl ((cs 0), 8, .inl gs)), (ad, .inl ((cs 0), 72, .inl gc))] sz)) 0 0 (va_A [(ox, .inr (9, [.ref ht, .ref hq, .ref og, .int rc, .ref hw, .ref om, .ref hp, .ref ha, .ref hf, .ref hw0, va_rf qh, va_rf qo])), (hw, .inr (8, [.null, .int wk, .int wc, .int wx, .int wn, .ref wa0, .ref wa1, .ref wa2, .ref wa3])), (ha, .inr (0, [.ref as, .ref ad, .int ac])), (as, .inl ((cs 0), 8, .inl gs)), (ad, .inl ((cs 0), 72, .inl gc))] sz) := by
  refine MET (y := yX11_dressed) (cc := cX11_dressed) (maxL := 13) (ret := (some .int)) (d := 4) (mc := 0) (ms := 0) (D := D) (cs := cs) (X := X) (ws := [(ox, .inr (9, [.ref ht, .ref hq, .ref og, .int rc, .ref hw, .ref om, .ref hp, .ref ha, .ref hf, .ref hw0, va_rf qh, va_rf qo])), (hw, .inr (8, [.null, .int wk, .int wc, .int wx, .int wn, .ref wa0, .ref wa1, .ref wa2, .ref wa3])), (ha, .inr (0, [.ref as, .ref ad, .int ac])), (as, .inl ((cs 0), 8, .inl gs)), (ad, .inl ((cs 0), 72, .inl gc))]) (wo := []) (sz := sz) (av := [.ref ox, .int a, .int b, .int h]) (Qc := fun A => va_Qi (S := Unit) (fun r _ => True) (fun _ t => ∃ (ac2 : Int32), ∃ (gs2 : Nat → Int32), ∃ (gc2 : Nat → Int32), Rg 0 72 ac2 ∧ va_P D vwCl [(ox, .inr (9, [.ref ht, .ref hq, .ref og, .int rc, .ref hw, .ref om, .ref hp, .ref ha, .ref hf, .ref hw0, va_rf qh, va_rf qo])), (hw, .inr (8, [.null, .int wk, .int wc, .int wx, .int wn, .ref wa0, .ref wa1, .ref wa2, .ref wa3])), (ha, .inr (0, [.ref as, .ref ad, .int ac2])), (as, .inl ((cs 0), 8, .inl gs2)), (ad, .inl ((cs 0), 72, .inl gc2))] t.heap ∧ va_D A [(ox, .inr (9, [.ref ht, .ref hq, .ref og, .int rc, .ref hw, .ref om, .ref hp, .ref ha, .ref hf, .ref hw0, va_rf qh, va_rf qo])), (hw, .inr (8, [.null, .int wk, .int wc, .int wx, .int wn, .ref wa0, .ref wa1, .ref wa2, .ref wa3])), (ha, .inr (0, [.ref as, .ref ad, .int ac2])), (as, .inl ((cs 0), 8, .inl gs2)), (ad, .inl ((cs 0), 72, .inl gc2))]) A) (by decide) (Nat.le_of_ble_eq_true rfl) ?_
  intro p e s m below meth c ls A H hHe hx hb hr hml hown hts hlocks hnm hP hK hD hA hS hN hR hX hXs hl
  have hD : va_D A [(ox, .inr (9, [.ref ht, .ref hq, .ref og, .int rc, .ref hw, .ref om, .ref hp, .ref ha, .ref hf, .ref hw0, va_rf qh, va_rf qo])), (hw, .inr (8, [.null, .int wk, .int wc, .int wx, .int wn, .ref wa0, .ref wa1, .ref wa2, .ref wa3])), (ha, .inr (0, [.ref as, .ref ad, .int ac])), (as, .inl ((cs 0), 8, .inl gs)), (ad, .inl ((cs 0), 72, .inl gc))] := hD
  obtain ⟨locs, hlc⟩ : ∃ z : List Loc, z = [] := ⟨_, rfl⟩
  rw [← hlc] at hS ⊢
  have hown : s.vm.findClass "WrongHole" = some m.cls := hown
  have hT : ∀ w ∈ TB, w.before ([.ref ox, .int a, .int b, .int h] : List Value).toArray s = true := fun w h => hts w (List.mem_cons_of_mem _ h)
  have hl : lv_has ls 13 [(0, .ref ox), (1, .int a), (2, .int b), (3, .int h)] := hl
  have hP : va_P D vwCl [(ox, .inr (9, [.ref ht, .ref hq, .ref og, .int rc, .ref hw, .ref om, .ref hp, .ref ha, .ref hf, .ref hw0, va_rf qh, va_rf qo])), (hw, .inr (8, [.null, .int wk, .int wc, .int wx, .int wn, .ref wa0, .ref wa1, .ref wa2, .ref wa3])), (ha, .inr (0, [.ref as, .ref ad, .int ac])), (as, .inl ((cs 0), 8, .inl gs)), (ad, .inl ((cs 0), 72, .inl gc))] H := hP
  refine lv_aload_n hx hb dX11_dressed_0 rfl (lv_at hl 0 rfl) ?_
  refine va_get (D := D) (ci := 9) (v := .ref hw) (C := "WrongHole") (T := TX11) (N := 12) hx hb hts (iq_RX11 _) hown hK hP 0 rfl rfl 4 (by decide) (hT _ qq_1_206) (fun _ h9 => h9) rfl dX11_dressed_1 ?_
  refine va_getN (D := D) (ci := 8) (v := .null) (C := "WrongHole$Worn") (T := TX10) (N := 9) hx hb hts (iq_RX10 _) hown hK hP 1 rfl rfl 0 (by decide) (NN.f hN nq_1_99) (fun _ h9 => h9) rfl dX11_dressed_4 ?_
  refine lv_astoreN (lv' := [(4, .null), (0, .ref ox), (1, .int a), (2, .int b), (3, .int h)]) hx hb dX11_dressed_7 hl (by decide) rfl (fun ls hl => ?_)
  refine lv_aloadN hx hb dX11_dressed_9 (lv_at hl 0 rfl) ?_
  refine lv_ifnullN (tgt := 45) hx hb dX11_dressed_11 (by decide) ?_
  refine lv_iconst (v := (-1)) hx hb dX11_dressed_45 (by decide) ?_
  refine W.widen (k := 0) (n := 0) (Nat.le_of_ble_eq_true rfl) (Nat.le_of_ble_eq_true rfl) ?_
  have hP9 := hP.sub (ws' := [(ox, .inr (9, [.ref ht, .ref hq, .ref og, .int rc, .ref hw, .ref om, .ref hp, .ref ha, .ref hf, .ref hw0, va_rf qh, va_rf qo])), (hw, .inr (8, [.null, .int wk, .int wc, .int wx, .int wn, .ref wa0, .ref wa1, .ref wa2, .ref wa3])), (ha, .inr (0, [.ref as, .ref ad, .int ac])), (as, .inl ((cs 0), 8, .inl gs)), (ad, .inl ((cs 0), 72, .inl gc))]) [0, 1, 2, 3, 4] rfl
  have hD9 := hD.sub (ws' := [(ox, .inr (9, [.ref ht, .ref hq, .ref og, .int rc, .ref hw, .ref om, .ref hp, .ref ha, .ref hf, .ref hw0, va_rf qh, va_rf qo])), (hw, .inr (8, [.null, .int wk, .int wc, .int wx, .int wn, .ref wa0, .ref wa1, .ref wa2, .ref wa3])), (ha, .inr (0, [.ref as, .ref ad, .int ac])), (as, .inl ((cs 0), 8, .inl gs)), (ad, .inl ((cs 0), 72, .inl gc))]) [0, 1, 2, 3, 4] (by decide) rfl
  exact W.iret (v := (-1)) hx hb hr (fun t9 ht9 hW9 => ⟨⟨_, (), rfl, trivial, ⟨ac, gs, gc, r_ac, by rw [ht9]; exact hP9, hD9⟩⟩, hS.F ht9⟩) hS.2.2 dX11_dressed_46
theorem dX11_dressed_14 : decode cX11_dressed 14 = .ok (.iload_n 1, 1) := by decide +kernel
theorem dX11_dressed_15 : decode cX11_dressed 15 = .ok (.iconst 1, 1) := by decide +kernel
theorem dX11_dressed_16 : decode cX11_dressed 16 = .ok (.if_icmp .lt 29, 3) := by decide +kernel
theorem dX11_dressed_19 : decode cX11_dressed 19 = .ok (.iload_n 1, 1) := by decide +kernel
theorem dX11_dressed_20 : decode cX11_dressed 20 = .ok (.bipush 20, 2) := by decide +kernel
theorem dX11_dressed_22 : decode cX11_dressed 22 = .ok (.if_icmp .gt 23, 3) := by decide +kernel
theorem dX11_dressed_25 : decode cX11_dressed 25 = .ok (.iload_n 2, 1) := by decide +kernel
theorem dX11_dressed_26 : decode cX11_dressed 26 = .ok (.iconst 1, 1) := by decide +kernel
theorem dX11_dressed_27 : decode cX11_dressed 27 = .ok (.if_icmp .lt 18, 3) := by decide +kernel
theorem dX11_dressed_30 : decode cX11_dressed 30 = .ok (.iload_n 2, 1) := by decide +kernel
theorem dX11_dressed_31 : decode cX11_dressed 31 = .ok (.bipush 60, 2) := by decide +kernel
theorem dX11_dressed_33 : decode cX11_dressed 33 = .ok (.if_icmp .gt 12, 3) := by decide +kernel
theorem dX11_dressed_36 : decode cX11_dressed 36 = .ok (.iload_n 3, 1) := by decide +kernel
theorem dX11_dressed_37 : decode cX11_dressed 37 = .ok (.ifCond .lt 8, 3) := by decide +kernel
theorem dX11_dressed_40 : decode cX11_dressed 40 = .ok (.iload_n 3, 1) := by decide +kernel
theorem dX11_dressed_41 : decode cX11_dressed 41 = .ok (.iconst 2, 1) := by decide +kernel
theorem dX11_dressed_42 : decode cX11_dressed 42 = .ok (.if_icmp .le 5, 3) := by decide +kernel
theorem dX11_dressed_47 : decode cX11_dressed 47 = .ok (.aload_n 0, 1) := by decide +kernel
theorem dX11_dressed_48 : decode cX11_dressed 48 = .ok (.getfield 32, 3) := by decide +kernel
theorem dX11_dressed_51 : decode cX11_dressed 51 = .ok (.getfield 315, 3) := by decide +kernel
theorem dX11_dressed_54 : decode cX11_dressed 54 = .ok (.istore 5, 2) := by decide +kernel
theorem dX11_dressed_56 : decode cX11_dressed 56 = .ok (.iconst 0, 1) := by decide +kernel
theorem dX11_dressed_57 : decode cX11_dressed 57 = .ok (.istore 6, 2) := by decide +kernel
theorem dX11_dressed_59 : decode cX11_dressed 59 = .ok (.iconst 0, 1) := by decide +kernel
theorem dX11_dressed_60 : decode cX11_dressed 60 = .ok (.istore 7, 2) := by decide +kernel
theorem dX11_dressed_62 : decode cX11_dressed 62 = .ok (.iconst 0, 1) := by decide +kernel
theorem dX11_dressed_63 : decode cX11_dressed 63 = .ok (.istore 8, 2) := by decide +kernel
theorem dX11_dressed_65 : decode cX11_dressed 65 = .ok (.iconst 0, 1) := by decide +kernel
theorem dX11_dressed_66 : decode cX11_dressed 66 = .ok (.istore 9, 2) := by decide +kernel
theorem dX11_dressed_68 : decode cX11_dressed 68 = .ok (.iload 9, 2) := by decide +kernel
theorem dX11_dressed_70 : decode cX11_dressed 70 = .ok (.iload_n 1, 1) := by decide +kernel
theorem dX11_dressed_71 : decode cX11_dressed 71 = .ok (.if_icmp .ge 141, 3) := by decide +kernel
theorem dX11_dressed_212 : decode cX11_dressed 212 = .ok (.iload_n 3, 1) := by decide +kernel
theorem dX11_dressed_213 : decode cX11_dressed 213 = .ok (.ifCond .ne 6, 3) := by decide +kernel
theorem dX11_dressed_219 : decode cX11_dressed 219 = .ok (.iload_n 3, 1) := by decide +kernel
theorem dX11_dressed_220 : decode cX11_dressed 220 = .ok (.iconst 1, 1) := by decide +kernel
theorem dX11_dressed_221 : decode cX11_dressed 221 = .ok (.if_icmp .ne 8, 3) := by decide +kernel
theorem dX11_dressed_229 : decode cX11_dressed 229 = .ok (.iload 8, 2) := by decide +kernel
theorem dX11_dressed_231 : decode cX11_dressed 231 = .ok (.ireturn, 1) := by decide +kernel
theorem dX11_dressed_224 : decode cX11_dressed 224 = .ok (.iload 7, 2) := by decide +kernel
theorem dX11_dressed_226 : decode cX11_dressed 226 = .ok (.goto 5, 3) := by decide +kernel
theorem dX11_dressed_216 : decode cX11_dressed 216 = .ok (.iload 6, 2) := by decide +kernel
theorem dX11_dressed_218 : decode cX11_dressed 218 = .ok (.ireturn, 1) := by decide +kernel
theorem dX11_dressed_74 : decode cX11_dressed 74 = .ok (.aload_n 0, 1) := by decide +kernel
theorem dX11_dressed_75 : decode cX11_dressed 75 = .ok (.getfield 32, 3) := by decide +kernel
theorem dX11_dressed_78 : decode cX11_dressed 78 = .ok (.getfield 95, 3) := by decide +kernel
theorem dX11_dressed_81 : decode cX11_dressed 81 = .ok (.istore 10, 2) := by decide +kernel
theorem dX11_dressed_83 : decode cX11_dressed 83 = .ok (.iconst 0, 1) := by decide +kernel
theorem dX11_dressed_84 : decode cX11_dressed 84 = .ok (.istore 11, 2) := by decide +kernel
theorem dX11_dressed_86 : decode cX11_dressed 86 = .ok (.iload 11, 2) := by decide +kernel
theorem dX11_dressed_88 : decode cX11_dressed 88 = .ok (.iload_n 2, 1) := by decide +kernel
theorem dX11_dressed_89 : decode cX11_dressed 89 = .ok (.if_icmp .ge 84, 3) := by decide +kernel
theorem dX11_dressed_173 : decode cX11_dressed 173 = .ok (.iload 6, 2) := by decide +kernel
theorem dX11_dressed_175 : decode cX11_dressed 175 = .ok (.iload 10, 2) := by decide +kernel
theorem dX11_dressed_177 : decode cX11_dressed 177 = .ok (.invokestatic 169, 3) := by decide +kernel
theorem dX11_dressed_180 : decode cX11_dressed 180 = .ok (.invokestatic 161, 3) := by decide +kernel
theorem dX11_dressed_183 : decode cX11_dressed 183 = .ok (.iadd, 1) := by decide +kernel
theorem dX11_dressed_184 : decode cX11_dressed 184 = .ok (.istore 6, 2) := by decide +kernel
theorem dX11_dressed_186 : decode cX11_dressed 186 = .ok (.iload 8, 2) := by decide +kernel
theorem dX11_dressed_188 : decode cX11_dressed 188 = .ok (.aload 4, 2) := by decide +kernel
theorem dX11_dressed_190 : decode cX11_dressed 190 = .ok (.iload 10, 2) := by decide +kernel
theorem dX11_dressed_192 : decode cX11_dressed 192 = .ok (.invokevirtual 178, 3) := by decide +kernel
theorem dX11_dressed_195 : decode cX11_dressed 195 = .ok (.ifCond .eq 7, 3) := by decide +kernel
theorem dX11_dressed_203 : decode cX11_dressed 203 = .ok (.iadd, 1) := by decide +kernel
theorem dX11_dressed_204 : decode cX11_dressed 204 = .ok (.istore 8, 2) := by decide +kernel
theorem dX11_dressed_206 : decode cX11_dressed 206 = .ok (.iinc 9 1, 3) := by decide +kernel
theorem dX11_dressed_209 : decode cX11_dressed 209 = .ok (.goto (-141), 3) := by decide +kernel
theorem dX11_dressed_202 : decode cX11_dressed 202 = .ok (.iconst 0, 1) := by decide +kernel
theorem dX11_dressed_198 : decode cX11_dressed 198 = .ok (.iconst 1, 1) := by decide +kernel
theorem dX11_dressed_199 : decode cX11_dressed 199 = .ok (.goto 4, 3) := by decide +kernel
theorem dX11_dressed_92 : decode cX11_dressed 92 = .ok (.aload_n 0, 1) := by decide +kernel
theorem dX11_dressed_93 : decode cX11_dressed 93 = .ok (.getfield 50, 3) := by decide +kernel
theorem dX11_dressed_96 : decode cX11_dressed 96 = .ok (.aload 4, 2) := by decide +kernel
theorem dX11_dressed_98 : decode cX11_dressed 98 = .ok (.iload 10, 2) := by decide +kernel
theorem dX11_dressed_100 : decode cX11_dressed 100 = .ok (.invokevirtual 226, 3) := by decide +kernel
theorem dX11_dressed_103 : decode cX11_dressed 103 = .ok (.aload_n 0, 1) := by decide +kernel
theorem dX11_dressed_104 : decode cX11_dressed 104 = .ok (.getfield 50, 3) := by decide +kernel
theorem dX11_dressed_107 : decode cX11_dressed 107 = .ok (.getfield 230, 3) := by decide +kernel
theorem dX11_dressed_110 : decode cX11_dressed 110 = .ok (.ifCond .ne 6, 3) := by decide +kernel
theorem dX11_dressed_116 : decode cX11_dressed 116 = .ok (.iload 5, 2) := by decide +kernel
theorem dX11_dressed_118 : decode cX11_dressed 118 = .ok (.invokestatic 318, 3) := by decide +kernel
theorem qq_5_121 : Cond.code yX11_drawnFrom cX11_drawnFrom 1 (some .int) ∈ TB := mk_tb (ti_5 (List.mem_of_getElem? (i := 121) rfl)) rfl
theorem qq_5_119 : Cond.methodLink "WrongHole" 318 yX11_drawnFrom ∈ TB := mk_tb (ti_5 (List.mem_of_getElem? (i := 119) rfl)) rfl
theorem qq_5_120 : Cond.static yX11_drawnFrom ∈ TB := mk_tb (ti_5 (List.mem_of_getElem? (i := 120) rfl)) rfl
theorem dX11_dressed_121 : decode cX11_dressed 121 = .ok (.istore 5, 2) := by decide +kernel
theorem dX11_dressed_123 : decode cX11_dressed 123 = .ok (.aload_n 0, 1) := by decide +kernel
theorem dX11_dressed_124 : decode cX11_dressed 124 = .ok (.getfield 50, 3) := by decide +kernel
theorem dX11_dressed_127 : decode cX11_dressed 127 = .ok (.getfield 231, 3) := by decide +kernel
theorem dX11_dressed_130 : decode cX11_dressed 130 = .ok (.iload 5, 2) := by decide +kernel
theorem dX11_dressed_132 : decode cX11_dressed 132 = .ok (.bipush 16, 2) := by decide +kernel
theorem dX11_dressed_134 : decode cX11_dressed 134 = .ok (.ishr, 1) := by decide +kernel
theorem dX11_dressed_135 : decode cX11_dressed 135 = .ok (.aload_n 0, 1) := by decide +kernel
theorem dX11_dressed_136 : decode cX11_dressed 136 = .ok (.getfield 50, 3) := by decide +kernel
theorem dX11_dressed_139 : decode cX11_dressed 139 = .ok (.getfield 230, 3) := by decide +kernel
theorem dX11_dressed_142 : decode cX11_dressed 142 = .ok (.irem, 1) := by decide +kernel
theorem dX11_dressed_143 : decode cX11_dressed 143 = .ok (.iaload, 1) := by decide +kernel
theorem dX11_dressed_144 : decode cX11_dressed 144 = .ok (.istore 12, 2) := by decide +kernel
theorem dX11_dressed_146 : decode cX11_dressed 146 = .ok (.iload 7, 2) := by decide +kernel
theorem dX11_dressed_148 : decode cX11_dressed 148 = .ok (.aload 4, 2) := by decide +kernel
theorem dX11_dressed_150 : decode cX11_dressed 150 = .ok (.iload 12, 2) := by decide +kernel
theorem dX11_dressed_152 : decode cX11_dressed 152 = .ok (.invokevirtual 220, 3) := by decide +kernel
theorem dX11_dressed_155 : decode cX11_dressed 155 = .ok (.iadd, 1) := by decide +kernel
theorem dX11_dressed_156 : decode cX11_dressed 156 = .ok (.istore 7, 2) := by decide +kernel
theorem dX11_dressed_158 : decode cX11_dressed 158 = .ok (.iload 10, 2) := by decide +kernel
theorem dX11_dressed_160 : decode cX11_dressed 160 = .ok (.iload 12, 2) := by decide +kernel
theorem dX11_dressed_162 : decode cX11_dressed 162 = .ok (.invokestatic 223, 3) := by decide +kernel
theorem dX11_dressed_165 : decode cX11_dressed 165 = .ok (.istore 10, 2) := by decide +kernel
theorem dX11_dressed_167 : decode cX11_dressed 167 = .ok (.iinc 11 1, 3) := by decide +kernel
theorem dX11_dressed_170 : decode cX11_dressed 170 = .ok (.goto (-84), 3) := by decide +kernel
theorem dX11_dressed_113 : decode cX11_dressed 113 = .ok (.goto 60, 3) := by decide +kernel
set_option maxHeartbeats 4000000 in
set_option maxRecDepth 100000 in
theorem c_W_dressed_r (l : Launch) (D : va_G) (cs : Nat → ClassId) (X : XX) (sz : Nat) (ox : Nat) (ht : Nat) (hq : Nat) (og : Nat) (rc : Int32) (hw : Nat) (om : Nat) (hp : Nat) (ha : Nat) (hf : Nat) (hw0 : Nat) (qh : Option Nat) (qo : Option Nat) (wk : Int32) (wc : Int32) (wx : Int32) (wn : Int32) (wa0 : Nat) (wa1 : Nat) (wa2 : Nat) (wa3 : Nat) (as : Nat) (ad : Nat) (ac : Int32) (gs : Nat → Int32) (gc : Nat → Int32) (hl0 : Nat) (lb : Int32) (lh : Int32) (lg : Int32) (lw : Int32) (lv : Int32) (lbs : Int32) (lti : Int32) (lts : Int32) (le : Int32) (lk : Int32) (la : Int32) (l0 : Nat) (l1 : Nat) (l2 : Nat) (l3 : Nat) (l4 : Nat) (l5 : Nat) (l6 : Nat) (l7 : Nat) (f2 : Nat → Int32) (f3 : Nat → Int32) (f5 : Nat → Int32) (a : Int32) (b : Int32) (h : Int32) (r_lb : Rg 0 8 lb) (r_lh : Rg 0 8 lh) (r_le : Rg 0 6 le) (r_ac : Rg 0 72 ac) (r_wx : Rg 0 2147483647 wx) : Met l yX11_dressed (Cond.code yX11_dressed cX11_dressed 13 (some .int) :: TB) (RM 4 0 0) (va_Pc [.ref ox, .int a, .int b, .int h] (PRE D cs X [(ox, .inr (9, [.ref ht, .ref hq, .ref og, .int rc, .ref hw, .ref om, .ref hp, .ref ha, .ref hf, .ref hw0, va_rf qh, va_rf qo])), (hw, .inr (8, [.ref hl0, .int wk, .int wc, .int wx, .int wn, .ref wa0, .ref wa1, .ref wa2, .ref wa3])), (ha, .inr (0, [.ref as, .ref ad, .int ac])), (as, .inl ((cs 0), 8, .inl gs)), (ad, .inl ((cs 0), 72, .inl gc))] [(hl0, .inr (2, [.int lb, .int lh, .int lg, .int lw, .int lv, .int lbs, .int lti, .int lts, .int le, .int lk, .int la, .ref l0, .ref l1, .ref l2, .ref l3, .ref l4, .ref l5, .ref l6, .ref l7])), (l2, .inl ((cs 0), 8, .inl f2)), (l3, .inl ((cs 0), 8, .inl f3)), (l5, .inl ((cs 0), 8, .inl f5))] sz)) (va_Qi (S := Unit) (fun r _ => True) (fun _ t => ∃ (ac2 : Int32), ∃ (gs2 : Nat → Int32), ∃ (gc2 : Nat → Int32), Rg 0 72 ac2 ∧ va_P D vwCl [(ox, .inr (9, [.ref ht, .ref hq, .ref og, .int rc, .ref hw, .ref om, .ref hp, .ref ha, .ref hf, .ref hw0, va_rf qh, va_rf qo])), (hw, .inr (8, [.ref hl0, .int wk, .int wc, .int wx, .int wn, .ref wa0, .ref wa1, .ref wa2, .ref wa3])), (ha, .inr (0, [.ref as, .ref ad, .int ac2])), (as, .inl ((cs 0), 8, .inl gs2)), (ad, .inl ((cs 0), 72, .inl gc2))] t.heap ∧ va_D (va_A [(ox, .inr (9, [.ref ht, .ref hq, .ref og, .int rc, .ref hw, .ref om, .ref hp, .ref ha, .ref hf, .ref hw0, va_rf qh, va_rf qo])), (hw, .inr (8, [.ref hl0, .int wk, .int wc, .int wx, .int wn, .ref wa0, .ref wa1, .ref wa2, .ref wa3])), (ha, .inr (0, [.ref as, .ref ad, .int ac])), (as, .inl ((cs 0), 8, .inl gs)), (ad, .inl ((cs 0), 72, .inl gc))] sz) [(ox, .inr (9, [.ref ht, .ref hq, .ref og, .int rc, .ref hw, .ref om, .ref hp, .ref ha, .ref hf, .ref hw0, va_rf qh, va_rf qo])), (hw, .inr (8, [.ref hl0, .int wk, .int wc, .int wx, .int wn, .ref wa0, .ref wa1, .ref wa2, .ref wa3])), (ha, .inr (0, [.ref as, .ref ad, .int ac2])), (as, .inl ((cs 0), 8, .inl gs2)), (ad, .inl ((cs 0), 72, .inl gc2))]) (va_A [(ox, .inr (9, [.ref ht, .ref hq, .ref og, .int rc, .ref hw, .ref om, .ref hp, .ref ha, .ref hf, .ref hw0, va_rf qh, va_rf qo])), (hw, .inr (8, [.ref hl0, .int wk, .int wc, .int wx, .int wn, .ref wa0, .ref wa1, .ref wa2, .ref wa3])), (ha, .inr (0, [.ref as, .ref ad, .int ac])), (as, .inl ((cs 0), 8, .inl gs)), (ad, .inl ((cs 0), 72, .inl gc))] sz)) 0 0 (va_A [(ox, .inr (9, [.ref ht, .ref hq, .ref og, .int rc, .ref hw, .ref om, .ref hp, .ref ha, .ref hf, .ref hw0, va_rf qh, va_rf qo])), (hw, .inr (8, [.ref hl0, .int wk, .int wc, .int wx, .int wn, .ref wa0, .ref wa1, .ref wa2, .ref wa3])), (ha, .inr (0, [.ref as, .ref ad, .int ac])), (as, .inl ((cs 0), 8, .inl gs)), (ad, .inl ((cs 0), 72, .inl gc))] sz) := by
  refine MET (y := yX11_dressed) (cc := cX11_dressed) (maxL := 13) (ret := (some .int)) (d := 4) (mc := 0) (ms := 0) (D := D) (cs := cs) (X := X) (ws := [(ox, .inr (9, [.ref ht, .ref hq, .ref og, .int rc, .ref hw, .ref om, .ref hp, .ref ha, .ref hf, .ref hw0, va_rf qh, va_rf qo])), (hw, .inr (8, [.ref hl0, .int wk, .int wc, .int wx, .int wn, .ref wa0, .ref wa1, .ref wa2, .ref wa3])), (ha, .inr (0, [.ref as, .ref ad, .int ac])), (as, .inl ((cs 0), 8, .inl gs)), (ad, .inl ((cs 0), 72, .inl gc))]) (wo := [(hl0, .inr (2, [.int lb, .int lh, .int lg, .int lw, .int lv, .int lbs, .int lti, .int lts, .int le, .int lk, .int la, .ref l0, .ref l1, .ref l2, .ref l3, .ref l4, .ref l5, .ref l6, .ref l7])), (l2, .inl ((cs 0), 8, .inl f2)), (l3, .inl ((cs 0), 8, .inl f3)), (l5, .inl ((cs 0), 8, .inl f5))]) (sz := sz) (av := [.ref ox, .int a, .int b, .int h]) (Qc := fun A => va_Qi (S := Unit) (fun r _ => True) (fun _ t => ∃ (ac2 : Int32), ∃ (gs2 : Nat → Int32), ∃ (gc2 : Nat → Int32), Rg 0 72 ac2 ∧ va_P D vwCl [(ox, .inr (9, [.ref ht, .ref hq, .ref og, .int rc, .ref hw, .ref om, .ref hp, .ref ha, .ref hf, .ref hw0, va_rf qh, va_rf qo])), (hw, .inr (8, [.ref hl0, .int wk, .int wc, .int wx, .int wn, .ref wa0, .ref wa1, .ref wa2, .ref wa3])), (ha, .inr (0, [.ref as, .ref ad, .int ac2])), (as, .inl ((cs 0), 8, .inl gs2)), (ad, .inl ((cs 0), 72, .inl gc2))] t.heap ∧ va_D A [(ox, .inr (9, [.ref ht, .ref hq, .ref og, .int rc, .ref hw, .ref om, .ref hp, .ref ha, .ref hf, .ref hw0, va_rf qh, va_rf qo])), (hw, .inr (8, [.ref hl0, .int wk, .int wc, .int wx, .int wn, .ref wa0, .ref wa1, .ref wa2, .ref wa3])), (ha, .inr (0, [.ref as, .ref ad, .int ac2])), (as, .inl ((cs 0), 8, .inl gs2)), (ad, .inl ((cs 0), 72, .inl gc2))]) A) (by decide) (Nat.le_of_ble_eq_true rfl) ?_
  intro p e s m below meth c ls A H hHe hx hb hr hml hown hts hlocks hnm hP hK hD hA hS hN hR hX hXs hl
  have hD : va_D A [(ox, .inr (9, [.ref ht, .ref hq, .ref og, .int rc, .ref hw, .ref om, .ref hp, .ref ha, .ref hf, .ref hw0, va_rf qh, va_rf qo])), (hw, .inr (8, [.ref hl0, .int wk, .int wc, .int wx, .int wn, .ref wa0, .ref wa1, .ref wa2, .ref wa3])), (ha, .inr (0, [.ref as, .ref ad, .int ac])), (as, .inl ((cs 0), 8, .inl gs)), (ad, .inl ((cs 0), 72, .inl gc))] := hD
  have hPo := hR.at hS
  obtain ⟨locs, hlc⟩ : ∃ z : List Loc, z = [] := ⟨_, rfl⟩
  rw [← hlc] at hS ⊢
  have hown : s.vm.findClass "WrongHole" = some m.cls := hown
  have hT : ∀ w ∈ TB, w.before ([.ref ox, .int a, .int b, .int h] : List Value).toArray s = true := fun w h => hts w (List.mem_cons_of_mem _ h)
  have hl : lv_has ls 13 [(0, .ref ox), (1, .int a), (2, .int b), (3, .int h)] := hl
  have hP : va_P D vwCl [(ox, .inr (9, [.ref ht, .ref hq, .ref og, .int rc, .ref hw, .ref om, .ref hp, .ref ha, .ref hf, .ref hw0, va_rf qh, va_rf qo])), (hw, .inr (8, [.ref hl0, .int wk, .int wc, .int wx, .int wn, .ref wa0, .ref wa1, .ref wa2, .ref wa3])), (ha, .inr (0, [.ref as, .ref ad, .int ac])), (as, .inl ((cs 0), 8, .inl gs)), (ad, .inl ((cs 0), 72, .inl gc))] H := hP
  refine lv_aload_n hx hb dX11_dressed_0 rfl (lv_at hl 0 rfl) ?_
  refine va_get (D := D) (ci := 9) (v := .ref hw) (C := "WrongHole") (T := TX11) (N := 12) hx hb hts (iq_RX11 _) hown hK hP 0 rfl rfl 4 (by decide) (hT _ qq_1_206) (fun _ h9 => h9) rfl dX11_dressed_1 ?_
  refine va_getN (D := D) (ci := 8) (v := .ref hl0) (C := "WrongHole$Worn") (T := TX10) (N := 9) hx hb hts (iq_RX10 _) hown hK hP 1 rfl rfl 0 (by decide) (NN.f hN nq_1_99) (fun _ h9 => h9) rfl dX11_dressed_4 ?_
  refine lv_astore (lv' := [(4, .ref hl0), (0, .ref ox), (1, .int a), (2, .int b), (3, .int h)]) hx hb dX11_dressed_7 hl (by decide) rfl (fun ls hl => ?_)
  refine lv_aload hx hb dX11_dressed_9 (lv_at hl 0 rfl) ?_
  refine lv_ifnull hx hb dX11_dressed_11 ?_
  refine lv_iload_n hx hb dX11_dressed_14 rfl (lv_at hl 2 rfl) ?_
  refine lv_iconst (v := 1) hx hb dX11_dressed_15 (by decide) ?_
  refine lv_icmp_lt (tgt := 45) hx hb dX11_dressed_16 (by decide) (fun c_1 => ?_) (fun c_1 => ?_)
  · have r_2 : Rg (-2147483648) 0 a := Rg.lt_l c_1 (Rg.top a) (Rg.c (c := 1) (k := 1) rfl) (by decide)
    refine lv_iconst (v := (-1)) hx hb dX11_dressed_45 (by decide) ?_
    refine W.widen (k := 0) (n := 0) (Nat.le_of_ble_eq_true rfl) (Nat.le_of_ble_eq_true rfl) ?_
    have hP9 := hP.sub (ws' := [(ox, .inr (9, [.ref ht, .ref hq, .ref og, .int rc, .ref hw, .ref om, .ref hp, .ref ha, .ref hf, .ref hw0, va_rf qh, va_rf qo])), (hw, .inr (8, [.ref hl0, .int wk, .int wc, .int wx, .int wn, .ref wa0, .ref wa1, .ref wa2, .ref wa3])), (ha, .inr (0, [.ref as, .ref ad, .int ac])), (as, .inl ((cs 0), 8, .inl gs)), (ad, .inl ((cs 0), 72, .inl gc))]) [0, 1, 2, 3, 4] rfl
    have hD9 := hD.sub (ws' := [(ox, .inr (9, [.ref ht, .ref hq, .ref og, .int rc, .ref hw, .ref om, .ref hp, .ref ha, .ref hf, .ref hw0, va_rf qh, va_rf qo])), (hw, .inr (8, [.ref hl0, .int wk, .int wc, .int wx, .int wn, .ref wa0, .ref wa1, .ref wa2, .ref wa3])), (ha, .inr (0, [.ref as, .ref ad, .int ac])), (as, .inl ((cs 0), 8, .inl gs)), (ad, .inl ((cs 0), 72, .inl gc))]) [0, 1, 2, 3, 4] (by decide) rfl
    exact W.iret (v := (-1)) hx hb hr (fun t9 ht9 hW9 => ⟨⟨_, (), rfl, trivial, ⟨ac, gs, gc, r_ac, by rw [ht9]; exact hP9, hD9⟩⟩, hS.F ht9⟩) hS.2.2 dX11_dressed_46
  · have r_3 : Rg 1 2147483647 a := Rg.le_r (nlt_le c_1) (Rg.c (c := 1) (k := 1) rfl) (Rg.top a) (by decide)
    refine lv_iload_n hx hb dX11_dressed_19 rfl (lv_at hl 2 rfl) ?_
    refine lv_bipush (v := 20) hx hb dX11_dressed_20 (by decide) ?_
    refine lv_icmp_gt (tgt := 45) hx hb dX11_dressed_22 (by decide) (fun c_4 => ?_) (fun c_4 => ?_)
    · have r_5 : Rg 21 2147483647 a := Rg.lt_r c_4 (Rg.c (c := 20) (k := 20) rfl) r_3 (by decide)
      refine lv_iconst (v := (-1)) hx hb dX11_dressed_45 (by decide) ?_
      refine W.widen (k := 0) (n := 0) (Nat.le_of_ble_eq_true rfl) (Nat.le_of_ble_eq_true rfl) ?_
      have hP9 := hP.sub (ws' := [(ox, .inr (9, [.ref ht, .ref hq, .ref og, .int rc, .ref hw, .ref om, .ref hp, .ref ha, .ref hf, .ref hw0, va_rf qh, va_rf qo])), (hw, .inr (8, [.ref hl0, .int wk, .int wc, .int wx, .int wn, .ref wa0, .ref wa1, .ref wa2, .ref wa3])), (ha, .inr (0, [.ref as, .ref ad, .int ac])), (as, .inl ((cs 0), 8, .inl gs)), (ad, .inl ((cs 0), 72, .inl gc))]) [0, 1, 2, 3, 4] rfl
      have hD9 := hD.sub (ws' := [(ox, .inr (9, [.ref ht, .ref hq, .ref og, .int rc, .ref hw, .ref om, .ref hp, .ref ha, .ref hf, .ref hw0, va_rf qh, va_rf qo])), (hw, .inr (8, [.ref hl0, .int wk, .int wc, .int wx, .int wn, .ref wa0, .ref wa1, .ref wa2, .ref wa3])), (ha, .inr (0, [.ref as, .ref ad, .int ac])), (as, .inl ((cs 0), 8, .inl gs)), (ad, .inl ((cs 0), 72, .inl gc))]) [0, 1, 2, 3, 4] (by decide) rfl
      exact W.iret (v := (-1)) hx hb hr (fun t9 ht9 hW9 => ⟨⟨_, (), rfl, trivial, ⟨ac, gs, gc, r_ac, by rw [ht9]; exact hP9, hD9⟩⟩, hS.F ht9⟩) hS.2.2 dX11_dressed_46
    · have r_6 : Rg 1 20 a := Rg.le_l (nlt_le c_4) r_3 (Rg.c (c := 20) (k := 20) rfl) (by decide)
      refine lv_iload_n hx hb dX11_dressed_25 rfl (lv_at hl 3 rfl) ?_
      refine lv_iconst (v := 1) hx hb dX11_dressed_26 (by decide) ?_
      refine lv_icmp_lt (tgt := 45) hx hb dX11_dressed_27 (by decide) (fun c_7 => ?_) (fun c_7 => ?_)
      · have r_8 : Rg (-2147483648) 0 b := Rg.lt_l c_7 (Rg.top b) (Rg.c (c := 1) (k := 1) rfl) (by decide)
        refine lv_iconst (v := (-1)) hx hb dX11_dressed_45 (by decide) ?_
        refine W.widen (k := 0) (n := 0) (Nat.le_of_ble_eq_true rfl) (Nat.le_of_ble_eq_true rfl) ?_
        have hP9 := hP.sub (ws' := [(ox, .inr (9, [.ref ht, .ref hq, .ref og, .int rc, .ref hw, .ref om, .ref hp, .ref ha, .ref hf, .ref hw0, va_rf qh, va_rf qo])), (hw, .inr (8, [.ref hl0, .int wk, .int wc, .int wx, .int wn, .ref wa0, .ref wa1, .ref wa2, .ref wa3])), (ha, .inr (0, [.ref as, .ref ad, .int ac])), (as, .inl ((cs 0), 8, .inl gs)), (ad, .inl ((cs 0), 72, .inl gc))]) [0, 1, 2, 3, 4] rfl
        have hD9 := hD.sub (ws' := [(ox, .inr (9, [.ref ht, .ref hq, .ref og, .int rc, .ref hw, .ref om, .ref hp, .ref ha, .ref hf, .ref hw0, va_rf qh, va_rf qo])), (hw, .inr (8, [.ref hl0, .int wk, .int wc, .int wx, .int wn, .ref wa0, .ref wa1, .ref wa2, .ref wa3])), (ha, .inr (0, [.ref as, .ref ad, .int ac])), (as, .inl ((cs 0), 8, .inl gs)), (ad, .inl ((cs 0), 72, .inl gc))]) [0, 1, 2, 3, 4] (by decide) rfl
        exact W.iret (v := (-1)) hx hb hr (fun t9 ht9 hW9 => ⟨⟨_, (), rfl, trivial, ⟨ac, gs, gc, r_ac, by rw [ht9]; exact hP9, hD9⟩⟩, hS.F ht9⟩) hS.2.2 dX11_dressed_46
      · have r_9 : Rg 1 2147483647 b := Rg.le_r (nlt_le c_7) (Rg.c (c := 1) (k := 1) rfl) (Rg.top b) (by decide)
        refine lv_iload_n hx hb dX11_dressed_30 rfl (lv_at hl 3 rfl) ?_
        refine lv_bipush (v := 60) hx hb dX11_dressed_31 (by decide) ?_
        refine lv_icmp_gt (tgt := 45) hx hb dX11_dressed_33 (by decide) (fun c_10 => ?_) (fun c_10 => ?_)
        · have r_11 : Rg 61 2147483647 b := Rg.lt_r c_10 (Rg.c (c := 60) (k := 60) rfl) r_9 (by decide)
          refine lv_iconst (v := (-1)) hx hb dX11_dressed_45 (by decide) ?_
          refine W.widen (k := 0) (n := 0) (Nat.le_of_ble_eq_true rfl) (Nat.le_of_ble_eq_true rfl) ?_
          have hP9 := hP.sub (ws' := [(ox, .inr (9, [.ref ht, .ref hq, .ref og, .int rc, .ref hw, .ref om, .ref hp, .ref ha, .ref hf, .ref hw0, va_rf qh, va_rf qo])), (hw, .inr (8, [.ref hl0, .int wk, .int wc, .int wx, .int wn, .ref wa0, .ref wa1, .ref wa2, .ref wa3])), (ha, .inr (0, [.ref as, .ref ad, .int ac])), (as, .inl ((cs 0), 8, .inl gs)), (ad, .inl ((cs 0), 72, .inl gc))]) [0, 1, 2, 3, 4] rfl
          have hD9 := hD.sub (ws' := [(ox, .inr (9, [.ref ht, .ref hq, .ref og, .int rc, .ref hw, .ref om, .ref hp, .ref ha, .ref hf, .ref hw0, va_rf qh, va_rf qo])), (hw, .inr (8, [.ref hl0, .int wk, .int wc, .int wx, .int wn, .ref wa0, .ref wa1, .ref wa2, .ref wa3])), (ha, .inr (0, [.ref as, .ref ad, .int ac])), (as, .inl ((cs 0), 8, .inl gs)), (ad, .inl ((cs 0), 72, .inl gc))]) [0, 1, 2, 3, 4] (by decide) rfl
          exact W.iret (v := (-1)) hx hb hr (fun t9 ht9 hW9 => ⟨⟨_, (), rfl, trivial, ⟨ac, gs, gc, r_ac, by rw [ht9]; exact hP9, hD9⟩⟩, hS.F ht9⟩) hS.2.2 dX11_dressed_46
        · have r_12 : Rg 1 60 b := Rg.le_l (nlt_le c_10) r_9 (Rg.c (c := 60) (k := 60) rfl) (by decide)
          refine lv_iload_n hx hb dX11_dressed_36 rfl (lv_at hl 4 rfl) ?_
          refine lv_if_lt (tgt := 45) hx hb dX11_dressed_37 (by decide) (fun c_13 => ?_) (fun c_13 => ?_)
          · have r_14 : Rg (-2147483648) (-1) h := Rg.lt_l c_13 (Rg.top h) (Rg.c (c := 0) (k := 0) rfl) (by decide)
            refine lv_iconst (v := (-1)) hx hb dX11_dressed_45 (by decide) ?_
            refine W.widen (k := 0) (n := 0) (Nat.le_of_ble_eq_true rfl) (Nat.le_of_ble_eq_true rfl) ?_
            have hP9 := hP.sub (ws' := [(ox, .inr (9, [.ref ht, .ref hq, .ref og, .int rc, .ref hw, .ref om, .ref hp, .ref ha, .ref hf, .ref hw0, va_rf qh, va_rf qo])), (hw, .inr (8, [.ref hl0, .int wk, .int wc, .int wx, .int wn, .ref wa0, .ref wa1, .ref wa2, .ref wa3])), (ha, .inr (0, [.ref as, .ref ad, .int ac])), (as, .inl ((cs 0), 8, .inl gs)), (ad, .inl ((cs 0), 72, .inl gc))]) [0, 1, 2, 3, 4] rfl
            have hD9 := hD.sub (ws' := [(ox, .inr (9, [.ref ht, .ref hq, .ref og, .int rc, .ref hw, .ref om, .ref hp, .ref ha, .ref hf, .ref hw0, va_rf qh, va_rf qo])), (hw, .inr (8, [.ref hl0, .int wk, .int wc, .int wx, .int wn, .ref wa0, .ref wa1, .ref wa2, .ref wa3])), (ha, .inr (0, [.ref as, .ref ad, .int ac])), (as, .inl ((cs 0), 8, .inl gs)), (ad, .inl ((cs 0), 72, .inl gc))]) [0, 1, 2, 3, 4] (by decide) rfl
            exact W.iret (v := (-1)) hx hb hr (fun t9 ht9 hW9 => ⟨⟨_, (), rfl, trivial, ⟨ac, gs, gc, r_ac, by rw [ht9]; exact hP9, hD9⟩⟩, hS.F ht9⟩) hS.2.2 dX11_dressed_46
          · have r_15 : Rg 0 2147483647 h := Rg.le_r (nlt_le c_13) (Rg.c (c := 0) (k := 0) rfl) (Rg.top h) (by decide)
            refine lv_iload_n hx hb dX11_dressed_40 rfl (lv_at hl 4 rfl) ?_
            refine lv_iconst (v := 2) hx hb dX11_dressed_41 (by decide) ?_
            refine lv_icmp_le (tgt := 47) hx hb dX11_dressed_42 (by decide) (fun c_16 => ?_) (fun c_16 => ?_)
            · have r_17 : Rg 0 2 h := Rg.le_l c_16 r_15 (Rg.c (c := 2) (k := 2) rfl) (by decide)
              refine lv_aload_n hx hb dX11_dressed_47 rfl (lv_at hl 1 rfl) ?_
              refine va_get (D := D) (ci := 9) (v := .ref hw) (C := "WrongHole") (T := TX11) (N := 12) hx hb hts (iq_RX11 _) hown hK hP 0 rfl rfl 4 (by decide) (hT _ qq_1_206) (fun _ h9 => h9) rfl dX11_dressed_48 ?_
              refine va_getN (D := D) (ci := 8) (v := .int wx) (C := "WrongHole$Worn") (T := TX10) (N := 9) hx hb hts (iq_RX10 _) hown hK hP 1 rfl rfl 3 (by decide) (NN.f hN nq_1_105) (fun _ h9 => h9) rfl dX11_dressed_51 ?_
              refine lv_istore (lv' := [(5, .int wx), (4, .ref hl0), (0, .ref ox), (1, .int a), (2, .int b), (3, .int h)]) hx hb dX11_dressed_54 hl (by decide) rfl (fun ls hl => ?_)
              refine lv_iconst (v := 0) hx hb dX11_dressed_56 (by decide) ?_
              refine lv_istore (lv' := [(6, .int 0), (5, .int wx), (4, .ref hl0), (0, .ref ox), (1, .int a), (2, .int b), (3, .int h)]) hx hb dX11_dressed_57 hl (by decide) rfl (fun ls hl => ?_)
              refine lv_iconst (v := 0) hx hb dX11_dressed_59 (by decide) ?_
              refine lv_istore (lv' := [(7, .int 0), (6, .int 0), (5, .int wx), (4, .ref hl0), (0, .ref ox), (1, .int a), (2, .int b), (3, .int h)]) hx hb dX11_dressed_60 hl (by decide) rfl (fun ls hl => ?_)
              refine lv_iconst (v := 0) hx hb dX11_dressed_62 (by decide) ?_
              refine lv_istore (lv' := [(8, .int 0), (7, .int 0), (6, .int 0), (5, .int wx), (4, .ref hl0), (0, .ref ox), (1, .int a), (2, .int b), (3, .int h)]) hx hb dX11_dressed_63 hl (by decide) rfl (fun ls hl => ?_)
              refine lv_iconst (v := 0) hx hb dX11_dressed_65 (by decide) ?_
              refine lv_istore (lv' := [(9, .int 0), (8, .int 0), (7, .int 0), (6, .int 0), (5, .int wx), (4, .ref hl0), (0, .ref ox), (1, .int a), (2, .int b), (3, .int h)]) hx hb dX11_dressed_66 hl (by decide) rfl (fun ls hl => ?_)
              refine w_wh (σ := (Int32) × (Int32) × (Int32) × (Int32) × (Int32) × (Int32) × (Nat → Int32) × (Nat → Int32)) (fun x9 H locs ls => match x9 with | (v_1492, v_1493, v_1494, v_1495, v_1496, v_1497, g_1498, g_1499) => Rg 0 20 v_1492 ∧ Rg 0 2147483647 v_1496 ∧ Rg 0 72 v_1497 ∧ va_P D vwCl [(ox, .inr (9, [.ref ht, .ref hq, .ref og, .int rc, .ref hw, .ref om, .ref hp, .ref ha, .ref hf, .ref hw0, va_rf qh, va_rf qo])), (hw, .inr (8, [.ref hl0, .int wk, .int wc, .int wx, .int wn, .ref wa0, .ref wa1, .ref wa2, .ref wa3])), (ha, .inr (0, [.ref as, .ref ad, .int v_1497])), (as, .inl ((cs 0), 8, .inl g_1498)), (ad, .inl ((cs 0), 72, .inl g_1499))] H ∧ va_D A [(ox, .inr (9, [.ref ht, .ref hq, .ref og, .int rc, .ref hw, .ref om, .ref hp, .ref ha, .ref hf, .ref hw0, va_rf qh, va_rf qo])), (hw, .inr (8, [.ref hl0, .int wk, .int wc, .int wx, .int wn, .ref wa0, .ref wa1, .ref wa2, .ref wa3])), (ha, .inr (0, [.ref as, .ref ad, .int v_1497])), (as, .inl ((cs 0), 8, .inl g_1498)), (ad, .inl ((cs 0), 72, .inl g_1499))] ∧ va_S A s.heap H locs ∧ lv_has ls 13 [(9, .int v_1492), (8, .int v_1493), (7, .int v_1494), (6, .int v_1495), (5, .int v_1496), (4, .ref hl0), (0, .ref ox), (1, .int a), (2, .int b), (3, .int h)]) (fun x9 => match x9 with | (v_1492, v_1493, v_1494, v_1495, v_1496, v_1497, g_1498, g_1499) => (20 - Int32.toInt v_1492).toNat) 68 ?_ (0, 0, 0, 0, wx, ac, gs, gc) H locs ls ⟨(Rg.wk (lo2 := 0) (hi2 := 20) (Rg.c (c := 0) (k := 0) rfl) (by decide)), r_wx, r_ac, hP, hD, hS, lv_sub hl [0, 1, 2, 3, 4, 5, 6, 7, 8, 9] rfl⟩
              rintro ⟨v_1492, v_1493, v_1494, v_1495, v_1496, v_1497, g_1498, g_1499⟩ H locs ls ⟨r_52662, r_52663, r_52664, hP, hD, hS, hl⟩ ih_52661
              have hPo := hR.at hS
              refine lv_iload hx hb dX11_dressed_68 (lv_at hl 0 rfl) ?_
              refine lv_iload_n hx hb dX11_dressed_70 rfl (lv_at hl 7 rfl) ?_
              refine lv_icmp_ge (tgt := 212) hx hb dX11_dressed_71 (by decide) (fun c_52665 => ?_) (fun c_52665 => ?_)
              · have r_52666 : Rg 1 20 v_1492 := Rg.le_r c_52665 r_6 r_52662 (by decide)
                refine lv_iload_n hx hb dX11_dressed_212 rfl (lv_at hl 9 rfl) ?_
                refine lv_if_ne (tgt := 219) hx hb dX11_dressed_213 (by decide) (fun c_54156 => ?_) (fun c_54156 => ?_)
                · have r_54157 : Rg 1 2 h := Rg.ne c_54156 r_17 (Rg.c (c := 0) (k := 0) rfl) (by decide)
                  refine lv_iload_n hx hb dX11_dressed_219 rfl (lv_at hl 9 rfl) ?_
                  refine lv_iconst (v := 1) hx hb dX11_dressed_220 (by decide) ?_
                  refine lv_icmp_ne (tgt := 229) hx hb dX11_dressed_221 (by decide) (fun c_54159 => ?_) (fun c_54159 => ?_)
                  · have r_54160 : Rg 2 2 h := Rg.ne c_54159 r_54157 (Rg.c (c := 1) (k := 1) rfl) (by decide)
                    refine lv_iload hx hb dX11_dressed_229 (lv_at hl 1 rfl) ?_
                    refine W.widen (k := 0) (n := 0) (Nat.le_of_ble_eq_true rfl) (Nat.le_of_ble_eq_true rfl) ?_
                    have hP9 := hP.sub (ws' := [(ox, .inr (9, [.ref ht, .ref hq, .ref og, .int rc, .ref hw, .ref om, .ref hp, .ref ha, .ref hf, .ref hw0, va_rf qh, va_rf qo])), (hw, .inr (8, [.ref hl0, .int wk, .int wc, .int wx, .int wn, .ref wa0, .ref wa1, .ref wa2, .ref wa3])), (ha, .inr (0, [.ref as, .ref ad, .int v_1497])), (as, .inl ((cs 0), 8, .inl g_1498)), (ad, .inl ((cs 0), 72, .inl g_1499))]) [0, 1, 2, 3, 4] rfl
                    have hD9 := hD.sub (ws' := [(ox, .inr (9, [.ref ht, .ref hq, .ref og, .int rc, .ref hw, .ref om, .ref hp, .ref ha, .ref hf, .ref hw0, va_rf qh, va_rf qo])), (hw, .inr (8, [.ref hl0, .int wk, .int wc, .int wx, .int wn, .ref wa0, .ref wa1, .ref wa2, .ref wa3])), (ha, .inr (0, [.ref as, .ref ad, .int v_1497])), (as, .inl ((cs 0), 8, .inl g_1498)), (ad, .inl ((cs 0), 72, .inl g_1499))]) [0, 1, 2, 3, 4] (by decide) rfl
                    exact W.iret (v := v_1493) hx hb hr (fun t9 ht9 hW9 => ⟨⟨_, (), rfl, trivial, ⟨v_1497, g_1498, g_1499, r_52664, by rw [ht9]; exact hP9, hD9⟩⟩, hS.F ht9⟩) hS.2.2 dX11_dressed_231
                  · have r_54161 : Rg 1 1 h := Rg.eq_l c_54159 r_54157 (Rg.c (c := 1) (k := 1) rfl) (by decide)
                    refine lv_iload hx hb dX11_dressed_224 (lv_at hl 2 rfl) ?_
                    refine lv_goto (tgt := 231) hx hb dX11_dressed_226 (by decide) ?_
                    refine W.widen (k := 0) (n := 0) (Nat.le_of_ble_eq_true rfl) (Nat.le_of_ble_eq_true rfl) ?_
                    have hP9 := hP.sub (ws' := [(ox, .inr (9, [.ref ht, .ref hq, .ref og, .int rc, .ref hw, .ref om, .ref hp, .ref ha, .ref hf, .ref hw0, va_rf qh, va_rf qo])), (hw, .inr (8, [.ref hl0, .int wk, .int wc, .int wx, .int wn, .ref wa0, .ref wa1, .ref wa2, .ref wa3])), (ha, .inr (0, [.ref as, .ref ad, .int v_1497])), (as, .inl ((cs 0), 8, .inl g_1498)), (ad, .inl ((cs 0), 72, .inl g_1499))]) [0, 1, 2, 3, 4] rfl
                    have hD9 := hD.sub (ws' := [(ox, .inr (9, [.ref ht, .ref hq, .ref og, .int rc, .ref hw, .ref om, .ref hp, .ref ha, .ref hf, .ref hw0, va_rf qh, va_rf qo])), (hw, .inr (8, [.ref hl0, .int wk, .int wc, .int wx, .int wn, .ref wa0, .ref wa1, .ref wa2, .ref wa3])), (ha, .inr (0, [.ref as, .ref ad, .int v_1497])), (as, .inl ((cs 0), 8, .inl g_1498)), (ad, .inl ((cs 0), 72, .inl g_1499))]) [0, 1, 2, 3, 4] (by decide) rfl
                    exact W.iret (v := v_1494) hx hb hr (fun t9 ht9 hW9 => ⟨⟨_, (), rfl, trivial, ⟨v_1497, g_1498, g_1499, r_52664, by rw [ht9]; exact hP9, hD9⟩⟩, hS.F ht9⟩) hS.2.2 dX11_dressed_231
                · have r_54158 : Rg 0 0 h := Rg.eq_l c_54156 r_17 (Rg.c (c := 0) (k := 0) rfl) (by decide)
                  refine lv_iload hx hb dX11_dressed_216 (lv_at hl 3 rfl) ?_
                  refine W.widen (k := 0) (n := 0) (Nat.le_of_ble_eq_true rfl) (Nat.le_of_ble_eq_true rfl) ?_
                  have hP9 := hP.sub (ws' := [(ox, .inr (9, [.ref ht, .ref hq, .ref og, .int rc, .ref hw, .ref om, .ref hp, .ref ha, .ref hf, .ref hw0, va_rf qh, va_rf qo])), (hw, .inr (8, [.ref hl0, .int wk, .int wc, .int wx, .int wn, .ref wa0, .ref wa1, .ref wa2, .ref wa3])), (ha, .inr (0, [.ref as, .ref ad, .int v_1497])), (as, .inl ((cs 0), 8, .inl g_1498)), (ad, .inl ((cs 0), 72, .inl g_1499))]) [0, 1, 2, 3, 4] rfl
                  have hD9 := hD.sub (ws' := [(ox, .inr (9, [.ref ht, .ref hq, .ref og, .int rc, .ref hw, .ref om, .ref hp, .ref ha, .ref hf, .ref hw0, va_rf qh, va_rf qo])), (hw, .inr (8, [.ref hl0, .int wk, .int wc, .int wx, .int wn, .ref wa0, .ref wa1, .ref wa2, .ref wa3])), (ha, .inr (0, [.ref as, .ref ad, .int v_1497])), (as, .inl ((cs 0), 8, .inl g_1498)), (ad, .inl ((cs 0), 72, .inl g_1499))]) [0, 1, 2, 3, 4] (by decide) rfl
                  exact W.iret (v := v_1495) hx hb hr (fun t9 ht9 hW9 => ⟨⟨_, (), rfl, trivial, ⟨v_1497, g_1498, g_1499, r_52664, by rw [ht9]; exact hP9, hD9⟩⟩, hS.F ht9⟩) hS.2.2 dX11_dressed_218
              · have r_52667 : Rg 0 19 v_1492 := Rg.lt_l (nle_lt c_52665) r_52662 r_6 (by decide)
                refine lv_aload_n hx hb dX11_dressed_74 rfl (lv_at hl 6 rfl) ?_
                refine va_get (D := D) (ci := 9) (v := .ref hw) (C := "WrongHole") (T := TX11) (N := 12) hx hb hts (iq_RX11 _) hown hK hP 0 rfl rfl 4 (by decide) (hT _ qq_1_206) (fun _ h9 => h9) rfl dX11_dressed_75 ?_
                refine va_getN (D := D) (ci := 8) (v := .int wk) (C := "WrongHole$Worn") (T := TX10) (N := 9) hx hb hts (iq_RX10 _) hown hK hP 1 rfl rfl 1 (by decide) (NN.f hN nq_1_101) (fun _ h9 => h9) rfl dX11_dressed_78 ?_
                refine lv_istore (lv' := [(10, .int wk), (9, .int v_1492), (8, .int v_1493), (7, .int v_1494), (6, .int v_1495), (5, .int v_1496), (4, .ref hl0), (0, .ref ox), (1, .int a), (2, .int b), (3, .int h)]) hx hb dX11_dressed_81 hl (by decide) rfl (fun ls hl => ?_)
                refine lv_iconst (v := 0) hx hb dX11_dressed_83 (by decide) ?_
                refine lv_istore (lv' := [(11, .int 0), (10, .int wk), (9, .int v_1492), (8, .int v_1493), (7, .int v_1494), (6, .int v_1495), (5, .int v_1496), (4, .ref hl0), (0, .ref ox), (1, .int a), (2, .int b), (3, .int h)]) hx hb dX11_dressed_84 hl (by decide) rfl (fun ls hl => ?_)
                refine w_wh (σ := (Int32) × (Int32) × (Int32) × (Int32) × (Int32) × (Nat → Int32) × (Nat → Int32)) (fun x9 H locs ls => match x9 with | (v_54233, v_54234, v_54235, v_54236, v_54237, g_54238, g_54239) => Rg 0 60 v_54233 ∧ Rg 0 2147483647 v_54236 ∧ Rg 0 72 v_54237 ∧ va_P D vwCl [(ox, .inr (9, [.ref ht, .ref hq, .ref og, .int rc, .ref hw, .ref om, .ref hp, .ref ha, .ref hf, .ref hw0, va_rf qh, va_rf qo])), (hw, .inr (8, [.ref hl0, .int wk, .int wc, .int wx, .int wn, .ref wa0, .ref wa1, .ref wa2, .ref wa3])), (ha, .inr (0, [.ref as, .ref ad, .int v_54237])), (as, .inl ((cs 0), 8, .inl g_54238)), (ad, .inl ((cs 0), 72, .inl g_54239))] H ∧ va_D A [(ox, .inr (9, [.ref ht, .ref hq, .ref og, .int rc, .ref hw, .ref om, .ref hp, .ref ha, .ref hf, .ref hw0, va_rf qh, va_rf qo])), (hw, .inr (8, [.ref hl0, .int wk, .int wc, .int wx, .int wn, .ref wa0, .ref wa1, .ref wa2, .ref wa3])), (ha, .inr (0, [.ref as, .ref ad, .int v_54237])), (as, .inl ((cs 0), 8, .inl g_54238)), (ad, .inl ((cs 0), 72, .inl g_54239))] ∧ va_S A s.heap H locs ∧ lv_has ls 13 [(11, .int v_54233), (10, .int v_54234), (9, .int v_1492), (8, .int v_1493), (7, .int v_54235), (6, .int v_1495), (5, .int v_54236), (4, .ref hl0), (0, .ref ox), (1, .int a), (2, .int b), (3, .int h)]) (fun x9 => match x9 with | (v_54233, v_54234, v_54235, v_54236, v_54237, g_54238, g_54239) => (60 - Int32.toInt v_54233).toNat) 86 ?_ (0, wk, v_1494, v_1496, v_1497, g_1498, g_1499) H locs ls ⟨(Rg.wk (lo2 := 0) (hi2 := 60) (Rg.c (c := 0) (k := 0) rfl) (by decide)), r_52663, r_52664, hP, hD, hS, lv_sub hl [0, 1, 2, 3, 4, 5, 6, 7, 8, 9, 10, 11] rfl⟩
                rintro ⟨v_54233, v_54234, v_54235, v_54236, v_54237, g_54238, g_54239⟩ H locs ls ⟨r_55557, r_55558, r_55559, hP, hD, hS, hl⟩ ih_55556
                have hPo := hR.at hS
                refine lv_iload hx hb dX11_dressed_86 (lv_at hl 0 rfl) ?_
                refine lv_iload_n hx hb dX11_dressed_88 rfl (lv_at hl 10 rfl) ?_
                refine w_cut (σ := (Int32) × (Nat → Int32) × (Nat → Int32)) (fun x9 H locs ls => match x9 with | (v_55597, g_55598, g_55599) => Rg 0 72 v_55597 ∧ va_P D vwCl [(ox, .inr (9, [.ref ht, .ref hq, .ref og, .int rc, .ref hw, .ref om, .ref hp, .ref ha, .ref hf, .ref hw0, va_rf qh, va_rf qo])), (hw, .inr (8, [.ref hl0, .int wk, .int wc, .int wx, .int wn, .ref wa0, .ref wa1, .ref wa2, .ref wa3])), (ha, .inr (0, [.ref as, .ref ad, .int v_55597])), (as, .inl ((cs 0), 8, .inl g_55598)), (ad, .inl ((cs 0), 72, .inl g_55599))] H ∧ va_D A [(ox, .inr (9, [.ref ht, .ref hq, .ref og, .int rc, .ref hw, .ref om, .ref hp, .ref ha, .ref hf, .ref hw0, va_rf qh, va_rf qo])), (hw, .inr (8, [.ref hl0, .int wk, .int wc, .int wx, .int wn, .ref wa0, .ref wa1, .ref wa2, .ref wa3])), (ha, .inr (0, [.ref as, .ref ad, .int v_55597])), (as, .inl ((cs 0), 8, .inl g_55598)), (ad, .inl ((cs 0), 72, .inl g_55599))] ∧ va_S A s.heap H locs ∧ lv_has ls 13 [(11, .int v_54233), (10, .int v_54234), (9, .int v_1492), (8, .int v_1493), (7, .int v_54235), (6, .int v_1495), (5, .int v_54236), (4, .ref hl0), (0, .ref ox), (1, .int a), (2, .int b), (3, .int h)]) 173 (fun x9 => match x9 with | (v_55597, g_55598, g_55599) => []) ?_ (fun hj_55600 => ?_)
                · rintro ⟨v_55597, g_55598, g_55599⟩ H locs ls ⟨r_55601, hP, hD, hS, hl⟩
                  have hPo := hR.at hS
                  refine lv_iload hx hb dX11_dressed_173 (lv_at hl 5 rfl) ?_
                  refine lv_iload hx hb dX11_dressed_175 (lv_at hl 1 rfl) ?_
                  have hPc := va_P.sub (ws' := []) hP [] rfl
                  refine cl_P (W.runS (As := [.int v_54234]) (rest := [.int v_1495]) ⟨hx, hb, hml, hown, hts⟩ (c_Rows_right l D cs v_54234) ⟨callB_of 1 hts (gd_C qq_3_205) rfl rfl rfl (hT _ qq_1_16) (hT _ qq_3_207) (by decide +kernel) (rm_R rfl rfl), (hT _ qq_3_204)⟩ (pq_S hPc hK hN) rfl rfl hl.1 rfl (lv_room (Nat.le_of_ble_eq_true rfl)) dX11_dressed_177 ⟨Nat.le_of_ble_eq_true rfl, Nat.le_of_ble_eq_true rfl⟩) (fun v9 hz_55603 => ?_)
                  obtain ⟨x_55602, rfl⟩ := hz_55603
                  have hPc := va_P.sub (ws' := []) hP [] rfl
                  refine cl_P (W.runS (As := [.int x_55602]) (rest := [.int v_1495]) ⟨hx, hb, hml, hown, hts⟩ (c_bitCount l D cs x_55602) ⟨callB_of 1 hts (gd_C qq_3_26) rfl rfl rfl (hT _ qq_1_17) (hT _ qq_3_199) (by decide +kernel) (rm_R rfl rfl), (hT _ qq_3_25)⟩ (pq_S hPc hK hN) rfl rfl hl.1 rfl (lv_room (Nat.le_of_ble_eq_true rfl)) dX11_dressed_180 ⟨Nat.le_of_ble_eq_true rfl, Nat.le_of_ble_eq_true rfl⟩) (fun v9 hz_55606 => ?_)
                  obtain ⟨x_55605, rfl, r_55607⟩ := hz_55606
                  refine lv_iadd hx hb dX11_dressed_183 ?_
                  refine lv_topi (fun x_55608 e_55609 => ?_)
                  refine lv_istore (lv' := [(6, .int x_55608), (11, .int v_54233), (10, .int v_54234), (9, .int v_1492), (8, .int v_1493), (7, .int v_54235), (5, .int v_54236), (4, .ref hl0), (0, .ref ox), (1, .int a), (2, .int b), (3, .int h)]) hx hb dX11_dressed_184 hl (by decide) rfl (fun ls hl => ?_)
                  refine lv_iload hx hb dX11_dressed_186 (lv_at hl 4 rfl) ?_
                  refine lv_aload hx hb dX11_dressed_188 (lv_at hl 7 rfl) ?_
                  refine lv_iload hx hb dX11_dressed_190 (lv_at hl 2 rfl) ?_
                  have hPc := va_P.sub (ws' := [(hl0, .inr (2, [.int lb, .int lh, .int lg, .int lw, .int lv, .int lbs, .int lti, .int lts, .int le, .int lk, .int la, .ref l0, .ref l1, .ref l2, .ref l3, .ref l4, .ref l5, .ref l6, .ref l7]))]) hPo [0] rfl
                  refine cl_P (W.runV (As := [.int v_54234]) (rest := [.int v_1493]) ⟨hx, hb, hml, hown, hts⟩ (c_Lift_reached l D cs hl0 lb lh lg lw lv lbs lti lts le lk la l0 l1 l2 l3 l4 l5 l6 l7 v_54234 r_lb r_lh r_le) ⟨callB_of 1 hts (gd_C qq_3_220) rfl rfl rfl (hT _ qq_1_11) (hT _ qq_3_217) (by decide +kernel) (rm_R rfl rfl), (hT _ qq_3_218), (hT _ qq_3_219)⟩ (pq_V hPc hK hN (ci := 2) (q0 := 0) rfl rfl) rfl rfl hl.1 rfl (lv_room (Nat.le_of_ble_eq_true rfl)) dX11_dressed_192 ⟨Nat.le_of_ble_eq_true rfl, Nat.le_of_ble_eq_true rfl⟩) (fun v9 hz_55611 => ?_)
                  obtain ⟨x_55610, rfl, r_55612⟩ := hz_55611
                  refine w_cut (σ := (Int32)) (fun (v_55616 : Int32) H locs ls => Rg 0 1 v_55616 ∧ va_P D vwCl [(ox, .inr (9, [.ref ht, .ref hq, .ref og, .int rc, .ref hw, .ref om, .ref hp, .ref ha, .ref hf, .ref hw0, va_rf qh, va_rf qo])), (hw, .inr (8, [.ref hl0, .int wk, .int wc, .int wx, .int wn, .ref wa0, .ref wa1, .ref wa2, .ref wa3])), (ha, .inr (0, [.ref as, .ref ad, .int v_55597])), (as, .inl ((cs 0), 8, .inl g_55598)), (ad, .inl ((cs 0), 72, .inl g_55599))] H ∧ va_D A [(ox, .inr (9, [.ref ht, .ref hq, .ref og, .int rc, .ref hw, .ref om, .ref hp, .ref ha, .ref hf, .ref hw0, va_rf qh, va_rf qo])), (hw, .inr (8, [.ref hl0, .int wk, .int wc, .int wx, .int wn, .ref wa0, .ref wa1, .ref wa2, .ref wa3])), (ha, .inr (0, [.ref as, .ref ad, .int v_55597])), (as, .inl ((cs 0), 8, .inl g_55598)), (ad, .inl ((cs 0), 72, .inl g_55599))] ∧ va_S A s.heap H locs ∧ lv_has ls 13 [(6, .int x_55608), (11, .int v_54233), (10, .int v_54234), (9, .int v_1492), (8, .int v_1493), (7, .int v_54235), (5, .int v_54236), (4, .ref hl0), (0, .ref ox), (1, .int a), (2, .int b), (3, .int h)]) 203 (fun (v_55616 : Int32) => [.int v_55616, .int v_1493]) ?_ (fun hj_55617 => ?_)
                  · rintro v_55616 H locs ls ⟨r_55618, hP, hD, hS, hl⟩
                    have hPo := hR.at hS
                    refine lv_iadd hx hb dX11_dressed_203 ?_
                    refine lv_topi (fun x_55619 e_55620 => ?_)
                    refine lv_istore (lv' := [(8, .int x_55619), (6, .int x_55608), (11, .int v_54233), (10, .int v_54234), (9, .int v_1492), (7, .int v_54235), (5, .int v_54236), (4, .ref hl0), (0, .ref ox), (1, .int a), (2, .int b), (3, .int h)]) hx hb dX11_dressed_204 hl (by decide) rfl (fun ls hl => ?_)
                    obtain ⟨x_55621, e_55622⟩ : ∃ z : Int32, z = v_1492 + Int32.ofInt 1 := ⟨_, rfl⟩
                    have r_55623 : Rg 1 20 x_55621 := Rg.add e_55622 r_52667 (Rg.c (c := Int32.ofInt 1) (k := 1) rfl) (by decide)
                    refine lv_iinc (v := x_55621) (lv' := [(9, .int x_55621), (8, .int x_55619), (6, .int x_55608), (11, .int v_54233), (10, .int v_54234), (7, .int v_54235), (5, .int v_54236), (4, .ref hl0), (0, .ref ox), (1, .int a), (2, .int b), (3, .int h)]) hx hb dX11_dressed_206 hl (k := 4) rfl (e_55622.symm) (by decide) rfl (fun ls hl => ?_)
                    refine lv_goto (tgt := 68) hx hb dX11_dressed_209 (by decide) ?_
                    exact ih_52661 (x_55621, x_55619, v_54235, x_55608, v_54236, v_55597, g_55598, g_55599) _ _ _ ⟨(Rg.wk (lo2 := 0) (hi2 := 20) r_55623 (by decide)), r_55558, r_55601, hP, hD, hS, lv_sub hl [0, 1, 5, 2, 6, 7, 8, 9, 10, 11] rfl⟩ (ms_up e_55622 r_52667 (Rg.c (c := Int32.ofInt 1) (k := 1) rfl) (by decide))
                  · refine lv_if_eq (tgt := 202) hx hb dX11_dressed_195 (by decide) (fun c_55613 => ?_) (fun c_55613 => ?_)
                    · have r_55614 : Rg 0 0 x_55610 := Rg.eq_l c_55613 r_55612 (Rg.c (c := 0) (k := 0) rfl) (by decide)
                      refine lv_iconst (v := 0) hx hb dX11_dressed_202 (by decide) ?_
                      exact hj_55617 0 _ _ _ ⟨(Rg.wk (lo2 := 0) (hi2 := 1) (Rg.c (c := 0) (k := 0) rfl) (by decide)), hP, hD, hS, lv_sub hl [0, 1, 2, 3, 4, 5, 6, 7, 8, 9, 10, 11] rfl⟩
                    · have r_55615 : Rg 1 1 x_55610 := Rg.ne c_55613 r_55612 (Rg.c (c := 0) (k := 0) rfl) (by decide)
                      refine lv_iconst (v := 1) hx hb dX11_dressed_198 (by decide) ?_
                      refine lv_goto (tgt := 203) hx hb dX11_dressed_199 (by decide) ?_
                      exact hj_55617 1 _ _ _ ⟨(Rg.wk (lo2 := 0) (hi2 := 1) (Rg.c (c := 1) (k := 1) rfl) (by decide)), hP, hD, hS, lv_sub hl [0, 1, 2, 3, 4, 5, 6, 7, 8, 9, 10, 11] rfl⟩
                · refine lv_icmp_ge (tgt := 173) hx hb dX11_dressed_89 (by decide) (fun c_55560 => ?_) (fun c_55560 => ?_)
                  · have r_55561 : Rg 1 60 v_54233 := Rg.le_r c_55560 r_12 r_55557 (by decide)
                    exact hj_55600 (v_54237, g_54238, g_54239) _ _ _ ⟨r_55559, hP, hD, hS, lv_sub hl [0, 1, 2, 3, 4, 5, 6, 7, 8, 9, 10, 11] rfl⟩
                  · have r_55562 : Rg 0 59 v_54233 := Rg.lt_l (nle_lt c_55560) r_55557 r_12 (by decide)
                    refine lv_aload_n hx hb dX11_dressed_92 rfl (lv_at hl 8 rfl) ?_
                    refine va_get (D := D) (ci := 9) (v := .ref ha) (C := "WrongHole") (T := TX11) (N := 12) hx hb hts (iq_RX11 _) hown hK hP 0 rfl rfl 7 (by decide) (hT _ qq_1_209) (fun _ h9 => h9) rfl dX11_dressed_93 ?_
                    refine lv_aload hx hb dX11_dressed_96 (lv_at hl 7 rfl) ?_
                    refine lv_iload hx hb dX11_dressed_98 (lv_at hl 1 rfl) ?_
                    have hPc := hP.sub (ws' := [(ha, .inr (0, [.ref as, .ref ad, .int v_54237])), (as, .inl ((cs 0), 8, .inl g_54238)), (ad, .inl ((cs 0), 72, .inl g_54239))]) [2, 3, 4] rfl
                    have hDc := hD.sub (ws' := [(ha, .inr (0, [.ref as, .ref ad, .int v_54237])), (as, .inl ((cs 0), 8, .inl g_54238)), (ad, .inl ((cs 0), 72, .inl g_54239))]) [2, 3, 4] (by decide) rfl
                    have hFc := va_free (wc := [(ha, .inr (0, [.ref as, .ref ad, .int v_54237])), (as, .inl ((cs 0), 8, .inl g_54238)), (ad, .inl ((cs 0), 72, .inl g_54239))]) hD hS hA [2, 3, 4] rfl
                    refine va_callv (va_runV (As := [.ref hl0, .int v_54234]) (rest := []) ⟨hx, hb, hml, hown, hts⟩ (c_Acts_gather l D cs X H.size ha as ad v_54237 g_54238 g_54239 hl0 lb lh lg lw lv lbs lti lts le lk la l0 l1 l2 l3 l4 l5 l6 l7 f5 v_54234 r_55559 r_lb r_lh r_le) ⟨callB_of 2 hts (gd_C qq_4_64) rfl rfl rfl (hT _ qq_1_7) (hT _ qq_4_61) (by decide +kernel) (rm_R rfl rfl), (hT _ qq_4_62), (hT _ qq_4_63)⟩ (pr_V hPc hK hDc hN (hR.sub (wo' := [(hl0, .inr (2, [.int lb, .int lh, .int lg, .int lw, .int lv, .int lbs, .int lti, .int lts, .int le, .int lk, .int la, .ref l0, .ref l1, .ref l2, .ref l3, .ref l4, .ref l5, .ref l6, .ref l7])), (l5, .inl ((cs 0), 8, .inl f5))]) [0, 3] rfl) hS hFc hX hXs (ci := 0) (q0 := 0) rfl rfl) rfl rfl hl.1 rfl (lv_room (Nat.le_of_ble_eq_true rfl)) dX11_dressed_100 ⟨Nat.le_of_ble_eq_true rfl, Nat.le_of_ble_eq_true rfl⟩) hS (fun q _ h => hFc q h) hFc (fun u_55624 t_55627 H1 locs ht9 hvm hw_55625 hB_55626 hz1 hk1 hS => ?_)
                    obtain ⟨v_55629, g_55630, g_55631, r_55632, hP1, hD1⟩ := hB_55626
                    rw [ht9] at hP1
                    obtain ⟨hP, hD⟩ := va_join (wr := [(ox, .inr (9, [.ref ht, .ref hq, .ref og, .int rc, .ref hw, .ref om, .ref hp, .ref ha, .ref hf, .ref hw0, va_rf qh, va_rf qo])), (hw, .inr (8, [.ref hl0, .int wk, .int wc, .int wx, .int wn, .ref wa0, .ref wa1, .ref wa2, .ref wa3]))]) (w1 := [(ha, .inr (0, [.ref as, .ref ad, .int v_55629])), (as, .inl ((cs 0), 8, .inl g_55630)), (ad, .inl ((cs 0), 72, .inl g_55631))]) hP hD [2, 3, 4] [0, 1] rfl rfl (by decide) (by decide) hk1 hFc hP1 hD1
                    generalize H1 = H at hP hS ⊢
                    have hP : va_P D vwCl [(ox, .inr (9, [.ref ht, .ref hq, .ref og, .int rc, .ref hw, .ref om, .ref hp, .ref ha, .ref hf, .ref hw0, va_rf qh, va_rf qo])), (hw, .inr (8, [.ref hl0, .int wk, .int wc, .int wx, .int wn, .ref wa0, .ref wa1, .ref wa2, .ref wa3])), (ha, .inr (0, [.ref as, .ref ad, .int v_55629])), (as, .inl ((cs 0), 8, .inl g_55630)), (ad, .inl ((cs 0), 72, .inl g_55631))] H := hP
                    have hD : va_D A [(ox, .inr (9, [.ref ht, .ref hq, .ref og, .int rc, .ref hw, .ref om, .ref hp, .ref ha, .ref hf, .ref hw0, va_rf qh, va_rf qo])), (hw, .inr (8, [.ref hl0, .int wk, .int wc, .int wx, .int wn, .ref wa0, .ref wa1, .ref wa2, .ref wa3])), (ha, .inr (0, [.ref as, .ref ad, .int v_55629])), (as, .inl ((cs 0), 8, .inl g_55630)), (ad, .inl ((cs 0), 72, .inl g_55631))] := hD
                    have hPo := hR.at hS
                    refine lv_aload_n hx hb dX11_dressed_103 rfl (lv_at hl 8 rfl) ?_
                    refine va_get (D := D) (ci := 9) (v := .ref ha) (C := "WrongHole") (T := TX11) (N := 12) hx hb hts (iq_RX11 _) hown hK hP 0 rfl rfl 7 (by decide) (hT _ qq_1_209) (fun _ h9 => h9) rfl dX11_dressed_104 ?_
                    refine va_getN (D := D) (ci := 0) (v := .int v_55629) (C := "WrongHole$Acts") (T := TX0) (N := 3) hx hb hts (iq_RX0 _) hown hK hP 2 rfl rfl 2 (by decide) (NN.f hN nq_1_169) (fun _ h9 => h9) rfl dX11_dressed_107 ?_
                    refine lv_if_ne (tgt := 116) hx hb dX11_dressed_110 (by decide) (fun c_55633 => ?_) (fun c_55633 => ?_)
                    · have r_55634 : Rg 1 72 v_55629 := Rg.ne c_55633 r_55632 (Rg.c (c := 0) (k := 0) rfl) (by decide)
                      refine lv_iload hx hb dX11_dressed_116 (lv_at hl 6 rfl) ?_
                      have hPc := va_P.sub (ws' := []) hP [] rfl
                      refine cl_P (W.runS (As := [.int v_54236]) (rest := []) ⟨hx, hb, hml, hown, hts⟩ (c_W_drawnFrom l D cs v_54236) ⟨callB_of 1 hts (gd_C qq_5_121) rfl rfl rfl (hT _ qq_1_1) (hT _ qq_5_119) (by decide +kernel) (rm_R rfl rfl), (hT _ qq_5_120)⟩ (pq_S hPc hK hN) rfl rfl hl.1 rfl (lv_room (Nat.le_of_ble_eq_true rfl)) dX11_dressed_118 ⟨Nat.le_of_ble_eq_true rfl, Nat.le_of_ble_eq_true rfl⟩) (fun v9 hz_55637 => ?_)
                      obtain ⟨x_55636, rfl, r_55638⟩ := hz_55637
                      refine lv_istore (lv' := [(5, .int x_55636), (11, .int v_54233), (10, .int v_54234), (9, .int v_1492), (8, .int v_1493), (7, .int v_54235), (6, .int v_1495), (4, .ref hl0), (0, .ref ox), (1, .int a), (2, .int b), (3, .int h)]) hx hb dX11_dressed_121 hl (by decide) rfl (fun ls hl => ?_)
                      refine lv_aload_n hx hb dX11_dressed_123 rfl (lv_at hl 8 rfl) ?_
                      refine va_get (D := D) (ci := 9) (v := .ref ha) (C := "WrongHole") (T := TX11) (N := 12) hx hb hts (iq_RX11 _) hown hK hP 0 rfl rfl 7 (by decide) (hT _ qq_1_209) (fun _ h9 => h9) rfl dX11_dressed_124 ?_
                      refine va_getN (D := D) (ci := 0) (v := .ref ad) (C := "WrongHole$Acts") (T := TX0) (N := 3) hx hb hts (iq_RX0 _) hown hK hP 2 rfl rfl 1 (by decide) (NN.f hN nq_1_166) (fun _ h9 => h9) rfl dX11_dressed_127 ?_
                      refine lv_iload hx hb dX11_dressed_130 (lv_at hl 0 rfl) ?_
                      refine lv_bipush (v := 16) hx hb dX11_dressed_132 (by decide) ?_
                      refine lv_ishr hx hb dX11_dressed_134 ?_
                      refine lv_topi (fun x_55639 e_55640 => ?_)
                      have r_55641 : Rg 0 32767 x_55639 := Rg.shr (k := 16) e_55640 r_55638 rfl (by decide)
                      refine lv_aload_n hx hb dX11_dressed_135 rfl (lv_at hl 8 rfl) ?_
                      refine va_get (D := D) (ci := 9) (v := .ref ha) (C := "WrongHole") (T := TX11) (N := 12) hx hb hts (iq_RX11 _) hown hK hP 0 rfl rfl 7 (by decide) (hT _ qq_1_209) (fun _ h9 => h9) rfl dX11_dressed_136 ?_
                      refine va_getN (D := D) (ci := 0) (v := .int v_55629) (C := "WrongHole$Acts") (T := TX0) (N := 3) hx hb hts (iq_RX0 _) hown hK hP 2 rfl rfl 2 (by decide) (NN.f hN nq_1_169) (fun _ h9 => h9) rfl dX11_dressed_139 ?_
                      refine lv_irem hx hb dX11_dressed_142 (Rg.nz r_55634 (by decide)) ?_
                      refine lv_topi (fun x_55642 e_55643 => ?_)
                      have r_55644 : Rg 0 71 x_55642 := Rg.rem e_55643 r_55641 r_55634 (by decide)
                      have hi_55645 : vp_in x_55642 72 := Rg.in r_55644 (by decide)
                      refine va_iald hx hb hK hP 4 0 rfl rfl hi_55645 dX11_dressed_143 ?_
                      refine lv_topi (fun x_55646 e_55647 => ?_)
                      refine lv_istore (lv' := [(12, .int x_55646), (5, .int x_55636), (11, .int v_54233), (10, .int v_54234), (9, .int v_1492), (8, .int v_1493), (7, .int v_54235), (6, .int v_1495), (4, .ref hl0), (0, .ref ox), (1, .int a), (2, .int b), (3, .int h)]) hx hb dX11_dressed_144 hl (by decide) rfl (fun ls hl => ?_)
                      refine lv_iload hx hb dX11_dressed_146 (lv_at hl 6 rfl) ?_
                      refine lv_aload hx hb dX11_dressed_148 (lv_at hl 8 rfl) ?_
                      refine lv_iload hx hb dX11_dressed_150 (lv_at hl 0 rfl) ?_
                      have hPc := va_P.sub (ws' := [(hl0, .inr (2, [.int lb, .int lh, .int lg, .int lw, .int lv, .int lbs, .int lti, .int lts, .int le, .int lk, .int la, .ref l0, .ref l1, .ref l2, .ref l3, .ref l4, .ref l5, .ref l6, .ref l7])), (l2, .inl ((cs 0), 8, .inl f2)), (l3, .inl ((cs 0), 8, .inl f3))]) hPo [0, 1, 2] rfl
                      refine cl_P (W.runV (As := [.int x_55646]) (rest := [.int v_54235]) ⟨hx, hb, hml, hown, hts⟩ (c_Lift_secondsOf l D cs hl0 lb lh lg lw lv lbs lti lts le lk la l0 l1 l2 l3 l4 l5 l6 l7 f2 f3 x_55646 r_lb r_lh r_le) ⟨callB_of 1 hts (gd_C qq_4_8) rfl rfl rfl (hT _ qq_1_11) (hT _ qq_4_5) (by decide +kernel) (rm_R rfl rfl), (hT _ qq_4_6), (hT _ qq_4_7)⟩ (pq_V hPc hK hN (ci := 2) (q0 := 0) rfl rfl) rfl rfl hl.1 rfl (lv_room (Nat.le_of_ble_eq_true rfl)) dX11_dressed_152 ⟨Nat.le_of_ble_eq_true rfl, Nat.le_of_ble_eq_true rfl⟩) (fun v9 hz_55649 => ?_)
                      obtain ⟨x_55648, rfl⟩ := hz_55649
                      refine lv_iadd hx hb dX11_dressed_155 ?_
                      refine lv_topi (fun x_55651 e_55652 => ?_)
                      refine lv_istore (lv' := [(7, .int x_55651), (12, .int x_55646), (5, .int x_55636), (11, .int v_54233), (10, .int v_54234), (9, .int v_1492), (8, .int v_1493), (6, .int v_1495), (4, .ref hl0), (0, .ref ox), (1, .int a), (2, .int b), (3, .int h)]) hx hb dX11_dressed_156 hl (by decide) rfl (fun ls hl => ?_)
                      refine lv_iload hx hb dX11_dressed_158 (lv_at hl 4 rfl) ?_
                      refine lv_iload hx hb dX11_dressed_160 (lv_at hl 1 rfl) ?_
                      have hPc := va_P.sub (ws' := []) hP [] rfl
                      refine cl_P (W.runS (As := [.int v_54234, .int x_55646]) (rest := []) ⟨hx, hb, hml, hown, hts⟩ (c_Rows_behind l D cs v_54234 x_55646) ⟨callB_of 2 hts (gd_C qq_3_36) rfl rfl rfl (hT _ qq_1_16) (hT _ qq_4_20) (by decide +kernel) (rm_R rfl rfl), (hT _ qq_3_35)⟩ (pq_S hPc hK hN) rfl rfl hl.1 rfl (lv_room (Nat.le_of_ble_eq_true rfl)) dX11_dressed_162 ⟨Nat.le_of_ble_eq_true rfl, Nat.le_of_ble_eq_true rfl⟩) (fun v9 hz_55654 => ?_)
                      obtain ⟨x_55653, rfl⟩ := hz_55654
                      refine lv_istore (lv' := [(10, .int x_55653), (7, .int x_55651), (12, .int x_55646), (5, .int x_55636), (11, .int v_54233), (9, .int v_1492), (8, .int v_1493), (6, .int v_1495), (4, .ref hl0), (0, .ref ox), (1, .int a), (2, .int b), (3, .int h)]) hx hb dX11_dressed_165 hl (by decide) rfl (fun ls hl => ?_)
                      obtain ⟨x_55656, e_55657⟩ : ∃ z : Int32, z = v_54233 + Int32.ofInt 1 := ⟨_, rfl⟩
                      have r_55658 : Rg 1 60 x_55656 := Rg.add e_55657 r_55562 (Rg.c (c := Int32.ofInt 1) (k := 1) rfl) (by decide)
                      refine lv_iinc (v := x_55656) (lv' := [(11, .int x_55656), (10, .int x_55653), (7, .int x_55651), (12, .int x_55646), (5, .int x_55636), (9, .int v_1492), (8, .int v_1493), (6, .int v_1495), (4, .ref hl0), (0, .ref ox), (1, .int a), (2, .int b), (3, .int h)]) hx hb dX11_dressed_167 hl (k := 4) rfl (e_55657.symm) (by decide) rfl (fun ls hl => ?_)
                      refine lv_goto (tgt := 86) hx hb dX11_dressed_170 (by decide) ?_
                      exact ih_55556 (x_55656, x_55653, x_55651, x_55636, v_55629, g_55630, g_55631) _ _ _ ⟨(Rg.wk (lo2 := 0) (hi2 := 60) r_55658 (by decide)), r_55638, (Rg.wk (lo2 := 0) (hi2 := 72) r_55634 (by decide)), hP, hD, hS, lv_sub hl [0, 1, 5, 6, 2, 7, 4, 8, 9, 10, 11, 12] rfl⟩ (ms_up e_55657 r_55562 (Rg.c (c := Int32.ofInt 1) (k := 1) rfl) (by decide))
                    · have r_55635 : Rg 0 0 v_55629 := Rg.eq_l c_55633 r_55632 (Rg.c (c := 0) (k := 0) rfl) (by decide)
                      refine lv_goto (tgt := 173) hx hb dX11_dressed_113 (by decide) ?_
                      exact hj_55600 (v_55629, g_55630, g_55631) _ _ _ ⟨(Rg.wk (lo2 := 0) (hi2 := 72) r_55635 (by decide)), hP, hD, hS, lv_sub hl [0, 1, 2, 3, 4, 5, 6, 7, 8, 9, 10, 11] rfl⟩
            · have r_18 : Rg 3 2147483647 h := Rg.lt_r (nle_lt c_16) (Rg.c (c := 2) (k := 2) rfl) r_15 (by decide)
              refine lv_iconst (v := (-1)) hx hb dX11_dressed_45 (by decide) ?_
              refine W.widen (k := 0) (n := 0) (Nat.le_of_ble_eq_true rfl) (Nat.le_of_ble_eq_true rfl) ?_
              have hP9 := hP.sub (ws' := [(ox, .inr (9, [.ref ht, .ref hq, .ref og, .int rc, .ref hw, .ref om, .ref hp, .ref ha, .ref hf, .ref hw0, va_rf qh, va_rf qo])), (hw, .inr (8, [.ref hl0, .int wk, .int wc, .int wx, .int wn, .ref wa0, .ref wa1, .ref wa2, .ref wa3])), (ha, .inr (0, [.ref as, .ref ad, .int ac])), (as, .inl ((cs 0), 8, .inl gs)), (ad, .inl ((cs 0), 72, .inl gc))]) [0, 1, 2, 3, 4] rfl
              have hD9 := hD.sub (ws' := [(ox, .inr (9, [.ref ht, .ref hq, .ref og, .int rc, .ref hw, .ref om, .ref hp, .ref ha, .ref hf, .ref hw0, va_rf qh, va_rf qo])), (hw, .inr (8, [.ref hl0, .int wk, .int wc, .int wx, .int wn, .ref wa0, .ref wa1, .ref wa2, .ref wa3])), (ha, .inr (0, [.ref as, .ref ad, .int ac])), (as, .inl ((cs 0), 8, .inl gs)), (ad, .inl ((cs 0), 72, .inl gc))]) [0, 1, 2, 3, 4] (by decide) rfl
              exact W.iret (v := (-1)) hx hb hr (fun t9 ht9 hW9 => ⟨⟨_, (), rfl, trivial, ⟨ac, gs, gc, r_ac, by rw [ht9]; exact hP9, hD9⟩⟩, hS.F ht9⟩) hS.2.2 dX11_dressed_46
