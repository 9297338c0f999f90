theorem dX12_isRule_0 : decode cX12_isRule 0 = .ok (.iload_n 1, 1) := by decide +kernel
theorem dX12_isRule_1 : decode cX12_isRule 1 = .ok (.ifCond .lt 15, 3) := by decide +kernel
theorem dX12_isRule_16 : decode cX12_isRule 16 = .ok (.iconst 0, 1) := by decide +kernel
theorem dX12_isRule_17 : decode cX12_isRule 17 = .ok (.ireturn, 1) := by decide +kernel
theorem dX12_isRule_4 : decode cX12_isRule 4 = .ok (.iload_n 1, 1) := by decide +kernel
theorem dX12_isRule_5 : decode cX12_isRule 5 = .ok (.aload_n 0, 1) := by decide +kernel
theorem dX12_isRule_6 : decode cX12_isRule 6 = .ok (.getfield 295, 3) := by decide +kernel
theorem dX12_isRule_9 : decode cX12_isRule 9 = .ok (.if_icmp .ge 7, 3) := by decide +kernel
theorem dX12_isRule_12 : decode cX12_isRule 12 = .ok (.iconst 1, 1) := by decide +kernel
theorem dX12_isRule_13 : decode cX12_isRule 13 = .ok (.goto 4, 3) := by decide +kernel
set_option maxHeartbeats 4000000 in
set_option maxRecDepth 100000 in
theorem c_M_isRule (l : Launch) (D : va_G) (cs : Nat → ClassId) (m0 : Nat) (mtp : Nat) (sta : Int32) (sru : Int32) (msg : Nat) (mln : Nat) (mcl : Nat) (mcs : Nat) (mrd : Nat) (snx : Int32) (swr : Int32) (snu : Int32) (ste : Int32) (sma : Int32) (sde : Int32) (sli : Int32) (mop : Nat) (sod : Int32) (mst : Nat) (sto : Int32) (mwd : Nat) (msd : Nat) (sx_ : Int32) (mws : Nat) (sun : Int32) (mfr : Nat) (mqu : Nat) (miw : Nat) (sfi : Int32) (swa : Int32) (sdx : Int64) (mim : Nat) (mix : Nat) (mmd : Nat) (a : Int32)  : Met l yX12_isRule (Cond.code yX12_isRule cX12_isRule 2 (some .boolean) :: TB) (RM 0 0 0) (va_Pc [.ref m0, .int a] (PRR D cs [(m0, .inr (10, (.ref mtp :: .int sta :: .int sru :: .ref msg :: .ref mln :: .ref mcl :: .ref mcs :: .ref mrd :: .int snx :: .int swr :: .int snu :: .int ste :: .int sma :: .int sde :: .int sli :: .ref mop :: .int sod :: .ref mst :: .int sto :: .ref mwd :: .ref msd :: .int sx_ :: .ref mws :: .int sun :: .ref mfr :: .ref mqu :: .ref miw :: .int sfi :: .int swa :: .long sdx :: .ref mim :: .ref mix :: .ref mmd :: [])))])) (QP (fun v => ∃ x : Int32, v = .int x ∧ Rg 0 1 x ∧ (¬ x = 0 → ¬ a < 0 ∧ a < sru))) 0 0 (fun _ => False) := by
  refine MER (y := yX12_isRule) (cc := cX12_isRule) (maxL := 2) (ret := (some .boolean)) (d := 0) (D := D) (cs := cs) (ws := [(m0, .inr (10, (.ref mtp :: .int sta :: .int sru :: .ref msg :: .ref mln :: .ref mcl :: .ref mcs :: .ref mrd :: .int snx :: .int swr :: .int snu :: .int ste :: .int sma :: .int sde :: .int sli :: .ref mop :: .int sod :: .ref mst :: .int sto :: .ref mwd :: .ref msd :: .int sx_ :: .ref mws :: .int sun :: .ref mfr :: .ref mqu :: .ref miw :: .int sfi :: .int swa :: .long sdx :: .ref mim :: .ref mix :: .ref mmd :: [])))]) (av := [.ref m0, .int a]) (Qc := QP (fun v => ∃ x : Int32, v = .int x ∧ Rg 0 1 x ∧ (¬ x = 0 → ¬ a < 0 ∧ a < sru))) (by decide) (Nat.le_of_ble_eq_true rfl) ?_
  intro p e s m below meth c ls H hHe hx hb hr hml hown hts hlocks hP hK hN hl
  obtain ⟨locs, hlc⟩ : ∃ z : List Loc, z = [] := ⟨_, rfl⟩
  rw [← hlc]
  have hown : s.vm.findClass "WrongHoleModel" = some m.cls := hown
  have hT : ∀ w ∈ TB, w.before ([.ref m0, .int a] : List Value).toArray s = true := fun w h => hts w (List.mem_cons_of_mem _ h)
  have hl : lv_has ls 2 [(0, .ref m0), (1, .int a)] := hl
  have hP : va_P D vwCl [(m0, .inr (10, (.ref mtp :: .int sta :: .int sru :: .ref msg :: .ref mln :: .ref mcl :: .ref mcs :: .ref mrd :: .int snx :: .int swr :: .int snu :: .int ste :: .int sma :: .int sde :: .int sli :: .ref mop :: .int sod :: .ref mst :: .int sto :: .ref mwd :: .ref msd :: .int sx_ :: .ref mws :: .int sun :: .ref mfr :: .ref mqu :: .ref miw :: .int sfi :: .int swa :: .long sdx :: .ref mim :: .ref mix :: .ref mmd :: [])))] H := hP
  refine lv_iload_n hx hb dX12_isRule_0 rfl (lv_at hl 1 rfl) ?_
  refine lv_if_lt (tgt := 16) hx hb dX12_isRule_1 (by decide) (fun c_1 => ?_) (fun c_1 => ?_)
  · have r_2 : Rg (-2147483648) (-1) a := Rg.lt_l c_1 (Rg.top a) (Rg.c (c := 0) (k := 0) rfl) (by decide)
    refine lv_iconst (v := 0) hx hb dX12_isRule_16 (by decide) ?_
    exact W.zret (v := 0) (ty := .boolean) hx hb hr rfl (fun t9 ht9 hW9 => ⟨⟨_, rfl, _, rfl, ⟨⟨by decide, by decide⟩, fun q9 => absurd rfl q9⟩⟩, ht9.trans hHe⟩) (fun _ h9 => by rw [hlc] at h9; exact absurd h9 List.not_mem_nil) dX12_isRule_17
  · have r_3 : Rg 0 2147483647 a := Rg.le_r (nlt_le c_1) (Rg.c (c := 0) (k := 0) rfl) (Rg.top a) (by decide)
    refine lv_iload_n hx hb dX12_isRule_4 rfl (lv_at hl 1 rfl) ?_
    refine lv_aload_n hx hb dX12_isRule_5 rfl (lv_at hl 0 rfl) ?_
    refine va_get (D := D) (ci := 10) (v := .int sru) (C := "WrongHoleModel") (T := TX12) (N := 33) hx hb hts (iq_RX12 _) hown hK hP 0 rfl rfl 2 (by decide) (hT _ qq_5_154) (fun _ h9 => h9) rfl dX12_isRule_6 ?_
    refine lv_icmp_ge (tgt := 16) hx hb dX12_isRule_9 (by decide) (fun c_7 => ?_) (fun c_7 => ?_)
    · refine lv_iconst (v := 0) hx hb dX12_isRule_16 (by decide) ?_
      exact W.zret (v := 0) (ty := .boolean) hx hb hr rfl (fun t9 ht9 hW9 => ⟨⟨_, rfl, _, rfl, ⟨⟨by decide, by decide⟩, fun q9 => absurd rfl q9⟩⟩, ht9.trans hHe⟩) (fun _ h9 => by rw [hlc] at h9; exact absurd h9 List.not_mem_nil) dX12_isRule_17
    · have r_8 : Rg 0 2147483646 a := Rg.lt_l (nle_lt c_7) r_3 (Rg.top sru) (by decide)
      have r_9 : Rg 1 2147483647 sru := Rg.lt_r (nle_lt c_7) r_3 (Rg.top sru) (by decide)
      refine lv_iconst (v := 1) hx hb dX12_isRule_12 (by decide) ?_
      refine lv_goto (tgt := 17) hx hb dX12_isRule_13 (by decide) ?_
      exact W.zret (v := 1) (ty := .boolean) hx hb hr rfl (fun t9 ht9 hW9 => ⟨⟨_, rfl, _, rfl, ⟨⟨by decide, by decide⟩, fun _ => ⟨c_1, nle_lt c_7⟩⟩⟩, ht9.trans hHe⟩) (fun _ h9 => by rw [hlc] at h9; exact absurd h9 List.not_mem_nil) dX12_isRule_17
theorem dX12_words_0 : decode cX12_words 0 = .ok (.iload_n 2, 1) := by decide +kernel
theorem dX12_words_1 : decode cX12_words 1 = .ok (.bipush 8, 2) := by decide +kernel
theorem dX12_words_3 : decode cX12_words 3 = .ok (.if_icmp .ge 7, 3) := by decide +kernel
theorem dX12_words_16 : decode cX12_words 16 = .ok (.istore_n 3, 1) := by decide +kernel
theorem dX12_words_17 : decode cX12_words 17 = .ok (.iload_n 2, 1) := by decide +kernel
theorem dX12_words_18 : decode cX12_words 18 = .ok (.bipush 8, 2) := by decide +kernel
theorem dX12_words_20 : decode cX12_words 20 = .ok (.if_icmp .ge 11, 3) := by decide +kernel
theorem dX12_words_35 : decode cX12_words 35 = .ok (.istore 4, 2) := by decide +kernel
theorem dX12_words_37 : decode cX12_words 37 = .ok (.aload_n 0, 1) := by decide +kernel
theorem dX12_words_38 : decode cX12_words 38 = .ok (.getfield 36, 3) := by decide +kernel
theorem dX12_words_41 : decode cX12_words 41 = .ok (.iconst 0, 1) := by decide +kernel
theorem dX12_words_42 : decode cX12_words 42 = .ok (.iload_n 2, 1) := by decide +kernel
theorem dX12_words_43 : decode cX12_words 43 = .ok (.bipush 8, 2) := by decide +kernel
theorem dX12_words_45 : decode cX12_words 45 = .ok (.if_icmp .ge 7, 3) := by decide +kernel
theorem dX12_words_53 : decode cX12_words 53 = .ok (.lastore, 1) := by decide +kernel
theorem dX12_words_54 : decode cX12_words 54 = .ok (.aload_n 0, 1) := by decide +kernel
theorem dX12_words_55 : decode cX12_words 55 = .ok (.getfield 36, 3) := by decide +kernel
theorem dX12_words_58 : decode cX12_words 58 = .ok (.iconst 1, 1) := by decide +kernel
theorem dX12_words_59 : decode cX12_words 59 = .ok (.iload_n 3, 1) := by decide +kernel
theorem dX12_words_60 : decode cX12_words 60 = .ok (.i2l, 1) := by decide +kernel
theorem dX12_words_61 : decode cX12_words 61 = .ok (.lastore, 1) := by decide +kernel
theorem dX12_words_62 : decode cX12_words 62 = .ok (.aload_n 0, 1) := by decide +kernel
theorem dX12_words_63 : decode cX12_words 63 = .ok (.getfield 36, 3) := by decide +kernel
theorem dX12_words_66 : decode cX12_words 66 = .ok (.iconst 2, 1) := by decide +kernel
theorem dX12_words_67 : decode cX12_words 67 = .ok (.iload 4, 2) := by decide +kernel
theorem dX12_words_69 : decode cX12_words 69 = .ok (.i2l, 1) := by decide +kernel
theorem dX12_words_70 : decode cX12_words 70 = .ok (.lastore, 1) := by decide +kernel
theorem dX12_words_71 : decode cX12_words 71 = .ok (.aload_n 0, 1) := by decide +kernel
theorem dX12_words_72 : decode cX12_words 72 = .ok (.getfield 36, 3) := by decide +kernel
theorem dX12_words_75 : decode cX12_words 75 = .ok (.iconst 3, 1) := by decide +kernel
theorem dX12_words_76 : decode cX12_words 76 = .ok (.iload_n 3, 1) := by decide +kernel
theorem dX12_words_77 : decode cX12_words 77 = .ok (.iload 4, 2) := by decide +kernel
theorem dX12_words_79 : decode cX12_words 79 = .ok (.if_icmp .ne 7, 3) := by decide +kernel
theorem dX12_words_87 : decode cX12_words 87 = .ok (.lastore, 1) := by decide +kernel
theorem dX12_words_88 : decode cX12_words 88 = .ok (.aload_n 0, 1) := by decide +kernel
theorem dX12_words_89 : decode cX12_words 89 = .ok (.getfield 36, 3) := by decide +kernel
theorem dX12_words_92 : decode cX12_words 92 = .ok (.iconst 4, 1) := by decide +kernel
theorem dX12_words_93 : decode cX12_words 93 = .ok (.aload_n 0, 1) := by decide +kernel
theorem dX12_words_94 : decode cX12_words 94 = .ok (.iload_n 1, 1) := by decide +kernel
theorem dX12_words_95 : decode cX12_words 95 = .ok (.invokevirtual 353, 3) := by decide +kernel
theorem dX12_words_98 : decode cX12_words 98 = .ok (.invokestatic 341, 3) := by decide +kernel
theorem dX12_words_101 : decode cX12_words 101 = .ok (.i2l, 1) := by decide +kernel
theorem dX12_words_102 : decode cX12_words 102 = .ok (.lastore, 1) := by decide +kernel
theorem dX12_words_103 : decode cX12_words 103 = .ok (.aload_n 0, 1) := by decide +kernel
theorem dX12_words_104 : decode cX12_words 104 = .ok (.getfield 36, 3) := by decide +kernel
theorem dX12_words_107 : decode cX12_words 107 = .ok (.iconst 5, 1) := by decide +kernel
theorem dX12_words_108 : decode cX12_words 108 = .ok (.aload_n 0, 1) := by decide +kernel
theorem dX12_words_109 : decode cX12_words 109 = .ok (.iload_n 1, 1) := by decide +kernel
theorem dX12_words_110 : decode cX12_words 110 = .ok (.invokevirtual 387, 3) := by decide +kernel
theorem dX12_words_113 : decode cX12_words 113 = .ok (.invokestatic 341, 3) := by decide +kernel
theorem dX12_words_116 : decode cX12_words 116 = .ok (.i2l, 1) := by decide +kernel
theorem dX12_words_117 : decode cX12_words 117 = .ok (.lastore, 1) := by decide +kernel
theorem dX12_words_118 : decode cX12_words 118 = .ok (.aload_n 0, 1) := by decide +kernel
theorem dX12_words_119 : decode cX12_words 119 = .ok (.getfield 36, 3) := by decide +kernel
theorem dX12_words_122 : decode cX12_words 122 = .ok (.bipush 6, 2) := by decide +kernel
theorem dX12_words_124 : decode cX12_words 124 = .ok (.aload_n 0, 1) := by decide +kernel
theorem dX12_words_125 : decode cX12_words 125 = .ok (.iload_n 1, 1) := by decide +kernel
theorem dX12_words_126 : decode cX12_words 126 = .ok (.invokevirtual 350, 3) := by decide +kernel
theorem dX12_words_129 : decode cX12_words 129 = .ok (.i2l, 1) := by decide +kernel
theorem dX12_words_130 : decode cX12_words 130 = .ok (.lastore, 1) := by decide +kernel
theorem dX12_words_131 : decode cX12_words 131 = .ok (.aload_n 0, 1) := by decide +kernel
theorem dX12_words_132 : decode cX12_words 132 = .ok (.getfield 36, 3) := by decide +kernel
theorem dX12_words_135 : decode cX12_words 135 = .ok (.bipush 7, 2) := by decide +kernel
theorem dX12_words_137 : decode cX12_words 137 = .ok (.aload_n 0, 1) := by decide +kernel
theorem dX12_words_138 : decode cX12_words 138 = .ok (.aload_n 0, 1) := by decide +kernel
theorem dX12_words_139 : decode cX12_words 139 = .ok (.iload_n 1, 1) := by decide +kernel
theorem dX12_words_140 : decode cX12_words 140 = .ok (.iload_n 2, 1) := by decide +kernel
theorem dX12_words_141 : decode cX12_words 141 = .ok (.invokevirtual 381, 3) := by decide +kernel
theorem dX12_words_144 : decode cX12_words 144 = .ok (.invokevirtual 350, 3) := by decide +kernel
theorem dX12_words_147 : decode cX12_words 147 = .ok (.i2l, 1) := by decide +kernel
theorem dX12_words_148 : decode cX12_words 148 = .ok (.lastore, 1) := by decide +kernel
theorem dX12_words_149 : decode cX12_words 149 = .ok (.aload_n 0, 1) := by decide +kernel
theorem dX12_words_150 : decode cX12_words 150 = .ok (.getfield 36, 3) := by decide +kernel
theorem dX12_words_153 : decode cX12_words 153 = .ok (.bipush 8, 2) := by decide +kernel
theorem dX12_words_155 : decode cX12_words 155 = .ok (.aload_n 0, 1) := by decide +kernel
theorem dX12_words_156 : decode cX12_words 156 = .ok (.iload_n 2, 1) := by decide +kernel
theorem dX12_words_157 : decode cX12_words 157 = .ok (.invokevirtual 416, 3) := by decide +kernel
theorem dX12_words_160 : decode cX12_words 160 = .ok (.i2l, 1) := by decide +kernel
theorem dX12_words_161 : decode cX12_words 161 = .ok (.lastore, 1) := by decide +kernel
theorem dX12_words_162 : decode cX12_words 162 = .ok (.aload_n 0, 1) := by decide +kernel
theorem dX12_words_163 : decode cX12_words 163 = .ok (.getfield 36, 3) := by decide +kernel
theorem dX12_words_166 : decode cX12_words 166 = .ok (.bipush 9, 2) := by decide +kernel
theorem dX12_words_168 : decode cX12_words 168 = .ok (.aload_n 0, 1) := by decide +kernel
theorem dX12_words_169 : decode cX12_words 169 = .ok (.getfield 39, 3) := by decide +kernel
theorem dX12_words_172 : decode cX12_words 172 = .ok (.iconst 3, 1) := by decide +kernel
theorem dX12_words_173 : decode cX12_words 173 = .ok (.iaload, 1) := by decide +kernel
theorem dX12_words_174 : decode cX12_words 174 = .ok (.i2l, 1) := by decide +kernel
theorem dX12_words_175 : decode cX12_words 175 = .ok (.lastore, 1) := by decide +kernel
theorem dX12_words_176 : decode cX12_words 176 = .ok (.aload_n 0, 1) := by decide +kernel
theorem dX12_words_177 : decode cX12_words 177 = .ok (.getfield 36, 3) := by decide +kernel
theorem dX12_words_180 : decode cX12_words 180 = .ok (.bipush 10, 2) := by decide +kernel
theorem dX12_words_182 : decode cX12_words 182 = .ok (.aload_n 0, 1) := by decide +kernel
theorem dX12_words_183 : decode cX12_words 183 = .ok (.iload_n 3, 1) := by decide +kernel
theorem dX12_words_184 : decode cX12_words 184 = .ok (.aload_n 0, 1) := by decide +kernel
theorem dX12_words_185 : decode cX12_words 185 = .ok (.getfield 39, 3) := by decide +kernel
theorem dX12_words_188 : decode cX12_words 188 = .ok (.iconst 3, 1) := by decide +kernel
theorem dX12_words_189 : decode cX12_words 189 = .ok (.iaload, 1) := by decide +kernel
theorem dX12_words_190 : decode cX12_words 190 = .ok (.invokevirtual 390, 3) := by decide +kernel
theorem dX12_words_193 : decode cX12_words 193 = .ok (.i2l, 1) := by decide +kernel
theorem dX12_words_194 : decode cX12_words 194 = .ok (.lastore, 1) := by decide +kernel
theorem dX12_words_195 : decode cX12_words 195 = .ok (.aload_n 0, 1) := by decide +kernel
theorem dX12_words_196 : decode cX12_words 196 = .ok (.getfield 36, 3) := by decide +kernel
theorem dX12_words_199 : decode cX12_words 199 = .ok (.bipush 11, 2) := by decide +kernel
theorem dX12_words_201 : decode cX12_words 201 = .ok (.aload_n 0, 1) := by decide +kernel
theorem dX12_words_202 : decode cX12_words 202 = .ok (.iload_n 3, 1) := by decide +kernel
theorem dX12_words_203 : decode cX12_words 203 = .ok (.iconst 4, 1) := by decide +kernel
theorem dX12_words_204 : decode cX12_words 204 = .ok (.invokevirtual 319, 3) := by decide +kernel
theorem dX12_words_207 : decode cX12_words 207 = .ok (.i2l, 1) := by decide +kernel
theorem dX12_words_208 : decode cX12_words 208 = .ok (.lastore, 1) := by decide +kernel
theorem dX12_words_209 : decode cX12_words 209 = .ok (.return_, 1) := by decide +kernel
theorem dX12_words_86 : decode cX12_words 86 = .ok (.lconst 0, 1) := by decide +kernel
theorem dX12_words_82 : decode cX12_words 82 = .ok (.lconst 1, 1) := by decide +kernel
theorem dX12_words_83 : decode cX12_words 83 = .ok (.goto 4, 3) := by decide +kernel
theorem dX12_words_52 : decode cX12_words 52 = .ok (.lconst 1, 1) := by decide +kernel
theorem dX12_words_48 : decode cX12_words 48 = .ok (.lconst 0, 1) := by decide +kernel
theorem dX12_words_49 : decode cX12_words 49 = .ok (.goto 4, 3) := by decide +kernel
theorem dX12_words_31 : decode cX12_words 31 = .ok (.iload_n 2, 1) := by decide +kernel
theorem dX12_words_32 : decode cX12_words 32 = .ok (.bipush 8, 2) := by decide +kernel
theorem dX12_words_34 : decode cX12_words 34 = .ok (.irem, 1) := by decide +kernel
theorem dX12_words_23 : decode cX12_words 23 = .ok (.iload_n 1, 1) := by decide +kernel
theorem dX12_words_24 : decode cX12_words 24 = .ok (.iload_n 2, 1) := by decide +kernel
theorem dX12_words_25 : decode cX12_words 25 = .ok (.invokestatic 347, 3) := by decide +kernel
theorem dX12_words_28 : decode cX12_words 28 = .ok (.goto 7, 3) := by decide +kernel
theorem dX12_words_10 : decode cX12_words 10 = .ok (.iload_n 2, 1) := by decide +kernel
theorem dX12_words_11 : decode cX12_words 11 = .ok (.bipush 8, 2) := by decide +kernel
theorem dX12_words_13 : decode cX12_words 13 = .ok (.idiv, 1) := by decide +kernel
theorem dX12_words_14 : decode cX12_words 14 = .ok (.iconst 1, 1) := by decide +kernel
theorem dX12_words_15 : decode cX12_words 15 = .ok (.isub, 1) := by decide +kernel
theorem dX12_words_6 : decode cX12_words 6 = .ok (.iload_n 2, 1) := by decide +kernel
theorem dX12_words_7 : decode cX12_words 7 = .ok (.goto 9, 3) := by decide +kernel
set_option maxHeartbeats 4000000 in
set_option maxRecDepth 100000 in
theorem c_M_words (l : Launch) (D : va_G) (cs : Nat → ClassId) (X : XX) (sz : Nat) (m0 : Nat) (mtp : Nat) (sta : Int32) (sru : Int32) (msg : Nat) (mln : Nat) (mcl : Nat) (mcs : Nat) (mrd : Nat) (snx : Int32) (swr : Int32) (snu : Int32) (ste : Int32) (sma : Int32) (sde : Int32) (sli : Int32) (mop : Nat) (sod : Int32) (mst : Nat) (sto : Int32) (mwd : Nat) (msd : Nat) (sx_ : Int32) (mws : Nat) (sun : Int32) (mfr : Nat) (mqu : Nat) (miw : Nat) (sfi : Int32) (swa : Int32) (sdx : Int64) (mim : Nat) (mix : Nat) (mmd : Nat) (gsd : Nat → Int32) (gwd : Nat → Int64) (a : Int32) (b : Int32) (hsi : SI gsd) (r_b : Rg 0 71 b) (hbk : BK a) (hbp : ¬ blF gsd (cN a) (cN b) < 0) : Met l yX12_words (Cond.code yX12_words cX12_words 5 none :: TB) (RM 5 0 0) (va_Pc [.ref m0, .int a, .int b] (PRE D cs X [(m0, .inr (10, (.ref mtp :: .int sta :: .int sru :: .ref msg :: .ref mln :: .ref mcl :: .ref mcs :: .ref mrd :: .int snx :: .int swr :: .int snu :: .int ste :: .int sma :: .int sde :: .int sli :: .ref mop :: .int sod :: .ref mst :: .int sto :: .ref mwd :: .ref msd :: .int sx_ :: .ref mws :: .int sun :: .ref mfr :: .ref mqu :: .ref miw :: .int sfi :: .int swa :: .long sdx :: .ref mim :: .ref mix :: .ref mmd :: []))), (msd, .inl ((cs 0), 133, .inl gsd)), (mwd, .inl ((cs 4), 12, .inr (.inl gwd)))] [] sz)) (va_Qv (S := Unit) (fun _ => True) (fun _ t => ∃ (gwd2 : Nat → Int64), va_P D vwCl [(m0, .inr (10, (.ref mtp :: .int sta :: .int sru :: .ref msg :: .ref mln :: .ref mcl :: .ref mcs :: .ref mrd :: .int snx :: .int swr :: .int snu :: .int ste :: .int sma :: .int sde :: .int sli :: .ref mop :: .int sod :: .ref mst :: .int sto :: .ref mwd :: .ref msd :: .int sx_ :: .ref mws :: .int sun :: .ref mfr :: .ref mqu :: .ref miw :: .int sfi :: .int swa :: .long sdx :: .ref mim :: .ref mix :: .ref mmd :: []))), (msd, .inl ((cs 0), 133, .inl gsd)), (mwd, .inl ((cs 4), 12, .inr (.inl gwd2)))] t.heap ∧ va_D (va_A [(m0, .inr (10, (.ref mtp :: .int sta :: .int sru :: .ref msg :: .ref mln :: .ref mcl :: .ref mcs :: .ref mrd :: .int snx :: .int swr :: .int snu :: .int ste :: .int sma :: .int sde :: .int sli :: .ref mop :: .int sod :: .ref mst :: .int sto :: .ref mwd :: .ref msd :: .int sx_ :: .ref mws :: .int sun :: .ref mfr :: .ref mqu :: .ref miw :: .int sfi :: .int swa :: .long sdx :: .ref mim :: .ref mix :: .ref mmd :: []))), (msd, .inl ((cs 0), 133, .inl gsd)), (mwd, .inl ((cs 4), 12, .inr (.inl gwd)))] sz) [(m0, .inr (10, (.ref mtp :: .int sta :: .int sru :: .ref msg :: .ref mln :: .ref mcl :: .ref mcs :: .ref mrd :: .int snx :: .int swr :: .int snu :: .int ste :: .int sma :: .int sde :: .int sli :: .ref mop :: .int sod :: .ref mst :: .int sto :: .ref mwd :: .ref msd :: .int sx_ :: .ref mws :: .int sun :: .ref mfr :: .ref mqu :: .ref miw :: .int sfi :: .int swa :: .long sdx :: .ref mim :: .ref mix :: .ref mmd :: []))), (msd, .inl ((cs 0), 133, .inl gsd)), (mwd, .inl ((cs 4), 12, .inr (.inl gwd2)))]) (va_A [(m0, .inr (10, (.ref mtp :: .int sta :: .int sru :: .ref msg :: .ref mln :: .ref mcl :: .ref mcs :: .ref mrd :: .int snx :: .int swr :: .int snu :: .int ste :: .int sma :: .int sde :: .int sli :: .ref mop :: .int sod :: .ref mst :: .int sto :: .ref mwd :: .ref msd :: .int sx_ :: .ref mws :: .int sun :: .ref mfr :: .ref mqu :: .ref miw :: .int sfi :: .int swa :: .long sdx :: .ref mim :: .ref mix :: .ref mmd :: []))), (msd, .inl ((cs 0), 133, .inl gsd)), (mwd, .inl ((cs 4), 12, .inr (.inl gwd)))] sz)) 0 0 (va_A [(m0, .inr (10, (.ref mtp :: .int sta :: .int sru :: .ref msg :: .ref mln :: .ref mcl :: .ref mcs :: .ref mrd :: .int snx :: .int swr :: .int snu :: .int ste :: .int sma :: .int sde :: .int sli :: .ref mop :: .int sod :: .ref mst :: .int sto :: .ref mwd :: .ref msd :: .int sx_ :: .ref mws :: .int sun :: .ref mfr :: .ref mqu :: .ref miw :: .int sfi :: .int swa :: .long sdx :: .ref mim :: .ref mix :: .ref mmd :: []))), (msd, .inl ((cs 0), 133, .inl gsd)), (mwd, .inl ((cs 4), 12, .inr (.inl gwd)))] sz) := by
  refine MET (y := yX12_words) (cc := cX12_words) (maxL := 5) (ret := none) (d := 5) (mc := 0) (ms := 0) (D := D) (cs := cs) (X := X) (ws := [(m0, .inr (10, (.ref mtp :: .int sta :: .int sru :: .ref msg :: .ref mln :: .ref mcl :: .ref mcs :: .ref mrd :: .int snx :: .int swr :: .int snu :: .int ste :: .int sma :: .int sde :: .int sli :: .ref mop :: .int sod :: .ref mst :: .int sto :: .ref mwd :: .ref msd :: .int sx_ :: .ref mws :: .int sun :: .ref mfr :: .ref mqu :: .ref miw :: .int sfi :: .int swa :: .long sdx :: .ref mim :: .ref mix :: .ref mmd :: []))), (msd, .inl ((cs 0), 133, .inl gsd)), (mwd, .inl ((cs 4), 12, .inr (.inl gwd)))]) (wo := []) (sz := sz) (av := [.ref m0, .int a, .int b]) (Qc := fun A => va_Qv (S := Unit) (fun _ => True) (fun _ t => ∃ (gwd2 : Nat → Int64), va_P D vwCl [(m0, .inr (10, (.ref mtp :: .int sta :: .int sru :: .ref msg :: .ref mln :: .ref mcl :: .ref mcs :: .ref mrd :: .int snx :: .int swr :: .int snu :: .int ste :: .int sma :: .int sde :: .int sli :: .ref mop :: .int sod :: .ref mst :: .int sto :: .ref mwd :: .ref msd :: .int sx_ :: .ref mws :: .int sun :: .ref mfr :: .ref mqu :: .ref miw :: .int sfi :: .int swa :: .long sdx :: .ref mim :: .ref mix :: .ref mmd :: []))), (msd, .inl ((cs 0), 133, .inl gsd)), (mwd, .inl ((cs 4), 12, .inr (.inl gwd2)))] t.heap ∧ va_D A [(m0, .inr (10, (.ref mtp :: .int sta :: .int sru :: .ref msg :: .ref mln :: .ref mcl :: .ref mcs :: .ref mrd :: .int snx :: .int swr :: .int snu :: .int ste :: .int sma :: .int sde :: .int sli :: .ref mop :: .int sod :: .ref mst :: .int sto :: .ref mwd :: .ref msd :: .int sx_ :: .ref mws :: .int sun :: .ref mfr :: .ref mqu :: .ref miw :: .int sfi :: .int swa :: .long sdx :: .ref mim :: .ref mix :: .ref mmd :: []))), (msd, .inl ((cs 0), 133, .inl gsd)), (mwd, .inl ((cs 4), 12, .inr (.inl gwd2)))]) A) (by decide) (Nat.le_of_ble_eq_true rfl) ?_
  intro p e s m below meth c ls A H hHe hx hb hr hml hown hts hlocks hnm hP hK hD hA hS hN hR hX hXs hl
  have hD : va_D A [(m0, .inr (10, (.ref mtp :: .int sta :: .int sru :: .ref msg :: .ref mln :: .ref mcl :: .ref mcs :: .ref mrd :: .int snx :: .int swr :: .int snu :: .int ste :: .int sma :: .int sde :: .int sli :: .ref mop :: .int sod :: .ref mst :: .int sto :: .ref mwd :: .ref msd :: .int sx_ :: .ref mws :: .int sun :: .ref mfr :: .ref mqu :: .ref miw :: .int sfi :: .int swa :: .long sdx :: .ref mim :: .ref mix :: .ref mmd :: []))), (msd, .inl ((cs 0), 133, .inl gsd)), (mwd, .inl ((cs 4), 12, .inr (.inl gwd)))] := hD
  obtain ⟨locs, hlc⟩ : ∃ z : List Loc, z = [] := ⟨_, rfl⟩
  rw [← hlc] at hS ⊢
  have hown : s.vm.findClass "WrongHoleModel" = some m.cls := hown
  have hT : ∀ w ∈ TB, w.before ([.ref m0, .int a, .int b] : List Value).toArray s = true := fun w h => hts w (List.mem_cons_of_mem _ h)
  have hl : lv_has ls 5 [(0, .ref m0), (1, .int a), (2, .int b)] := hl
  have hP : va_P D vwCl [(m0, .inr (10, (.ref mtp :: .int sta :: .int sru :: .ref msg :: .ref mln :: .ref mcl :: .ref mcs :: .ref mrd :: .int snx :: .int swr :: .int snu :: .int ste :: .int sma :: .int sde :: .int sli :: .ref mop :: .int sod :: .ref mst :: .int sto :: .ref mwd :: .ref msd :: .int sx_ :: .ref mws :: .int sun :: .ref mfr :: .ref mqu :: .ref miw :: .int sfi :: .int swa :: .long sdx :: .ref mim :: .ref mix :: .ref mmd :: []))), (msd, .inl ((cs 0), 133, .inl gsd)), (mwd, .inl ((cs 4), 12, .inr (.inl gwd)))] H := hP
  refine lv_iload_n hx hb dX12_words_0 rfl (lv_at hl 2 rfl) ?_
  refine lv_bipush (v := 8) hx hb dX12_words_1 (by decide) ?_
  refine w_cut (σ := (Int32)) (fun (v_10 : Int32) H locs ls => Rg 0 7 v_10 ∧ va_P D vwCl [(m0, .inr (10, (.ref mtp :: .int sta :: .int sru :: .ref msg :: .ref mln :: .ref mcl :: .ref mcs :: .ref mrd :: .int snx :: .int swr :: .int snu :: .int ste :: .int sma :: .int sde :: .int sli :: .ref mop :: .int sod :: .ref mst :: .int sto :: .ref mwd :: .ref msd :: .int sx_ :: .ref mws :: .int sun :: .ref mfr :: .ref mqu :: .ref miw :: .int sfi :: .int swa :: .long sdx :: .ref mim :: .ref mix :: .ref mmd :: []))), (msd, .inl ((cs 0), 133, .inl gsd)), (mwd, .inl ((cs 4), 12, .inr (.inl gwd)))] H ∧ va_D A [(m0, .inr (10, (.ref mtp :: .int sta :: .int sru :: .ref msg :: .ref mln :: .ref mcl :: .ref mcs :: .ref mrd :: .int snx :: .int swr :: .int snu :: .int ste :: .int sma :: .int sde :: .int sli :: .ref mop :: .int sod :: .ref mst :: .int sto :: .ref mwd :: .ref msd :: .int sx_ :: .ref mws :: .int sun :: .ref mfr :: .ref mqu :: .ref miw :: .int sfi :: .int swa :: .long sdx :: .ref mim :: .ref mix :: .ref mmd :: []))), (msd, .inl ((cs 0), 133, .inl gsd)), (mwd, .inl ((cs 4), 12, .inr (.inl gwd)))] ∧ va_S A s.heap H locs ∧ lv_has ls 5 [(0, .ref m0), (1, .int a), (2, .int b)]) 16 (fun (v_10 : Int32) => [.int v_10]) ?_ (fun hj_11 => ?_)
  · rintro v_10 H locs ls ⟨r_12, hP, hD, hS, hl⟩
    refine lv_istore_n (lv' := [(3, .int v_10), (0, .ref m0), (1, .int a), (2, .int b)]) hx hb dX12_words_16 rfl hl (by decide) rfl (fun ls hl => ?_)
    refine lv_iload_n hx hb dX12_words_17 rfl (lv_at hl 3 rfl) ?_
    refine lv_bipush (v := 8) hx hb dX12_words_18 (by decide) ?_
    refine w_cut (σ := (Int32)) (fun (v_22 : Int32) H locs ls => Rg 0 7 v_22 ∧ va_P D vwCl [(m0, .inr (10, (.ref mtp :: .int sta :: .int sru :: .ref msg :: .ref mln :: .ref mcl :: .ref mcs :: .ref mrd :: .int snx :: .int swr :: .int snu :: .int ste :: .int sma :: .int sde :: .int sli :: .ref mop :: .int sod :: .ref mst :: .int sto :: .ref mwd :: .ref msd :: .int sx_ :: .ref mws :: .int sun :: .ref mfr :: .ref mqu :: .ref miw :: .int sfi :: .int swa :: .long sdx :: .ref mim :: .ref mix :: .ref mmd :: []))), (msd, .inl ((cs 0), 133, .inl gsd)), (mwd, .inl ((cs 4), 12, .inr (.inl gwd)))] H ∧ va_D A [(m0, .inr (10, (.ref mtp :: .int sta :: .int sru :: .ref msg :: .ref mln :: .ref mcl :: .ref mcs :: .ref mrd :: .int snx :: .int swr :: .int snu :: .int ste :: .int sma :: .int sde :: .int sli :: .ref mop :: .int sod :: .ref mst :: .int sto :: .ref mwd :: .ref msd :: .int sx_ :: .ref mws :: .int sun :: .ref mfr :: .ref mqu :: .ref miw :: .int sfi :: .int swa :: .long sdx :: .ref mim :: .ref mix :: .ref mmd :: []))), (msd, .inl ((cs 0), 133, .inl gsd)), (mwd, .inl ((cs 4), 12, .inr (.inl gwd)))] ∧ va_S A s.heap H locs ∧ lv_has ls 5 [(3, .int v_10), (0, .ref m0), (1, .int a), (2, .int b)]) 35 (fun (v_22 : Int32) => [.int v_22]) ?_ (fun hj_23 => ?_)
    · rintro v_22 H locs ls ⟨r_24, hP, hD, hS, hl⟩
      refine lv_istore (lv' := [(4, .int v_22), (3, .int v_10), (0, .ref m0), (1, .int a), (2, .int b)]) hx hb dX12_words_35 hl (by decide) rfl (fun ls hl => ?_)
      refine lv_aload_n hx hb dX12_words_37 rfl (lv_at hl 2 rfl) ?_
      refine va_get (D := D) (ci := 10) (v := .ref mwd) (C := "WrongHoleModel") (T := TX12) (N := 33) hx hb hts (iq_RX12 _) hown hK hP 0 rfl rfl 19 (by decide) (hT _ qq_5_171) (fun _ h9 => h9) rfl dX12_words_38 ?_
      refine lv_iconst (v := 0) hx hb dX12_words_41 (by decide) ?_
      refine lv_iload_n hx hb dX12_words_42 rfl (lv_at hl 4 rfl) ?_
      refine lv_bipush (v := 8) hx hb dX12_words_43 (by decide) ?_
      refine w_cut (σ := (Int64)) (fun (z_28 : Int64) H locs ls => va_P D vwCl [(m0, .inr (10, (.ref mtp :: .int sta :: .int sru :: .ref msg :: .ref mln :: .ref mcl :: .ref mcs :: .ref mrd :: .int snx :: .int swr :: .int snu :: .int ste :: .int sma :: .int sde :: .int sli :: .ref mop :: .int sod :: .ref mst :: .int sto :: .ref mwd :: .ref msd :: .int sx_ :: .ref mws :: .int sun :: .ref mfr :: .ref mqu :: .ref miw :: .int sfi :: .int swa :: .long sdx :: .ref mim :: .ref mix :: .ref mmd :: []))), (msd, .inl ((cs 0), 133, .inl gsd)), (mwd, .inl ((cs 4), 12, .inr (.inl gwd)))] H ∧ va_D A [(m0, .inr (10, (.ref mtp :: .int sta :: .int sru :: .ref msg :: .ref mln :: .ref mcl :: .ref mcs :: .ref mrd :: .int snx :: .int swr :: .int snu :: .int ste :: .int sma :: .int sde :: .int sli :: .ref mop :: .int sod :: .ref mst :: .int sto :: .ref mwd :: .ref msd :: .int sx_ :: .ref mws :: .int sun :: .ref mfr :: .ref mqu :: .ref miw :: .int sfi :: .int swa :: .long sdx :: .ref mim :: .ref mix :: .ref mmd :: []))), (msd, .inl ((cs 0), 133, .inl gsd)), (mwd, .inl ((cs 4), 12, .inr (.inl gwd)))] ∧ va_S A s.heap H locs ∧ lv_has ls 5 [(4, .int v_22), (3, .int v_10), (0, .ref m0), (1, .int a), (2, .int b)]) 53 (fun (z_28 : Int64) => [.long z_28, .int 0, .ref mwd]) ?_ (fun hj_29 => ?_)
      · rintro z_28 H locs ls ⟨hP, hD, hS, hl⟩
        have hi_30 : vp_in 0 12 := vi_c rfl
        refine va_last hx hb hK hP hD hS 2 4 rfl rfl hi_30 dX12_words_53 (fun H locs hP hD hS => ?_)
        obtain ⟨g_31, hP, hD⟩ : ∃ g_31 : Nat → Int64, va_P D vwCl [(m0, .inr (10, (.ref mtp :: .int sta :: .int sru :: .ref msg :: .ref mln :: .ref mcl :: .ref mcs :: .ref mrd :: .int snx :: .int swr :: .int snu :: .int ste :: .int sma :: .int sde :: .int sli :: .ref mop :: .int sod :: .ref mst :: .int sto :: .ref mwd :: .ref msd :: .int sx_ :: .ref mws :: .int sun :: .ref mfr :: .ref mqu :: .ref miw :: .int sfi :: .int swa :: .long sdx :: .ref mim :: .ref mix :: .ref mmd :: []))), (msd, .inl ((cs 0), 133, .inl gsd)), (mwd, .inl ((cs 4), 12, .inr (.inl g_31)))] H ∧ va_D A [(m0, .inr (10, (.ref mtp :: .int sta :: .int sru :: .ref msg :: .ref mln :: .ref mcl :: .ref mcs :: .ref mrd :: .int snx :: .int swr :: .int snu :: .int ste :: .int sma :: .int sde :: .int sli :: .ref mop :: .int sod :: .ref mst :: .int sto :: .ref mwd :: .ref msd :: .int sx_ :: .ref mws :: .int sun :: .ref mfr :: .ref mqu :: .ref miw :: .int sfi :: .int swa :: .long sdx :: .ref mim :: .ref mix :: .ref mmd :: []))), (msd, .inl ((cs 0), 133, .inl gsd)), (mwd, .inl ((cs 4), 12, .inr (.inl g_31)))] := ⟨_, hP, hD⟩
        refine lv_aload_n hx hb dX12_words_54 rfl (lv_at hl 2 rfl) ?_
        refine va_get (D := D) (ci := 10) (v := .ref mwd) (C := "WrongHoleModel") (T := TX12) (N := 33) hx hb hts (iq_RX12 _) hown hK hP 0 rfl rfl 19 (by decide) (hT _ qq_5_171) (fun _ h9 => h9) rfl dX12_words_55 ?_
        refine lv_iconst (v := 1) hx hb dX12_words_58 (by decide) ?_
        refine lv_iload_n hx hb dX12_words_59 rfl (lv_at hl 1 rfl) ?_
        refine lv_i2l (v := Int32.toInt64 v_10) hx hb dX12_words_60 rfl ?_
        refine lv_topl (fun x_32 e_33 => ?_)
        have hi_34 : vp_in 1 12 := vi_c rfl
        refine va_last hx hb hK hP hD hS 2 4 rfl rfl hi_34 dX12_words_61 (fun H locs hP hD hS => ?_)
        obtain ⟨g_35, hP, hD⟩ : ∃ g_35 : Nat → Int64, va_P D vwCl [(m0, .inr (10, (.ref mtp :: .int sta :: .int sru :: .ref msg :: .ref mln :: .ref mcl :: .ref mcs :: .ref mrd :: .int snx :: .int swr :: .int snu :: .int ste :: .int sma :: .int sde :: .int sli :: .ref mop :: .int sod :: .ref mst :: .int sto :: .ref mwd :: .ref msd :: .int sx_ :: .ref mws :: .int sun :: .ref mfr :: .ref mqu :: .ref miw :: .int sfi :: .int swa :: .long sdx :: .ref mim :: .ref mix :: .ref mmd :: []))), (msd, .inl ((cs 0), 133, .inl gsd)), (mwd, .inl ((cs 4), 12, .inr (.inl g_35)))] H ∧ va_D A [(m0, .inr (10, (.ref mtp :: .int sta :: .int sru :: .ref msg :: .ref mln :: .ref mcl :: .ref mcs :: .ref mrd :: .int snx :: .int swr :: .int snu :: .int ste :: .int sma :: .int sde :: .int sli :: .ref mop :: .int sod :: .ref mst :: .int sto :: .ref mwd :: .ref msd :: .int sx_ :: .ref mws :: .int sun :: .ref mfr :: .ref mqu :: .ref miw :: .int sfi :: .int swa :: .long sdx :: .ref mim :: .ref mix :: .ref mmd :: []))), (msd, .inl ((cs 0), 133, .inl gsd)), (mwd, .inl ((cs 4), 12, .inr (.inl g_35)))] := ⟨_, hP, hD⟩
        refine lv_aload_n hx hb dX12_words_62 rfl (lv_at hl 2 rfl) ?_
        refine va_get (D := D) (ci := 10) (v := .ref mwd) (C := "WrongHoleModel") (T := TX12) (N := 33) hx hb hts (iq_RX12 _) hown hK hP 0 rfl rfl 19 (by decide) (hT _ qq_5_171) (fun _ h9 => h9) rfl dX12_words_63 ?_
        refine lv_iconst (v := 2) hx hb dX12_words_66 (by decide) ?_
        refine lv_iload hx hb dX12_words_67 (lv_at hl 0 rfl) ?_
        refine lv_i2l (v := Int32.toInt64 v_22) hx hb dX12_words_69 rfl ?_
        refine lv_topl (fun x_36 e_37 => ?_)
        have hi_38 : vp_in 2 12 := vi_c rfl
        refine va_last hx hb hK hP hD hS 2 4 rfl rfl hi_38 dX12_words_70 (fun H locs hP hD hS => ?_)
        obtain ⟨g_39, hP, hD⟩ : ∃ g_39 : Nat → Int64, va_P D vwCl [(m0, .inr (10, (.ref mtp :: .int sta :: .int sru :: .ref msg :: .ref mln :: .ref mcl :: .ref mcs :: .ref mrd :: .int snx :: .int swr :: .int snu :: .int ste :: .int sma :: .int sde :: .int sli :: .ref mop :: .int sod :: .ref mst :: .int sto :: .ref mwd :: .ref msd :: .int sx_ :: .ref mws :: .int sun :: .ref mfr :: .ref mqu :: .ref miw :: .int sfi :: .int swa :: .long sdx :: .ref mim :: .ref mix :: .ref mmd :: []))), (msd, .inl ((cs 0), 133, .inl gsd)), (mwd, .inl ((cs 4), 12, .inr (.inl g_39)))] H ∧ va_D A [(m0, .inr (10, (.ref mtp :: .int sta :: .int sru :: .ref msg :: .ref mln :: .ref mcl :: .ref mcs :: .ref mrd :: .int snx :: .int swr :: .int snu :: .int ste :: .int sma :: .int sde :: .int sli :: .ref mop :: .int sod :: .ref mst :: .int sto :: .ref mwd :: .ref msd :: .int sx_ :: .ref mws :: .int sun :: .ref mfr :: .ref mqu :: .ref miw :: .int sfi :: .int swa :: .long sdx :: .ref mim :: .ref mix :: .ref mmd :: []))), (msd, .inl ((cs 0), 133, .inl gsd)), (mwd, .inl ((cs 4), 12, .inr (.inl g_39)))] := ⟨_, hP, hD⟩
        refine lv_aload_n hx hb dX12_words_71 rfl (lv_at hl 2 rfl) ?_
        refine va_get (D := D) (ci := 10) (v := .ref mwd) (C := "WrongHoleModel") (T := TX12) (N := 33) hx hb hts (iq_RX12 _) hown hK hP 0 rfl rfl 19 (by decide) (hT _ qq_5_171) (fun _ h9 => h9) rfl dX12_words_72 ?_
        refine lv_iconst (v := 3) hx hb dX12_words_75 (by decide) ?_
        refine lv_iload_n hx hb dX12_words_76 rfl (lv_at hl 1 rfl) ?_
        refine lv_iload hx hb dX12_words_77 (lv_at hl 0 rfl) ?_
        refine w_cut (σ := (Int64)) (fun (z_41 : Int64) H locs ls => va_P D vwCl [(m0, .inr (10, (.ref mtp :: .int sta :: .int sru :: .ref msg :: .ref mln :: .ref mcl :: .ref mcs :: .ref mrd :: .int snx :: .int swr :: .int snu :: .int ste :: .int sma :: .int sde :: .int sli :: .ref mop :: .int sod :: .ref mst :: .int sto :: .ref mwd :: .ref msd :: .int sx_ :: .ref mws :: .int sun :: .ref mfr :: .ref mqu :: .ref miw :: .int sfi :: .int swa :: .long sdx :: .ref mim :: .ref mix :: .ref mmd :: []))), (msd, .inl ((cs 0), 133, .inl gsd)), (mwd, .inl ((cs 4), 12, .inr (.inl g_39)))] H ∧ va_D A [(m0, .inr (10, (.ref mtp :: .int sta :: .int sru :: .ref msg :: .ref mln :: .ref mcl :: .ref mcs :: .ref mrd :: .int snx :: .int swr :: .int snu :: .int ste :: .int sma :: .int sde :: .int sli :: .ref mop :: .int sod :: .ref mst :: .int sto :: .ref mwd :: .ref msd :: .int sx_ :: .ref mws :: .int sun :: .ref mfr :: .ref mqu :: .ref miw :: .int sfi :: .int swa :: .long sdx :: .ref mim :: .ref mix :: .ref mmd :: []))), (msd, .inl ((cs 0), 133, .inl gsd)), (mwd, .inl ((cs 4), 12, .inr (.inl g_39)))] ∧ va_S A s.heap H locs ∧ lv_has ls 5 [(4, .int v_22), (3, .int v_10), (0, .ref m0), (1, .int a), (2, .int b)]) 87 (fun (z_41 : Int64) => [.long z_41, .int 3, .ref mwd]) ?_ (fun hj_42 => ?_)
        · rintro z_41 H locs ls ⟨hP, hD, hS, hl⟩
          have hi_43 : vp_in 3 12 := vi_c rfl
          refine va_last hx hb hK hP hD hS 2 4 rfl rfl hi_43 dX12_words_87 (fun H locs hP hD hS => ?_)
          obtain ⟨g_44, hP, hD⟩ : ∃ g_44 : Nat → Int64, va_P D vwCl [(m0, .inr (10, (.ref mtp :: .int sta :: .int sru :: .ref msg :: .ref mln :: .ref mcl :: .ref mcs :: .ref mrd :: .int snx :: .int swr :: .int snu :: .int ste :: .int sma :: .int sde :: .int sli :: .ref mop :: .int sod :: .ref mst :: .int sto :: .ref mwd :: .ref msd :: .int sx_ :: .ref mws :: .int sun :: .ref mfr :: .ref mqu :: .ref miw :: .int sfi :: .int swa :: .long sdx :: .ref mim :: .ref mix :: .ref mmd :: []))), (msd, .inl ((cs 0), 133, .inl gsd)), (mwd, .inl ((cs 4), 12, .inr (.inl g_44)))] H ∧ va_D A [(m0, .inr (10, (.ref mtp :: .int sta :: .int sru :: .ref msg :: .ref mln :: .ref mcl :: .ref mcs :: .ref mrd :: .int snx :: .int swr :: .int snu :: .int ste :: .int sma :: .int sde :: .int sli :: .ref mop :: .int sod :: .ref mst :: .int sto :: .ref mwd :: .ref msd :: .int sx_ :: .ref mws :: .int sun :: .ref mfr :: .ref mqu :: .ref miw :: .int sfi :: .int swa :: .long sdx :: .ref mim :: .ref mix :: .ref mmd :: []))), (msd, .inl ((cs 0), 133, .inl gsd)), (mwd, .inl ((cs 4), 12, .inr (.inl g_44)))] := ⟨_, hP, hD⟩
          refine lv_aload_n hx hb dX12_words_88 rfl (lv_at hl 2 rfl) ?_
          refine va_get (D := D) (ci := 10) (v := .ref mwd) (C := "WrongHoleModel") (T := TX12) (N := 33) hx hb hts (iq_RX12 _) hown hK hP 0 rfl rfl 19 (by decide) (hT _ qq_5_171) (fun _ h9 => h9) rfl dX12_words_89 ?_
          refine lv_iconst (v := 4) hx hb dX12_words_92 (by decide) ?_
          refine lv_aload_n hx hb dX12_words_93 rfl (lv_at hl 2 rfl) ?_
          refine lv_iload_n hx hb dX12_words_94 rfl (lv_at hl 3 rfl) ?_
          have hPc := va_P.sub (ws' := [(m0, .inr (10, (.ref mtp :: .int sta :: .int sru :: .ref msg :: .ref mln :: .ref mcl :: .ref mcs :: .ref mrd :: .int snx :: .int swr :: .int snu :: .int ste :: .int sma :: .int sde :: .int sli :: .ref mop :: .int sod :: .ref mst :: .int sto :: .ref mwd :: .ref msd :: .int sx_ :: .ref mws :: .int sun :: .ref mfr :: .ref mqu :: .ref miw :: .int sfi :: .int swa :: .long sdx :: .ref mim :: .ref mix :: .ref mmd :: []))), (msd, .inl ((cs 0), 133, .inl gsd))]) hP [0, 1] rfl
          refine cl_V (W.runV (As := [.int a]) (rest := [.int 4, .ref mwd]) ⟨hx, hb, hml, hown, hts⟩ (c_M_openIn l D cs m0 mtp sta sru msg mln mcl mcs mrd snx swr snu ste sma sde sli mop sod mst sto mwd msd sx_ mws sun mfr mqu miw sfi swa sdx mim mix mmd gsd a hsi hbk.1) ⟨callB_of 1 hts (gd_C qq_7_55) rfl rfl rfl (hT _ qq_1_9) (hT _ qq_7_52) (by decide +kernel) (rm_R rfl rfl), (hT _ qq_7_54), (hT _ qs_5_4)⟩ (pq_V hPc hK hN (ci := 10) (q0 := 0) rfl rfl) rfl rfl hl.1 rfl (lv_room (Nat.le_of_ble_eq_true rfl)) dX12_words_95 ⟨Nat.le_of_ble_eq_true rfl, Nat.le_of_ble_eq_true rfl⟩) ?_
          refine lv_topi (fun x_45 e_46 => ?_)
          have r_47 : Rg 0 255 x_45 := Rg.of e_46 (op_rg (hsi) _)
          have hPc := va_P.sub (ws' := []) hP [] rfl
          refine cl_V (W.runS (As := [.int x_45]) (rest := [.int 4, .ref mwd]) ⟨hx, hb, hml, hown, hts⟩ (c_M_bits l D cs x_45 r_47) ⟨callB_of 1 hts (gd_C qq_7_61) rfl rfl rfl (hT _ qq_1_9) (hT _ qq_7_59) (by decide +kernel) (rm_R rfl rfl), (hT _ qq_7_60)⟩ (pq_S hPc hK hN) rfl rfl hl.1 rfl (lv_room (Nat.le_of_ble_eq_true rfl)) dX12_words_98 ⟨Nat.le_of_ble_eq_true rfl, Nat.le_of_ble_eq_true rfl⟩) ?_
          refine lv_topi (fun x_48 e_49 => ?_)
          have r_50 : Rg 0 8 x_48 := Rg.of e_49 (pc_rg _)
          refine lv_i2l (v := Int32.toInt64 x_48) hx hb dX12_words_101 rfl ?_
          refine lv_topl (fun x_51 e_52 => ?_)
          have hi_53 : vp_in 4 12 := vi_c rfl
          refine va_last hx hb hK hP hD hS 2 4 rfl rfl hi_53 dX12_words_102 (fun H locs hP hD hS => ?_)
          obtain ⟨g_54, hP, hD⟩ : ∃ g_54 : Nat → Int64, va_P D vwCl [(m0, .inr (10, (.ref mtp :: .int sta :: .int sru :: .ref msg :: .ref mln :: .ref mcl :: .ref mcs :: .ref mrd :: .int snx :: .int swr :: .int snu :: .int ste :: .int sma :: .int sde :: .int sli :: .ref mop :: .int sod :: .ref mst :: .int sto :: .ref mwd :: .ref msd :: .int sx_ :: .ref mws :: .int sun :: .ref mfr :: .ref mqu :: .ref miw :: .int sfi :: .int swa :: .long sdx :: .ref mim :: .ref mix :: .ref mmd :: []))), (msd, .inl ((cs 0), 133, .inl gsd)), (mwd, .inl ((cs 4), 12, .inr (.inl g_54)))] H ∧ va_D A [(m0, .inr (10, (.ref mtp :: .int sta :: .int sru :: .ref msg :: .ref mln :: .ref mcl :: .ref mcs :: .ref mrd :: .int snx :: .int swr :: .int snu :: .int ste :: .int sma :: .int sde :: .int sli :: .ref mop :: .int sod :: .ref mst :: .int sto :: .ref mwd :: .ref msd :: .int sx_ :: .ref mws :: .int sun :: .ref mfr :: .ref mqu :: .ref miw :: .int sfi :: .int swa :: .long sdx :: .ref mim :: .ref mix :: .ref mmd :: []))), (msd, .inl ((cs 0), 133, .inl gsd)), (mwd, .inl ((cs 4), 12, .inr (.inl g_54)))] := ⟨_, hP, hD⟩
          refine lv_aload_n hx hb dX12_words_103 rfl (lv_at hl 2 rfl) ?_
          refine va_get (D := D) (ci := 10) (v := .ref mwd) (C := "WrongHoleModel") (T := TX12) (N := 33) hx hb hts (iq_RX12 _) hown hK hP 0 rfl rfl 19 (by decide) (hT _ qq_5_171) (fun _ h9 => h9) rfl dX12_words_104 ?_
          refine lv_iconst (v := 5) hx hb dX12_words_107 (by decide) ?_
          refine lv_aload_n hx hb dX12_words_108 rfl (lv_at hl 2 rfl) ?_
          refine lv_iload_n hx hb dX12_words_109 rfl (lv_at hl 3 rfl) ?_
          have hPc := va_P.sub (ws' := [(m0, .inr (10, (.ref mtp :: .int sta :: .int sru :: .ref msg :: .ref mln :: .ref mcl :: .ref mcs :: .ref mrd :: .int snx :: .int swr :: .int snu :: .int ste :: .int sma :: .int sde :: .int sli :: .ref mop :: .int sod :: .ref mst :: .int sto :: .ref mwd :: .ref msd :: .int sx_ :: .ref mws :: .int sun :: .ref mfr :: .ref mqu :: .ref miw :: .int sfi :: .int swa :: .long sdx :: .ref mim :: .ref mix :: .ref mmd :: []))), (msd, .inl ((cs 0), 133, .inl gsd))]) hP [0, 1] rfl
          refine cl_P (W.runV (As := [.int a]) (rest := [.int 5, .ref mwd]) ⟨hx, hb, hml, hown, hts⟩ (c_M_wrongIn l D cs m0 mtp sta sru msg mln mcl mcs mrd snx swr snu ste sma sde sli mop sod mst sto mwd msd sx_ mws sun mfr mqu miw sfi swa sdx mim mix mmd gsd a hsi hbk) ⟨callB_of 1 hts (gd_C qq_7_65) rfl rfl rfl (hT _ qq_1_9) (hT _ qq_7_62) (by decide +kernel) (rm_R rfl rfl), (hT _ qq_7_64), (hT _ qs_5_5)⟩ (pq_V hPc hK hN (ci := 10) (q0 := 0) rfl rfl) rfl rfl hl.1 rfl (lv_room (Nat.le_of_ble_eq_true rfl)) dX12_words_110 ⟨Nat.le_of_ble_eq_true rfl, Nat.le_of_ble_eq_true rfl⟩) (fun v9 hz_56 => ?_)
          obtain ⟨x_55, rfl, r_57⟩ := hz_56
          have hPc := va_P.sub (ws' := []) hP [] rfl
          refine cl_V (W.runS (As := [.int x_55]) (rest := [.int 5, .ref mwd]) ⟨hx, hb, hml, hown, hts⟩ (c_M_bits l D cs x_55 r_57) ⟨callB_of 1 hts (gd_C qq_7_61) rfl rfl rfl (hT _ qq_1_9) (hT _ qq_7_59) (by decide +kernel) (rm_R rfl rfl), (hT _ qq_7_60)⟩ (pq_S hPc hK hN) rfl rfl hl.1 rfl (lv_room (Nat.le_of_ble_eq_true rfl)) dX12_words_113 ⟨Nat.le_of_ble_eq_true rfl, Nat.le_of_ble_eq_true rfl⟩) ?_
          refine lv_topi (fun x_58 e_59 => ?_)
          have r_60 : Rg 0 8 x_58 := Rg.of e_59 (pc_rg _)
          refine lv_i2l (v := Int32.toInt64 x_58) hx hb dX12_words_116 rfl ?_
          refine lv_topl (fun x_61 e_62 => ?_)
          have hi_63 : vp_in 5 12 := vi_c rfl
          refine va_last hx hb hK hP hD hS 2 4 rfl rfl hi_63 dX12_words_117 (fun H locs hP hD hS => ?_)
          obtain ⟨g_64, hP, hD⟩ : ∃ g_64 : Nat → Int64, va_P D vwCl [(m0, .inr (10, (.ref mtp :: .int sta :: .int sru :: .ref msg :: .ref mln :: .ref mcl :: .ref mcs :: .ref mrd :: .int snx :: .int swr :: .int snu :: .int ste :: .int sma :: .int sde :: .int sli :: .ref mop :: .int sod :: .ref mst :: .int sto :: .ref mwd :: .ref msd :: .int sx_ :: .ref mws :: .int sun :: .ref mfr :: .ref mqu :: .ref miw :: .int sfi :: .int swa :: .long sdx :: .ref mim :: .ref mix :: .ref mmd :: []))), (msd, .inl ((cs 0), 133, .inl gsd)), (mwd, .inl ((cs 4), 12, .inr (.inl g_64)))] H ∧ va_D A [(m0, .inr (10, (.ref mtp :: .int sta :: .int sru :: .ref msg :: .ref mln :: .ref mcl :: .ref mcs :: .ref mrd :: .int snx :: .int swr :: .int snu :: .int ste :: .int sma :: .int sde :: .int sli :: .ref mop :: .int sod :: .ref mst :: .int sto :: .ref mwd :: .ref msd :: .int sx_ :: .ref mws :: .int sun :: .ref mfr :: .ref mqu :: .ref miw :: .int sfi :: .int swa :: .long sdx :: .ref mim :: .ref mix :: .ref mmd :: []))), (msd, .inl ((cs 0), 133, .inl gsd)), (mwd, .inl ((cs 4), 12, .inr (.inl g_64)))] := ⟨_, hP, hD⟩
          refine lv_aload_n hx hb dX12_words_118 rfl (lv_at hl 2 rfl) ?_
          refine va_get (D := D) (ci := 10) (v := .ref mwd) (C := "WrongHoleModel") (T := TX12) (N := 33) hx hb hts (iq_RX12 _) hown hK hP 0 rfl rfl 19 (by decide) (hT _ qq_5_171) (fun _ h9 => h9) rfl dX12_words_119 ?_
          refine lv_bipush (v := 6) hx hb dX12_words_122 (by decide) ?_
          refine lv_aload_n hx hb dX12_words_124 rfl (lv_at hl 2 rfl) ?_
          refine lv_iload_n hx hb dX12_words_125 rfl (lv_at hl 3 rfl) ?_
          have hPc := va_P.sub (ws' := [(m0, .inr (10, (.ref mtp :: .int sta :: .int sru :: .ref msg :: .ref mln :: .ref mcl :: .ref mcs :: .ref mrd :: .int snx :: .int swr :: .int snu :: .int ste :: .int sma :: .int sde :: .int sli :: .ref mop :: .int sod :: .ref mst :: .int sto :: .ref mwd :: .ref msd :: .int sx_ :: .ref mws :: .int sun :: .ref mfr :: .ref mqu :: .ref miw :: .int sfi :: .int swa :: .long sdx :: .ref mim :: .ref mix :: .ref mmd :: []))), (msd, .inl ((cs 0), 133, .inl gsd))]) hP [0, 1] rfl
          refine cl_V (W.runV (As := [.int a]) (rest := [.int 6, .ref mwd]) ⟨hx, hb, hml, hown, hts⟩ (c_M_runIn l D cs m0 mtp sta sru msg mln mcl mcs mrd snx swr snu ste sma sde sli mop sod mst sto mwd msd sx_ mws sun mfr mqu miw sfi swa sdx mim mix mmd gsd a hsi hbk.1) ⟨callB_of 1 hts (gd_C qq_7_85) rfl rfl rfl (hT _ qq_1_9) (hT _ qq_7_82) (by decide +kernel) (rm_R rfl rfl), (hT _ qq_7_84), (hT _ qs_5_7)⟩ (pq_V hPc hK hN (ci := 10) (q0 := 0) rfl rfl) rfl rfl hl.1 rfl (lv_room (Nat.le_of_ble_eq_true rfl)) dX12_words_126 ⟨Nat.le_of_ble_eq_true rfl, Nat.le_of_ble_eq_true rfl⟩) ?_
          refine lv_topi (fun x_65 e_66 => ?_)
          have r_67 : Rg 0 8 x_65 := Rg.of e_66 (run_rg (hsi) _)
          refine lv_i2l (v := Int32.toInt64 x_65) hx hb dX12_words_129 rfl ?_
          refine lv_topl (fun x_68 e_69 => ?_)
          have hi_70 : vp_in 6 12 := vi_c rfl
          refine va_last hx hb hK hP hD hS 2 4 rfl rfl hi_70 dX12_words_130 (fun H locs hP hD hS => ?_)
          obtain ⟨g_71, hP, hD⟩ : ∃ g_71 : Nat → Int64, va_P D vwCl [(m0, .inr (10, (.ref mtp :: .int sta :: .int sru :: .ref msg :: .ref mln :: .ref mcl :: .ref mcs :: .ref mrd :: .int snx :: .int swr :: .int snu :: .int ste :: .int sma :: .int sde :: .int sli :: .ref mop :: .int sod :: .ref mst :: .int sto :: .ref mwd :: .ref msd :: .int sx_ :: .ref mws :: .int sun :: .ref mfr :: .ref mqu :: .ref miw :: .int sfi :: .int swa :: .long sdx :: .ref mim :: .ref mix :: .ref mmd :: []))), (msd, .inl ((cs 0), 133, .inl gsd)), (mwd, .inl ((cs 4), 12, .inr (.inl g_71)))] H ∧ va_D A [(m0, .inr (10, (.ref mtp :: .int sta :: .int sru :: .ref msg :: .ref mln :: .ref mcl :: .ref mcs :: .ref mrd :: .int snx :: .int swr :: .int snu :: .int ste :: .int sma :: .int sde :: .int sli :: .ref mop :: .int sod :: .ref mst :: .int sto :: .ref mwd :: .ref msd :: .int sx_ :: .ref mws :: .int sun :: .ref mfr :: .ref mqu :: .ref miw :: .int sfi :: .int swa :: .long sdx :: .ref mim :: .ref mix :: .ref mmd :: []))), (msd, .inl ((cs 0), 133, .inl gsd)), (mwd, .inl ((cs 4), 12, .inr (.inl g_71)))] := ⟨_, hP, hD⟩
          refine lv_aload_n hx hb dX12_words_131 rfl (lv_at hl 2 rfl) ?_
          refine va_get (D := D) (ci := 10) (v := .ref mwd) (C := "WrongHoleModel") (T := TX12) (N := 33) hx hb hts (iq_RX12 _) hown hK hP 0 rfl rfl 19 (by decide) (hT _ qq_5_171) (fun _ h9 => h9) rfl dX12_words_132 ?_
          refine lv_bipush (v := 7) hx hb dX12_words_135 (by decide) ?_
          refine lv_aload_n hx hb dX12_words_137 rfl (lv_at hl 2 rfl) ?_
          refine lv_aload_n hx hb dX12_words_138 rfl (lv_at hl 2 rfl) ?_
          refine lv_iload_n hx hb dX12_words_139 rfl (lv_at hl 3 rfl) ?_
          refine lv_iload_n hx hb dX12_words_140 rfl (lv_at hl 4 rfl) ?_
          have hPc := va_P.sub (ws' := [(m0, .inr (10, (.ref mtp :: .int sta :: .int sru :: .ref msg :: .ref mln :: .ref mcl :: .ref mcs :: .ref mrd :: .int snx :: .int swr :: .int snu :: .int ste :: .int sma :: .int sde :: .int sli :: .ref mop :: .int sod :: .ref mst :: .int sto :: .ref mwd :: .ref msd :: .int sx_ :: .ref mws :: .int sun :: .ref mfr :: .ref mqu :: .ref miw :: .int sfi :: .int swa :: .long sdx :: .ref mim :: .ref mix :: .ref mmd :: []))), (msd, .inl ((cs 0), 133, .inl gsd))]) hP [0, 1] rfl
          refine cl_P (W.runV (As := [.int a, .int b]) (rest := [.ref m0, .int 7, .ref mwd]) ⟨hx, hb, hml, hown, hts⟩ (c_M_behind l D cs m0 mtp sta sru msg mln mcl mcs mrd snx swr snu ste sma sde sli mop sod mst sto mwd msd sx_ mws sun mfr mqu miw sfi swa sdx mim mix mmd gsd a b hsi r_b hbk) ⟨callB_of 2 hts (gd_C qq_7_126) rfl rfl rfl (hT _ qq_1_9) (hT _ qq_7_123) (by decide +kernel) (rm_R rfl rfl), (hT _ qq_7_125), (hT _ qs_5_14)⟩ (pq_V hPc hK hN (ci := 10) (q0 := 0) rfl rfl) rfl rfl hl.1 rfl (lv_room (Nat.le_of_ble_eq_true rfl)) dX12_words_141 ⟨Nat.le_of_ble_eq_true rfl, Nat.le_of_ble_eq_true rfl⟩) (fun v9 hz_73 => ?_)
          obtain ⟨x_72, rfl, r_74⟩ := hz_73
          have r_75 : Rg 0 65535 x_72 := (r_74.2.2 (by rw [r_74.2.1]; exact (bl_pos hsi (x := blF gsd (cN a) (cN b)) rfl hbp).2)).1
          have hPc := va_P.sub (ws' := [(m0, .inr (10, (.ref mtp :: .int sta :: .int sru :: .ref msg :: .ref mln :: .ref mcl :: .ref mcs :: .ref mrd :: .int snx :: .int swr :: .int snu :: .int ste :: .int sma :: .int sde :: .int sli :: .ref mop :: .int sod :: .ref mst :: .int sto :: .ref mwd :: .ref msd :: .int sx_ :: .ref mws :: .int sun :: .ref mfr :: .ref mqu :: .ref miw :: .int sfi :: .int swa :: .long sdx :: .ref mim :: .ref mix :: .ref mmd :: []))), (msd, .inl ((cs 0), 133, .inl gsd))]) hP [0, 1] rfl
          refine cl_V (W.runV (As := [.int x_72]) (rest := [.int 7, .ref mwd]) ⟨hx, hb, hml, hown, hts⟩ (c_M_runIn l D cs m0 mtp sta sru msg mln mcl mcs mrd snx swr snu ste sma sde sli mop sod mst sto mwd msd sx_ mws sun mfr mqu miw sfi swa sdx mim mix mmd gsd x_72 hsi r_75) ⟨callB_of 1 hts (gd_C qq_7_85) rfl rfl rfl (hT _ qq_1_9) (hT _ qq_7_82) (by decide +kernel) (rm_R rfl rfl), (hT _ qq_7_84), (hT _ qs_5_7)⟩ (pq_V hPc hK hN (ci := 10) (q0 := 0) rfl rfl) rfl rfl hl.1 rfl (lv_room (Nat.le_of_ble_eq_true rfl)) dX12_words_144 ⟨Nat.le_of_ble_eq_true rfl, Nat.le_of_ble_eq_true rfl⟩) ?_
          refine lv_topi (fun x_76 e_77 => ?_)
          have r_78 : Rg 0 8 x_76 := Rg.of e_77 (run_rg (hsi) _)
          refine lv_i2l (v := Int32.toInt64 x_76) hx hb dX12_words_147 rfl ?_
          refine lv_topl (fun x_79 e_80 => ?_)
          have hi_81 : vp_in 7 12 := vi_c rfl
          refine va_last hx hb hK hP hD hS 2 4 rfl rfl hi_81 dX12_words_148 (fun H locs hP hD hS => ?_)
          obtain ⟨g_82, hP, hD⟩ : ∃ g_82 : Nat → Int64, va_P D vwCl [(m0, .inr (10, (.ref mtp :: .int sta :: .int sru :: .ref msg :: .ref mln :: .ref mcl :: .ref mcs :: .ref mrd :: .int snx :: .int swr :: .int snu :: .int ste :: .int sma :: .int sde :: .int sli :: .ref mop :: .int sod :: .ref mst :: .int sto :: .ref mwd :: .ref msd :: .int sx_ :: .ref mws :: .int sun :: .ref mfr :: .ref mqu :: .ref miw :: .int sfi :: .int swa :: .long sdx :: .ref mim :: .ref mix :: .ref mmd :: []))), (msd, .inl ((cs 0), 133, .inl gsd)), (mwd, .inl ((cs 4), 12, .inr (.inl g_82)))] H ∧ va_D A [(m0, .inr (10, (.ref mtp :: .int sta :: .int sru :: .ref msg :: .ref mln :: .ref mcl :: .ref mcs :: .ref mrd :: .int snx :: .int swr :: .int snu :: .int ste :: .int sma :: .int sde :: .int sli :: .ref mop :: .int sod :: .ref mst :: .int sto :: .ref mwd :: .ref msd :: .int sx_ :: .ref mws :: .int sun :: .ref mfr :: .ref mqu :: .ref miw :: .int sfi :: .int swa :: .long sdx :: .ref mim :: .ref mix :: .ref mmd :: []))), (msd, .inl ((cs 0), 133, .inl gsd)), (mwd, .inl ((cs 4), 12, .inr (.inl g_82)))] := ⟨_, hP, hD⟩
          refine lv_aload_n hx hb dX12_words_149 rfl (lv_at hl 2 rfl) ?_
          refine va_get (D := D) (ci := 10) (v := .ref mwd) (C := "WrongHoleModel") (T := TX12) (N := 33) hx hb hts (iq_RX12 _) hown hK hP 0 rfl rfl 19 (by decide) (hT _ qq_5_171) (fun _ h9 => h9) rfl dX12_words_150 ?_
          refine lv_bipush (v := 8) hx hb dX12_words_153 (by decide) ?_
          refine lv_aload_n hx hb dX12_words_155 rfl (lv_at hl 2 rfl) ?_
          refine lv_iload_n hx hb dX12_words_156 rfl (lv_at hl 4 rfl) ?_
          have hPc := va_P.sub (ws' := [(m0, .inr (10, (.ref mtp :: .int sta :: .int sru :: .ref msg :: .ref mln :: .ref mcl :: .ref mcs :: .ref mrd :: .int snx :: .int swr :: .int snu :: .int ste :: .int sma :: .int sde :: .int sli :: .ref mop :: .int sod :: .ref mst :: .int sto :: .ref mwd :: .ref msd :: .int sx_ :: .ref mws :: .int sun :: .ref mfr :: .ref mqu :: .ref miw :: .int sfi :: .int swa :: .long sdx :: .ref mim :: .ref mix :: .ref mmd :: []))), (msd, .inl ((cs 0), 133, .inl gsd))]) hP [0, 1] rfl
          refine cl_V (W.runV (As := [.int b]) (rest := [.int 8, .ref mwd]) ⟨hx, hb, hml, hown, hts⟩ (c_M_timeE l D cs m0 mtp sta sru msg mln mcl mcs mrd snx swr snu ste sma sde sli mop sod mst sto mwd msd sx_ mws sun mfr mqu miw sfi swa sdx mim mix mmd gsd b hsi r_b ((bl_pos hsi (x := blF gsd (cN a) (cN b)) rfl hbp).1)) ⟨callB_of 1 hts (gd_C qq_7_140) rfl rfl rfl (hT _ qq_1_9) (hT _ qq_7_137) (by decide +kernel) (rm_R rfl rfl), (hT _ qq_7_139), (hT _ qs_6_0)⟩ (pq_V hPc hK hN (ci := 10) (q0 := 0) rfl rfl) rfl rfl hl.1 rfl (lv_room (Nat.le_of_ble_eq_true rfl)) dX12_words_157 ⟨Nat.le_of_ble_eq_true rfl, Nat.le_of_ble_eq_true rfl⟩) ?_
          refine lv_topi (fun x_83 e_84 => ?_)
          have r_85 : Rg 1 40 x_83 := Rg.of e_84 (tm_rg (hsi) (bl_pos hsi (x := blF gsd (cN a) (cN b)) rfl hbp).1 (cN_lt (n := 72) r_b (by decide)))
          refine lv_i2l (v := Int32.toInt64 x_83) hx hb dX12_words_160 rfl ?_
          refine lv_topl (fun x_86 e_87 => ?_)
          have hi_88 : vp_in 8 12 := vi_c rfl
          refine va_last hx hb hK hP hD hS 2 4 rfl rfl hi_88 dX12_words_161 (fun H locs hP hD hS => ?_)
          obtain ⟨g_89, hP, hD⟩ : ∃ g_89 : Nat → Int64, va_P D vwCl [(m0, .inr (10, (.ref mtp :: .int sta :: .int sru :: .ref msg :: .ref mln :: .ref mcl :: .ref mcs :: .ref mrd :: .int snx :: .int swr :: .int snu :: .int ste :: .int sma :: .int sde :: .int sli :: .ref mop :: .int sod :: .ref mst :: .int sto :: .ref mwd :: .ref msd :: .int sx_ :: .ref mws :: .int sun :: .ref mfr :: .ref mqu :: .ref miw :: .int sfi :: .int swa :: .long sdx :: .ref mim :: .ref mix :: .ref mmd :: []))), (msd, .inl ((cs 0), 133, .inl gsd)), (mwd, .inl ((cs 4), 12, .inr (.inl g_89)))] H ∧ va_D A [(m0, .inr (10, (.ref mtp :: .int sta :: .int sru :: .ref msg :: .ref mln :: .ref mcl :: .ref mcs :: .ref mrd :: .int snx :: .int swr :: .int snu :: .int ste :: .int sma :: .int sde :: .int sli :: .ref mop :: .int sod :: .ref mst :: .int sto :: .ref mwd :: .ref msd :: .int sx_ :: .ref mws :: .int sun :: .ref mfr :: .ref mqu :: .ref miw :: .int sfi :: .int swa :: .long sdx :: .ref mim :: .ref mix :: .ref mmd :: []))), (msd, .inl ((cs 0), 133, .inl gsd)), (mwd, .inl ((cs 4), 12, .inr (.inl g_89)))] := ⟨_, hP, hD⟩
          refine lv_aload_n hx hb dX12_words_162 rfl (lv_at hl 2 rfl) ?_
          refine va_get (D := D) (ci := 10) (v := .ref mwd) (C := "WrongHoleModel") (T := TX12) (N := 33) hx hb hts (iq_RX12 _) hown hK hP 0 rfl rfl 19 (by decide) (hT _ qq_5_171) (fun _ h9 => h9) rfl dX12_words_163 ?_
          refine lv_bipush (v := 9) hx hb dX12_words_166 (by decide) ?_
          refine lv_aload_n hx hb dX12_words_168 rfl (lv_at hl 2 rfl) ?_
          refine va_get (D := D) (ci := 10) (v := .ref msd) (C := "WrongHoleModel") (T := TX12) (N := 33) hx hb hts (iq_RX12 _) hown hK hP 0 rfl rfl 20 (by decide) (hT _ qq_5_172) (fun _ h9 => h9) rfl dX12_words_169 ?_
          refine lv_iconst (v := 3) hx hb dX12_words_172 (by decide) ?_
          have hi_90 : vp_in 3 133 := vi_c rfl
          refine va_iald hx hb hK hP 1 0 rfl rfl hi_90 dX12_words_173 ?_
          refine lv_topi (fun x_91 e_92 => ?_)
          have r_93 : Rg 0 9999 x_91 := Rg.of e_92 (hsi.a3)
          refine lv_i2l (v := Int32.toInt64 x_91) hx hb dX12_words_174 rfl ?_
          refine lv_topl (fun x_94 e_95 => ?_)
          have hi_96 : vp_in 9 12 := vi_c rfl
          refine va_last hx hb hK hP hD hS 2 4 rfl rfl hi_96 dX12_words_175 (fun H locs hP hD hS => ?_)
          obtain ⟨g_97, hP, hD⟩ : ∃ g_97 : Nat → Int64, va_P D vwCl [(m0, .inr (10, (.ref mtp :: .int sta :: .int sru :: .ref msg :: .ref mln :: .ref mcl :: .ref mcs :: .ref mrd :: .int snx :: .int swr :: .int snu :: .int ste :: .int sma :: .int sde :: .int sli :: .ref mop :: .int sod :: .ref mst :: .int sto :: .ref mwd :: .ref msd :: .int sx_ :: .ref mws :: .int sun :: .ref mfr :: .ref mqu :: .ref miw :: .int sfi :: .int swa :: .long sdx :: .ref mim :: .ref mix :: .ref mmd :: []))), (msd, .inl ((cs 0), 133, .inl gsd)), (mwd, .inl ((cs 4), 12, .inr (.inl g_97)))] H ∧ va_D A [(m0, .inr (10, (.ref mtp :: .int sta :: .int sru :: .ref msg :: .ref mln :: .ref mcl :: .ref mcs :: .ref mrd :: .int snx :: .int swr :: .int snu :: .int ste :: .int sma :: .int sde :: .int sli :: .ref mop :: .int sod :: .ref mst :: .int sto :: .ref mwd :: .ref msd :: .int sx_ :: .ref mws :: .int sun :: .ref mfr :: .ref mqu :: .ref miw :: .int sfi :: .int swa :: .long sdx :: .ref mim :: .ref mix :: .ref mmd :: []))), (msd, .inl ((cs 0), 133, .inl gsd)), (mwd, .inl ((cs 4), 12, .inr (.inl g_97)))] := ⟨_, hP, hD⟩
          refine lv_aload_n hx hb dX12_words_176 rfl (lv_at hl 2 rfl) ?_
          refine va_get (D := D) (ci := 10) (v := .ref mwd) (C := "WrongHoleModel") (T := TX12) (N := 33) hx hb hts (iq_RX12 _) hown hK hP 0 rfl rfl 19 (by decide) (hT _ qq_5_171) (fun _ h9 => h9) rfl dX12_words_177 ?_
          refine lv_bipush (v := 10) hx hb dX12_words_180 (by decide) ?_
          refine lv_aload_n hx hb dX12_words_182 rfl (lv_at hl 2 rfl) ?_
          refine lv_iload_n hx hb dX12_words_183 rfl (lv_at hl 1 rfl) ?_
          refine lv_aload_n hx hb dX12_words_184 rfl (lv_at hl 2 rfl) ?_
          refine va_get (D := D) (ci := 10) (v := .ref msd) (C := "WrongHoleModel") (T := TX12) (N := 33) hx hb hts (iq_RX12 _) hown hK hP 0 rfl rfl 20 (by decide) (hT _ qq_5_172) (fun _ h9 => h9) rfl dX12_words_185 ?_
          refine lv_iconst (v := 3) hx hb dX12_words_188 (by decide) ?_
          have hi_98 : vp_in 3 133 := vi_c rfl
          refine va_iald hx hb hK hP 1 0 rfl rfl hi_98 dX12_words_189 ?_
          refine lv_topi (fun x_99 e_100 => ?_)
          have r_101 : Rg 0 9999 x_99 := Rg.of e_100 (hsi.a3)
          have hPc := va_P.sub (ws' := [(m0, .inr (10, (.ref mtp :: .int sta :: .int sru :: .ref msg :: .ref mln :: .ref mcl :: .ref mcs :: .ref mrd :: .int snx :: .int swr :: .int snu :: .int ste :: .int sma :: .int sde :: .int sli :: .ref mop :: .int sod :: .ref mst :: .int sto :: .ref mwd :: .ref msd :: .int sx_ :: .ref mws :: .int sun :: .ref mfr :: .ref mqu :: .ref miw :: .int sfi :: .int swa :: .long sdx :: .ref mim :: .ref mix :: .ref mmd :: []))), (msd, .inl ((cs 0), 133, .inl gsd))]) hP [0, 1] rfl
          refine cl_P (W.runV (As := [.int v_10, .int x_99]) (rest := [.int 10, .ref mwd]) ⟨hx, hb, hml, hown, hts⟩ (c_M_seenOf l D cs m0 mtp sta sru msg mln mcl mcs mrd snx swr snu ste sma sde sli mop sod mst sto mwd msd sx_ mws sun mfr mqu miw sfi swa sdx mim mix mmd gsd v_10 x_99 hsi) ⟨callB_of 2 hts (gd_C qq_7_17) rfl rfl rfl (hT _ qq_1_9) (hT _ qq_7_14) (by decide +kernel) (rm_R rfl rfl), (hT _ qq_7_16), (hT _ qs_4_13)⟩ (pq_V hPc hK hN (ci := 10) (q0 := 0) rfl rfl) rfl rfl hl.1 rfl (lv_room (Nat.le_of_ble_eq_true rfl)) dX12_words_190 ⟨Nat.le_of_ble_eq_true rfl, Nat.le_of_ble_eq_true rfl⟩) (fun v9 hz_103 => ?_)
          obtain ⟨x_102, rfl⟩ := hz_103
          refine lv_i2l (v := Int32.toInt64 x_102) hx hb dX12_words_193 rfl ?_
          refine lv_topl (fun x_105 e_106 => ?_)
          have hi_107 : vp_in 10 12 := vi_c rfl
          refine va_last hx hb hK hP hD hS 2 4 rfl rfl hi_107 dX12_words_194 (fun H locs hP hD hS => ?_)
          obtain ⟨g_108, hP, hD⟩ : ∃ g_108 : Nat → Int64, va_P D vwCl [(m0, .inr (10, (.ref mtp :: .int sta :: .int sru :: .ref msg :: .ref mln :: .ref mcl :: .ref mcs :: .ref mrd :: .int snx :: .int swr :: .int snu :: .int ste :: .int sma :: .int sde :: .int sli :: .ref mop :: .int sod :: .ref mst :: .int sto :: .ref mwd :: .ref msd :: .int sx_ :: .ref mws :: .int sun :: .ref mfr :: .ref mqu :: .ref miw :: .int sfi :: .int swa :: .long sdx :: .ref mim :: .ref mix :: .ref mmd :: []))), (msd, .inl ((cs 0), 133, .inl gsd)), (mwd, .inl ((cs 4), 12, .inr (.inl g_108)))] H ∧ va_D A [(m0, .inr (10, (.ref mtp :: .int sta :: .int sru :: .ref msg :: .ref mln :: .ref mcl :: .ref mcs :: .ref mrd :: .int snx :: .int swr :: .int snu :: .int ste :: .int sma :: .int sde :: .int sli :: .ref mop :: .int sod :: .ref mst :: .int sto :: .ref mwd :: .ref msd :: .int sx_ :: .ref mws :: .int sun :: .ref mfr :: .ref mqu :: .ref miw :: .int sfi :: .int swa :: .long sdx :: .ref mim :: .ref mix :: .ref mmd :: []))), (msd, .inl ((cs 0), 133, .inl gsd)), (mwd, .inl ((cs 4), 12, .inr (.inl g_108)))] := ⟨_, hP, hD⟩
          refine lv_aload_n hx hb dX12_words_195 rfl (lv_at hl 2 rfl) ?_
          refine va_get (D := D) (ci := 10) (v := .ref mwd) (C := "WrongHoleModel") (T := TX12) (N := 33) hx hb hts (iq_RX12 _) hown hK hP 0 rfl rfl 19 (by decide) (hT _ qq_5_171) (fun _ h9 => h9) rfl dX12_words_196 ?_
          refine lv_bipush (v := 11) hx hb dX12_words_199 (by decide) ?_
          refine lv_aload_n hx hb dX12_words_201 rfl (lv_at hl 2 rfl) ?_
          refine lv_iload_n hx hb dX12_words_202 rfl (lv_at hl 1 rfl) ?_
          refine lv_iconst (v := 4) hx hb dX12_words_203 (by decide) ?_
          have hPc := va_P.sub (ws' := [(m0, .inr (10, (.ref mtp :: .int sta :: .int sru :: .ref msg :: .ref mln :: .ref mcl :: .ref mcs :: .ref mrd :: .int snx :: .int swr :: .int snu :: .int ste :: .int sma :: .int sde :: .int sli :: .ref mop :: .int sod :: .ref mst :: .int sto :: .ref mwd :: .ref msd :: .int sx_ :: .ref mws :: .int sun :: .ref mfr :: .ref mqu :: .ref miw :: .int sfi :: .int swa :: .long sdx :: .ref mim :: .ref mix :: .ref mmd :: []))), (msd, .inl ((cs 0), 133, .inl gsd))]) hP [0, 1] rfl
          refine cl_V (W.runV (As := [.int v_10, .int 4]) (rest := [.int 11, .ref mwd]) ⟨hx, hb, hml, hown, hts⟩ (c_M_buttonOf_4 l D cs m0 mtp sta sru msg mln mcl mcs mrd snx swr snu ste sma sde sli mop sod mst sto mwd msd sx_ mws sun mfr mqu miw sfi swa sdx mim mix mmd gsd v_10 hsi r_12) ⟨callB_of 2 hts (gd_C qq_7_9) rfl rfl rfl (hT _ qq_1_9) (hT _ qq_7_6) (by decide +kernel) (rm_R rfl rfl), (hT _ qq_7_8), (hT _ qs_4_11)⟩ (pq_V hPc hK hN (ci := 10) (q0 := 0) rfl rfl) rfl rfl hl.1 rfl (lv_room (Nat.le_of_ble_eq_true rfl)) dX12_words_204 ⟨Nat.le_of_ble_eq_true rfl, Nat.le_of_ble_eq_true rfl⟩) ?_
          refine lv_topi (fun x_109 e_110 => ?_)
          refine lv_i2l (v := Int32.toInt64 x_109) hx hb dX12_words_207 rfl ?_
          refine lv_topl (fun x_111 e_112 => ?_)
          have hi_113 : vp_in 11 12 := vi_c rfl
          refine va_last hx hb hK hP hD hS 2 4 rfl rfl hi_113 dX12_words_208 (fun H locs hP hD hS => ?_)
          obtain ⟨g_114, hP, hD⟩ : ∃ g_114 : Nat → Int64, va_P D vwCl [(m0, .inr (10, (.ref mtp :: .int sta :: .int sru :: .ref msg :: .ref mln :: .ref mcl :: .ref mcs :: .ref mrd :: .int snx :: .int swr :: .int snu :: .int ste :: .int sma :: .int sde :: .int sli :: .ref mop :: .int sod :: .ref mst :: .int sto :: .ref mwd :: .ref msd :: .int sx_ :: .ref mws :: .int sun :: .ref mfr :: .ref mqu :: .ref miw :: .int sfi :: .int swa :: .long sdx :: .ref mim :: .ref mix :: .ref mmd :: []))), (msd, .inl ((cs 0), 133, .inl gsd)), (mwd, .inl ((cs 4), 12, .inr (.inl g_114)))] H ∧ va_D A [(m0, .inr (10, (.ref mtp :: .int sta :: .int sru :: .ref msg :: .ref mln :: .ref mcl :: .ref mcs :: .ref mrd :: .int snx :: .int swr :: .int snu :: .int ste :: .int sma :: .int sde :: .int sli :: .ref mop :: .int sod :: .ref mst :: .int sto :: .ref mwd :: .ref msd :: .int sx_ :: .ref mws :: .int sun :: .ref mfr :: .ref mqu :: .ref miw :: .int sfi :: .int swa :: .long sdx :: .ref mim :: .ref mix :: .ref mmd :: []))), (msd, .inl ((cs 0), 133, .inl gsd)), (mwd, .inl ((cs 4), 12, .inr (.inl g_114)))] := ⟨_, hP, hD⟩
          refine W.widen (k := 0) (n := 0) (Nat.le_of_ble_eq_true rfl) (Nat.le_of_ble_eq_true rfl) ?_
          have hP9 := hP.sub (ws' := [(m0, .inr (10, (.ref mtp :: .int sta :: .int sru :: .ref msg :: .ref mln :: .ref mcl :: .ref mcs :: .ref mrd :: .int snx :: .int swr :: .int snu :: .int ste :: .int sma :: .int sde :: .int sli :: .ref mop :: .int sod :: .ref mst :: .int sto :: .ref mwd :: .ref msd :: .int sx_ :: .ref mws :: .int sun :: .ref mfr :: .ref mqu :: .ref miw :: .int sfi :: .int swa :: .long sdx :: .ref mim :: .ref mix :: .ref mmd :: []))), (msd, .inl ((cs 0), 133, .inl gsd)), (mwd, .inl ((cs 4), 12, .inr (.inl g_114)))]) [0, 1, 2] rfl
          have hD9 := hD.sub (ws' := [(m0, .inr (10, (.ref mtp :: .int sta :: .int sru :: .ref msg :: .ref mln :: .ref mcl :: .ref mcs :: .ref mrd :: .int snx :: .int swr :: .int snu :: .int ste :: .int sma :: .int sde :: .int sli :: .ref mop :: .int sod :: .ref mst :: .int sto :: .ref mwd :: .ref msd :: .int sx_ :: .ref mws :: .int sun :: .ref mfr :: .ref mqu :: .ref miw :: .int sfi :: .int swa :: .long sdx :: .ref mim :: .ref mix :: .ref mmd :: []))), (msd, .inl ((cs 0), 133, .inl gsd)), (mwd, .inl ((cs 4), 12, .inr (.inl g_114)))]) [0, 1, 2] (by decide) rfl
          exact W.vret hx hb hr (fun t9 ht9 hW9 => ⟨⟨(), rfl, trivial, ⟨g_114, by rw [ht9]; exact hP9, hD9⟩⟩, hS.F ht9⟩) hS.2.2 dX12_words_209
        · refine lv_icmp_ne (tgt := 86) hx hb dX12_words_79 (by decide) (fun c_40 => ?_) (fun c_40 => ?_)
          · refine lv_lconst (v := 0) hx hb dX12_words_86 (by decide) ?_
            exact hj_42 0 _ _ _ ⟨hP, hD, hS, lv_sub hl [0, 1, 2, 3, 4] rfl⟩
          · refine lv_lconst (v := 1) hx hb dX12_words_82 (by decide) ?_
            refine lv_goto (tgt := 87) hx hb dX12_words_83 (by decide) ?_
            exact hj_42 1 _ _ _ ⟨hP, hD, hS, lv_sub hl [0, 1, 2, 3, 4] rfl⟩
      · refine lv_icmp_ge (tgt := 52) hx hb dX12_words_45 (by decide) (fun c_25 => ?_) (fun c_25 => ?_)
        · have r_26 : Rg 8 71 b := Rg.le_r c_25 (Rg.c (c := 8) (k := 8) rfl) r_b (by decide)
          refine lv_lconst (v := 1) hx hb dX12_words_52 (by decide) ?_
          exact hj_29 1 _ _ _ ⟨hP, hD, hS, lv_sub hl [0, 1, 2, 3, 4] rfl⟩
        · have r_27 : Rg 0 7 b := Rg.lt_l (nle_lt c_25) r_b (Rg.c (c := 8) (k := 8) rfl) (by decide)
          refine lv_lconst (v := 0) hx hb dX12_words_48 (by decide) ?_
          refine lv_goto (tgt := 53) hx hb dX12_words_49 (by decide) ?_
          exact hj_29 0 _ _ _ ⟨hP, hD, hS, lv_sub hl [0, 1, 2, 3, 4] rfl⟩
    · refine lv_icmp_ge (tgt := 31) hx hb dX12_words_20 (by decide) (fun c_13 => ?_) (fun c_13 => ?_)
      · have r_14 : Rg 8 71 b := Rg.le_r c_13 (Rg.c (c := 8) (k := 8) rfl) r_b (by decide)
        refine lv_iload_n hx hb dX12_words_31 rfl (lv_at hl 3 rfl) ?_
        refine lv_bipush (v := 8) hx hb dX12_words_32 (by decide) ?_
        refine lv_irem hx hb dX12_words_34 (by decide) ?_
        refine lv_topi (fun x_115 e_116 => ?_)
        have r_117 : Rg 0 7 x_115 := Rg.rem e_116 (Rg.wk (lo2 := 0) (hi2 := 71) r_14 (by decide)) (Rg.c (c := 8) (k := 8) rfl) (by decide)
        exact hj_23 x_115 _ _ _ ⟨r_117, hP, hD, hS, lv_sub hl [0, 1, 2, 3] rfl⟩
      · have r_15 : Rg 0 7 b := Rg.lt_l (nle_lt c_13) r_b (Rg.c (c := 8) (k := 8) rfl) (by decide)
        refine lv_iload_n hx hb dX12_words_23 rfl (lv_at hl 2 rfl) ?_
        refine lv_iload_n hx hb dX12_words_24 rfl (lv_at hl 3 rfl) ?_
        have hPc := va_P.sub (ws' := []) hP [] rfl
        refine cl_V (W.runS (As := [.int a, .int b]) (rest := []) ⟨hx, hb, hml, hown, hts⟩ (c_M_placeIn l D cs a b r_15 hbk ((bh_un (bl_pos hsi (x := blF gsd (cN a) (cN b)) rfl hbp).2 (cN_lt (n := 8) r_15 (by decide))).2)) ⟨callB_of 2 hts (gd_C qq_7_75) rfl rfl rfl (hT _ qq_1_9) (hT _ qq_7_73) (by decide +kernel) (rm_R rfl rfl), (hT _ qq_7_74)⟩ (pq_S hPc hK hN) rfl rfl hl.1 rfl (lv_room (Nat.le_of_ble_eq_true rfl)) dX12_words_25 ⟨Nat.le_of_ble_eq_true rfl, Nat.le_of_ble_eq_true rfl⟩) ?_
        refine lv_topi (fun x_118 e_119 => ?_)
        have r_120 : Rg 0 7 x_118 := Rg.of e_119 (pl_rg hbk r_15 (bh_un (bl_pos hsi (x := blF gsd (cN a) (cN b)) rfl hbp).2 (cN_lt (n := 8) r_15 (by decide))).2)
        refine lv_goto (tgt := 35) hx hb dX12_words_28 (by decide) ?_
        exact hj_23 x_118 _ _ _ ⟨r_120, hP, hD, hS, lv_sub hl [0, 1, 2, 3] rfl⟩
  · refine lv_icmp_ge (tgt := 10) hx hb dX12_words_3 (by decide) (fun c_1 => ?_) (fun c_1 => ?_)
    · have r_2 : Rg 8 71 b := Rg.le_r c_1 (Rg.c (c := 8) (k := 8) rfl) r_b (by decide)
      refine lv_iload_n hx hb dX12_words_10 rfl (lv_at hl 2 rfl) ?_
      refine lv_bipush (v := 8) hx hb dX12_words_11 (by decide) ?_
      refine lv_idiv hx hb dX12_words_13 (by decide) ?_
      refine lv_topi (fun x_121 e_122 => ?_)
      have r_123 : Rg 1 8 x_121 := Rg.divL (al := 8) (ah := 71) (k := 8) e_122 r_2 (Rg.c (c := 8) (k := 8) rfl) (by decide) (by decide) (by decide)
      refine lv_iconst (v := 1) hx hb dX12_words_14 (by decide) ?_
      refine lv_isub hx hb dX12_words_15 ?_
      refine lv_topi (fun x_124 e_125 => ?_)
      have r_126 : Rg 0 7 x_124 := Rg.sub e_125 r_123 (Rg.c (c := 1) (k := 1) rfl) (by decide)
      exact hj_11 x_124 _ _ _ ⟨r_126, hP, hD, hS, lv_sub hl [0, 1, 2] rfl⟩
    · have r_3 : Rg 0 7 b := Rg.lt_l (nle_lt c_1) r_b (Rg.c (c := 8) (k := 8) rfl) (by decide)
      refine lv_iload_n hx hb dX12_words_6 rfl (lv_at hl 2 rfl) ?_
      refine lv_goto (tgt := 16) hx hb dX12_words_7 (by decide) ?_
      exact hj_11 b _ _ _ ⟨r_3, hP, hD, hS, lv_sub hl [0, 1, 2] rfl⟩
