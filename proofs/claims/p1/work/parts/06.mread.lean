theorem dX12_see_0 : decode cX12_see 0 = .ok (.aload_n 0, 1) := by decide +kernel
theorem dX12_see_1 : decode cX12_see 1 = .ok (.getfield 76, 3) := by decide +kernel
theorem qq_5_160 : Cond.fieldLink "WrongHoleModel" 76 "WrongHoleModel" "next" "I" ∈ TB := mk_tb (ti_5 (List.mem_of_getElem? (i := 160) rfl)) rfl
theorem dX12_see_4 : decode cX12_see 4 = .ok (.aload_n 0, 1) := by decide +kernel
theorem dX12_see_5 : decode cX12_see 5 = .ok (.getfield 65, 3) := by decide +kernel
theorem dX12_see_8 : decode cX12_see 8 = .ok (.if_icmp .ge 30, 3) := by decide +kernel
theorem dX12_see_38 : decode cX12_see 38 = .ok (.aload_n 0, 1) := by decide +kernel
theorem dX12_see_39 : decode cX12_see 39 = .ok (.getfield 76, 3) := by decide +kernel
theorem dX12_see_42 : decode cX12_see 42 = .ok (.aload_n 0, 1) := by decide +kernel
theorem dX12_see_43 : decode cX12_see 43 = .ok (.getfield 65, 3) := by decide +kernel
theorem dX12_see_46 : decode cX12_see 46 = .ok (.if_icmp .ge 19, 3) := by decide +kernel
theorem dX12_see_65 : decode cX12_see 65 = .ok (.iconst (-1), 1) := by decide +kernel
theorem dX12_see_66 : decode cX12_see 66 = .ok (.ireturn, 1) := by decide +kernel
set_option maxHeartbeats 4000000 in
set_option maxRecDepth 100000 in
theorem c_see (l : Launch) (D : va_G) (ad : Nat → Nat) (sz : Nat) (m0 : Nat) (mTa : Nat) (mSi : Nat) (mLe : Nat) (mCl : Nat) (mCs : Nat) (mRe : Nat) (mOp : Nat) (mSt : Nat) (mWo : Nat) (mSa : Nat) (mWa : Nat) (mFa : Nat) (mQu : Nat) (mIs : Nat) (mIm : Nat) (mIx : Nat) (mMa : Nat) (tx : Int32)  : Met l yX12_see (Cond.code yX12_see cX12_see 1 (some .int) :: TB) (RM 0 0 0) (va_Pc [.ref m0] (PRE D ad [(m0, .inr (10, [.ref mTa, .int 0, .int 0, .ref mSi, .ref mLe, .ref mCl, .ref mCs, .ref mRe, .int 0, .int 0, .int 0, .int tx, .int 0, .int 0, .int 0, .ref mOp, .int 0, .ref mSt, .int 0, .ref mWo, .ref mSa, .int 0, .ref mWa, .int 0, .ref mFa, .ref mQu, .ref mIs, .int 0, .int 0, .long 0, .ref mIm, .ref mIx, .ref mMa]))] [] sz)) (k2_QcV (.int (-1))) 0 0 (fun _ => False) := by
  refine MET (y := yX12_see) (cc := cX12_see) (maxL := 1) (ret := (some .int)) (d := 0) (mc := 0) (ms := 0) (D := D) (ad := ad) (ws := [(m0, .inr (10, [.ref mTa, .int 0, .int 0, .ref mSi, .ref mLe, .ref mCl, .ref mCs, .ref mRe, .int 0, .int 0, .int 0, .int tx, .int 0, .int 0, .int 0, .ref mOp, .int 0, .ref mSt, .int 0, .ref mWo, .ref mSa, .int 0, .ref mWa, .int 0, .ref mFa, .ref mQu, .ref mIs, .int 0, .int 0, .long 0, .ref mIm, .ref mIx, .ref mMa]))]) (tys := []) (sz := sz) (av := [.ref m0]) (Qc := fun A => k2_QcV (.int (-1))) (fr := fun A => (fun _ => False)) (by decide) (Nat.le_of_ble_eq_true rfl) ?_
  intro p e s m below meth c ls A H hHe hx hb hr hml hown hts hlocks hnm hP hK hD hA hS hN hl
  have hown : s.vm.findClass "WrongHoleModel" = some m.cls := hown
  have hT : ∀ w ∈ TB, w.before ([.ref m0] : List Value).toArray s = true := fun w h => hts w (List.mem_cons_of_mem _ h)
  have hl : lv_has ls 1 [(0, .ref m0)] := hl
  have hP : va_P D vwCl [(m0, .inr (10, [.ref mTa, .int 0, .int 0, .ref mSi, .ref mLe, .ref mCl, .ref mCs, .ref mRe, .int 0, .int 0, .int 0, .int tx, .int 0, .int 0, .int 0, .ref mOp, .int 0, .ref mSt, .int 0, .ref mWo, .ref mSa, .int 0, .ref mWa, .int 0, .ref mFa, .ref mQu, .ref mIs, .int 0, .int 0, .long 0, .ref mIm, .ref mIx, .ref mMa]))] H := hP
  refine lv_aload_n hx hb dX12_see_0 rfl (lv_at hl 0 rfl) ?_
  refine va_get (D := D) (ci := 10) (v := .int 0) (C := "WrongHoleModel") (T := TX12) (N := 33) hx hb hts (iq_RX12 _) hown hK hP 0 rfl rfl 8 (by decide) (hT _ qq_5_160) (fun _ h9 => h9) rfl dX12_see_1 ?_
  refine lv_aload_n hx hb dX12_see_4 rfl (lv_at hl 0 rfl) ?_
  refine va_get (D := D) (ci := 10) (v := .int 0) (C := "WrongHoleModel") (T := TX12) (N := 33) hx hb hts (iq_RX12 _) hown hK hP 0 rfl rfl 1 (by decide) (hT _ qq_5_153) (fun _ h9 => h9) rfl dX12_see_5 ?_
  refine lv_icmp_ge (tgt := 38) hx hb dX12_see_8 (by decide) (fun _ => ?_) (fun c_1 => absurd (by decide) c_1)
  refine lv_aload_n hx hb dX12_see_38 rfl (lv_at hl 0 rfl) ?_
  refine va_get (D := D) (ci := 10) (v := .int 0) (C := "WrongHoleModel") (T := TX12) (N := 33) hx hb hts (iq_RX12 _) hown hK hP 0 rfl rfl 8 (by decide) (hT _ qq_5_160) (fun _ h9 => h9) rfl dX12_see_39 ?_
  refine lv_aload_n hx hb dX12_see_42 rfl (lv_at hl 0 rfl) ?_
  refine va_get (D := D) (ci := 10) (v := .int 0) (C := "WrongHoleModel") (T := TX12) (N := 33) hx hb hts (iq_RX12 _) hown hK hP 0 rfl rfl 1 (by decide) (hT _ qq_5_153) (fun _ h9 => h9) rfl dX12_see_43 ?_
  refine lv_icmp_ge (tgt := 65) hx hb dX12_see_46 (by decide) (fun _ => ?_) (fun c_2 => absurd (by decide) c_2)
  refine lv_iconst (v := (-1)) hx hb dX12_see_65 (by decide) ?_
  exact W.iret (v := (-1)) hx hb hr (fun t9 ht9 hW9 => ⟨rfl, ht9.trans hHe⟩) (fun _ h9 => absurd h9 List.not_mem_nil) dX12_see_66
theorem dX12_isLetter_0 : decode cX12_isLetter 0 = .ok (.iload_n 1, 1) := by decide +kernel
theorem dX12_isLetter_1 : decode cX12_isLetter 1 = .ok (.aload_n 0, 1) := by decide +kernel
theorem dX12_isLetter_2 : decode cX12_isLetter 2 = .ok (.getfield 65, 3) := by decide +kernel
theorem dX12_isLetter_5 : decode cX12_isLetter 5 = .ok (.if_icmp .ge 29, 3) := by decide +kernel
theorem dX12_isLetter_34 : decode cX12_isLetter 34 = .ok (.iconst 0, 1) := by decide +kernel
theorem dX12_isLetter_35 : decode cX12_isLetter 35 = .ok (.ireturn, 1) := by decide +kernel
set_option maxHeartbeats 4000000 in
set_option maxRecDepth 100000 in
theorem c_isLetter (l : Launch) (D : va_G) (ad : Nat → Nat) (sz : Nat) (m0 : Nat) (mTa : Nat) (mSi : Nat) (mLe : Nat) (mCl : Nat) (mCs : Nat) (mRe : Nat) (mOp : Nat) (mSt : Nat) (mWo : Nat) (mSa : Nat) (mWa : Nat) (mFa : Nat) (mQu : Nat) (mIs : Nat) (mIm : Nat) (mIx : Nat) (mMa : Nat) (tx : Int32)  : Met l yX12_isLetter (Cond.code yX12_isLetter cX12_isLetter 2 (some .boolean) :: TB) (RM 0 0 0) (va_Pc [.ref m0, .int 0] (PRE D ad [(m0, .inr (10, [.ref mTa, .int 0, .int 0, .ref mSi, .ref mLe, .ref mCl, .ref mCs, .ref mRe, .int 0, .int 0, .int 0, .int tx, .int 0, .int 0, .int 0, .ref mOp, .int 0, .ref mSt, .int 0, .ref mWo, .ref mSa, .int 0, .ref mWa, .int 0, .ref mFa, .ref mQu, .ref mIs, .int 0, .int 0, .long 0, .ref mIm, .ref mIx, .ref mMa]))] [] sz)) (k2_QcV (.int 0)) 0 0 (fun _ => False) := by
  refine MET (y := yX12_isLetter) (cc := cX12_isLetter) (maxL := 2) (ret := (some .boolean)) (d := 0) (mc := 0) (ms := 0) (D := D) (ad := ad) (ws := [(m0, .inr (10, [.ref mTa, .int 0, .int 0, .ref mSi, .ref mLe, .ref mCl, .ref mCs, .ref mRe, .int 0, .int 0, .int 0, .int tx, .int 0, .int 0, .int 0, .ref mOp, .int 0, .ref mSt, .int 0, .ref mWo, .ref mSa, .int 0, .ref mWa, .int 0, .ref mFa, .ref mQu, .ref mIs, .int 0, .int 0, .long 0, .ref mIm, .ref mIx, .ref mMa]))]) (tys := []) (sz := sz) (av := [.ref m0, .int 0]) (Qc := fun A => k2_QcV (.int 0)) (fr := fun A => (fun _ => False)) (by decide) (Nat.le_of_ble_eq_true rfl) ?_
  intro p e s m below meth c ls A H hHe hx hb hr hml hown hts hlocks hnm hP hK hD hA hS hN hl
  have hown : s.vm.findClass "WrongHoleModel" = some m.cls := hown
  have hT : ∀ w ∈ TB, w.before ([.ref m0, .int 0] : List Value).toArray s = true := fun w h => hts w (List.mem_cons_of_mem _ h)
  have hl : lv_has ls 2 [(0, .ref m0), (1, .int 0)] := hl
  have hP : va_P D vwCl [(m0, .inr (10, [.ref mTa, .int 0, .int 0, .ref mSi, .ref mLe, .ref mCl, .ref mCs, .ref mRe, .int 0, .int 0, .int 0, .int tx, .int 0, .int 0, .int 0, .ref mOp, .int 0, .ref mSt, .int 0, .ref mWo, .ref mSa, .int 0, .ref mWa, .int 0, .ref mFa, .ref mQu, .ref mIs, .int 0, .int 0, .long 0, .ref mIm, .ref mIx, .ref mMa]))] H := hP
  refine lv_iload_n hx hb dX12_isLetter_0 rfl (lv_at hl 1 rfl) ?_
  refine lv_aload_n hx hb dX12_isLetter_1 rfl (lv_at hl 0 rfl) ?_
  refine va_get (D := D) (ci := 10) (v := .int 0) (C := "WrongHoleModel") (T := TX12) (N := 33) hx hb hts (iq_RX12 _) hown hK hP 0 rfl rfl 1 (by decide) (hT _ qq_5_153) (fun _ h9 => h9) rfl dX12_isLetter_2 ?_
  refine lv_icmp_ge (tgt := 34) hx hb dX12_isLetter_5 (by decide) (fun _ => ?_) (fun c_1 => absurd (by decide) c_1)
  refine lv_iconst (v := 0) hx hb dX12_isLetter_34 (by decide) ?_
  exact W.zret (v := 0) (ty := .boolean) hx hb hr rfl (fun t9 ht9 hW9 => ⟨rfl, ht9.trans hHe⟩) (fun _ h9 => absurd h9 List.not_mem_nil) dX12_isLetter_35
theorem dX12_isWord_0 : decode cX12_isWord 0 = .ok (.aload_n 0, 1) := by decide +kernel
theorem dX12_isWord_1 : decode cX12_isWord 1 = .ok (.invokevirtual 79, 3) := by decide +kernel
theorem qq_6_40 : Cond.code yX12_see cX12_see 1 (some .int) ∈ TB := mk_tb (ti_6 (List.mem_of_getElem? (i := 40) rfl)) rfl
theorem qq_6_37 : Cond.methodLink "WrongHoleModel" 79 yX12_see ∈ TB := mk_tb (ti_6 (List.mem_of_getElem? (i := 37) rfl)) rfl
theorem qq_6_39 : Cond.instanceMethod yX12_see ∈ TB := mk_tb (ti_6 (List.mem_of_getElem? (i := 39) rfl)) rfl
theorem qs_2_2 : Cond.selects "WrongHoleModel" yX12_see yX12_see ∈ TB := mk_tb (ti_s (q := (yX12_see, 33)) (List.mem_append_right _ (List.mem_append_right _ (List.mem_append_left _ (List.mem_of_getElem? (i := 2) rfl))))) rfl
theorem dX12_isWord_4 : decode cX12_isWord 4 = .ok (.pop, 1) := by decide +kernel
theorem dX12_isWord_5 : decode cX12_isWord 5 = .ok (.lconst 0, 1) := by decide +kernel
theorem dX12_isWord_6 : decode cX12_isWord 6 = .ok (.lstore_n 3, 1) := by decide +kernel
theorem dX12_isWord_7 : decode cX12_isWord 7 = .ok (.iconst 0, 1) := by decide +kernel
theorem dX12_isWord_8 : decode cX12_isWord 8 = .ok (.istore 5, 2) := by decide +kernel
theorem dX12_isWord_10 : decode cX12_isWord 10 = .ok (.aload_n 0, 1) := by decide +kernel
theorem dX12_isWord_11 : decode cX12_isWord 11 = .ok (.aload_n 0, 1) := by decide +kernel
theorem dX12_isWord_12 : decode cX12_isWord 12 = .ok (.getfield 76, 3) := by decide +kernel
theorem dX12_isWord_15 : decode cX12_isWord 15 = .ok (.iload 5, 2) := by decide +kernel
theorem dX12_isWord_17 : decode cX12_isWord 17 = .ok (.iadd, 1) := by decide +kernel
theorem dX12_isWord_18 : decode cX12_isWord 18 = .ok (.invokevirtual 83, 3) := by decide +kernel
theorem qq_6_53 : Cond.code yX12_isLetter cX12_isLetter 2 (some .boolean) ∈ TB := mk_tb (ti_6 (List.mem_of_getElem? (i := 53) rfl)) rfl
theorem qq_6_50 : Cond.methodLink "WrongHoleModel" 83 yX12_isLetter ∈ TB := mk_tb (ti_6 (List.mem_of_getElem? (i := 50) rfl)) rfl
theorem qq_6_52 : Cond.instanceMethod yX12_isLetter ∈ TB := mk_tb (ti_6 (List.mem_of_getElem? (i := 52) rfl)) rfl
theorem qs_2_5 : Cond.selects "WrongHoleModel" yX12_isLetter yX12_isLetter ∈ TB := mk_tb (ti_s (q := (yX12_isLetter, 33)) (List.mem_append_right _ (List.mem_append_right _ (List.mem_append_left _ (List.mem_of_getElem? (i := 5) rfl))))) rfl
theorem dX12_isWord_21 : decode cX12_isWord 21 = .ok (.ifCond .eq 35, 3) := by decide +kernel
theorem dX12_isWord_56 : decode cX12_isWord 56 = .ok (.iload 5, 2) := by decide +kernel
theorem dX12_isWord_58 : decode cX12_isWord 58 = .ok (.ifCond .le 20, 3) := by decide +kernel
theorem dX12_isWord_78 : decode cX12_isWord 78 = .ok (.iconst 0, 1) := by decide +kernel
theorem dX12_isWord_79 : decode cX12_isWord 79 = .ok (.ireturn, 1) := by decide +kernel
set_option maxHeartbeats 4000000 in
set_option maxRecDepth 100000 in
theorem c_isWord (l : Launch) (D : va_G) (ad : Nat → Nat) (sz : Nat) (m0 : Nat) (mTa : Nat) (mSi : Nat) (mLe : Nat) (mCl : Nat) (mCs : Nat) (mRe : Nat) (mOp : Nat) (mSt : Nat) (mWo : Nat) (mSa : Nat) (mWa : Nat) (mFa : Nat) (mQu : Nat) (mIs : Nat) (mIm : Nat) (mIx : Nat) (mMa : Nat) (tx : Int32) (wd : Int64)  : Met l yX12_isWord (Cond.code yX12_isWord cX12_isWord 6 (some .boolean) :: TB) (RM 1 0 0) (va_Pc [.ref m0, .long wd] (PRE D ad [(m0, .inr (10, [.ref mTa, .int 0, .int 0, .ref mSi, .ref mLe, .ref mCl, .ref mCs, .ref mRe, .int 0, .int 0, .int 0, .int tx, .int 0, .int 0, .int 0, .ref mOp, .int 0, .ref mSt, .int 0, .ref mWo, .ref mSa, .int 0, .ref mWa, .int 0, .ref mFa, .ref mQu, .ref mIs, .int 0, .int 0, .long 0, .ref mIm, .ref mIx, .ref mMa]))] [] sz)) (k2_QcV (.int 0)) 0 0 (fun _ => False) := by
  refine MET (y := yX12_isWord) (cc := cX12_isWord) (maxL := 6) (ret := (some .boolean)) (d := 1) (mc := 0) (ms := 0) (D := D) (ad := ad) (ws := [(m0, .inr (10, [.ref mTa, .int 0, .int 0, .ref mSi, .ref mLe, .ref mCl, .ref mCs, .ref mRe, .int 0, .int 0, .int 0, .int tx, .int 0, .int 0, .int 0, .ref mOp, .int 0, .ref mSt, .int 0, .ref mWo, .ref mSa, .int 0, .ref mWa, .int 0, .ref mFa, .ref mQu, .ref mIs, .int 0, .int 0, .long 0, .ref mIm, .ref mIx, .ref mMa]))]) (tys := []) (sz := sz) (av := [.ref m0, .long wd]) (Qc := fun A => k2_QcV (.int 0)) (fr := fun A => (fun _ => False)) (by decide) (Nat.le_of_ble_eq_true rfl) ?_
  intro p e s m below meth c ls A H hHe hx hb hr hml hown hts hlocks hnm hP hK hD hA hS hN hl
  have hown : s.vm.findClass "WrongHoleModel" = some m.cls := hown
  have hT : ∀ w ∈ TB, w.before ([.ref m0, .long wd] : List Value).toArray s = true := fun w h => hts w (List.mem_cons_of_mem _ h)
  have hl : lv_has ls 6 [(0, .ref m0), (1, .long wd)] := hl
  have hP : va_P D vwCl [(m0, .inr (10, [.ref mTa, .int 0, .int 0, .ref mSi, .ref mLe, .ref mCl, .ref mCs, .ref mRe, .int 0, .int 0, .int 0, .int tx, .int 0, .int 0, .int 0, .ref mOp, .int 0, .ref mSt, .int 0, .ref mWo, .ref mSa, .int 0, .ref mWa, .int 0, .ref mFa, .ref mQu, .ref mIs, .int 0, .int 0, .long 0, .ref mIm, .ref mIx, .ref mMa]))] H := hP
  refine lv_aload_n hx hb dX12_isWord_0 rfl (lv_at hl 0 rfl) ?_
  have hPc := hP.sub (ws' := [(m0, .inr (10, [.ref mTa, .int 0, .int 0, .ref mSi, .ref mLe, .ref mCl, .ref mCs, .ref mRe, .int 0, .int 0, .int 0, .int tx, .int 0, .int 0, .int 0, .ref mOp, .int 0, .ref mSt, .int 0, .ref mWo, .ref mSa, .int 0, .ref mWa, .int 0, .ref mFa, .ref mQu, .ref mIs, .int 0, .int 0, .long 0, .ref mIm, .ref mIx, .ref mMa]))]) [0] rfl
  have hDc := hD.sub (ws' := [(m0, .inr (10, [.ref mTa, .int 0, .int 0, .ref mSi, .ref mLe, .ref mCl, .ref mCs, .ref mRe, .int 0, .int 0, .int 0, .int tx, .int 0, .int 0, .int 0, .ref mOp, .int 0, .ref mSt, .int 0, .ref mWo, .ref mSa, .int 0, .ref mWa, .int 0, .ref mFa, .ref mQu, .ref mIs, .int 0, .int 0, .long 0, .ref mIm, .ref mIx, .ref mMa]))]) [0] (by decide) rfl
  have hKc := hK.sub (tys' := []) [] rfl
  refine cl_V (W.runV (As := []) (rest := []) ⟨hx, hb, hml, hown, hts⟩ (c_see l D ad H.size m0 mTa mSi mLe mCl mCs mRe mOp mSt mWo mSa mWa mFa mQu mIs mIm mIx mMa tx) ⟨callB_of 0 hts (gd_C qq_6_40) rfl rfl rfl (hT _ qq_1_9) (hT _ qq_6_37) (by decide +kernel) (rm_R rfl rfl), (hT _ qq_6_39), (hT _ qs_2_2)⟩ (pr_V hPc hKc hDc hN (ci := 10) (q0 := 0) rfl rfl) rfl rfl hl.1 rfl (lv_room (Nat.le_of_ble_eq_true rfl)) dX12_isWord_1 ⟨Nat.le_of_ble_eq_true rfl, Nat.le_of_ble_eq_true rfl⟩) ?_
  refine lv_pop hx hb dX12_isWord_4 rfl ?_
  refine lv_lconst (v := 0) hx hb dX12_isWord_5 (by decide) ?_
  refine lv_lstore_n (lv' := [(3, .long 0), (0, .ref m0), (1, .long wd)]) hx hb dX12_isWord_6 rfl hl (by decide) rfl (fun ls hl => ?_)
  refine lv_iconst (v := 0) hx hb dX12_isWord_7 (by decide) ?_
  refine lv_istore (lv' := [(5, .int 0), (3, .long 0), (0, .ref m0), (1, .long wd)]) hx hb dX12_isWord_8 hl (by decide) rfl (fun ls hl => ?_)
  refine lv_aload_n hx hb dX12_isWord_10 rfl (lv_at hl 2 rfl) ?_
  refine lv_aload_n hx hb dX12_isWord_11 rfl (lv_at hl 2 rfl) ?_
  refine va_get (D := D) (ci := 10) (v := .int 0) (C := "WrongHoleModel") (T := TX12) (N := 33) hx hb hts (iq_RX12 _) hown hK hP 0 rfl rfl 8 (by decide) (hT _ qq_5_160) (fun _ h9 => h9) rfl dX12_isWord_12 ?_
  refine lv_iload hx hb dX12_isWord_15 (lv_at hl 0 rfl) ?_
  refine lv_iadd hx hb dX12_isWord_17 ?_
  refine tc_i 0 (by decide) ?_
  have hPc := hP.sub (ws' := [(m0, .inr (10, [.ref mTa, .int 0, .int 0, .ref mSi, .ref mLe, .ref mCl, .ref mCs, .ref mRe, .int 0, .int 0, .int 0, .int tx, .int 0, .int 0, .int 0, .ref mOp, .int 0, .ref mSt, .int 0, .ref mWo, .ref mSa, .int 0, .ref mWa, .int 0, .ref mFa, .ref mQu, .ref mIs, .int 0, .int 0, .long 0, .ref mIm, .ref mIx, .ref mMa]))]) [0] rfl
  have hDc := hD.sub (ws' := [(m0, .inr (10, [.ref mTa, .int 0, .int 0, .ref mSi, .ref mLe, .ref mCl, .ref mCs, .ref mRe, .int 0, .int 0, .int 0, .int tx, .int 0, .int 0, .int 0, .ref mOp, .int 0, .ref mSt, .int 0, .ref mWo, .ref mSa, .int 0, .ref mWa, .int 0, .ref mFa, .ref mQu, .ref mIs, .int 0, .int 0, .long 0, .ref mIm, .ref mIx, .ref mMa]))]) [0] (by decide) rfl
  have hKc := hK.sub (tys' := []) [] rfl
  refine cl_V (W.runV (As := [.int 0]) (rest := []) ⟨hx, hb, hml, hown, hts⟩ (c_isLetter l D ad H.size m0 mTa mSi mLe mCl mCs mRe mOp mSt mWo mSa mWa mFa mQu mIs mIm mIx mMa tx) ⟨callB_of 1 hts (gd_C qq_6_53) rfl rfl rfl (hT _ qq_1_9) (hT _ qq_6_50) (by decide +kernel) (rm_R rfl rfl), (hT _ qq_6_52), (hT _ qs_2_5)⟩ (pr_V hPc hKc hDc hN (ci := 10) (q0 := 0) rfl rfl) rfl rfl hl.1 rfl (lv_room (Nat.le_of_ble_eq_true rfl)) dX12_isWord_18 ⟨Nat.le_of_ble_eq_true rfl, Nat.le_of_ble_eq_true rfl⟩) ?_
  refine lv_if_eq (tgt := 56) hx hb dX12_isWord_21 (by decide) (fun _ => ?_) (fun c_1 => absurd (by decide) c_1)
  refine lv_iload hx hb dX12_isWord_56 (lv_at hl 0 rfl) ?_
  refine lv_if_le (tgt := 78) hx hb dX12_isWord_58 (by decide) (fun _ => ?_) (fun c_2 => absurd (by decide) c_2)
  refine lv_iconst (v := 0) hx hb dX12_isWord_78 (by decide) ?_
  exact W.zret (v := 0) (ty := .boolean) hx hb hr rfl (fun t9 ht9 hW9 => ⟨rfl, ht9.trans hHe⟩) (fun _ h9 => absurd h9 List.not_mem_nil) dX12_isWord_79
theorem dX12_isLiftWord_0 : decode cX12_isLiftWord 0 = .ok (.aload_n 0, 1) := by decide +kernel
theorem dX12_isLiftWord_1 : decode cX12_isLiftWord 1 = .ok (.ldc2_w 221, 3) := by decide +kernel
theorem qq_6_45 : Cond.constantLong "WrongHoleModel" 221 7499639 ∈ TB := mk_tb (ti_6 (List.mem_of_getElem? (i := 45) rfl)) rfl
theorem dX12_isLiftWord_4 : decode cX12_isLiftWord 4 = .ok (.invokevirtual 87, 3) := by decide +kernel
theorem qq_6_49 : Cond.code yX12_isWord cX12_isWord 6 (some .boolean) ∈ TB := mk_tb (ti_6 (List.mem_of_getElem? (i := 49) rfl)) rfl
theorem qq_6_46 : Cond.methodLink "WrongHoleModel" 87 yX12_isWord ∈ TB := mk_tb (ti_6 (List.mem_of_getElem? (i := 46) rfl)) rfl
theorem qq_6_48 : Cond.instanceMethod yX12_isWord ∈ TB := mk_tb (ti_6 (List.mem_of_getElem? (i := 48) rfl)) rfl
theorem qs_2_4 : Cond.selects "WrongHoleModel" yX12_isWord yX12_isWord ∈ TB := mk_tb (ti_s (q := (yX12_isWord, 33)) (List.mem_append_right _ (List.mem_append_right _ (List.mem_append_left _ (List.mem_of_getElem? (i := 4) rfl))))) rfl
theorem dX12_isLiftWord_7 : decode cX12_isLiftWord 7 = .ok (.ifCond .ne 63, 3) := by decide +kernel
theorem dX12_isLiftWord_10 : decode cX12_isLiftWord 10 = .ok (.aload_n 0, 1) := by decide +kernel
theorem dX12_isLiftWord_11 : decode cX12_isLiftWord 11 = .ok (.ldc2_w 226, 3) := by decide +kernel
theorem qq_6_54 : Cond.constantLong "WrongHoleModel" 226 1735356005 ∈ TB := mk_tb (ti_6 (List.mem_of_getElem? (i := 54) rfl)) rfl
theorem dX12_isLiftWord_14 : decode cX12_isLiftWord 14 = .ok (.invokevirtual 87, 3) := by decide +kernel
theorem dX12_isLiftWord_17 : decode cX12_isLiftWord 17 = .ok (.ifCond .ne 53, 3) := by decide +kernel
theorem dX12_isLiftWord_20 : decode cX12_isLiftWord 20 = .ok (.aload_n 0, 1) := by decide +kernel
theorem dX12_isLiftWord_21 : decode cX12_isLiftWord 21 = .ok (.ldc2_w 231, 3) := by decide +kernel
theorem qq_6_55 : Cond.constantLong "WrongHoleModel" 231 1936029550 ∈ TB := mk_tb (ti_6 (List.mem_of_getElem? (i := 55) rfl)) rfl
theorem dX12_isLiftWord_24 : decode cX12_isLiftWord 24 = .ok (.invokevirtual 87, 3) := by decide +kernel
theorem dX12_isLiftWord_27 : decode cX12_isLiftWord 27 = .ok (.ifCond .ne 43, 3) := by decide +kernel
theorem dX12_isLiftWord_30 : decode cX12_isLiftWord 30 = .ok (.aload_n 0, 1) := by decide +kernel
theorem dX12_isLiftWord_31 : decode cX12_isLiftWord 31 = .ok (.ldc2_w 236, 3) := by decide +kernel
theorem qq_6_56 : Cond.constantLong "WrongHoleModel" 236 1936683636 ∈ TB := mk_tb (ti_6 (List.mem_of_getElem? (i := 56) rfl)) rfl
theorem dX12_isLiftWord_34 : decode cX12_isLiftWord 34 = .ok (.invokevirtual 87, 3) := by decide +kernel
theorem dX12_isLiftWord_37 : decode cX12_isLiftWord 37 = .ok (.ifCond .ne 33, 3) := by decide +kernel
theorem dX12_isLiftWord_40 : decode cX12_isLiftWord 40 = .ok (.aload_n 0, 1) := by decide +kernel
theorem dX12_isLiftWord_41 : decode cX12_isLiftWord 41 = .ok (.ldc2_w 241, 3) := by decide +kernel
theorem qq_6_57 : Cond.constantLong "WrongHoleModel" 241 499850634611 ∈ TB := mk_tb (ti_6 (List.mem_of_getElem? (i := 57) rfl)) rfl
theorem dX12_isLiftWord_44 : decode cX12_isLiftWord 44 = .ok (.invokevirtual 87, 3) := by decide +kernel
theorem dX12_isLiftWord_47 : decode cX12_isLiftWord 47 = .ok (.ifCond .ne 23, 3) := by decide +kernel
theorem dX12_isLiftWord_50 : decode cX12_isLiftWord 50 = .ok (.aload_n 0, 1) := by decide +kernel
theorem dX12_isLiftWord_51 : decode cX12_isLiftWord 51 = .ok (.ldc2_w 246, 3) := by decide +kernel
theorem qq_6_58 : Cond.constantLong "WrongHoleModel" 246 26990 ∈ TB := mk_tb (ti_6 (List.mem_of_getElem? (i := 58) rfl)) rfl
theorem dX12_isLiftWord_54 : decode cX12_isLiftWord 54 = .ok (.invokevirtual 87, 3) := by decide +kernel
theorem dX12_isLiftWord_57 : decode cX12_isLiftWord 57 = .ok (.ifCond .ne 13, 3) := by decide +kernel
theorem dX12_isLiftWord_60 : decode cX12_isLiftWord 60 = .ok (.aload_n 0, 1) := by decide +kernel
theorem dX12_isLiftWord_61 : decode cX12_isLiftWord 61 = .ok (.ldc2_w 251, 3) := by decide +kernel
theorem qq_6_59 : Cond.constantLong "WrongHoleModel" 251 1970168943 ∈ TB := mk_tb (ti_6 (List.mem_of_getElem? (i := 59) rfl)) rfl
theorem dX12_isLiftWord_64 : decode cX12_isLiftWord 64 = .ok (.invokevirtual 87, 3) := by decide +kernel
theorem dX12_isLiftWord_67 : decode cX12_isLiftWord 67 = .ok (.ifCond .eq 7, 3) := by decide +kernel
theorem dX12_isLiftWord_74 : decode cX12_isLiftWord 74 = .ok (.iconst 0, 1) := by decide +kernel
theorem dX12_isLiftWord_75 : decode cX12_isLiftWord 75 = .ok (.istore_n 1, 1) := by decide +kernel
theorem dX12_isLiftWord_76 : decode cX12_isLiftWord 76 = .ok (.iload_n 1, 1) := by decide +kernel
theorem dX12_isLiftWord_77 : decode cX12_isLiftWord 77 = .ok (.ifCond .ne 63, 3) := by decide +kernel
theorem dX12_isLiftWord_80 : decode cX12_isLiftWord 80 = .ok (.aload_n 0, 1) := by decide +kernel
theorem dX12_isLiftWord_81 : decode cX12_isLiftWord 81 = .ok (.ldc2_w 256, 3) := by decide +kernel
theorem qq_6_60 : Cond.constantLong "WrongHoleModel" 256 25711 ∈ TB := mk_tb (ti_6 (List.mem_of_getElem? (i := 60) rfl)) rfl
theorem dX12_isLiftWord_84 : decode cX12_isLiftWord 84 = .ok (.invokevirtual 87, 3) := by decide +kernel
theorem dX12_isLiftWord_87 : decode cX12_isLiftWord 87 = .ok (.ifCond .ne 53, 3) := by decide +kernel
theorem dX12_isLiftWord_90 : decode cX12_isLiftWord 90 = .ok (.aload_n 0, 1) := by decide +kernel
theorem dX12_isLiftWord_91 : decode cX12_isLiftWord 91 = .ok (.ldc2_w 130, 3) := by decide +kernel
theorem qq_6_61 : Cond.constantLong "WrongHoleModel" 130 512970880104 ∈ TB := mk_tb (ti_6 (List.mem_of_getElem? (i := 61) rfl)) rfl
theorem dX12_isLiftWord_94 : decode cX12_isLiftWord 94 = .ok (.invokevirtual 87, 3) := by decide +kernel
theorem dX12_isLiftWord_97 : decode cX12_isLiftWord 97 = .ok (.ifCond .ne 43, 3) := by decide +kernel
theorem dX12_isLiftWord_100 : decode cX12_isLiftWord 100 = .ok (.aload_n 0, 1) := by decide +kernel
theorem dX12_isLiftWord_101 : decode cX12_isLiftWord 101 = .ok (.ldc2_w 258, 3) := by decide +kernel
theorem qq_6_62 : Cond.constantLong "WrongHoleModel" 258 7629157 ∈ TB := mk_tb (ti_6 (List.mem_of_getElem? (i := 62) rfl)) rfl
theorem dX12_isLiftWord_104 : decode cX12_isLiftWord 104 = .ok (.invokevirtual 87, 3) := by decide +kernel
theorem dX12_isLiftWord_107 : decode cX12_isLiftWord 107 = .ok (.ifCond .ne 33, 3) := by decide +kernel
theorem dX12_isLiftWord_110 : decode cX12_isLiftWord 110 = .ok (.aload_n 0, 1) := by decide +kernel
theorem dX12_isLiftWord_111 : decode cX12_isLiftWord 111 = .ok (.ldc2_w 263, 3) := by decide +kernel
theorem qq_6_63 : Cond.constantLong "WrongHoleModel" 263 108187867505765 ∈ TB := mk_tb (ti_6 (List.mem_of_getElem? (i := 63) rfl)) rfl
theorem dX12_isLiftWord_114 : decode cX12_isLiftWord 114 = .ok (.invokevirtual 87, 3) := by decide +kernel
theorem dX12_isLiftWord_117 : decode cX12_isLiftWord 117 = .ok (.ifCond .ne 23, 3) := by decide +kernel
theorem dX12_isLiftWord_120 : decode cX12_isLiftWord 120 = .ok (.aload_n 0, 1) := by decide +kernel
theorem dX12_isLiftWord_121 : decode cX12_isLiftWord 121 = .ok (.ldc2_w 268, 3) := by decide +kernel
theorem qq_6_64 : Cond.constantLong "WrongHoleModel" 268 474148660594 ∈ TB := mk_tb (ti_6 (List.mem_of_getElem? (i := 64) rfl)) rfl
theorem dX12_isLiftWord_124 : decode cX12_isLiftWord 124 = .ok (.invokevirtual 87, 3) := by decide +kernel
theorem dX12_isLiftWord_127 : decode cX12_isLiftWord 127 = .ok (.ifCond .ne 13, 3) := by decide +kernel
theorem dX12_isLiftWord_130 : decode cX12_isLiftWord 130 = .ok (.aload_n 0, 1) := by decide +kernel
theorem dX12_isLiftWord_131 : decode cX12_isLiftWord 131 = .ok (.ldc2_w 276, 3) := by decide +kernel
theorem qq_6_65 : Cond.constantLong "WrongHoleModel" 276 6650213 ∈ TB := mk_tb (ti_6 (List.mem_of_getElem? (i := 65) rfl)) rfl
theorem dX12_isLiftWord_134 : decode cX12_isLiftWord 134 = .ok (.invokevirtual 87, 3) := by decide +kernel
theorem dX12_isLiftWord_137 : decode cX12_isLiftWord 137 = .ok (.ifCond .eq 7, 3) := by decide +kernel
theorem dX12_isLiftWord_144 : decode cX12_isLiftWord 144 = .ok (.iconst 0, 1) := by decide +kernel
theorem dX12_isLiftWord_145 : decode cX12_isLiftWord 145 = .ok (.ireturn, 1) := by decide +kernel
set_option maxHeartbeats 4000000 in
set_option maxRecDepth 100000 in
theorem c_isLiftWord (l : Launch) (D : va_G) (ad : Nat → Nat) (sz : Nat) (m0 : Nat) (mTa : Nat) (mSi : Nat) (mLe : Nat) (mCl : Nat) (mCs : Nat) (mRe : Nat) (mOp : Nat) (mSt : Nat) (mWo : Nat) (mSa : Nat) (mWa : Nat) (mFa : Nat) (mQu : Nat) (mIs : Nat) (mIm : Nat) (mIx : Nat) (mMa : Nat) (tx : Int32)  : Met l yX12_isLiftWord (Cond.code yX12_isLiftWord cX12_isLiftWord 2 (some .boolean) :: TB) (RM 2 0 0) (va_Pc [.ref m0] (PRE D ad [(m0, .inr (10, [.ref mTa, .int 0, .int 0, .ref mSi, .ref mLe, .ref mCl, .ref mCs, .ref mRe, .int 0, .int 0, .int 0, .int tx, .int 0, .int 0, .int 0, .ref mOp, .int 0, .ref mSt, .int 0, .ref mWo, .ref mSa, .int 0, .ref mWa, .int 0, .ref mFa, .ref mQu, .ref mIs, .int 0, .int 0, .long 0, .ref mIm, .ref mIx, .ref mMa]))] [] sz)) (k2_QcV (.int 0)) 0 0 (fun _ => False) := by
  refine MET (y := yX12_isLiftWord) (cc := cX12_isLiftWord) (maxL := 2) (ret := (some .boolean)) (d := 2) (mc := 0) (ms := 0) (D := D) (ad := ad) (ws := [(m0, .inr (10, [.ref mTa, .int 0, .int 0, .ref mSi, .ref mLe, .ref mCl, .ref mCs, .ref mRe, .int 0, .int 0, .int 0, .int tx, .int 0, .int 0, .int 0, .ref mOp, .int 0, .ref mSt, .int 0, .ref mWo, .ref mSa, .int 0, .ref mWa, .int 0, .ref mFa, .ref mQu, .ref mIs, .int 0, .int 0, .long 0, .ref mIm, .ref mIx, .ref mMa]))]) (tys := []) (sz := sz) (av := [.ref m0]) (Qc := fun A => k2_QcV (.int 0)) (fr := fun A => (fun _ => False)) (by decide) (Nat.le_of_ble_eq_true rfl) ?_
  intro p e s m below meth c ls A H hHe hx hb hr hml hown hts hlocks hnm hP hK hD hA hS hN hl
  have hown : s.vm.findClass "WrongHoleModel" = some m.cls := hown
  have hT : ∀ w ∈ TB, w.before ([.ref m0] : List Value).toArray s = true := fun w h => hts w (List.mem_cons_of_mem _ h)
  have hl : lv_has ls 2 [(0, .ref m0)] := hl
  have hP : va_P D vwCl [(m0, .inr (10, [.ref mTa, .int 0, .int 0, .ref mSi, .ref mLe, .ref mCl, .ref mCs, .ref mRe, .int 0, .int 0, .int 0, .int tx, .int 0, .int 0, .int 0, .ref mOp, .int 0, .ref mSt, .int 0, .ref mWo, .ref mSa, .int 0, .ref mWa, .int 0, .ref mFa, .ref mQu, .ref mIs, .int 0, .int 0, .long 0, .ref mIm, .ref mIx, .ref mMa]))] H := hP
  refine lv_aload_n hx hb dX12_isLiftWord_0 rfl (lv_at hl 0 rfl) ?_
  refine lv_ldc2 (v := 7499639) hx hb hown (hT _ qq_6_45) dX12_isLiftWord_1 ?_
  have hPc := hP.sub (ws' := [(m0, .inr (10, [.ref mTa, .int 0, .int 0, .ref mSi, .ref mLe, .ref mCl, .ref mCs, .ref mRe, .int 0, .int 0, .int 0, .int tx, .int 0, .int 0, .int 0, .ref mOp, .int 0, .ref mSt, .int 0, .ref mWo, .ref mSa, .int 0, .ref mWa, .int 0, .ref mFa, .ref mQu, .ref mIs, .int 0, .int 0, .long 0, .ref mIm, .ref mIx, .ref mMa]))]) [0] rfl
  have hDc := hD.sub (ws' := [(m0, .inr (10, [.ref mTa, .int 0, .int 0, .ref mSi, .ref mLe, .ref mCl, .ref mCs, .ref mRe, .int 0, .int 0, .int 0, .int tx, .int 0, .int 0, .int 0, .ref mOp, .int 0, .ref mSt, .int 0, .ref mWo, .ref mSa, .int 0, .ref mWa, .int 0, .ref mFa, .ref mQu, .ref mIs, .int 0, .int 0, .long 0, .ref mIm, .ref mIx, .ref mMa]))]) [0] (by decide) rfl
  have hKc := hK.sub (tys' := []) [] rfl
  refine cl_V (W.runV (As := [.long 7499639]) (rest := []) ⟨hx, hb, hml, hown, hts⟩ (c_isWord l D ad H.size m0 mTa mSi mLe mCl mCs mRe mOp mSt mWo mSa mWa mFa mQu mIs mIm mIx mMa tx 7499639) ⟨callB_of 1 hts (gd_C qq_6_49) rfl rfl rfl (hT _ qq_1_9) (hT _ qq_6_46) (by decide +kernel) (rm_R rfl rfl), (hT _ qq_6_48), (hT _ qs_2_4)⟩ (pr_V hPc hKc hDc hN (ci := 10) (q0 := 0) rfl rfl) rfl rfl hl.1 rfl (lv_room (Nat.le_of_ble_eq_true rfl)) dX12_isLiftWord_4 ⟨Nat.le_of_ble_eq_true rfl, Nat.le_of_ble_eq_true rfl⟩) ?_
  refine lv_if_ne (tgt := 70) hx hb dX12_isLiftWord_7 (by decide) (fun c_1 => absurd (by decide) c_1) (fun _ => ?_)
  refine lv_aload_n hx hb dX12_isLiftWord_10 rfl (lv_at hl 0 rfl) ?_
  refine lv_ldc2 (v := 1735356005) hx hb hown (hT _ qq_6_54) dX12_isLiftWord_11 ?_
  have hPc := hP.sub (ws' := [(m0, .inr (10, [.ref mTa, .int 0, .int 0, .ref mSi, .ref mLe, .ref mCl, .ref mCs, .ref mRe, .int 0, .int 0, .int 0, .int tx, .int 0, .int 0, .int 0, .ref mOp, .int 0, .ref mSt, .int 0, .ref mWo, .ref mSa, .int 0, .ref mWa, .int 0, .ref mFa, .ref mQu, .ref mIs, .int 0, .int 0, .long 0, .ref mIm, .ref mIx, .ref mMa]))]) [0] rfl
  have hDc := hD.sub (ws' := [(m0, .inr (10, [.ref mTa, .int 0, .int 0, .ref mSi, .ref mLe, .ref mCl, .ref mCs, .ref mRe, .int 0, .int 0, .int 0, .int tx, .int 0, .int 0, .int 0, .ref mOp, .int 0, .ref mSt, .int 0, .ref mWo, .ref mSa, .int 0, .ref mWa, .int 0, .ref mFa, .ref mQu, .ref mIs, .int 0, .int 0, .long 0, .ref mIm, .ref mIx, .ref mMa]))]) [0] (by decide) rfl
  have hKc := hK.sub (tys' := []) [] rfl
  refine cl_V (W.runV (As := [.long 1735356005]) (rest := []) ⟨hx, hb, hml, hown, hts⟩ (c_isWord l D ad H.size m0 mTa mSi mLe mCl mCs mRe mOp mSt mWo mSa mWa mFa mQu mIs mIm mIx mMa tx 1735356005) ⟨callB_of 1 hts (gd_C qq_6_49) rfl rfl rfl (hT _ qq_1_9) (hT _ qq_6_46) (by decide +kernel) (rm_R rfl rfl), (hT _ qq_6_48), (hT _ qs_2_4)⟩ (pr_V hPc hKc hDc hN (ci := 10) (q0 := 0) rfl rfl) rfl rfl hl.1 rfl (lv_room (Nat.le_of_ble_eq_true rfl)) dX12_isLiftWord_14 ⟨Nat.le_of_ble_eq_true rfl, Nat.le_of_ble_eq_true rfl⟩) ?_
  refine lv_if_ne (tgt := 70) hx hb dX12_isLiftWord_17 (by decide) (fun c_2 => absurd (by decide) c_2) (fun _ => ?_)
  refine lv_aload_n hx hb dX12_isLiftWord_20 rfl (lv_at hl 0 rfl) ?_
  refine lv_ldc2 (v := 1936029550) hx hb hown (hT _ qq_6_55) dX12_isLiftWord_21 ?_
  have hPc := hP.sub (ws' := [(m0, .inr (10, [.ref mTa, .int 0, .int 0, .ref mSi, .ref mLe, .ref mCl, .ref mCs, .ref mRe, .int 0, .int 0, .int 0, .int tx, .int 0, .int 0, .int 0, .ref mOp, .int 0, .ref mSt, .int 0, .ref mWo, .ref mSa, .int 0, .ref mWa, .int 0, .ref mFa, .ref mQu, .ref mIs, .int 0, .int 0, .long 0, .ref mIm, .ref mIx, .ref mMa]))]) [0] rfl
  have hDc := hD.sub (ws' := [(m0, .inr (10, [.ref mTa, .int 0, .int 0, .ref mSi, .ref mLe, .ref mCl, .ref mCs, .ref mRe, .int 0, .int 0, .int 0, .int tx, .int 0, .int 0, .int 0, .ref mOp, .int 0, .ref mSt, .int 0, .ref mWo, .ref mSa, .int 0, .ref mWa, .int 0, .ref mFa, .ref mQu, .ref mIs, .int 0, .int 0, .long 0, .ref mIm, .ref mIx, .ref mMa]))]) [0] (by decide) rfl
  have hKc := hK.sub (tys' := []) [] rfl
  refine cl_V (W.runV (As := [.long 1936029550]) (rest := []) ⟨hx, hb, hml, hown, hts⟩ (c_isWord l D ad H.size m0 mTa mSi mLe mCl mCs mRe mOp mSt mWo mSa mWa mFa mQu mIs mIm mIx mMa tx 1936029550) ⟨callB_of 1 hts (gd_C qq_6_49) rfl rfl rfl (hT _ qq_1_9) (hT _ qq_6_46) (by decide +kernel) (rm_R rfl rfl), (hT _ qq_6_48), (hT _ qs_2_4)⟩ (pr_V hPc hKc hDc hN (ci := 10) (q0 := 0) rfl rfl) rfl rfl hl.1 rfl (lv_room (Nat.le_of_ble_eq_true rfl)) dX12_isLiftWord_24 ⟨Nat.le_of_ble_eq_true rfl, Nat.le_of_ble_eq_true rfl⟩) ?_
  refine lv_if_ne (tgt := 70) hx hb dX12_isLiftWord_27 (by decide) (fun c_3 => absurd (by decide) c_3) (fun _ => ?_)
  refine lv_aload_n hx hb dX12_isLiftWord_30 rfl (lv_at hl 0 rfl) ?_
  refine lv_ldc2 (v := 1936683636) hx hb hown (hT _ qq_6_56) dX12_isLiftWord_31 ?_
  have hPc := hP.sub (ws' := [(m0, .inr (10, [.ref mTa, .int 0, .int 0, .ref mSi, .ref mLe, .ref mCl, .ref mCs, .ref mRe, .int 0, .int 0, .int 0, .int tx, .int 0, .int 0, .int 0, .ref mOp, .int 0, .ref mSt, .int 0, .ref mWo, .ref mSa, .int 0, .ref mWa, .int 0, .ref mFa, .ref mQu, .ref mIs, .int 0, .int 0, .long 0, .ref mIm, .ref mIx, .ref mMa]))]) [0] rfl
  have hDc := hD.sub (ws' := [(m0, .inr (10, [.ref mTa, .int 0, .int 0, .ref mSi, .ref mLe, .ref mCl, .ref mCs, .ref mRe, .int 0, .int 0, .int 0, .int tx, .int 0, .int 0, .int 0, .ref mOp, .int 0, .ref mSt, .int 0, .ref mWo, .ref mSa, .int 0, .ref mWa, .int 0, .ref mFa, .ref mQu, .ref mIs, .int 0, .int 0, .long 0, .ref mIm, .ref mIx, .ref mMa]))]) [0] (by decide) rfl
  have hKc := hK.sub (tys' := []) [] rfl
  refine cl_V (W.runV (As := [.long 1936683636]) (rest := []) ⟨hx, hb, hml, hown, hts⟩ (c_isWord l D ad H.size m0 mTa mSi mLe mCl mCs mRe mOp mSt mWo mSa mWa mFa mQu mIs mIm mIx mMa tx 1936683636) ⟨callB_of 1 hts (gd_C qq_6_49) rfl rfl rfl (hT _ qq_1_9) (hT _ qq_6_46) (by decide +kernel) (rm_R rfl rfl), (hT _ qq_6_48), (hT _ qs_2_4)⟩ (pr_V hPc hKc hDc hN (ci := 10) (q0 := 0) rfl rfl) rfl rfl hl.1 rfl (lv_room (Nat.le_of_ble_eq_true rfl)) dX12_isLiftWord_34 ⟨Nat.le_of_ble_eq_true rfl, Nat.le_of_ble_eq_true rfl⟩) ?_
  refine lv_if_ne (tgt := 70) hx hb dX12_isLiftWord_37 (by decide) (fun c_4 => absurd (by decide) c_4) (fun _ => ?_)
  refine lv_aload_n hx hb dX12_isLiftWord_40 rfl (lv_at hl 0 rfl) ?_
  refine lv_ldc2 (v := 499850634611) hx hb hown (hT _ qq_6_57) dX12_isLiftWord_41 ?_
  have hPc := hP.sub (ws' := [(m0, .inr (10, [.ref mTa, .int 0, .int 0, .ref mSi, .ref mLe, .ref mCl, .ref mCs, .ref mRe, .int 0, .int 0, .int 0, .int tx, .int 0, .int 0, .int 0, .ref mOp, .int 0, .ref mSt, .int 0, .ref mWo, .ref mSa, .int 0, .ref mWa, .int 0, .ref mFa, .ref mQu, .ref mIs, .int 0, .int 0, .long 0, .ref mIm, .ref mIx, .ref mMa]))]) [0] rfl
  have hDc := hD.sub (ws' := [(m0, .inr (10, [.ref mTa, .int 0, .int 0, .ref mSi, .ref mLe, .ref mCl, .ref mCs, .ref mRe, .int 0, .int 0, .int 0, .int tx, .int 0, .int 0, .int 0, .ref mOp, .int 0, .ref mSt, .int 0, .ref mWo, .ref mSa, .int 0, .ref mWa, .int 0, .ref mFa, .ref mQu, .ref mIs, .int 0, .int 0, .long 0, .ref mIm, .ref mIx, .ref mMa]))]) [0] (by decide) rfl
  have hKc := hK.sub (tys' := []) [] rfl
  refine cl_V (W.runV (As := [.long 499850634611]) (rest := []) ⟨hx, hb, hml, hown, hts⟩ (c_isWord l D ad H.size m0 mTa mSi mLe mCl mCs mRe mOp mSt mWo mSa mWa mFa mQu mIs mIm mIx mMa tx 499850634611) ⟨callB_of 1 hts (gd_C qq_6_49) rfl rfl rfl (hT _ qq_1_9) (hT _ qq_6_46) (by decide +kernel) (rm_R rfl rfl), (hT _ qq_6_48), (hT _ qs_2_4)⟩ (pr_V hPc hKc hDc hN (ci := 10) (q0 := 0) rfl rfl) rfl rfl hl.1 rfl (lv_room (Nat.le_of_ble_eq_true rfl)) dX12_isLiftWord_44 ⟨Nat.le_of_ble_eq_true rfl, Nat.le_of_ble_eq_true rfl⟩) ?_
  refine lv_if_ne (tgt := 70) hx hb dX12_isLiftWord_47 (by decide) (fun c_5 => absurd (by decide) c_5) (fun _ => ?_)
  refine lv_aload_n hx hb dX12_isLiftWord_50 rfl (lv_at hl 0 rfl) ?_
  refine lv_ldc2 (v := 26990) hx hb hown (hT _ qq_6_58) dX12_isLiftWord_51 ?_
  have hPc := hP.sub (ws' := [(m0, .inr (10, [.ref mTa, .int 0, .int 0, .ref mSi, .ref mLe, .ref mCl, .ref mCs, .ref mRe, .int 0, .int 0, .int 0, .int tx, .int 0, .int 0, .int 0, .ref mOp, .int 0, .ref mSt, .int 0, .ref mWo, .ref mSa, .int 0, .ref mWa, .int 0, .ref mFa, .ref mQu, .ref mIs, .int 0, .int 0, .long 0, .ref mIm, .ref mIx, .ref mMa]))]) [0] rfl
  have hDc := hD.sub (ws' := [(m0, .inr (10, [.ref mTa, .int 0, .int 0, .ref mSi, .ref mLe, .ref mCl, .ref mCs, .ref mRe, .int 0, .int 0, .int 0, .int tx, .int 0, .int 0, .int 0, .ref mOp, .int 0, .ref mSt, .int 0, .ref mWo, .ref mSa, .int 0, .ref mWa, .int 0, .ref mFa, .ref mQu, .ref mIs, .int 0, .int 0, .long 0, .ref mIm, .ref mIx, .ref mMa]))]) [0] (by decide) rfl
  have hKc := hK.sub (tys' := []) [] rfl
  refine cl_V (W.runV (As := [.long 26990]) (rest := []) ⟨hx, hb, hml, hown, hts⟩ (c_isWord l D ad H.size m0 mTa mSi mLe mCl mCs mRe mOp mSt mWo mSa mWa mFa mQu mIs mIm mIx mMa tx 26990) ⟨callB_of 1 hts (gd_C qq_6_49) rfl rfl rfl (hT _ qq_1_9) (hT _ qq_6_46) (by decide +kernel) (rm_R rfl rfl), (hT _ qq_6_48), (hT _ qs_2_4)⟩ (pr_V hPc hKc hDc hN (ci := 10) (q0 := 0) rfl rfl) rfl rfl hl.1 rfl (lv_room (Nat.le_of_ble_eq_true rfl)) dX12_isLiftWord_54 ⟨Nat.le_of_ble_eq_true rfl, Nat.le_of_ble_eq_true rfl⟩) ?_
  refine lv_if_ne (tgt := 70) hx hb dX12_isLiftWord_57 (by decide) (fun c_6 => absurd (by decide) c_6) (fun _ => ?_)
  refine lv_aload_n hx hb dX12_isLiftWord_60 rfl (lv_at hl 0 rfl) ?_
  refine lv_ldc2 (v := 1970168943) hx hb hown (hT _ qq_6_59) dX12_isLiftWord_61 ?_
  have hPc := hP.sub (ws' := [(m0, .inr (10, [.ref mTa, .int 0, .int 0, .ref mSi, .ref mLe, .ref mCl, .ref mCs, .ref mRe, .int 0, .int 0, .int 0, .int tx, .int 0, .int 0, .int 0, .ref mOp, .int 0, .ref mSt, .int 0, .ref mWo, .ref mSa, .int 0, .ref mWa, .int 0, .ref mFa, .ref mQu, .ref mIs, .int 0, .int 0, .long 0, .ref mIm, .ref mIx, .ref mMa]))]) [0] rfl
  have hDc := hD.sub (ws' := [(m0, .inr (10, [.ref mTa, .int 0, .int 0, .ref mSi, .ref mLe, .ref mCl, .ref mCs, .ref mRe, .int 0, .int 0, .int 0, .int tx, .int 0, .int 0, .int 0, .ref mOp, .int 0, .ref mSt, .int 0, .ref mWo, .ref mSa, .int 0, .ref mWa, .int 0, .ref mFa, .ref mQu, .ref mIs, .int 0, .int 0, .long 0, .ref mIm, .ref mIx, .ref mMa]))]) [0] (by decide) rfl
  have hKc := hK.sub (tys' := []) [] rfl
  refine cl_V (W.runV (As := [.long 1970168943]) (rest := []) ⟨hx, hb, hml, hown, hts⟩ (c_isWord l D ad H.size m0 mTa mSi mLe mCl mCs mRe mOp mSt mWo mSa mWa mFa mQu mIs mIm mIx mMa tx 1970168943) ⟨callB_of 1 hts (gd_C qq_6_49) rfl rfl rfl (hT _ qq_1_9) (hT _ qq_6_46) (by decide +kernel) (rm_R rfl rfl), (hT _ qq_6_48), (hT _ qs_2_4)⟩ (pr_V hPc hKc hDc hN (ci := 10) (q0 := 0) rfl rfl) rfl rfl hl.1 rfl (lv_room (Nat.le_of_ble_eq_true rfl)) dX12_isLiftWord_64 ⟨Nat.le_of_ble_eq_true rfl, Nat.le_of_ble_eq_true rfl⟩) ?_
  refine lv_if_eq (tgt := 74) hx hb dX12_isLiftWord_67 (by decide) (fun _ => ?_) (fun c_7 => absurd (by decide) c_7)
  refine lv_iconst (v := 0) hx hb dX12_isLiftWord_74 (by decide) ?_
  refine lv_istore_n (lv' := [(1, .int 0), (0, .ref m0)]) hx hb dX12_isLiftWord_75 rfl hl (by decide) rfl (fun ls hl => ?_)
  refine lv_iload_n hx hb dX12_isLiftWord_76 rfl (lv_at hl 0 rfl) ?_
  refine lv_if_ne (tgt := 140) hx hb dX12_isLiftWord_77 (by decide) (fun c_8 => absurd (by decide) c_8) (fun _ => ?_)
  refine lv_aload_n hx hb dX12_isLiftWord_80 rfl (lv_at hl 1 rfl) ?_
  refine lv_ldc2 (v := 25711) hx hb hown (hT _ qq_6_60) dX12_isLiftWord_81 ?_
  have hPc := hP.sub (ws' := [(m0, .inr (10, [.ref mTa, .int 0, .int 0, .ref mSi, .ref mLe, .ref mCl, .ref mCs, .ref mRe, .int 0, .int 0, .int 0, .int tx, .int 0, .int 0, .int 0, .ref mOp, .int 0, .ref mSt, .int 0, .ref mWo, .ref mSa, .int 0, .ref mWa, .int 0, .ref mFa, .ref mQu, .ref mIs, .int 0, .int 0, .long 0, .ref mIm, .ref mIx, .ref mMa]))]) [0] rfl
  have hDc := hD.sub (ws' := [(m0, .inr (10, [.ref mTa, .int 0, .int 0, .ref mSi, .ref mLe, .ref mCl, .ref mCs, .ref mRe, .int 0, .int 0, .int 0, .int tx, .int 0, .int 0, .int 0, .ref mOp, .int 0, .ref mSt, .int 0, .ref mWo, .ref mSa, .int 0, .ref mWa, .int 0, .ref mFa, .ref mQu, .ref mIs, .int 0, .int 0, .long 0, .ref mIm, .ref mIx, .ref mMa]))]) [0] (by decide) rfl
  have hKc := hK.sub (tys' := []) [] rfl
  refine cl_V (W.runV (As := [.long 25711]) (rest := []) ⟨hx, hb, hml, hown, hts⟩ (c_isWord l D ad H.size m0 mTa mSi mLe mCl mCs mRe mOp mSt mWo mSa mWa mFa mQu mIs mIm mIx mMa tx 25711) ⟨callB_of 1 hts (gd_C qq_6_49) rfl rfl rfl (hT _ qq_1_9) (hT _ qq_6_46) (by decide +kernel) (rm_R rfl rfl), (hT _ qq_6_48), (hT _ qs_2_4)⟩ (pr_V hPc hKc hDc hN (ci := 10) (q0 := 0) rfl rfl) rfl rfl hl.1 rfl (lv_room (Nat.le_of_ble_eq_true rfl)) dX12_isLiftWord_84 ⟨Nat.le_of_ble_eq_true rfl, Nat.le_of_ble_eq_true rfl⟩) ?_
  refine lv_if_ne (tgt := 140) hx hb dX12_isLiftWord_87 (by decide) (fun c_9 => absurd (by decide) c_9) (fun _ => ?_)
  refine lv_aload_n hx hb dX12_isLiftWord_90 rfl (lv_at hl 1 rfl) ?_
  refine lv_ldc2 (v := 512970880104) hx hb hown (hT _ qq_6_61) dX12_isLiftWord_91 ?_
  have hPc := hP.sub (ws' := [(m0, .inr (10, [.ref mTa, .int 0, .int 0, .ref mSi, .ref mLe, .ref mCl, .ref mCs, .ref mRe, .int 0, .int 0, .int 0, .int tx, .int 0, .int 0, .int 0, .ref mOp, .int 0, .ref mSt, .int 0, .ref mWo, .ref mSa, .int 0, .ref mWa, .int 0, .ref mFa, .ref mQu, .ref mIs, .int 0, .int 0, .long 0, .ref mIm, .ref mIx, .ref mMa]))]) [0] rfl
  have hDc := hD.sub (ws' := [(m0, .inr (10, [.ref mTa, .int 0, .int 0, .ref mSi, .ref mLe, .ref mCl, .ref mCs, .ref mRe, .int 0, .int 0, .int 0, .int tx, .int 0, .int 0, .int 0, .ref mOp, .int 0, .ref mSt, .int 0, .ref mWo, .ref mSa, .int 0, .ref mWa, .int 0, .ref mFa, .ref mQu, .ref mIs, .int 0, .int 0, .long 0, .ref mIm, .ref mIx, .ref mMa]))]) [0] (by decide) rfl
  have hKc := hK.sub (tys' := []) [] rfl
  refine cl_V (W.runV (As := [.long 512970880104]) (rest := []) ⟨hx, hb, hml, hown, hts⟩ (c_isWord l D ad H.size m0 mTa mSi mLe mCl mCs mRe mOp mSt mWo mSa mWa mFa mQu mIs mIm mIx mMa tx 512970880104) ⟨callB_of 1 hts (gd_C qq_6_49) rfl rfl rfl (hT _ qq_1_9) (hT _ qq_6_46) (by decide +kernel) (rm_R rfl rfl), (hT _ qq_6_48), (hT _ qs_2_4)⟩ (pr_V hPc hKc hDc hN (ci := 10) (q0 := 0) rfl rfl) rfl rfl hl.1 rfl (lv_room (Nat.le_of_ble_eq_true rfl)) dX12_isLiftWord_94 ⟨Nat.le_of_ble_eq_true rfl, Nat.le_of_ble_eq_true rfl⟩) ?_
  refine lv_if_ne (tgt := 140) hx hb dX12_isLiftWord_97 (by decide) (fun c_10 => absurd (by decide) c_10) (fun _ => ?_)
  refine lv_aload_n hx hb dX12_isLiftWord_100 rfl (lv_at hl 1 rfl) ?_
  refine lv_ldc2 (v := 7629157) hx hb hown (hT _ qq_6_62) dX12_isLiftWord_101 ?_
  have hPc := hP.sub (ws' := [(m0, .inr (10, [.ref mTa, .int 0, .int 0, .ref mSi, .ref mLe, .ref mCl, .ref mCs, .ref mRe, .int 0, .int 0, .int 0, .int tx, .int 0, .int 0, .int 0, .ref mOp, .int 0, .ref mSt, .int 0, .ref mWo, .ref mSa, .int 0, .ref mWa, .int 0, .ref mFa, .ref mQu, .ref mIs, .int 0, .int 0, .long 0, .ref mIm, .ref mIx, .ref mMa]))]) [0] rfl
  have hDc := hD.sub (ws' := [(m0, .inr (10, [.ref mTa, .int 0, .int 0, .ref mSi, .ref mLe, .ref mCl, .ref mCs, .ref mRe, .int 0, .int 0, .int 0, .int tx, .int 0, .int 0, .int 0, .ref mOp, .int 0, .ref mSt, .int 0, .ref mWo, .ref mSa, .int 0, .ref mWa, .int 0, .ref mFa, .ref mQu, .ref mIs, .int 0, .int 0, .long 0, .ref mIm, .ref mIx, .ref mMa]))]) [0] (by decide) rfl
  have hKc := hK.sub (tys' := []) [] rfl
  refine cl_V (W.runV (As := [.long 7629157]) (rest := []) ⟨hx, hb, hml, hown, hts⟩ (c_isWord l D ad H.size m0 mTa mSi mLe mCl mCs mRe mOp mSt mWo mSa mWa mFa mQu mIs mIm mIx mMa tx 7629157) ⟨callB_of 1 hts (gd_C qq_6_49) rfl rfl rfl (hT _ qq_1_9) (hT _ qq_6_46) (by decide +kernel) (rm_R rfl rfl), (hT _ qq_6_48), (hT _ qs_2_4)⟩ (pr_V hPc hKc hDc hN (ci := 10) (q0 := 0) rfl rfl) rfl rfl hl.1 rfl (lv_room (Nat.le_of_ble_eq_true rfl)) dX12_isLiftWord_104 ⟨Nat.le_of_ble_eq_true rfl, Nat.le_of_ble_eq_true rfl⟩) ?_
  refine lv_if_ne (tgt := 140) hx hb dX12_isLiftWord_107 (by decide) (fun c_11 => absurd (by decide) c_11) (fun _ => ?_)
  refine lv_aload_n hx hb dX12_isLiftWord_110 rfl (lv_at hl 1 rfl) ?_
  refine lv_ldc2 (v := 108187867505765) hx hb hown (hT _ qq_6_63) dX12_isLiftWord_111 ?_
  have hPc := hP.sub (ws' := [(m0, .inr (10, [.ref mTa, .int 0, .int 0, .ref mSi, .ref mLe, .ref mCl, .ref mCs, .ref mRe, .int 0, .int 0, .int 0, .int tx, .int 0, .int 0, .int 0, .ref mOp, .int 0, .ref mSt, .int 0, .ref mWo, .ref mSa, .int 0, .ref mWa, .int 0, .ref mFa, .ref mQu, .ref mIs, .int 0, .int 0, .long 0, .ref mIm, .ref mIx, .ref mMa]))]) [0] rfl
  have hDc := hD.sub (ws' := [(m0, .inr (10, [.ref mTa, .int 0, .int 0, .ref mSi, .ref mLe, .ref mCl, .ref mCs, .ref mRe, .int 0, .int 0, .int 0, .int tx, .int 0, .int 0, .int 0, .ref mOp, .int 0, .ref mSt, .int 0, .ref mWo, .ref mSa, .int 0, .ref mWa, .int 0, .ref mFa, .ref mQu, .ref mIs, .int 0, .int 0, .long 0, .ref mIm, .ref mIx, .ref mMa]))]) [0] (by decide) rfl
  have hKc := hK.sub (tys' := []) [] rfl
  refine cl_V (W.runV (As := [.long 108187867505765]) (rest := []) ⟨hx, hb, hml, hown, hts⟩ (c_isWord l D ad H.size m0 mTa mSi mLe mCl mCs mRe mOp mSt mWo mSa mWa mFa mQu mIs mIm mIx mMa tx 108187867505765) ⟨callB_of 1 hts (gd_C qq_6_49) rfl rfl rfl (hT _ qq_1_9) (hT _ qq_6_46) (by decide +kernel) (rm_R rfl rfl), (hT _ qq_6_48), (hT _ qs_2_4)⟩ (pr_V hPc hKc hDc hN (ci := 10) (q0 := 0) rfl rfl) rfl rfl hl.1 rfl (lv_room (Nat.le_of_ble_eq_true rfl)) dX12_isLiftWord_114 ⟨Nat.le_of_ble_eq_true rfl, Nat.le_of_ble_eq_true rfl⟩) ?_
  refine lv_if_ne (tgt := 140) hx hb dX12_isLiftWord_117 (by decide) (fun c_12 => absurd (by decide) c_12) (fun _ => ?_)
  refine lv_aload_n hx hb dX12_isLiftWord_120 rfl (lv_at hl 1 rfl) ?_
  refine lv_ldc2 (v := 474148660594) hx hb hown (hT _ qq_6_64) dX12_isLiftWord_121 ?_
  have hPc := hP.sub (ws' := [(m0, .inr (10, [.ref mTa, .int 0, .int 0, .ref mSi, .ref mLe, .ref mCl, .ref mCs, .ref mRe, .int 0, .int 0, .int 0, .int tx, .int 0, .int 0, .int 0, .ref mOp, .int 0, .ref mSt, .int 0, .ref mWo, .ref mSa, .int 0, .ref mWa, .int 0, .ref mFa, .ref mQu, .ref mIs, .int 0, .int 0, .long 0, .ref mIm, .ref mIx, .ref mMa]))]) [0] rfl
  have hDc := hD.sub (ws' := [(m0, .inr (10, [.ref mTa, .int 0, .int 0, .ref mSi, .ref mLe, .ref mCl, .ref mCs, .ref mRe, .int 0, .int 0, .int 0, .int tx, .int 0, .int 0, .int 0, .ref mOp, .int 0, .ref mSt, .int 0, .ref mWo, .ref mSa, .int 0, .ref mWa, .int 0, .ref mFa, .ref mQu, .ref mIs, .int 0, .int 0, .long 0, .ref mIm, .ref mIx, .ref mMa]))]) [0] (by decide) rfl
  have hKc := hK.sub (tys' := []) [] rfl
  refine cl_V (W.runV (As := [.long 474148660594]) (rest := []) ⟨hx, hb, hml, hown, hts⟩ (c_isWord l D ad H.size m0 mTa mSi mLe mCl mCs mRe mOp mSt mWo mSa mWa mFa mQu mIs mIm mIx mMa tx 474148660594) ⟨callB_of 1 hts (gd_C qq_6_49) rfl rfl rfl (hT _ qq_1_9) (hT _ qq_6_46) (by decide +kernel) (rm_R rfl rfl), (hT _ qq_6_48), (hT _ qs_2_4)⟩ (pr_V hPc hKc hDc hN (ci := 10) (q0 := 0) rfl rfl) rfl rfl hl.1 rfl (lv_room (Nat.le_of_ble_eq_true rfl)) dX12_isLiftWord_124 ⟨Nat.le_of_ble_eq_true rfl, Nat.le_of_ble_eq_true rfl⟩) ?_
  refine lv_if_ne (tgt := 140) hx hb dX12_isLiftWord_127 (by decide) (fun c_13 => absurd (by decide) c_13) (fun _ => ?_)
  refine lv_aload_n hx hb dX12_isLiftWord_130 rfl (lv_at hl 1 rfl) ?_
  refine lv_ldc2 (v := 6650213) hx hb hown (hT _ qq_6_65) dX12_isLiftWord_131 ?_
  have hPc := hP.sub (ws' := [(m0, .inr (10, [.ref mTa, .int 0, .int 0, .ref mSi, .ref mLe, .ref mCl, .ref mCs, .ref mRe, .int 0, .int 0, .int 0, .int tx, .int 0, .int 0, .int 0, .ref mOp, .int 0, .ref mSt, .int 0, .ref mWo, .ref mSa, .int 0, .ref mWa, .int 0, .ref mFa, .ref mQu, .ref mIs, .int 0, .int 0, .long 0, .ref mIm, .ref mIx, .ref mMa]))]) [0] rfl
  have hDc := hD.sub (ws' := [(m0, .inr (10, [.ref mTa, .int 0, .int 0, .ref mSi, .ref mLe, .ref mCl, .ref mCs, .ref mRe, .int 0, .int 0, .int 0, .int tx, .int 0, .int 0, .int 0, .ref mOp, .int 0, .ref mSt, .int 0, .ref mWo, .ref mSa, .int 0, .ref mWa, .int 0, .ref mFa, .ref mQu, .ref mIs, .int 0, .int 0, .long 0, .ref mIm, .ref mIx, .ref mMa]))]) [0] (by decide) rfl
  have hKc := hK.sub (tys' := []) [] rfl
  refine cl_V (W.runV (As := [.long 6650213]) (rest := []) ⟨hx, hb, hml, hown, hts⟩ (c_isWord l D ad H.size m0 mTa mSi mLe mCl mCs mRe mOp mSt mWo mSa mWa mFa mQu mIs mIm mIx mMa tx 6650213) ⟨callB_of 1 hts (gd_C qq_6_49) rfl rfl rfl (hT _ qq_1_9) (hT _ qq_6_46) (by decide +kernel) (rm_R rfl rfl), (hT _ qq_6_48), (hT _ qs_2_4)⟩ (pr_V hPc hKc hDc hN (ci := 10) (q0 := 0) rfl rfl) rfl rfl hl.1 rfl (lv_room (Nat.le_of_ble_eq_true rfl)) dX12_isLiftWord_134 ⟨Nat.le_of_ble_eq_true rfl, Nat.le_of_ble_eq_true rfl⟩) ?_
  refine lv_if_eq (tgt := 144) hx hb dX12_isLiftWord_137 (by decide) (fun _ => ?_) (fun c_14 => absurd (by decide) c_14)
  refine lv_iconst (v := 0) hx hb dX12_isLiftWord_144 (by decide) ?_
  exact W.zret (v := 0) (ty := .boolean) hx hb hr rfl (fun t9 ht9 hW9 => ⟨rfl, ht9.trans hHe⟩) (fun _ h9 => absurd h9 List.not_mem_nil) dX12_isLiftWord_145
theorem dX12_fails_0 : decode cX12_fails 0 = .ok (.aload_n 0, 1) := by decide +kernel
theorem dX12_fails_1 : decode cX12_fails 1 = .ok (.getfield 73, 3) := by decide +kernel
theorem qq_5_161 : Cond.fieldLink "WrongHoleModel" 73 "WrongHoleModel" "wrong" "I" ∈ TB := mk_tb (ti_5 (List.mem_of_getElem? (i := 161) rfl)) rfl
theorem dX12_fails_4 : decode cX12_fails 4 = .ok (.ifCond .ne 15, 3) := by decide +kernel
theorem dX12_fails_7 : decode cX12_fails 7 = .ok (.aload_n 0, 1) := by decide +kernel
theorem dX12_fails_8 : decode cX12_fails 8 = .ok (.iconst 1, 1) := by decide +kernel
theorem dX12_fails_9 : decode cX12_fails 9 = .ok (.bipush 8, 2) := by decide +kernel
theorem dX12_fails_11 : decode cX12_fails 11 = .ok (.iload_n 2, 1) := by decide +kernel
theorem dX12_fails_12 : decode cX12_fails 12 = .ok (.imul, 1) := by decide +kernel
theorem dX12_fails_13 : decode cX12_fails 13 = .ok (.iadd, 1) := by decide +kernel
theorem dX12_fails_14 : decode cX12_fails 14 = .ok (.iload_n 1, 1) := by decide +kernel
theorem dX12_fails_15 : decode cX12_fails 15 = .ok (.iadd, 1) := by decide +kernel
theorem dX12_fails_16 : decode cX12_fails 16 = .ok (.putfield 73, 3) := by decide +kernel
theorem dX12_fails_19 : decode cX12_fails 19 = .ok (.iconst 0, 1) := by decide +kernel
theorem dX12_fails_20 : decode cX12_fails 20 = .ok (.ireturn, 1) := by decide +kernel
set_option maxHeartbeats 4000000 in
set_option maxRecDepth 100000 in
theorem c_fails (l : Launch) (D : va_G) (ad : Nat → Nat) (sz : Nat) (m0 : Nat) (mTa : Nat) (mSi : Nat) (mLe : Nat) (mCl : Nat) (mCs : Nat) (mRe : Nat) (mOp : Nat) (mSt : Nat) (mWo : Nat) (mSa : Nat) (mWa : Nat) (mFa : Nat) (mQu : Nat) (mIs : Nat) (mIm : Nat) (mIx : Nat) (mMa : Nat) (tx : Int32)  : Met l yX12_fails (Cond.code yX12_fails cX12_fails 3 (some .boolean) :: TB) (RM 0 0 0) (va_Pc [.ref m0, .int 0, .int 0] (PRE D ad [(m0, .inr (10, [.ref mTa, .int 0, .int 0, .ref mSi, .ref mLe, .ref mCl, .ref mCs, .ref mRe, .int 0, .int 0, .int 0, .int tx, .int 0, .int 0, .int 0, .ref mOp, .int 0, .ref mSt, .int 0, .ref mWo, .ref mSa, .int 0, .ref mWa, .int 0, .ref mFa, .ref mQu, .ref mIs, .int 0, .int 0, .long 0, .ref mIm, .ref mIx, .ref mMa]))] [] sz)) (va_Qi (S := Unit) (fun r _ => r = 0) (fun _ t => va_P D vwCl [(m0, .inr (10, [.ref mTa, .int 0, .int 0, .ref mSi, .ref mLe, .ref mCl, .ref mCs, .ref mRe, .int 0, .int 1, .int 0, .int tx, .int 0, .int 0, .int 0, .ref mOp, .int 0, .ref mSt, .int 0, .ref mWo, .ref mSa, .int 0, .ref mWa, .int 0, .ref mFa, .ref mQu, .ref mIs, .int 0, .int 0, .long 0, .ref mIm, .ref mIx, .ref mMa]))] t.heap ∧ va_K D vwCl [] t ∧ va_D (va_A [(m0, .inr (10, [.ref mTa, .int 0, .int 0, .ref mSi, .ref mLe, .ref mCl, .ref mCs, .ref mRe, .int 0, .int 0, .int 0, .int tx, .int 0, .int 0, .int 0, .ref mOp, .int 0, .ref mSt, .int 0, .ref mWo, .ref mSa, .int 0, .ref mWa, .int 0, .ref mFa, .ref mQu, .ref mIs, .int 0, .int 0, .long 0, .ref mIm, .ref mIx, .ref mMa]))] sz) [(m0, .inr (10, [.ref mTa, .int 0, .int 0, .ref mSi, .ref mLe, .ref mCl, .ref mCs, .ref mRe, .int 0, .int 1, .int 0, .int tx, .int 0, .int 0, .int 0, .ref mOp, .int 0, .ref mSt, .int 0, .ref mWo, .ref mSa, .int 0, .ref mWa, .int 0, .ref mFa, .ref mQu, .ref mIs, .int 0, .int 0, .long 0, .ref mIm, .ref mIx, .ref mMa]))]) (va_A [(m0, .inr (10, [.ref mTa, .int 0, .int 0, .ref mSi, .ref mLe, .ref mCl, .ref mCs, .ref mRe, .int 0, .int 0, .int 0, .int tx, .int 0, .int 0, .int 0, .ref mOp, .int 0, .ref mSt, .int 0, .ref mWo, .ref mSa, .int 0, .ref mWa, .int 0, .ref mFa, .ref mQu, .ref mIs, .int 0, .int 0, .long 0, .ref mIm, .ref mIx, .ref mMa]))] sz)) 0 0 (va_A [(m0, .inr (10, [.ref mTa, .int 0, .int 0, .ref mSi, .ref mLe, .ref mCl, .ref mCs, .ref mRe, .int 0, .int 0, .int 0, .int tx, .int 0, .int 0, .int 0, .ref mOp, .int 0, .ref mSt, .int 0, .ref mWo, .ref mSa, .int 0, .ref mWa, .int 0, .ref mFa, .ref mQu, .ref mIs, .int 0, .int 0, .long 0, .ref mIm, .ref mIx, .ref mMa]))] sz) := by
  refine MET (y := yX12_fails) (cc := cX12_fails) (maxL := 3) (ret := (some .boolean)) (d := 0) (mc := 0) (ms := 0) (D := D) (ad := ad) (ws := [(m0, .inr (10, [.ref mTa, .int 0, .int 0, .ref mSi, .ref mLe, .ref mCl, .ref mCs, .ref mRe, .int 0, .int 0, .int 0, .int tx, .int 0, .int 0, .int 0, .ref mOp, .int 0, .ref mSt, .int 0, .ref mWo, .ref mSa, .int 0, .ref mWa, .int 0, .ref mFa, .ref mQu, .ref mIs, .int 0, .int 0, .long 0, .ref mIm, .ref mIx, .ref mMa]))]) (tys := []) (sz := sz) (av := [.ref m0, .int 0, .int 0]) (Qc := fun A => va_Qi (S := Unit) (fun r _ => r = 0) (fun _ t => va_P D vwCl [(m0, .inr (10, [.ref mTa, .int 0, .int 0, .ref mSi, .ref mLe, .ref mCl, .ref mCs, .ref mRe, .int 0, .int 1, .int 0, .int tx, .int 0, .int 0, .int 0, .ref mOp, .int 0, .ref mSt, .int 0, .ref mWo, .ref mSa, .int 0, .ref mWa, .int 0, .ref mFa, .ref mQu, .ref mIs, .int 0, .int 0, .long 0, .ref mIm, .ref mIx, .ref mMa]))] t.heap ∧ va_K D vwCl [] t ∧ va_D A [(m0, .inr (10, [.ref mTa, .int 0, .int 0, .ref mSi, .ref mLe, .ref mCl, .ref mCs, .ref mRe, .int 0, .int 1, .int 0, .int tx, .int 0, .int 0, .int 0, .ref mOp, .int 0, .ref mSt, .int 0, .ref mWo, .ref mSa, .int 0, .ref mWa, .int 0, .ref mFa, .ref mQu, .ref mIs, .int 0, .int 0, .long 0, .ref mIm, .ref mIx, .ref mMa]))]) A) (fr := fun A => A) (by decide) (Nat.le_of_ble_eq_true rfl) ?_
  intro p e s m below meth c ls A H hHe hx hb hr hml hown hts hlocks hnm hP hK hD hA hS hN hl
  have hown : s.vm.findClass "WrongHoleModel" = some m.cls := hown
  have hT : ∀ w ∈ TB, w.before ([.ref m0, .int 0, .int 0] : List Value).toArray s = true := fun w h => hts w (List.mem_cons_of_mem _ h)
  have hl : lv_has ls 3 [(0, .ref m0), (1, .int 0), (2, .int 0)] := hl
  have hP : va_P D vwCl [(m0, .inr (10, [.ref mTa, .int 0, .int 0, .ref mSi, .ref mLe, .ref mCl, .ref mCs, .ref mRe, .int 0, .int 0, .int 0, .int tx, .int 0, .int 0, .int 0, .ref mOp, .int 0, .ref mSt, .int 0, .ref mWo, .ref mSa, .int 0, .ref mWa, .int 0, .ref mFa, .ref mQu, .ref mIs, .int 0, .int 0, .long 0, .ref mIm, .ref mIx, .ref mMa]))] H := hP
  refine lv_aload_n hx hb dX12_fails_0 rfl (lv_at hl 0 rfl) ?_
  refine va_get (D := D) (ci := 10) (v := .int 0) (C := "WrongHoleModel") (T := TX12) (N := 33) hx hb hts (iq_RX12 _) hown hK hP 0 rfl rfl 9 (by decide) (hT _ qq_5_161) (fun _ h9 => h9) rfl dX12_fails_1 ?_
  refine lv_if_ne (tgt := 19) hx hb dX12_fails_4 (by decide) (fun c_1 => absurd (by decide) c_1) (fun _ => ?_)
  refine lv_aload_n hx hb dX12_fails_7 rfl (lv_at hl 0 rfl) ?_
  refine lv_iconst (v := 1) hx hb dX12_fails_8 (by decide) ?_
  refine lv_bipush (v := 8) hx hb dX12_fails_9 (by decide) ?_
  refine lv_iload_n hx hb dX12_fails_11 rfl (lv_at hl 2 rfl) ?_
  refine lv_imul hx hb dX12_fails_12 ?_
  refine tc_i 0 (by decide) ?_
  refine lv_iadd hx hb dX12_fails_13 ?_
  refine tc_i 1 (by decide) ?_
  refine lv_iload_n hx hb dX12_fails_14 rfl (lv_at hl 1 rfl) ?_
  refine lv_iadd hx hb dX12_fails_15 ?_
  refine tc_i 1 (by decide) ?_
  refine va_put (D := D) (ci := 10) (v := .int 1) (ty := .int) (C := "WrongHoleModel") (T := TX12) (N := 33) hx hb hts (iq_RX12 _) tyX12 tyX12_ok nmX12 hown hK hP hD hS 0 rfl rfl 9 (by decide) (hT _ qq_5_161) (fun _ h9 => h9) rfl (by decide +kernel) rfl rfl (Nat.le_of_ble_eq_true rfl) dX12_fails_16 (fun H locs hP hD hS => ?_)
  have hP : va_P D vwCl [(m0, .inr (10, [.ref mTa, .int 0, .int 0, .ref mSi, .ref mLe, .ref mCl, .ref mCs, .ref mRe, .int 0, .int 1, .int 0, .int tx, .int 0, .int 0, .int 0, .ref mOp, .int 0, .ref mSt, .int 0, .ref mWo, .ref mSa, .int 0, .ref mWa, .int 0, .ref mFa, .ref mQu, .ref mIs, .int 0, .int 0, .long 0, .ref mIm, .ref mIx, .ref mMa]))] H := hP
  have hD : va_D A [(m0, .inr (10, [.ref mTa, .int 0, .int 0, .ref mSi, .ref mLe, .ref mCl, .ref mCs, .ref mRe, .int 0, .int 1, .int 0, .int tx, .int 0, .int 0, .int 0, .ref mOp, .int 0, .ref mSt, .int 0, .ref mWo, .ref mSa, .int 0, .ref mWa, .int 0, .ref mFa, .ref mQu, .ref mIs, .int 0, .int 0, .long 0, .ref mIm, .ref mIx, .ref mMa]))] := hD
  refine lv_iconst (v := 0) hx hb dX12_fails_19 (by decide) ?_
  refine W.widen (k := 0) (n := 0) (Nat.le_of_ble_eq_true rfl) (Nat.le_of_ble_eq_true rfl) ?_
  have hP9 := hP.sub (ws' := [(m0, .inr (10, [.ref mTa, .int 0, .int 0, .ref mSi, .ref mLe, .ref mCl, .ref mCs, .ref mRe, .int 0, .int 1, .int 0, .int tx, .int 0, .int 0, .int 0, .ref mOp, .int 0, .ref mSt, .int 0, .ref mWo, .ref mSa, .int 0, .ref mWa, .int 0, .ref mFa, .ref mQu, .ref mIs, .int 0, .int 0, .long 0, .ref mIm, .ref mIx, .ref mMa]))]) [0] rfl
  have hD9 := hD.sub (ws' := [(m0, .inr (10, [.ref mTa, .int 0, .int 0, .ref mSi, .ref mLe, .ref mCl, .ref mCs, .ref mRe, .int 0, .int 1, .int 0, .int tx, .int 0, .int 0, .int 0, .ref mOp, .int 0, .ref mSt, .int 0, .ref mWo, .ref mSa, .int 0, .ref mWa, .int 0, .ref mFa, .ref mQu, .ref mIs, .int 0, .int 0, .long 0, .ref mIm, .ref mIx, .ref mMa]))]) [0] (by decide) rfl
  have hK9 := hK.sub (tys' := []) [] rfl
  exact W.zret (v := 0) (ty := .boolean) hx hb hr rfl (fun t9 ht9 hW9 => ⟨⟨_, (), rfl, rfl, ⟨by rw [ht9]; exact hP9, va_K.moved hW9.alike hK9, hD9⟩⟩, hS.F ht9⟩) hS.2.2 dX12_fails_20
theorem dX12_clauseHere_0 : decode cX12_clauseHere 0 = .ok (.aload_n 0, 1) := by decide +kernel
theorem dX12_clauseHere_1 : decode cX12_clauseHere 1 = .ok (.invokevirtual 79, 3) := by decide +kernel
theorem dX12_clauseHere_4 : decode cX12_clauseHere 4 = .ok (.pop, 1) := by decide +kernel
theorem dX12_clauseHere_5 : decode cX12_clauseHere 5 = .ok (.aload_n 0, 1) := by decide +kernel
theorem dX12_clauseHere_6 : decode cX12_clauseHere 6 = .ok (.getfield 76, 3) := by decide +kernel
theorem dX12_clauseHere_9 : decode cX12_clauseHere 9 = .ok (.istore_n 1, 1) := by decide +kernel
theorem dX12_clauseHere_10 : decode cX12_clauseHere 10 = .ok (.aload_n 0, 1) := by decide +kernel
theorem dX12_clauseHere_11 : decode cX12_clauseHere 11 = .ok (.getfield 132, 3) := by decide +kernel
theorem qq_5_163 : Cond.fieldLink "WrongHoleModel" 132 "WrongHoleModel" "text" "I" ∈ TB := mk_tb (ti_5 (List.mem_of_getElem? (i := 163) rfl)) rfl
theorem dX12_clauseHere_14 : decode cX12_clauseHere 14 = .ok (.bipush 6, 2) := by decide +kernel
theorem dX12_clauseHere_16 : decode cX12_clauseHere 16 = .ok (.if_icmp .ne 7, 3) := by decide +kernel
theorem dX12_clauseHere_19 : decode cX12_clauseHere 19 = .ok (.iconst 1, 1) := by decide +kernel
theorem dX12_clauseHere_20 : decode cX12_clauseHere 20 = .ok (.goto 4, 3) := by decide +kernel
theorem dX12_clauseHere_24 : decode cX12_clauseHere 24 = .ok (.istore_n 2, 1) := by decide +kernel
theorem dX12_clauseHere_25 : decode cX12_clauseHere 25 = .ok (.iload_n 2, 1) := by decide +kernel
theorem dX12_clauseHere_26 : decode cX12_clauseHere 26 = .ok (.ifCond .eq 13, 3) := by decide +kernel
theorem dX12_clauseHere_29 : decode cX12_clauseHere 29 = .ok (.aload_n 0, 1) := by decide +kernel
theorem dX12_clauseHere_30 : decode cX12_clauseHere 30 = .ok (.invokevirtual 278, 3) := by decide +kernel
theorem qq_6_44 : Cond.code yX12_isLiftWord cX12_isLiftWord 2 (some .boolean) ∈ TB := mk_tb (ti_6 (List.mem_of_getElem? (i := 44) rfl)) rfl
theorem qq_6_41 : Cond.methodLink "WrongHoleModel" 278 yX12_isLiftWord ∈ TB := mk_tb (ti_6 (List.mem_of_getElem? (i := 41) rfl)) rfl
theorem qq_6_43 : Cond.instanceMethod yX12_isLiftWord ∈ TB := mk_tb (ti_6 (List.mem_of_getElem? (i := 43) rfl)) rfl
theorem qs_2_3 : Cond.selects "WrongHoleModel" yX12_isLiftWord yX12_isLiftWord ∈ TB := mk_tb (ti_s (q := (yX12_isLiftWord, 33)) (List.mem_append_right _ (List.mem_append_right _ (List.mem_append_left _ (List.mem_of_getElem? (i := 3) rfl))))) rfl
theorem dX12_clauseHere_33 : decode cX12_clauseHere 33 = .ok (.ifCond .ne 23, 3) := by decide +kernel
theorem dX12_clauseHere_36 : decode cX12_clauseHere 36 = .ok (.goto 13, 3) := by decide +kernel
theorem dX12_clauseHere_49 : decode cX12_clauseHere 49 = .ok (.aload_n 0, 1) := by decide +kernel
theorem dX12_clauseHere_50 : decode cX12_clauseHere 50 = .ok (.iconst 0, 1) := by decide +kernel
theorem dX12_clauseHere_51 : decode cX12_clauseHere 51 = .ok (.iload_n 1, 1) := by decide +kernel
theorem dX12_clauseHere_52 : decode cX12_clauseHere 52 = .ok (.invokevirtual 97, 3) := by decide +kernel
theorem qq_6_70 : Cond.code yX12_fails cX12_fails 3 (some .boolean) ∈ TB := mk_tb (ti_6 (List.mem_of_getElem? (i := 70) rfl)) rfl
theorem qq_6_67 : Cond.methodLink "WrongHoleModel" 97 yX12_fails ∈ TB := mk_tb (ti_6 (List.mem_of_getElem? (i := 67) rfl)) rfl
theorem qq_6_69 : Cond.instanceMethod yX12_fails ∈ TB := mk_tb (ti_6 (List.mem_of_getElem? (i := 69) rfl)) rfl
theorem qs_2_6 : Cond.selects "WrongHoleModel" yX12_fails yX12_fails ∈ TB := mk_tb (ti_s (q := (yX12_fails, 33)) (List.mem_append_right _ (List.mem_append_right _ (List.mem_append_left _ (List.mem_of_getElem? (i := 6) rfl))))) rfl
theorem dX12_clauseHere_55 : decode cX12_clauseHere 55 = .ok (.ireturn, 1) := by decide +kernel
set_option maxHeartbeats 4000000 in
set_option maxRecDepth 100000 in
theorem c_clauseHere_6 (l : Launch) (D : va_G) (ad : Nat → Nat) (sz : Nat) (m0 : Nat) (mTa : Nat) (mSi : Nat) (mLe : Nat) (mCl : Nat) (mCs : Nat) (mRe : Nat) (mOp : Nat) (mSt : Nat) (mWo : Nat) (mSa : Nat) (mWa : Nat) (mFa : Nat) (mQu : Nat) (mIs : Nat) (mIm : Nat) (mIx : Nat) (mMa : Nat)  : Met l yX12_clauseHere (Cond.code yX12_clauseHere cX12_clauseHere 3 (some .boolean) :: TB) (RM 3 0 0) (va_Pc [.ref m0] (PRE D ad [(m0, .inr (10, [.ref mTa, .int 0, .int 0, .ref mSi, .ref mLe, .ref mCl, .ref mCs, .ref mRe, .int 0, .int 0, .int 0, .int 6, .int 0, .int 0, .int 0, .ref mOp, .int 0, .ref mSt, .int 0, .ref mWo, .ref mSa, .int 0, .ref mWa, .int 0, .ref mFa, .ref mQu, .ref mIs, .int 0, .int 0, .long 0, .ref mIm, .ref mIx, .ref mMa]))] [] sz)) (va_Qi (S := Unit) (fun r _ => r = 0) (fun _ t => va_P D vwCl [(m0, .inr (10, [.ref mTa, .int 0, .int 0, .ref mSi, .ref mLe, .ref mCl, .ref mCs, .ref mRe, .int 0, .int 1, .int 0, .int 6, .int 0, .int 0, .int 0, .ref mOp, .int 0, .ref mSt, .int 0, .ref mWo, .ref mSa, .int 0, .ref mWa, .int 0, .ref mFa, .ref mQu, .ref mIs, .int 0, .int 0, .long 0, .ref mIm, .ref mIx, .ref mMa]))] t.heap ∧ va_K D vwCl [] t ∧ va_D (va_A [(m0, .inr (10, [.ref mTa, .int 0, .int 0, .ref mSi, .ref mLe, .ref mCl, .ref mCs, .ref mRe, .int 0, .int 0, .int 0, .int 6, .int 0, .int 0, .int 0, .ref mOp, .int 0, .ref mSt, .int 0, .ref mWo, .ref mSa, .int 0, .ref mWa, .int 0, .ref mFa, .ref mQu, .ref mIs, .int 0, .int 0, .long 0, .ref mIm, .ref mIx, .ref mMa]))] sz) [(m0, .inr (10, [.ref mTa, .int 0, .int 0, .ref mSi, .ref mLe, .ref mCl, .ref mCs, .ref mRe, .int 0, .int 1, .int 0, .int 6, .int 0, .int 0, .int 0, .ref mOp, .int 0, .ref mSt, .int 0, .ref mWo, .ref mSa, .int 0, .ref mWa, .int 0, .ref mFa, .ref mQu, .ref mIs, .int 0, .int 0, .long 0, .ref mIm, .ref mIx, .ref mMa]))]) (va_A [(m0, .inr (10, [.ref mTa, .int 0, .int 0, .ref mSi, .ref mLe, .ref mCl, .ref mCs, .ref mRe, .int 0, .int 0, .int 0, .int 6, .int 0, .int 0, .int 0, .ref mOp, .int 0, .ref mSt, .int 0, .ref mWo, .ref mSa, .int 0, .ref mWa, .int 0, .ref mFa, .ref mQu, .ref mIs, .int 0, .int 0, .long 0, .ref mIm, .ref mIx, .ref mMa]))] sz)) 0 0 (va_A [(m0, .inr (10, [.ref mTa, .int 0, .int 0, .ref mSi, .ref mLe, .ref mCl, .ref mCs, .ref mRe, .int 0, .int 0, .int 0, .int 6, .int 0, .int 0, .int 0, .ref mOp, .int 0, .ref mSt, .int 0, .ref mWo, .ref mSa, .int 0, .ref mWa, .int 0, .ref mFa, .ref mQu, .ref mIs, .int 0, .int 0, .long 0, .ref mIm, .ref mIx, .ref mMa]))] sz) := by
  refine MET (y := yX12_clauseHere) (cc := cX12_clauseHere) (maxL := 3) (ret := (some .boolean)) (d := 3) (mc := 0) (ms := 0) (D := D) (ad := ad) (ws := [(m0, .inr (10, [.ref mTa, .int 0, .int 0, .ref mSi, .ref mLe, .ref mCl, .ref mCs, .ref mRe, .int 0, .int 0, .int 0, .int 6, .int 0, .int 0, .int 0, .ref mOp, .int 0, .ref mSt, .int 0, .ref mWo, .ref mSa, .int 0, .ref mWa, .int 0, .ref mFa, .ref mQu, .ref mIs, .int 0, .int 0, .long 0, .ref mIm, .ref mIx, .ref mMa]))]) (tys := []) (sz := sz) (av := [.ref m0]) (Qc := fun A => va_Qi (S := Unit) (fun r _ => r = 0) (fun _ t => va_P D vwCl [(m0, .inr (10, [.ref mTa, .int 0, .int 0, .ref mSi, .ref mLe, .ref mCl, .ref mCs, .ref mRe, .int 0, .int 1, .int 0, .int 6, .int 0, .int 0, .int 0, .ref mOp, .int 0, .ref mSt, .int 0, .ref mWo, .ref mSa, .int 0, .ref mWa, .int 0, .ref mFa, .ref mQu, .ref mIs, .int 0, .int 0, .long 0, .ref mIm, .ref mIx, .ref mMa]))] t.heap ∧ va_K D vwCl [] t ∧ va_D A [(m0, .inr (10, [.ref mTa, .int 0, .int 0, .ref mSi, .ref mLe, .ref mCl, .ref mCs, .ref mRe, .int 0, .int 1, .int 0, .int 6, .int 0, .int 0, .int 0, .ref mOp, .int 0, .ref mSt, .int 0, .ref mWo, .ref mSa, .int 0, .ref mWa, .int 0, .ref mFa, .ref mQu, .ref mIs, .int 0, .int 0, .long 0, .ref mIm, .ref mIx, .ref mMa]))]) A) (fr := fun A => A) (by decide) (Nat.le_of_ble_eq_true rfl) ?_
  intro p e s m below meth c ls A H hHe hx hb hr hml hown hts hlocks hnm hP hK hD hA hS hN hl
  have hown : s.vm.findClass "WrongHoleModel" = some m.cls := hown
  have hT : ∀ w ∈ TB, w.before ([.ref m0] : List Value).toArray s = true := fun w h => hts w (List.mem_cons_of_mem _ h)
  have hl : lv_has ls 3 [(0, .ref m0)] := hl
  have hP : va_P D vwCl [(m0, .inr (10, [.ref mTa, .int 0, .int 0, .ref mSi, .ref mLe, .ref mCl, .ref mCs, .ref mRe, .int 0, .int 0, .int 0, .int 6, .int 0, .int 0, .int 0, .ref mOp, .int 0, .ref mSt, .int 0, .ref mWo, .ref mSa, .int 0, .ref mWa, .int 0, .ref mFa, .ref mQu, .ref mIs, .int 0, .int 0, .long 0, .ref mIm, .ref mIx, .ref mMa]))] H := hP
  refine lv_aload_n hx hb dX12_clauseHere_0 rfl (lv_at hl 0 rfl) ?_
  have hPc := hP.sub (ws' := [(m0, .inr (10, [.ref mTa, .int 0, .int 0, .ref mSi, .ref mLe, .ref mCl, .ref mCs, .ref mRe, .int 0, .int 0, .int 0, .int 6, .int 0, .int 0, .int 0, .ref mOp, .int 0, .ref mSt, .int 0, .ref mWo, .ref mSa, .int 0, .ref mWa, .int 0, .ref mFa, .ref mQu, .ref mIs, .int 0, .int 0, .long 0, .ref mIm, .ref mIx, .ref mMa]))]) [0] rfl
  have hDc := hD.sub (ws' := [(m0, .inr (10, [.ref mTa, .int 0, .int 0, .ref mSi, .ref mLe, .ref mCl, .ref mCs, .ref mRe, .int 0, .int 0, .int 0, .int 6, .int 0, .int 0, .int 0, .ref mOp, .int 0, .ref mSt, .int 0, .ref mWo, .ref mSa, .int 0, .ref mWa, .int 0, .ref mFa, .ref mQu, .ref mIs, .int 0, .int 0, .long 0, .ref mIm, .ref mIx, .ref mMa]))]) [0] (by decide) rfl
  have hKc := hK.sub (tys' := []) [] rfl
  refine cl_V (W.runV (As := []) (rest := []) ⟨hx, hb, hml, hown, hts⟩ (c_see l D ad H.size m0 mTa mSi mLe mCl mCs mRe mOp mSt mWo mSa mWa mFa mQu mIs mIm mIx mMa 6) ⟨callB_of 0 hts (gd_C qq_6_40) rfl rfl rfl (hT _ qq_1_9) (hT _ qq_6_37) (by decide +kernel) (rm_R rfl rfl), (hT _ qq_6_39), (hT _ qs_2_2)⟩ (pr_V hPc hKc hDc hN (ci := 10) (q0 := 0) rfl rfl) rfl rfl hl.1 rfl (lv_room (Nat.le_of_ble_eq_true rfl)) dX12_clauseHere_1 ⟨Nat.le_of_ble_eq_true rfl, Nat.le_of_ble_eq_true rfl⟩) ?_
  refine lv_pop hx hb dX12_clauseHere_4 rfl ?_
  refine lv_aload_n hx hb dX12_clauseHere_5 rfl (lv_at hl 0 rfl) ?_
  refine va_get (D := D) (ci := 10) (v := .int 0) (C := "WrongHoleModel") (T := TX12) (N := 33) hx hb hts (iq_RX12 _) hown hK hP 0 rfl rfl 8 (by decide) (hT _ qq_5_160) (fun _ h9 => h9) rfl dX12_clauseHere_6 ?_
  refine lv_istore_n (lv' := [(1, .int 0), (0, .ref m0)]) hx hb dX12_clauseHere_9 rfl hl (by decide) rfl (fun ls hl => ?_)
  refine lv_aload_n hx hb dX12_clauseHere_10 rfl (lv_at hl 1 rfl) ?_
  refine va_get (D := D) (ci := 10) (v := .int 6) (C := "WrongHoleModel") (T := TX12) (N := 33) hx hb hts (iq_RX12 _) hown hK hP 0 rfl rfl 11 (by decide) (hT _ qq_5_163) (fun _ h9 => h9) rfl dX12_clauseHere_11 ?_
  refine lv_bipush (v := 6) hx hb dX12_clauseHere_14 (by decide) ?_
  refine lv_icmp_ne (tgt := 23) hx hb dX12_clauseHere_16 (by decide) (fun c_1 => absurd (by decide) c_1) (fun _ => ?_)
  refine lv_iconst (v := 1) hx hb dX12_clauseHere_19 (by decide) ?_
  refine lv_goto (tgt := 24) hx hb dX12_clauseHere_20 (by decide) ?_
  refine lv_istore_n (lv' := [(2, .int 1), (1, .int 0), (0, .ref m0)]) hx hb dX12_clauseHere_24 rfl hl (by decide) rfl (fun ls hl => ?_)
  refine lv_iload_n hx hb dX12_clauseHere_25 rfl (lv_at hl 0 rfl) ?_
  refine lv_if_eq (tgt := 39) hx hb dX12_clauseHere_26 (by decide) (fun c_2 => absurd c_2 (by decide)) (fun _ => ?_)
  refine lv_aload_n hx hb dX12_clauseHere_29 rfl (lv_at hl 2 rfl) ?_
  have hPc := hP.sub (ws' := [(m0, .inr (10, [.ref mTa, .int 0, .int 0, .ref mSi, .ref mLe, .ref mCl, .ref mCs, .ref mRe, .int 0, .int 0, .int 0, .int 6, .int 0, .int 0, .int 0, .ref mOp, .int 0, .ref mSt, .int 0, .ref mWo, .ref mSa, .int 0, .ref mWa, .int 0, .ref mFa, .ref mQu, .ref mIs, .int 0, .int 0, .long 0, .ref mIm, .ref mIx, .ref mMa]))]) [0] rfl
  have hDc := hD.sub (ws' := [(m0, .inr (10, [.ref mTa, .int 0, .int 0, .ref mSi, .ref mLe, .ref mCl, .ref mCs, .ref mRe, .int 0, .int 0, .int 0, .int 6, .int 0, .int 0, .int 0, .ref mOp, .int 0, .ref mSt, .int 0, .ref mWo, .ref mSa, .int 0, .ref mWa, .int 0, .ref mFa, .ref mQu, .ref mIs, .int 0, .int 0, .long 0, .ref mIm, .ref mIx, .ref mMa]))]) [0] (by decide) rfl
  have hKc := hK.sub (tys' := []) [] rfl
  refine cl_V (W.runV (As := []) (rest := []) ⟨hx, hb, hml, hown, hts⟩ (c_isLiftWord l D ad H.size m0 mTa mSi mLe mCl mCs mRe mOp mSt mWo mSa mWa mFa mQu mIs mIm mIx mMa 6) ⟨callB_of 0 hts (gd_C qq_6_44) rfl rfl rfl (hT _ qq_1_9) (hT _ qq_6_41) (by decide +kernel) (rm_R rfl rfl), (hT _ qq_6_43), (hT _ qs_2_3)⟩ (pr_V hPc hKc hDc hN (ci := 10) (q0 := 0) rfl rfl) rfl rfl hl.1 rfl (lv_room (Nat.le_of_ble_eq_true rfl)) dX12_clauseHere_30 ⟨Nat.le_of_ble_eq_true rfl, Nat.le_of_ble_eq_true rfl⟩) ?_
  refine lv_if_ne (tgt := 56) hx hb dX12_clauseHere_33 (by decide) (fun c_3 => absurd (by decide) c_3) (fun _ => ?_)
  refine lv_goto (tgt := 49) hx hb dX12_clauseHere_36 (by decide) ?_
  refine lv_aload_n hx hb dX12_clauseHere_49 rfl (lv_at hl 2 rfl) ?_
  refine lv_iconst (v := 0) hx hb dX12_clauseHere_50 (by decide) ?_
  refine lv_iload_n hx hb dX12_clauseHere_51 rfl (lv_at hl 1 rfl) ?_
  have hPc := hP.sub (ws' := [(m0, .inr (10, [.ref mTa, .int 0, .int 0, .ref mSi, .ref mLe, .ref mCl, .ref mCs, .ref mRe, .int 0, .int 0, .int 0, .int 6, .int 0, .int 0, .int 0, .ref mOp, .int 0, .ref mSt, .int 0, .ref mWo, .ref mSa, .int 0, .ref mWa, .int 0, .ref mFa, .ref mQu, .ref mIs, .int 0, .int 0, .long 0, .ref mIm, .ref mIx, .ref mMa]))]) [0] rfl
  have hDc := hD.sub (ws' := [(m0, .inr (10, [.ref mTa, .int 0, .int 0, .ref mSi, .ref mLe, .ref mCl, .ref mCs, .ref mRe, .int 0, .int 0, .int 0, .int 6, .int 0, .int 0, .int 0, .ref mOp, .int 0, .ref mSt, .int 0, .ref mWo, .ref mSa, .int 0, .ref mWa, .int 0, .ref mFa, .ref mQu, .ref mIs, .int 0, .int 0, .long 0, .ref mIm, .ref mIx, .ref mMa]))]) [0] (by decide) rfl
  have hKc := hK.sub (tys' := []) [] rfl
  have hFc := va_free (wc := [(m0, .inr (10, [.ref mTa, .int 0, .int 0, .ref mSi, .ref mLe, .ref mCl, .ref mCs, .ref mRe, .int 0, .int 0, .int 0, .int 6, .int 0, .int 0, .int 0, .ref mOp, .int 0, .ref mSt, .int 0, .ref mWo, .ref mSa, .int 0, .ref mWa, .int 0, .ref mFa, .ref mQu, .ref mIs, .int 0, .int 0, .long 0, .ref mIm, .ref mIx, .ref mMa]))]) hD hS hA [0] rfl
  refine va_calli (va_runV (As := [.int 0, .int 0]) (rest := []) ⟨hx, hb, hml, hown, hts⟩ (c_fails l D ad H.size m0 mTa mSi mLe mCl mCs mRe mOp mSt mWo mSa mWa mFa mQu mIs mIm mIx mMa 6) ⟨callB_of 2 hts (gd_C qq_6_70) rfl rfl rfl (hT _ qq_1_9) (hT _ qq_6_67) (by decide +kernel) (rm_R rfl rfl), (hT _ qq_6_69), (hT _ qs_2_6)⟩ (pr_V hPc hKc hDc hN (ci := 10) (q0 := 0) rfl rfl) rfl rfl hl.1 rfl (lv_room (Nat.le_of_ble_eq_true rfl)) dX12_clauseHere_52 ⟨Nat.le_of_ble_eq_true rfl, Nat.le_of_ble_eq_true rfl⟩) hS (fun q _ h => hFc q h) hFc (fun r_8 u_4 t_7 H1 locs ht9 hvm hw_5 hB_6 hz1 hk1 hS => ?_)
  obtain ⟨hP1, hK1, hD1⟩ := hB_6
  rw [ht9] at hP1
  have hK1 := va_K.moved hvm.symm hK1
  obtain ⟨hP, hD⟩ := va_join (wr := []) (w1 := [(m0, .inr (10, [.ref mTa, .int 0, .int 0, .ref mSi, .ref mLe, .ref mCl, .ref mCs, .ref mRe, .int 0, .int 1, .int 0, .int 6, .int 0, .int 0, .int 0, .ref mOp, .int 0, .ref mSt, .int 0, .ref mWo, .ref mSa, .int 0, .ref mWa, .int 0, .ref mFa, .ref mQu, .ref mIs, .int 0, .int 0, .long 0, .ref mIm, .ref mIx, .ref mMa]))]) hP hD [0] [] rfl rfl (by decide) (by decide) hk1 hFc hP1 hD1
  have hK := (hK.sub (tys' := []) [] rfl).app hK1
  have hK : va_K D vwCl [] s := hK
  generalize H1 = H at hP hS ⊢
  have hP : va_P D vwCl [(m0, .inr (10, [.ref mTa, .int 0, .int 0, .ref mSi, .ref mLe, .ref mCl, .ref mCs, .ref mRe, .int 0, .int 1, .int 0, .int 6, .int 0, .int 0, .int 0, .ref mOp, .int 0, .ref mSt, .int 0, .ref mWo, .ref mSa, .int 0, .ref mWa, .int 0, .ref mFa, .ref mQu, .ref mIs, .int 0, .int 0, .long 0, .ref mIm, .ref mIx, .ref mMa]))] H := hP
  have hD : va_D A [(m0, .inr (10, [.ref mTa, .int 0, .int 0, .ref mSi, .ref mLe, .ref mCl, .ref mCs, .ref mRe, .int 0, .int 1, .int 0, .int 6, .int 0, .int 0, .int 0, .ref mOp, .int 0, .ref mSt, .int 0, .ref mWo, .ref mSa, .int 0, .ref mWa, .int 0, .ref mFa, .ref mQu, .ref mIs, .int 0, .int 0, .long 0, .ref mIm, .ref mIx, .ref mMa]))] := hD
  refine tc_i 0 hw_5 ?_
  refine W.widen (k := 0) (n := 0) (Nat.le_of_ble_eq_true rfl) (Nat.le_of_ble_eq_true rfl) ?_
  have hP9 := hP.sub (ws' := [(m0, .inr (10, [.ref mTa, .int 0, .int 0, .ref mSi, .ref mLe, .ref mCl, .ref mCs, .ref mRe, .int 0, .int 1, .int 0, .int 6, .int 0, .int 0, .int 0, .ref mOp, .int 0, .ref mSt, .int 0, .ref mWo, .ref mSa, .int 0, .ref mWa, .int 0, .ref mFa, .ref mQu, .ref mIs, .int 0, .int 0, .long 0, .ref mIm, .ref mIx, .ref mMa]))]) [0] rfl
  have hD9 := hD.sub (ws' := [(m0, .inr (10, [.ref mTa, .int 0, .int 0, .ref mSi, .ref mLe, .ref mCl, .ref mCs, .ref mRe, .int 0, .int 1, .int 0, .int 6, .int 0, .int 0, .int 0, .ref mOp, .int 0, .ref mSt, .int 0, .ref mWo, .ref mSa, .int 0, .ref mWa, .int 0, .ref mFa, .ref mQu, .ref mIs, .int 0, .int 0, .long 0, .ref mIm, .ref mIx, .ref mMa]))]) [0] (by decide) rfl
  have hK9 := hK.sub (tys' := []) [] rfl
  exact W.zret (v := 0) (ty := .boolean) hx hb hr rfl (fun t9 ht9 hW9 => ⟨⟨_, (), rfl, rfl, ⟨by rw [ht9]; exact hP9, va_K.moved hW9.alike hK9, hD9⟩⟩, hS.F ht9⟩) hS.2.2 dX12_clauseHere_55
theorem dX12_readsAll_0 : decode cX12_readsAll 0 = .ok (.aload_n 0, 1) := by decide +kernel
theorem dX12_readsAll_1 : decode cX12_readsAll 1 = .ok (.getfield 17, 3) := by decide +kernel
theorem qq_5_156 : Cond.fieldLink "WrongHoleModel" 17 "WrongHoleModel" "length" "[I" ∈ TB := mk_tb (ti_5 (List.mem_of_getElem? (i := 156) rfl)) rfl
theorem dX12_readsAll_4 : decode cX12_readsAll 4 = .ok (.aload_n 0, 1) := by decide +kernel
theorem dX12_readsAll_5 : decode cX12_readsAll 5 = .ok (.getfield 132, 3) := by decide +kernel
theorem dX12_readsAll_8 : decode cX12_readsAll 8 = .ok (.iconst 0, 1) := by decide +kernel
theorem dX12_readsAll_9 : decode cX12_readsAll 9 = .ok (.iastore, 1) := by decide +kernel
theorem dX12_readsAll_10 : decode cX12_readsAll 10 = .ok (.aload_n 0, 1) := by decide +kernel
theorem dX12_readsAll_11 : decode cX12_readsAll 11 = .ok (.iconst 0, 1) := by decide +kernel
theorem dX12_readsAll_12 : decode cX12_readsAll 12 = .ok (.putfield 283, 3) := by decide +kernel
theorem qq_5_166 : Cond.fieldLink "WrongHoleModel" 283 "WrongHoleModel" "lines" "I" ∈ TB := mk_tb (ti_5 (List.mem_of_getElem? (i := 166) rfl)) rfl
theorem dX12_readsAll_15 : decode cX12_readsAll 15 = .ok (.aload_n 0, 1) := by decide +kernel
theorem dX12_readsAll_16 : decode cX12_readsAll 16 = .ok (.iconst 0, 1) := by decide +kernel
theorem dX12_readsAll_17 : decode cX12_readsAll 17 = .ok (.putfield 76, 3) := by decide +kernel
theorem dX12_readsAll_20 : decode cX12_readsAll 20 = .ok (.aload_n 0, 1) := by decide +kernel
theorem dX12_readsAll_21 : decode cX12_readsAll 21 = .ok (.iconst 0, 1) := by decide +kernel
theorem dX12_readsAll_22 : decode cX12_readsAll 22 = .ok (.putfield 73, 3) := by decide +kernel
theorem dX12_readsAll_25 : decode cX12_readsAll 25 = .ok (.aload_n 0, 1) := by decide +kernel
theorem dX12_readsAll_26 : decode cX12_readsAll 26 = .ok (.iconst 0, 1) := by decide +kernel
theorem dX12_readsAll_27 : decode cX12_readsAll 27 = .ok (.putfield 135, 3) := by decide +kernel
theorem qq_5_164 : Cond.fieldLink "WrongHoleModel" 135 "WrongHoleModel" "made" "I" ∈ TB := mk_tb (ti_5 (List.mem_of_getElem? (i := 164) rfl)) rfl
theorem dX12_readsAll_30 : decode cX12_readsAll 30 = .ok (.aload_n 0, 1) := by decide +kernel
theorem dX12_readsAll_31 : decode cX12_readsAll 31 = .ok (.invokevirtual 292, 3) := by decide +kernel
theorem qq_6_36 : Cond.code yX12_clauseHere cX12_clauseHere 3 (some .boolean) ∈ TB := mk_tb (ti_6 (List.mem_of_getElem? (i := 36) rfl)) rfl
theorem qq_6_33 : Cond.methodLink "WrongHoleModel" 292 yX12_clauseHere ∈ TB := mk_tb (ti_6 (List.mem_of_getElem? (i := 33) rfl)) rfl
theorem qq_6_35 : Cond.instanceMethod yX12_clauseHere ∈ TB := mk_tb (ti_6 (List.mem_of_getElem? (i := 35) rfl)) rfl
theorem qs_2_1 : Cond.selects "WrongHoleModel" yX12_clauseHere yX12_clauseHere ∈ TB := mk_tb (ti_s (q := (yX12_clauseHere, 33)) (List.mem_append_right _ (List.mem_append_right _ (List.mem_append_left _ (List.mem_of_getElem? (i := 1) rfl))))) rfl
theorem dX12_readsAll_34 : decode cX12_readsAll 34 = .ok (.istore_n 1, 1) := by decide +kernel
theorem dX12_readsAll_35 : decode cX12_readsAll 35 = .ok (.iload_n 1, 1) := by decide +kernel
theorem dX12_readsAll_36 : decode cX12_readsAll 36 = .ok (.ifCond .eq 30, 3) := by decide +kernel
theorem dX12_readsAll_66 : decode cX12_readsAll 66 = .ok (.iload_n 1, 1) := by decide +kernel
theorem dX12_readsAll_67 : decode cX12_readsAll 67 = .ok (.ifCond .eq 21, 3) := by decide +kernel
theorem dX12_readsAll_88 : decode cX12_readsAll 88 = .ok (.aload_n 0, 1) := by decide +kernel
theorem dX12_readsAll_89 : decode cX12_readsAll 89 = .ok (.iconst 0, 1) := by decide +kernel
theorem dX12_readsAll_90 : decode cX12_readsAll 90 = .ok (.putfield 65, 3) := by decide +kernel
theorem dX12_readsAll_93 : decode cX12_readsAll 93 = .ok (.aload_n 0, 1) := by decide +kernel
theorem dX12_readsAll_94 : decode cX12_readsAll 94 = .ok (.getfield 73, 3) := by decide +kernel
theorem dX12_readsAll_97 : decode cX12_readsAll 97 = .ok (.ifCond .ne 7, 3) := by decide +kernel
theorem dX12_readsAll_104 : decode cX12_readsAll 104 = .ok (.iconst 0, 1) := by decide +kernel
theorem dX12_readsAll_105 : decode cX12_readsAll 105 = .ok (.ireturn, 1) := by decide +kernel
set_option maxHeartbeats 4000000 in
set_option maxRecDepth 100000 in
theorem c_readsAll_6 (l : Launch) (D : va_G) (ad : Nat → Nat) (sz : Nat) (m0 : Nat) (mTa : Nat) (mSi : Nat) (mLe : Nat) (mCl : Nat) (mCs : Nat) (mRe : Nat) (mOp : Nat) (mSt : Nat) (mWo : Nat) (mSa : Nat) (mWa : Nat) (mFa : Nat) (mQu : Nat) (mIs : Nat) (mIm : Nat) (mIx : Nat) (mMa : Nat) (kmLe : ClassId) (f : Nat → Int32)  : Met l yX12_readsAll (Cond.code yX12_readsAll cX12_readsAll 2 (some .boolean) :: TB) (RM 4 0 0) (va_Pc [.ref m0] (PRE D ad [(m0, .inr (10, [.ref mTa, .int 0, .int 0, .ref mSi, .ref mLe, .ref mCl, .ref mCs, .ref mRe, .int 0, .int 0, .int 0, .int 6, .int 0, .int 0, .int 0, .ref mOp, .int 0, .ref mSt, .int 0, .ref mWo, .ref mSa, .int 0, .ref mWa, .int 0, .ref mFa, .ref mQu, .ref mIs, .int 0, .int 0, .long 0, .ref mIm, .ref mIx, .ref mMa])), (mLe, .inl (kmLe, 7, .inl f))] [(kmLe, .int)] sz)) (va_Qi (S := Unit) (fun r _ => r = 0) (fun _ t => ∃ (g : Nat → Int32), va_P D vwCl [(m0, .inr (10, [.ref mTa, .int 0, .int 0, .ref mSi, .ref mLe, .ref mCl, .ref mCs, .ref mRe, .int 0, .int 1, .int 0, .int 6, .int 0, .int 0, .int 0, .ref mOp, .int 0, .ref mSt, .int 0, .ref mWo, .ref mSa, .int 0, .ref mWa, .int 0, .ref mFa, .ref mQu, .ref mIs, .int 0, .int 0, .long 0, .ref mIm, .ref mIx, .ref mMa])), (mLe, .inl (kmLe, 7, .inl g))] t.heap ∧ va_K D vwCl [(kmLe, .int)] t ∧ va_D (va_A [(m0, .inr (10, [.ref mTa, .int 0, .int 0, .ref mSi, .ref mLe, .ref mCl, .ref mCs, .ref mRe, .int 0, .int 0, .int 0, .int 6, .int 0, .int 0, .int 0, .ref mOp, .int 0, .ref mSt, .int 0, .ref mWo, .ref mSa, .int 0, .ref mWa, .int 0, .ref mFa, .ref mQu, .ref mIs, .int 0, .int 0, .long 0, .ref mIm, .ref mIx, .ref mMa])), (mLe, .inl (kmLe, 7, .inl f))] sz) [(m0, .inr (10, [.ref mTa, .int 0, .int 0, .ref mSi, .ref mLe, .ref mCl, .ref mCs, .ref mRe, .int 0, .int 1, .int 0, .int 6, .int 0, .int 0, .int 0, .ref mOp, .int 0, .ref mSt, .int 0, .ref mWo, .ref mSa, .int 0, .ref mWa, .int 0, .ref mFa, .ref mQu, .ref mIs, .int 0, .int 0, .long 0, .ref mIm, .ref mIx, .ref mMa])), (mLe, .inl (kmLe, 7, .inl g))]) (va_A [(m0, .inr (10, [.ref mTa, .int 0, .int 0, .ref mSi, .ref mLe, .ref mCl, .ref mCs, .ref mRe, .int 0, .int 0, .int 0, .int 6, .int 0, .int 0, .int 0, .ref mOp, .int 0, .ref mSt, .int 0, .ref mWo, .ref mSa, .int 0, .ref mWa, .int 0, .ref mFa, .ref mQu, .ref mIs, .int 0, .int 0, .long 0, .ref mIm, .ref mIx, .ref mMa])), (mLe, .inl (kmLe, 7, .inl f))] sz)) 0 0 (va_A [(m0, .inr (10, [.ref mTa, .int 0, .int 0, .ref mSi, .ref mLe, .ref mCl, .ref mCs, .ref mRe, .int 0, .int 0, .int 0, .int 6, .int 0, .int 0, .int 0, .ref mOp, .int 0, .ref mSt, .int 0, .ref mWo, .ref mSa, .int 0, .ref mWa, .int 0, .ref mFa, .ref mQu, .ref mIs, .int 0, .int 0, .long 0, .ref mIm, .ref mIx, .ref mMa])), (mLe, .inl (kmLe, 7, .inl f))] sz) := by
  refine MET (y := yX12_readsAll) (cc := cX12_readsAll) (maxL := 2) (ret := (some .boolean)) (d := 4) (mc := 0) (ms := 0) (D := D) (ad := ad) (ws := [(m0, .inr (10, [.ref mTa, .int 0, .int 0, .ref mSi, .ref mLe, .ref mCl, .ref mCs, .ref mRe, .int 0, .int 0, .int 0, .int 6, .int 0, .int 0, .int 0, .ref mOp, .int 0, .ref mSt, .int 0, .ref mWo, .ref mSa, .int 0, .ref mWa, .int 0, .ref mFa, .ref mQu, .ref mIs, .int 0, .int 0, .long 0, .ref mIm, .ref mIx, .ref mMa])), (mLe, .inl (kmLe, 7, .inl f))]) (tys := [(kmLe, .int)]) (sz := sz) (av := [.ref m0]) (Qc := fun A => va_Qi (S := Unit) (fun r _ => r = 0) (fun _ t => ∃ (g : Nat → Int32), va_P D vwCl [(m0, .inr (10, [.ref mTa, .int 0, .int 0, .ref mSi, .ref mLe, .ref mCl, .ref mCs, .ref mRe, .int 0, .int 1, .int 0, .int 6, .int 0, .int 0, .int 0, .ref mOp, .int 0, .ref mSt, .int 0, .ref mWo, .ref mSa, .int 0, .ref mWa, .int 0, .ref mFa, .ref mQu, .ref mIs, .int 0, .int 0, .long 0, .ref mIm, .ref mIx, .ref mMa])), (mLe, .inl (kmLe, 7, .inl g))] t.heap ∧ va_K D vwCl [(kmLe, .int)] t ∧ va_D A [(m0, .inr (10, [.ref mTa, .int 0, .int 0, .ref mSi, .ref mLe, .ref mCl, .ref mCs, .ref mRe, .int 0, .int 1, .int 0, .int 6, .int 0, .int 0, .int 0, .ref mOp, .int 0, .ref mSt, .int 0, .ref mWo, .ref mSa, .int 0, .ref mWa, .int 0, .ref mFa, .ref mQu, .ref mIs, .int 0, .int 0, .long 0, .ref mIm, .ref mIx, .ref mMa])), (mLe, .inl (kmLe, 7, .inl g))]) A) (fr := fun A => A) (by decide) (Nat.le_of_ble_eq_true rfl) ?_
  intro p e s m below meth c ls A H hHe hx hb hr hml hown hts hlocks hnm hP hK hD hA hS hN hl
  have hown : s.vm.findClass "WrongHoleModel" = some m.cls := hown
  have hT : ∀ w ∈ TB, w.before ([.ref m0] : List Value).toArray s = true := fun w h => hts w (List.mem_cons_of_mem _ h)
  have hl : lv_has ls 2 [(0, .ref m0)] := hl
  have hP : va_P D vwCl [(m0, .inr (10, [.ref mTa, .int 0, .int 0, .ref mSi, .ref mLe, .ref mCl, .ref mCs, .ref mRe, .int 0, .int 0, .int 0, .int 6, .int 0, .int 0, .int 0, .ref mOp, .int 0, .ref mSt, .int 0, .ref mWo, .ref mSa, .int 0, .ref mWa, .int 0, .ref mFa, .ref mQu, .ref mIs, .int 0, .int 0, .long 0, .ref mIm, .ref mIx, .ref mMa])), (mLe, .inl (kmLe, 7, .inl f))] H := hP
  refine lv_aload_n hx hb dX12_readsAll_0 rfl (lv_at hl 0 rfl) ?_
  refine va_get (D := D) (ci := 10) (v := .ref mLe) (C := "WrongHoleModel") (T := TX12) (N := 33) hx hb hts (iq_RX12 _) hown hK hP 0 rfl rfl 4 (by decide) (hT _ qq_5_156) (fun _ h9 => h9) rfl dX12_readsAll_1 ?_
  refine lv_aload_n hx hb dX12_readsAll_4 rfl (lv_at hl 0 rfl) ?_
  refine va_get (D := D) (ci := 10) (v := .int 6) (C := "WrongHoleModel") (T := TX12) (N := 33) hx hb hts (iq_RX12 _) hown hK hP 0 rfl rfl 11 (by decide) (hT _ qq_5_163) (fun _ h9 => h9) rfl dX12_readsAll_5 ?_
  refine lv_iconst (v := 0) hx hb dX12_readsAll_8 (by decide) ?_
  refine va_iast hx hb hK hP hD hS 1 0 rfl rfl (vi_c rfl) dX12_readsAll_9 (fun H locs hP hD hS => ?_)
  have hP : va_P D vwCl [(m0, .inr (10, [.ref mTa, .int 0, .int 0, .ref mSi, .ref mLe, .ref mCl, .ref mCs, .ref mRe, .int 0, .int 0, .int 0, .int 6, .int 0, .int 0, .int 0, .ref mOp, .int 0, .ref mSt, .int 0, .ref mWo, .ref mSa, .int 0, .ref mWa, .int 0, .ref mFa, .ref mQu, .ref mIs, .int 0, .int 0, .long 0, .ref mIm, .ref mIx, .ref mMa])), (mLe, .inl (kmLe, 7, .inl (upd f 6 0)))] H := hP
  have hD : va_D A [(m0, .inr (10, [.ref mTa, .int 0, .int 0, .ref mSi, .ref mLe, .ref mCl, .ref mCs, .ref mRe, .int 0, .int 0, .int 0, .int 6, .int 0, .int 0, .int 0, .ref mOp, .int 0, .ref mSt, .int 0, .ref mWo, .ref mSa, .int 0, .ref mWa, .int 0, .ref mFa, .ref mQu, .ref mIs, .int 0, .int 0, .long 0, .ref mIm, .ref mIx, .ref mMa])), (mLe, .inl (kmLe, 7, .inl (upd f 6 0)))] := hD
  generalize upd f 6 0 = g_1 at hP hD
  refine lv_aload_n hx hb dX12_readsAll_10 rfl (lv_at hl 0 rfl) ?_
  refine lv_iconst (v := 0) hx hb dX12_readsAll_11 (by decide) ?_
  refine va_put (D := D) (ci := 10) (v := .int 0) (ty := .int) (C := "WrongHoleModel") (T := TX12) (N := 33) hx hb hts (iq_RX12 _) tyX12 tyX12_ok nmX12 hown hK hP hD hS 0 rfl rfl 14 (by decide) (hT _ qq_5_166) (fun _ h9 => h9) rfl (by decide +kernel) rfl rfl (Nat.le_of_ble_eq_true rfl) dX12_readsAll_12 (fun H locs hP hD hS => ?_)
  have hP : va_P D vwCl [(m0, .inr (10, [.ref mTa, .int 0, .int 0, .ref mSi, .ref mLe, .ref mCl, .ref mCs, .ref mRe, .int 0, .int 0, .int 0, .int 6, .int 0, .int 0, .int 0, .ref mOp, .int 0, .ref mSt, .int 0, .ref mWo, .ref mSa, .int 0, .ref mWa, .int 0, .ref mFa, .ref mQu, .ref mIs, .int 0, .int 0, .long 0, .ref mIm, .ref mIx, .ref mMa])), (mLe, .inl (kmLe, 7, .inl g_1))] H := hP
  have hD : va_D A [(m0, .inr (10, [.ref mTa, .int 0, .int 0, .ref mSi, .ref mLe, .ref mCl, .ref mCs, .ref mRe, .int 0, .int 0, .int 0, .int 6, .int 0, .int 0, .int 0, .ref mOp, .int 0, .ref mSt, .int 0, .ref mWo, .ref mSa, .int 0, .ref mWa, .int 0, .ref mFa, .ref mQu, .ref mIs, .int 0, .int 0, .long 0, .ref mIm, .ref mIx, .ref mMa])), (mLe, .inl (kmLe, 7, .inl g_1))] := hD
  refine lv_aload_n hx hb dX12_readsAll_15 rfl (lv_at hl 0 rfl) ?_
  refine lv_iconst (v := 0) hx hb dX12_readsAll_16 (by decide) ?_
  refine va_put (D := D) (ci := 10) (v := .int 0) (ty := .int) (C := "WrongHoleModel") (T := TX12) (N := 33) hx hb hts (iq_RX12 _) tyX12 tyX12_ok nmX12 hown hK hP hD hS 0 rfl rfl 8 (by decide) (hT _ qq_5_160) (fun _ h9 => h9) rfl (by decide +kernel) rfl rfl (Nat.le_of_ble_eq_true rfl) dX12_readsAll_17 (fun H locs hP hD hS => ?_)
  have hP : va_P D vwCl [(m0, .inr (10, [.ref mTa, .int 0, .int 0, .ref mSi, .ref mLe, .ref mCl, .ref mCs, .ref mRe, .int 0, .int 0, .int 0, .int 6, .int 0, .int 0, .int 0, .ref mOp, .int 0, .ref mSt, .int 0, .ref mWo, .ref mSa, .int 0, .ref mWa, .int 0, .ref mFa, .ref mQu, .ref mIs, .int 0, .int 0, .long 0, .ref mIm, .ref mIx, .ref mMa])), (mLe, .inl (kmLe, 7, .inl g_1))] H := hP
  have hD : va_D A [(m0, .inr (10, [.ref mTa, .int 0, .int 0, .ref mSi, .ref mLe, .ref mCl, .ref mCs, .ref mRe, .int 0, .int 0, .int 0, .int 6, .int 0, .int 0, .int 0, .ref mOp, .int 0, .ref mSt, .int 0, .ref mWo, .ref mSa, .int 0, .ref mWa, .int 0, .ref mFa, .ref mQu, .ref mIs, .int 0, .int 0, .long 0, .ref mIm, .ref mIx, .ref mMa])), (mLe, .inl (kmLe, 7, .inl g_1))] := hD
  refine lv_aload_n hx hb dX12_readsAll_20 rfl (lv_at hl 0 rfl) ?_
  refine lv_iconst (v := 0) hx hb dX12_readsAll_21 (by decide) ?_
  refine va_put (D := D) (ci := 10) (v := .int 0) (ty := .int) (C := "WrongHoleModel") (T := TX12) (N := 33) hx hb hts (iq_RX12 _) tyX12 tyX12_ok nmX12 hown hK hP hD hS 0 rfl rfl 9 (by decide) (hT _ qq_5_161) (fun _ h9 => h9) rfl (by decide +kernel) rfl rfl (Nat.le_of_ble_eq_true rfl) dX12_readsAll_22 (fun H locs hP hD hS => ?_)
  have hP : va_P D vwCl [(m0, .inr (10, [.ref mTa, .int 0, .int 0, .ref mSi, .ref mLe, .ref mCl, .ref mCs, .ref mRe, .int 0, .int 0, .int 0, .int 6, .int 0, .int 0, .int 0, .ref mOp, .int 0, .ref mSt, .int 0, .ref mWo, .ref mSa, .int 0, .ref mWa, .int 0, .ref mFa, .ref mQu, .ref mIs, .int 0, .int 0, .long 0, .ref mIm, .ref mIx, .ref mMa])), (mLe, .inl (kmLe, 7, .inl g_1))] H := hP
  have hD : va_D A [(m0, .inr (10, [.ref mTa, .int 0, .int 0, .ref mSi, .ref mLe, .ref mCl, .ref mCs, .ref mRe, .int 0, .int 0, .int 0, .int 6, .int 0, .int 0, .int 0, .ref mOp, .int 0, .ref mSt, .int 0, .ref mWo, .ref mSa, .int 0, .ref mWa, .int 0, .ref mFa, .ref mQu, .ref mIs, .int 0, .int 0, .long 0, .ref mIm, .ref mIx, .ref mMa])), (mLe, .inl (kmLe, 7, .inl g_1))] := hD
  refine lv_aload_n hx hb dX12_readsAll_25 rfl (lv_at hl 0 rfl) ?_
  refine lv_iconst (v := 0) hx hb dX12_readsAll_26 (by decide) ?_
  refine va_put (D := D) (ci := 10) (v := .int 0) (ty := .int) (C := "WrongHoleModel") (T := TX12) (N := 33) hx hb hts (iq_RX12 _) tyX12 tyX12_ok nmX12 hown hK hP hD hS 0 rfl rfl 12 (by decide) (hT _ qq_5_164) (fun _ h9 => h9) rfl (by decide +kernel) rfl rfl (Nat.le_of_ble_eq_true rfl) dX12_readsAll_27 (fun H locs hP hD hS => ?_)
  have hP : va_P D vwCl [(m0, .inr (10, [.ref mTa, .int 0, .int 0, .ref mSi, .ref mLe, .ref mCl, .ref mCs, .ref mRe, .int 0, .int 0, .int 0, .int 6, .int 0, .int 0, .int 0, .ref mOp, .int 0, .ref mSt, .int 0, .ref mWo, .ref mSa, .int 0, .ref mWa, .int 0, .ref mFa, .ref mQu, .ref mIs, .int 0, .int 0, .long 0, .ref mIm, .ref mIx, .ref mMa])), (mLe, .inl (kmLe, 7, .inl g_1))] H := hP
  have hD : va_D A [(m0, .inr (10, [.ref mTa, .int 0, .int 0, .ref mSi, .ref mLe, .ref mCl, .ref mCs, .ref mRe, .int 0, .int 0, .int 0, .int 6, .int 0, .int 0, .int 0, .ref mOp, .int 0, .ref mSt, .int 0, .ref mWo, .ref mSa, .int 0, .ref mWa, .int 0, .ref mFa, .ref mQu, .ref mIs, .int 0, .int 0, .long 0, .ref mIm, .ref mIx, .ref mMa])), (mLe, .inl (kmLe, 7, .inl g_1))] := hD
  refine lv_aload_n hx hb dX12_readsAll_30 rfl (lv_at hl 0 rfl) ?_
  have hPc := hP.sub (ws' := [(m0, .inr (10, [.ref mTa, .int 0, .int 0, .ref mSi, .ref mLe, .ref mCl, .ref mCs, .ref mRe, .int 0, .int 0, .int 0, .int 6, .int 0, .int 0, .int 0, .ref mOp, .int 0, .ref mSt, .int 0, .ref mWo, .ref mSa, .int 0, .ref mWa, .int 0, .ref mFa, .ref mQu, .ref mIs, .int 0, .int 0, .long 0, .ref mIm, .ref mIx, .ref mMa]))]) [0] rfl
  have hDc := hD.sub (ws' := [(m0, .inr (10, [.ref mTa, .int 0, .int 0, .ref mSi, .ref mLe, .ref mCl, .ref mCs, .ref mRe, .int 0, .int 0, .int 0, .int 6, .int 0, .int 0, .int 0, .ref mOp, .int 0, .ref mSt, .int 0, .ref mWo, .ref mSa, .int 0, .ref mWa, .int 0, .ref mFa, .ref mQu, .ref mIs, .int 0, .int 0, .long 0, .ref mIm, .ref mIx, .ref mMa]))]) [0] (by decide) rfl
  have hKc := hK.sub (tys' := []) [] rfl
  have hFc := va_free (wc := [(m0, .inr (10, [.ref mTa, .int 0, .int 0, .ref mSi, .ref mLe, .ref mCl, .ref mCs, .ref mRe, .int 0, .int 0, .int 0, .int 6, .int 0, .int 0, .int 0, .ref mOp, .int 0, .ref mSt, .int 0, .ref mWo, .ref mSa, .int 0, .ref mWa, .int 0, .ref mFa, .ref mQu, .ref mIs, .int 0, .int 0, .long 0, .ref mIm, .ref mIx, .ref mMa]))]) hD hS hA [0] rfl
  refine va_calli (va_runV (As := []) (rest := []) ⟨hx, hb, hml, hown, hts⟩ (c_clauseHere_6 l D ad H.size m0 mTa mSi mLe mCl mCs mRe mOp mSt mWo mSa mWa mFa mQu mIs mIm mIx mMa) ⟨callB_of 0 hts (gd_C qq_6_36) rfl rfl rfl (hT _ qq_1_9) (hT _ qq_6_33) (by decide +kernel) (rm_R rfl rfl), (hT _ qq_6_35), (hT _ qs_2_1)⟩ (pr_V hPc hKc hDc hN (ci := 10) (q0 := 0) rfl rfl) rfl rfl hl.1 rfl (lv_room (Nat.le_of_ble_eq_true rfl)) dX12_readsAll_31 ⟨Nat.le_of_ble_eq_true rfl, Nat.le_of_ble_eq_true rfl⟩) hS (fun q _ h => hFc q h) hFc (fun r_7 u_3 t_6 H1 locs ht9 hvm hw_4 hB_5 hz1 hk1 hS => ?_)
  obtain ⟨hP1, hK1, hD1⟩ := hB_5
  rw [ht9] at hP1
  have hK1 := va_K.moved hvm.symm hK1
  obtain ⟨hP, hD⟩ := va_join (wr := [(mLe, .inl (kmLe, 7, .inl g_1))]) (w1 := [(m0, .inr (10, [.ref mTa, .int 0, .int 0, .ref mSi, .ref mLe, .ref mCl, .ref mCs, .ref mRe, .int 0, .int 1, .int 0, .int 6, .int 0, .int 0, .int 0, .ref mOp, .int 0, .ref mSt, .int 0, .ref mWo, .ref mSa, .int 0, .ref mWa, .int 0, .ref mFa, .ref mQu, .ref mIs, .int 0, .int 0, .long 0, .ref mIm, .ref mIx, .ref mMa]))]) hP hD [0] [1] rfl rfl (by decide) (by decide) hk1 hFc hP1 hD1
  have hK := (hK.sub (tys' := [(kmLe, .int)]) [0] rfl).app hK1
  have hK : va_K D vwCl [(kmLe, .int)] s := hK
  generalize H1 = H at hP hS ⊢
  have hP : va_P D vwCl [(mLe, .inl (kmLe, 7, .inl g_1)), (m0, .inr (10, [.ref mTa, .int 0, .int 0, .ref mSi, .ref mLe, .ref mCl, .ref mCs, .ref mRe, .int 0, .int 1, .int 0, .int 6, .int 0, .int 0, .int 0, .ref mOp, .int 0, .ref mSt, .int 0, .ref mWo, .ref mSa, .int 0, .ref mWa, .int 0, .ref mFa, .ref mQu, .ref mIs, .int 0, .int 0, .long 0, .ref mIm, .ref mIx, .ref mMa]))] H := hP
  have hD : va_D A [(mLe, .inl (kmLe, 7, .inl g_1)), (m0, .inr (10, [.ref mTa, .int 0, .int 0, .ref mSi, .ref mLe, .ref mCl, .ref mCs, .ref mRe, .int 0, .int 1, .int 0, .int 6, .int 0, .int 0, .int 0, .ref mOp, .int 0, .ref mSt, .int 0, .ref mWo, .ref mSa, .int 0, .ref mWa, .int 0, .ref mFa, .ref mQu, .ref mIs, .int 0, .int 0, .long 0, .ref mIm, .ref mIx, .ref mMa]))] := hD
  refine tc_i 0 hw_4 ?_
  refine lv_istore_n (lv' := [(1, .int 0), (0, .ref m0)]) hx hb dX12_readsAll_34 rfl hl (by decide) rfl (fun ls hl => ?_)
  refine lv_iload_n hx hb dX12_readsAll_35 rfl (lv_at hl 0 rfl) ?_
  refine lv_if_eq (tgt := 66) hx hb dX12_readsAll_36 (by decide) (fun _ => ?_) (fun c_8 => absurd (by decide) c_8)
  refine lv_iload_n hx hb dX12_readsAll_66 rfl (lv_at hl 0 rfl) ?_
  refine lv_if_eq (tgt := 88) hx hb dX12_readsAll_67 (by decide) (fun _ => ?_) (fun c_9 => absurd (by decide) c_9)
  refine lv_aload_n hx hb dX12_readsAll_88 rfl (lv_at hl 1 rfl) ?_
  refine lv_iconst (v := 0) hx hb dX12_readsAll_89 (by decide) ?_
  refine va_put (D := D) (ci := 10) (v := .int 0) (ty := .int) (C := "WrongHoleModel") (T := TX12) (N := 33) hx hb hts (iq_RX12 _) tyX12 tyX12_ok nmX12 hown hK hP hD hS 1 rfl rfl 1 (by decide) (hT _ qq_5_153) (fun _ h9 => h9) rfl (by decide +kernel) rfl rfl (Nat.le_of_ble_eq_true rfl) dX12_readsAll_90 (fun H locs hP hD hS => ?_)
  have hP : va_P D vwCl [(mLe, .inl (kmLe, 7, .inl g_1)), (m0, .inr (10, [.ref mTa, .int 0, .int 0, .ref mSi, .ref mLe, .ref mCl, .ref mCs, .ref mRe, .int 0, .int 1, .int 0, .int 6, .int 0, .int 0, .int 0, .ref mOp, .int 0, .ref mSt, .int 0, .ref mWo, .ref mSa, .int 0, .ref mWa, .int 0, .ref mFa, .ref mQu, .ref mIs, .int 0, .int 0, .long 0, .ref mIm, .ref mIx, .ref mMa]))] H := hP
  have hD : va_D A [(mLe, .inl (kmLe, 7, .inl g_1)), (m0, .inr (10, [.ref mTa, .int 0, .int 0, .ref mSi, .ref mLe, .ref mCl, .ref mCs, .ref mRe, .int 0, .int 1, .int 0, .int 6, .int 0, .int 0, .int 0, .ref mOp, .int 0, .ref mSt, .int 0, .ref mWo, .ref mSa, .int 0, .ref mWa, .int 0, .ref mFa, .ref mQu, .ref mIs, .int 0, .int 0, .long 0, .ref mIm, .ref mIx, .ref mMa]))] := hD
  refine lv_aload_n hx hb dX12_readsAll_93 rfl (lv_at hl 1 rfl) ?_
  refine va_get (D := D) (ci := 10) (v := .int 1) (C := "WrongHoleModel") (T := TX12) (N := 33) hx hb hts (iq_RX12 _) hown hK hP 1 rfl rfl 9 (by decide) (hT _ qq_5_161) (fun _ h9 => h9) rfl dX12_readsAll_94 ?_
  refine lv_if_ne (tgt := 104) hx hb dX12_readsAll_97 (by decide) (fun _ => ?_) (fun c_10 => absurd c_10 (by decide))
  refine lv_iconst (v := 0) hx hb dX12_readsAll_104 (by decide) ?_
  refine W.widen (k := 0) (n := 0) (Nat.le_of_ble_eq_true rfl) (Nat.le_of_ble_eq_true rfl) ?_
  have hP9 := hP.sub (ws' := [(m0, .inr (10, [.ref mTa, .int 0, .int 0, .ref mSi, .ref mLe, .ref mCl, .ref mCs, .ref mRe, .int 0, .int 1, .int 0, .int 6, .int 0, .int 0, .int 0, .ref mOp, .int 0, .ref mSt, .int 0, .ref mWo, .ref mSa, .int 0, .ref mWa, .int 0, .ref mFa, .ref mQu, .ref mIs, .int 0, .int 0, .long 0, .ref mIm, .ref mIx, .ref mMa])), (mLe, .inl (kmLe, 7, .inl g_1))]) [1, 0] rfl
  have hD9 := hD.sub (ws' := [(m0, .inr (10, [.ref mTa, .int 0, .int 0, .ref mSi, .ref mLe, .ref mCl, .ref mCs, .ref mRe, .int 0, .int 1, .int 0, .int 6, .int 0, .int 0, .int 0, .ref mOp, .int 0, .ref mSt, .int 0, .ref mWo, .ref mSa, .int 0, .ref mWa, .int 0, .ref mFa, .ref mQu, .ref mIs, .int 0, .int 0, .long 0, .ref mIm, .ref mIx, .ref mMa])), (mLe, .inl (kmLe, 7, .inl g_1))]) [1, 0] (by decide) rfl
  have hK9 := hK.sub (tys' := [(kmLe, .int)]) [0] rfl
  exact W.zret (v := 0) (ty := .boolean) hx hb hr rfl (fun t9 ht9 hW9 => ⟨⟨_, (), rfl, rfl, ⟨g_1, by rw [ht9]; exact hP9, va_K.moved hW9.alike hK9, hD9⟩⟩, hS.F ht9⟩) hS.2.2 dX12_readsAll_105
theorem dX12_clauseHere_23 : decode cX12_clauseHere 23 = .ok (.iconst 0, 1) := by decide +kernel
theorem dX12_clauseHere_39 : decode cX12_clauseHere 39 = .ok (.aload_n 0, 1) := by decide +kernel
theorem dX12_clauseHere_40 : decode cX12_clauseHere 40 = .ok (.ldc2_w 281, 3) := by decide +kernel
theorem qq_6_66 : Cond.constantLong "WrongHoleModel" 281 6382452 ∈ TB := mk_tb (ti_6 (List.mem_of_getElem? (i := 66) rfl)) rfl
theorem dX12_clauseHere_43 : decode cX12_clauseHere 43 = .ok (.invokevirtual 87, 3) := by decide +kernel
theorem dX12_clauseHere_46 : decode cX12_clauseHere 46 = .ok (.ifCond .ne 10, 3) := by decide +kernel
set_option maxHeartbeats 4000000 in
set_option maxRecDepth 100000 in
theorem c_clauseHere_0 (l : Launch) (D : va_G) (ad : Nat → Nat) (sz : Nat) (m0 : Nat) (mTa : Nat) (mSi : Nat) (mLe : Nat) (mCl : Nat) (mCs : Nat) (mRe : Nat) (mOp : Nat) (mSt : Nat) (mWo : Nat) (mSa : Nat) (mWa : Nat) (mFa : Nat) (mQu : Nat) (mIs : Nat) (mIm : Nat) (mIx : Nat) (mMa : Nat)  : Met l yX12_clauseHere (Cond.code yX12_clauseHere cX12_clauseHere 3 (some .boolean) :: TB) (RM 3 0 0) (va_Pc [.ref m0] (PRE D ad [(m0, .inr (10, [.ref mTa, .int 0, .int 0, .ref mSi, .ref mLe, .ref mCl, .ref mCs, .ref mRe, .int 0, .int 0, .int 0, .int 0, .int 0, .int 0, .int 0, .ref mOp, .int 0, .ref mSt, .int 0, .ref mWo, .ref mSa, .int 0, .ref mWa, .int 0, .ref mFa, .ref mQu, .ref mIs, .int 0, .int 0, .long 0, .ref mIm, .ref mIx, .ref mMa]))] [] sz)) (va_Qi (S := Unit) (fun r _ => r = 0) (fun _ t => va_P D vwCl [(m0, .inr (10, [.ref mTa, .int 0, .int 0, .ref mSi, .ref mLe, .ref mCl, .ref mCs, .ref mRe, .int 0, .int 1, .int 0, .int 0, .int 0, .int 0, .int 0, .ref mOp, .int 0, .ref mSt, .int 0, .ref mWo, .ref mSa, .int 0, .ref mWa, .int 0, .ref mFa, .ref mQu, .ref mIs, .int 0, .int 0, .long 0, .ref mIm, .ref mIx, .ref mMa]))] t.heap ∧ va_K D vwCl [] t ∧ va_D (va_A [(m0, .inr (10, [.ref mTa, .int 0, .int 0, .ref mSi, .ref mLe, .ref mCl, .ref mCs, .ref mRe, .int 0, .int 0, .int 0, .int 0, .int 0, .int 0, .int 0, .ref mOp, .int 0, .ref mSt, .int 0, .ref mWo, .ref mSa, .int 0, .ref mWa, .int 0, .ref mFa, .ref mQu, .ref mIs, .int 0, .int 0, .long 0, .ref mIm, .ref mIx, .ref mMa]))] sz) [(m0, .inr (10, [.ref mTa, .int 0, .int 0, .ref mSi, .ref mLe, .ref mCl, .ref mCs, .ref mRe, .int 0, .int 1, .int 0, .int 0, .int 0, .int 0, .int 0, .ref mOp, .int 0, .ref mSt, .int 0, .ref mWo, .ref mSa, .int 0, .ref mWa, .int 0, .ref mFa, .ref mQu, .ref mIs, .int 0, .int 0, .long 0, .ref mIm, .ref mIx, .ref mMa]))]) (va_A [(m0, .inr (10, [.ref mTa, .int 0, .int 0, .ref mSi, .ref mLe, .ref mCl, .ref mCs, .ref mRe, .int 0, .int 0, .int 0, .int 0, .int 0, .int 0, .int 0, .ref mOp, .int 0, .ref mSt, .int 0, .ref mWo, .ref mSa, .int 0, .ref mWa, .int 0, .ref mFa, .ref mQu, .ref mIs, .int 0, .int 0, .long 0, .ref mIm, .ref mIx, .ref mMa]))] sz)) 0 0 (va_A [(m0, .inr (10, [.ref mTa, .int 0, .int 0, .ref mSi, .ref mLe, .ref mCl, .ref mCs, .ref mRe, .int 0, .int 0, .int 0, .int 0, .int 0, .int 0, .int 0, .ref mOp, .int 0, .ref mSt, .int 0, .ref mWo, .ref mSa, .int 0, .ref mWa, .int 0, .ref mFa, .ref mQu, .ref mIs, .int 0, .int 0, .long 0, .ref mIm, .ref mIx, .ref mMa]))] sz) := by
  refine MET (y := yX12_clauseHere) (cc := cX12_clauseHere) (maxL := 3) (ret := (some .boolean)) (d := 3) (mc := 0) (ms := 0) (D := D) (ad := ad) (ws := [(m0, .inr (10, [.ref mTa, .int 0, .int 0, .ref mSi, .ref mLe, .ref mCl, .ref mCs, .ref mRe, .int 0, .int 0, .int 0, .int 0, .int 0, .int 0, .int 0, .ref mOp, .int 0, .ref mSt, .int 0, .ref mWo, .ref mSa, .int 0, .ref mWa, .int 0, .ref mFa, .ref mQu, .ref mIs, .int 0, .int 0, .long 0, .ref mIm, .ref mIx, .ref mMa]))]) (tys := []) (sz := sz) (av := [.ref m0]) (Qc := fun A => va_Qi (S := Unit) (fun r _ => r = 0) (fun _ t => va_P D vwCl [(m0, .inr (10, [.ref mTa, .int 0, .int 0, .ref mSi, .ref mLe, .ref mCl, .ref mCs, .ref mRe, .int 0, .int 1, .int 0, .int 0, .int 0, .int 0, .int 0, .ref mOp, .int 0, .ref mSt, .int 0, .ref mWo, .ref mSa, .int 0, .ref mWa, .int 0, .ref mFa, .ref mQu, .ref mIs, .int 0, .int 0, .long 0, .ref mIm, .ref mIx, .ref mMa]))] t.heap ∧ va_K D vwCl [] t ∧ va_D A [(m0, .inr (10, [.ref mTa, .int 0, .int 0, .ref mSi, .ref mLe, .ref mCl, .ref mCs, .ref mRe, .int 0, .int 1, .int 0, .int 0, .int 0, .int 0, .int 0, .ref mOp, .int 0, .ref mSt, .int 0, .ref mWo, .ref mSa, .int 0, .ref mWa, .int 0, .ref mFa, .ref mQu, .ref mIs, .int 0, .int 0, .long 0, .ref mIm, .ref mIx, .ref mMa]))]) A) (fr := fun A => A) (by decide) (Nat.le_of_ble_eq_true rfl) ?_
  intro p e s m below meth c ls A H hHe hx hb hr hml hown hts hlocks hnm hP hK hD hA hS hN hl
  have hown : s.vm.findClass "WrongHoleModel" = some m.cls := hown
  have hT : ∀ w ∈ TB, w.before ([.ref m0] : List Value).toArray s = true := fun w h => hts w (List.mem_cons_of_mem _ h)
  have hl : lv_has ls 3 [(0, .ref m0)] := hl
  have hP : va_P D vwCl [(m0, .inr (10, [.ref mTa, .int 0, .int 0, .ref mSi, .ref mLe, .ref mCl, .ref mCs, .ref mRe, .int 0, .int 0, .int 0, .int 0, .int 0, .int 0, .int 0, .ref mOp, .int 0, .ref mSt, .int 0, .ref mWo, .ref mSa, .int 0, .ref mWa, .int 0, .ref mFa, .ref mQu, .ref mIs, .int 0, .int 0, .long 0, .ref mIm, .ref mIx, .ref mMa]))] H := hP
  refine lv_aload_n hx hb dX12_clauseHere_0 rfl (lv_at hl 0 rfl) ?_
  have hPc := hP.sub (ws' := [(m0, .inr (10, [.ref mTa, .int 0, .int 0, .ref mSi, .ref mLe, .ref mCl, .ref mCs, .ref mRe, .int 0, .int 0, .int 0, .int 0, .int 0, .int 0, .int 0, .ref mOp, .int 0, .ref mSt, .int 0, .ref mWo, .ref mSa, .int 0, .ref mWa, .int 0, .ref mFa, .ref mQu, .ref mIs, .int 0, .int 0, .long 0, .ref mIm, .ref mIx, .ref mMa]))]) [0] rfl
  have hDc := hD.sub (ws' := [(m0, .inr (10, [.ref mTa, .int 0, .int 0, .ref mSi, .ref mLe, .ref mCl, .ref mCs, .ref mRe, .int 0, .int 0, .int 0, .int 0, .int 0, .int 0, .int 0, .ref mOp, .int 0, .ref mSt, .int 0, .ref mWo, .ref mSa, .int 0, .ref mWa, .int 0, .ref mFa, .ref mQu, .ref mIs, .int 0, .int 0, .long 0, .ref mIm, .ref mIx, .ref mMa]))]) [0] (by decide) rfl
  have hKc := hK.sub (tys' := []) [] rfl
  refine cl_V (W.runV (As := []) (rest := []) ⟨hx, hb, hml, hown, hts⟩ (c_see l D ad H.size m0 mTa mSi mLe mCl mCs mRe mOp mSt mWo mSa mWa mFa mQu mIs mIm mIx mMa 0) ⟨callB_of 0 hts (gd_C qq_6_40) rfl rfl rfl (hT _ qq_1_9) (hT _ qq_6_37) (by decide +kernel) (rm_R rfl rfl), (hT _ qq_6_39), (hT _ qs_2_2)⟩ (pr_V hPc hKc hDc hN (ci := 10) (q0 := 0) rfl rfl) rfl rfl hl.1 rfl (lv_room (Nat.le_of_ble_eq_true rfl)) dX12_clauseHere_1 ⟨Nat.le_of_ble_eq_true rfl, Nat.le_of_ble_eq_true rfl⟩) ?_
  refine lv_pop hx hb dX12_clauseHere_4 rfl ?_
  refine lv_aload_n hx hb dX12_clauseHere_5 rfl (lv_at hl 0 rfl) ?_
  refine va_get (D := D) (ci := 10) (v := .int 0) (C := "WrongHoleModel") (T := TX12) (N := 33) hx hb hts (iq_RX12 _) hown hK hP 0 rfl rfl 8 (by decide) (hT _ qq_5_160) (fun _ h9 => h9) rfl dX12_clauseHere_6 ?_
  refine lv_istore_n (lv' := [(1, .int 0), (0, .ref m0)]) hx hb dX12_clauseHere_9 rfl hl (by decide) rfl (fun ls hl => ?_)
  refine lv_aload_n hx hb dX12_clauseHere_10 rfl (lv_at hl 1 rfl) ?_
  refine va_get (D := D) (ci := 10) (v := .int 0) (C := "WrongHoleModel") (T := TX12) (N := 33) hx hb hts (iq_RX12 _) hown hK hP 0 rfl rfl 11 (by decide) (hT _ qq_5_163) (fun _ h9 => h9) rfl dX12_clauseHere_11 ?_
  refine lv_bipush (v := 6) hx hb dX12_clauseHere_14 (by decide) ?_
  refine lv_icmp_ne (tgt := 23) hx hb dX12_clauseHere_16 (by decide) (fun _ => ?_) (fun c_1 => absurd c_1 (by decide))
  refine lv_iconst (v := 0) hx hb dX12_clauseHere_23 (by decide) ?_
  refine lv_istore_n (lv' := [(2, .int 0), (1, .int 0), (0, .ref m0)]) hx hb dX12_clauseHere_24 rfl hl (by decide) rfl (fun ls hl => ?_)
  refine lv_iload_n hx hb dX12_clauseHere_25 rfl (lv_at hl 0 rfl) ?_
  refine lv_if_eq (tgt := 39) hx hb dX12_clauseHere_26 (by decide) (fun _ => ?_) (fun c_2 => absurd (by decide) c_2)
  refine lv_aload_n hx hb dX12_clauseHere_39 rfl (lv_at hl 2 rfl) ?_
  refine lv_ldc2 (v := 6382452) hx hb hown (hT _ qq_6_66) dX12_clauseHere_40 ?_
  have hPc := hP.sub (ws' := [(m0, .inr (10, [.ref mTa, .int 0, .int 0, .ref mSi, .ref mLe, .ref mCl, .ref mCs, .ref mRe, .int 0, .int 0, .int 0, .int 0, .int 0, .int 0, .int 0, .ref mOp, .int 0, .ref mSt, .int 0, .ref mWo, .ref mSa, .int 0, .ref mWa, .int 0, .ref mFa, .ref mQu, .ref mIs, .int 0, .int 0, .long 0, .ref mIm, .ref mIx, .ref mMa]))]) [0] rfl
  have hDc := hD.sub (ws' := [(m0, .inr (10, [.ref mTa, .int 0, .int 0, .ref mSi, .ref mLe, .ref mCl, .ref mCs, .ref mRe, .int 0, .int 0, .int 0, .int 0, .int 0, .int 0, .int 0, .ref mOp, .int 0, .ref mSt, .int 0, .ref mWo, .ref mSa, .int 0, .ref mWa, .int 0, .ref mFa, .ref mQu, .ref mIs, .int 0, .int 0, .long 0, .ref mIm, .ref mIx, .ref mMa]))]) [0] (by decide) rfl
  have hKc := hK.sub (tys' := []) [] rfl
  refine cl_V (W.runV (As := [.long 6382452]) (rest := []) ⟨hx, hb, hml, hown, hts⟩ (c_isWord l D ad H.size m0 mTa mSi mLe mCl mCs mRe mOp mSt mWo mSa mWa mFa mQu mIs mIm mIx mMa 0 6382452) ⟨callB_of 1 hts (gd_C qq_6_49) rfl rfl rfl (hT _ qq_1_9) (hT _ qq_6_46) (by decide +kernel) (rm_R rfl rfl), (hT _ qq_6_48), (hT _ qs_2_4)⟩ (pr_V hPc hKc hDc hN (ci := 10) (q0 := 0) rfl rfl) rfl rfl hl.1 rfl (lv_room (Nat.le_of_ble_eq_true rfl)) dX12_clauseHere_43 ⟨Nat.le_of_ble_eq_true rfl, Nat.le_of_ble_eq_true rfl⟩) ?_
  refine lv_if_ne (tgt := 56) hx hb dX12_clauseHere_46 (by decide) (fun c_3 => absurd (by decide) c_3) (fun _ => ?_)
  refine lv_aload_n hx hb dX12_clauseHere_49 rfl (lv_at hl 2 rfl) ?_
  refine lv_iconst (v := 0) hx hb dX12_clauseHere_50 (by decide) ?_
  refine lv_iload_n hx hb dX12_clauseHere_51 rfl (lv_at hl 1 rfl) ?_
  have hPc := hP.sub (ws' := [(m0, .inr (10, [.ref mTa, .int 0, .int 0, .ref mSi, .ref mLe, .ref mCl, .ref mCs, .ref mRe, .int 0, .int 0, .int 0, .int 0, .int 0, .int 0, .int 0, .ref mOp, .int 0, .ref mSt, .int 0, .ref mWo, .ref mSa, .int 0, .ref mWa, .int 0, .ref mFa, .ref mQu, .ref mIs, .int 0, .int 0, .long 0, .ref mIm, .ref mIx, .ref mMa]))]) [0] rfl
  have hDc := hD.sub (ws' := [(m0, .inr (10, [.ref mTa, .int 0, .int 0, .ref mSi, .ref mLe, .ref mCl, .ref mCs, .ref mRe, .int 0, .int 0, .int 0, .int 0, .int 0, .int 0, .int 0, .ref mOp, .int 0, .ref mSt, .int 0, .ref mWo, .ref mSa, .int 0, .ref mWa, .int 0, .ref mFa, .ref mQu, .ref mIs, .int 0, .int 0, .long 0, .ref mIm, .ref mIx, .ref mMa]))]) [0] (by decide) rfl
  have hKc := hK.sub (tys' := []) [] rfl
  have hFc := va_free (wc := [(m0, .inr (10, [.ref mTa, .int 0, .int 0, .ref mSi, .ref mLe, .ref mCl, .ref mCs, .ref mRe, .int 0, .int 0, .int 0, .int 0, .int 0, .int 0, .int 0, .ref mOp, .int 0, .ref mSt, .int 0, .ref mWo, .ref mSa, .int 0, .ref mWa, .int 0, .ref mFa, .ref mQu, .ref mIs, .int 0, .int 0, .long 0, .ref mIm, .ref mIx, .ref mMa]))]) hD hS hA [0] rfl
  refine va_calli (va_runV (As := [.int 0, .int 0]) (rest := []) ⟨hx, hb, hml, hown, hts⟩ (c_fails l D ad H.size m0 mTa mSi mLe mCl mCs mRe mOp mSt mWo mSa mWa mFa mQu mIs mIm mIx mMa 0) ⟨callB_of 2 hts (gd_C qq_6_70) rfl rfl rfl (hT _ qq_1_9) (hT _ qq_6_67) (by decide +kernel) (rm_R rfl rfl), (hT _ qq_6_69), (hT _ qs_2_6)⟩ (pr_V hPc hKc hDc hN (ci := 10) (q0 := 0) rfl rfl) rfl rfl hl.1 rfl (lv_room (Nat.le_of_ble_eq_true rfl)) dX12_clauseHere_52 ⟨Nat.le_of_ble_eq_true rfl, Nat.le_of_ble_eq_true rfl⟩) hS (fun q _ h => hFc q h) hFc (fun r_8 u_4 t_7 H1 locs ht9 hvm hw_5 hB_6 hz1 hk1 hS => ?_)
  obtain ⟨hP1, hK1, hD1⟩ := hB_6
  rw [ht9] at hP1
  have hK1 := va_K.moved hvm.symm hK1
  obtain ⟨hP, hD⟩ := va_join (wr := []) (w1 := [(m0, .inr (10, [.ref mTa, .int 0, .int 0, .ref mSi, .ref mLe, .ref mCl, .ref mCs, .ref mRe, .int 0, .int 1, .int 0, .int 0, .int 0, .int 0, .int 0, .ref mOp, .int 0, .ref mSt, .int 0, .ref mWo, .ref mSa, .int 0, .ref mWa, .int 0, .ref mFa, .ref mQu, .ref mIs, .int 0, .int 0, .long 0, .ref mIm, .ref mIx, .ref mMa]))]) hP hD [0] [] rfl rfl (by decide) (by decide) hk1 hFc hP1 hD1
  have hK := (hK.sub (tys' := []) [] rfl).app hK1
  have hK : va_K D vwCl [] s := hK
  generalize H1 = H at hP hS ⊢
  have hP : va_P D vwCl [(m0, .inr (10, [.ref mTa, .int 0, .int 0, .ref mSi, .ref mLe, .ref mCl, .ref mCs, .ref mRe, .int 0, .int 1, .int 0, .int 0, .int 0, .int 0, .int 0, .ref mOp, .int 0, .ref mSt, .int 0, .ref mWo, .ref mSa, .int 0, .ref mWa, .int 0, .ref mFa, .ref mQu, .ref mIs, .int 0, .int 0, .long 0, .ref mIm, .ref mIx, .ref mMa]))] H := hP
  have hD : va_D A [(m0, .inr (10, [.ref mTa, .int 0, .int 0, .ref mSi, .ref mLe, .ref mCl, .ref mCs, .ref mRe, .int 0, .int 1, .int 0, .int 0, .int 0, .int 0, .int 0, .ref mOp, .int 0, .ref mSt, .int 0, .ref mWo, .ref mSa, .int 0, .ref mWa, .int 0, .ref mFa, .ref mQu, .ref mIs, .int 0, .int 0, .long 0, .ref mIm, .ref mIx, .ref mMa]))] := hD
  refine tc_i 0 hw_5 ?_
  refine W.widen (k := 0) (n := 0) (Nat.le_of_ble_eq_true rfl) (Nat.le_of_ble_eq_true rfl) ?_
  have hP9 := hP.sub (ws' := [(m0, .inr (10, [.ref mTa, .int 0, .int 0, .ref mSi, .ref mLe, .ref mCl, .ref mCs, .ref mRe, .int 0, .int 1, .int 0, .int 0, .int 0, .int 0, .int 0, .ref mOp, .int 0, .ref mSt, .int 0, .ref mWo, .ref mSa, .int 0, .ref mWa, .int 0, .ref mFa, .ref mQu, .ref mIs, .int 0, .int 0, .long 0, .ref mIm, .ref mIx, .ref mMa]))]) [0] rfl
  have hD9 := hD.sub (ws' := [(m0, .inr (10, [.ref mTa, .int 0, .int 0, .ref mSi, .ref mLe, .ref mCl, .ref mCs, .ref mRe, .int 0, .int 1, .int 0, .int 0, .int 0, .int 0, .int 0, .ref mOp, .int 0, .ref mSt, .int 0, .ref mWo, .ref mSa, .int 0, .ref mWa, .int 0, .ref mFa, .ref mQu, .ref mIs, .int 0, .int 0, .long 0, .ref mIm, .ref mIx, .ref mMa]))]) [0] (by decide) rfl
  have hK9 := hK.sub (tys' := []) [] rfl
  exact W.zret (v := 0) (ty := .boolean) hx hb hr rfl (fun t9 ht9 hW9 => ⟨⟨_, (), rfl, rfl, ⟨by rw [ht9]; exact hP9, va_K.moved hW9.alike hK9, hD9⟩⟩, hS.F ht9⟩) hS.2.2 dX12_clauseHere_55
set_option maxHeartbeats 4000000 in
set_option maxRecDepth 100000 in
theorem c_readsAll_0 (l : Launch) (D : va_G) (ad : Nat → Nat) (sz : Nat) (m0 : Nat) (mTa : Nat) (mSi : Nat) (mLe : Nat) (mCl : Nat) (mCs : Nat) (mRe : Nat) (mOp : Nat) (mSt : Nat) (mWo : Nat) (mSa : Nat) (mWa : Nat) (mFa : Nat) (mQu : Nat) (mIs : Nat) (mIm : Nat) (mIx : Nat) (mMa : Nat) (kmLe : ClassId) (f : Nat → Int32)  : Met l yX12_readsAll (Cond.code yX12_readsAll cX12_readsAll 2 (some .boolean) :: TB) (RM 4 0 0) (va_Pc [.ref m0] (PRE D ad [(m0, .inr (10, [.ref mTa, .int 0, .int 0, .ref mSi, .ref mLe, .ref mCl, .ref mCs, .ref mRe, .int 0, .int 0, .int 0, .int 0, .int 0, .int 0, .int 0, .ref mOp, .int 0, .ref mSt, .int 0, .ref mWo, .ref mSa, .int 0, .ref mWa, .int 0, .ref mFa, .ref mQu, .ref mIs, .int 0, .int 0, .long 0, .ref mIm, .ref mIx, .ref mMa])), (mLe, .inl (kmLe, 7, .inl f))] [(kmLe, .int)] sz)) (va_Qi (S := Unit) (fun r _ => r = 0) (fun _ t => ∃ (g : Nat → Int32), va_P D vwCl [(m0, .inr (10, [.ref mTa, .int 0, .int 0, .ref mSi, .ref mLe, .ref mCl, .ref mCs, .ref mRe, .int 0, .int 1, .int 0, .int 0, .int 0, .int 0, .int 0, .ref mOp, .int 0, .ref mSt, .int 0, .ref mWo, .ref mSa, .int 0, .ref mWa, .int 0, .ref mFa, .ref mQu, .ref mIs, .int 0, .int 0, .long 0, .ref mIm, .ref mIx, .ref mMa])), (mLe, .inl (kmLe, 7, .inl g))] t.heap ∧ va_K D vwCl [(kmLe, .int)] t ∧ va_D (va_A [(m0, .inr (10, [.ref mTa, .int 0, .int 0, .ref mSi, .ref mLe, .ref mCl, .ref mCs, .ref mRe, .int 0, .int 0, .int 0, .int 0, .int 0, .int 0, .int 0, .ref mOp, .int 0, .ref mSt, .int 0, .ref mWo, .ref mSa, .int 0, .ref mWa, .int 0, .ref mFa, .ref mQu, .ref mIs, .int 0, .int 0, .long 0, .ref mIm, .ref mIx, .ref mMa])), (mLe, .inl (kmLe, 7, .inl f))] sz) [(m0, .inr (10, [.ref mTa, .int 0, .int 0, .ref mSi, .ref mLe, .ref mCl, .ref mCs, .ref mRe, .int 0, .int 1, .int 0, .int 0, .int 0, .int 0, .int 0, .ref mOp, .int 0, .ref mSt, .int 0, .ref mWo, .ref mSa, .int 0, .ref mWa, .int 0, .ref mFa, .ref mQu, .ref mIs, .int 0, .int 0, .long 0, .ref mIm, .ref mIx, .ref mMa])), (mLe, .inl (kmLe, 7, .inl g))]) (va_A [(m0, .inr (10, [.ref mTa, .int 0, .int 0, .ref mSi, .ref mLe, .ref mCl, .ref mCs, .ref mRe, .int 0, .int 0, .int 0, .int 0, .int 0, .int 0, .int 0, .ref mOp, .int 0, .ref mSt, .int 0, .ref mWo, .ref mSa, .int 0, .ref mWa, .int 0, .ref mFa, .ref mQu, .ref mIs, .int 0, .int 0, .long 0, .ref mIm, .ref mIx, .ref mMa])), (mLe, .inl (kmLe, 7, .inl f))] sz)) 0 0 (va_A [(m0, .inr (10, [.ref mTa, .int 0, .int 0, .ref mSi, .ref mLe, .ref mCl, .ref mCs, .ref mRe, .int 0, .int 0, .int 0, .int 0, .int 0, .int 0, .int 0, .ref mOp, .int 0, .ref mSt, .int 0, .ref mWo, .ref mSa, .int 0, .ref mWa, .int 0, .ref mFa, .ref mQu, .ref mIs, .int 0, .int 0, .long 0, .ref mIm, .ref mIx, .ref mMa])), (mLe, .inl (kmLe, 7, .inl f))] sz) := by
  refine MET (y := yX12_readsAll) (cc := cX12_readsAll) (maxL := 2) (ret := (some .boolean)) (d := 4) (mc := 0) (ms := 0) (D := D) (ad := ad) (ws := [(m0, .inr (10, [.ref mTa, .int 0, .int 0, .ref mSi, .ref mLe, .ref mCl, .ref mCs, .ref mRe, .int 0, .int 0, .int 0, .int 0, .int 0, .int 0, .int 0, .ref mOp, .int 0, .ref mSt, .int 0, .ref mWo, .ref mSa, .int 0, .ref mWa, .int 0, .ref mFa, .ref mQu, .ref mIs, .int 0, .int 0, .long 0, .ref mIm, .ref mIx, .ref mMa])), (mLe, .inl (kmLe, 7, .inl f))]) (tys := [(kmLe, .int)]) (sz := sz) (av := [.ref m0]) (Qc := fun A => va_Qi (S := Unit) (fun r _ => r = 0) (fun _ t => ∃ (g : Nat → Int32), va_P D vwCl [(m0, .inr (10, [.ref mTa, .int 0, .int 0, .ref mSi, .ref mLe, .ref mCl, .ref mCs, .ref mRe, .int 0, .int 1, .int 0, .int 0, .int 0, .int 0, .int 0, .ref mOp, .int 0, .ref mSt, .int 0, .ref mWo, .ref mSa, .int 0, .ref mWa, .int 0, .ref mFa, .ref mQu, .ref mIs, .int 0, .int 0, .long 0, .ref mIm, .ref mIx, .ref mMa])), (mLe, .inl (kmLe, 7, .inl g))] t.heap ∧ va_K D vwCl [(kmLe, .int)] t ∧ va_D A [(m0, .inr (10, [.ref mTa, .int 0, .int 0, .ref mSi, .ref mLe, .ref mCl, .ref mCs, .ref mRe, .int 0, .int 1, .int 0, .int 0, .int 0, .int 0, .int 0, .ref mOp, .int 0, .ref mSt, .int 0, .ref mWo, .ref mSa, .int 0, .ref mWa, .int 0, .ref mFa, .ref mQu, .ref mIs, .int 0, .int 0, .long 0, .ref mIm, .ref mIx, .ref mMa])), (mLe, .inl (kmLe, 7, .inl g))]) A) (fr := fun A => A) (by decide) (Nat.le_of_ble_eq_true rfl) ?_
  intro p e s m below meth c ls A H hHe hx hb hr hml hown hts hlocks hnm hP hK hD hA hS hN hl
  have hown : s.vm.findClass "WrongHoleModel" = some m.cls := hown
  have hT : ∀ w ∈ TB, w.before ([.ref m0] : List Value).toArray s = true := fun w h => hts w (List.mem_cons_of_mem _ h)
  have hl : lv_has ls 2 [(0, .ref m0)] := hl
  have hP : va_P D vwCl [(m0, .inr (10, [.ref mTa, .int 0, .int 0, .ref mSi, .ref mLe, .ref mCl, .ref mCs, .ref mRe, .int 0, .int 0, .int 0, .int 0, .int 0, .int 0, .int 0, .ref mOp, .int 0, .ref mSt, .int 0, .ref mWo, .ref mSa, .int 0, .ref mWa, .int 0, .ref mFa, .ref mQu, .ref mIs, .int 0, .int 0, .long 0, .ref mIm, .ref mIx, .ref mMa])), (mLe, .inl (kmLe, 7, .inl f))] H := hP
  refine lv_aload_n hx hb dX12_readsAll_0 rfl (lv_at hl 0 rfl) ?_
  refine va_get (D := D) (ci := 10) (v := .ref mLe) (C := "WrongHoleModel") (T := TX12) (N := 33) hx hb hts (iq_RX12 _) hown hK hP 0 rfl rfl 4 (by decide) (hT _ qq_5_156) (fun _ h9 => h9) rfl dX12_readsAll_1 ?_
  refine lv_aload_n hx hb dX12_readsAll_4 rfl (lv_at hl 0 rfl) ?_
  refine va_get (D := D) (ci := 10) (v := .int 0) (C := "WrongHoleModel") (T := TX12) (N := 33) hx hb hts (iq_RX12 _) hown hK hP 0 rfl rfl 11 (by decide) (hT _ qq_5_163) (fun _ h9 => h9) rfl dX12_readsAll_5 ?_
  refine lv_iconst (v := 0) hx hb dX12_readsAll_8 (by decide) ?_
  refine va_iast hx hb hK hP hD hS 1 0 rfl rfl (vi_c rfl) dX12_readsAll_9 (fun H locs hP hD hS => ?_)
  have hP : va_P D vwCl [(m0, .inr (10, [.ref mTa, .int 0, .int 0, .ref mSi, .ref mLe, .ref mCl, .ref mCs, .ref mRe, .int 0, .int 0, .int 0, .int 0, .int 0, .int 0, .int 0, .ref mOp, .int 0, .ref mSt, .int 0, .ref mWo, .ref mSa, .int 0, .ref mWa, .int 0, .ref mFa, .ref mQu, .ref mIs, .int 0, .int 0, .long 0, .ref mIm, .ref mIx, .ref mMa])), (mLe, .inl (kmLe, 7, .inl (upd f 0 0)))] H := hP
  have hD : va_D A [(m0, .inr (10, [.ref mTa, .int 0, .int 0, .ref mSi, .ref mLe, .ref mCl, .ref mCs, .ref mRe, .int 0, .int 0, .int 0, .int 0, .int 0, .int 0, .int 0, .ref mOp, .int 0, .ref mSt, .int 0, .ref mWo, .ref mSa, .int 0, .ref mWa, .int 0, .ref mFa, .ref mQu, .ref mIs, .int 0, .int 0, .long 0, .ref mIm, .ref mIx, .ref mMa])), (mLe, .inl (kmLe, 7, .inl (upd f 0 0)))] := hD
  generalize upd f 0 0 = g_1 at hP hD
  refine lv_aload_n hx hb dX12_readsAll_10 rfl (lv_at hl 0 rfl) ?_
  refine lv_iconst (v := 0) hx hb dX12_readsAll_11 (by decide) ?_
  refine va_put (D := D) (ci := 10) (v := .int 0) (ty := .int) (C := "WrongHoleModel") (T := TX12) (N := 33) hx hb hts (iq_RX12 _) tyX12 tyX12_ok nmX12 hown hK hP hD hS 0 rfl rfl 14 (by decide) (hT _ qq_5_166) (fun _ h9 => h9) rfl (by decide +kernel) rfl rfl (Nat.le_of_ble_eq_true rfl) dX12_readsAll_12 (fun H locs hP hD hS => ?_)
  have hP : va_P D vwCl [(m0, .inr (10, [.ref mTa, .int 0, .int 0, .ref mSi, .ref mLe, .ref mCl, .ref mCs, .ref mRe, .int 0, .int 0, .int 0, .int 0, .int 0, .int 0, .int 0, .ref mOp, .int 0, .ref mSt, .int 0, .ref mWo, .ref mSa, .int 0, .ref mWa, .int 0, .ref mFa, .ref mQu, .ref mIs, .int 0, .int 0, .long 0, .ref mIm, .ref mIx, .ref mMa])), (mLe, .inl (kmLe, 7, .inl g_1))] H := hP
  have hD : va_D A [(m0, .inr (10, [.ref mTa, .int 0, .int 0, .ref mSi, .ref mLe, .ref mCl, .ref mCs, .ref mRe, .int 0, .int 0, .int 0, .int 0, .int 0, .int 0, .int 0, .ref mOp, .int 0, .ref mSt, .int 0, .ref mWo, .ref mSa, .int 0, .ref mWa, .int 0, .ref mFa, .ref mQu, .ref mIs, .int 0, .int 0, .long 0, .ref mIm, .ref mIx, .ref mMa])), (mLe, .inl (kmLe, 7, .inl g_1))] := hD
  refine lv_aload_n hx hb dX12_readsAll_15 rfl (lv_at hl 0 rfl) ?_
  refine lv_iconst (v := 0) hx hb dX12_readsAll_16 (by decide) ?_
  refine va_put (D := D) (ci := 10) (v := .int 0) (ty := .int) (C := "WrongHoleModel") (T := TX12) (N := 33) hx hb hts (iq_RX12 _) tyX12 tyX12_ok nmX12 hown hK hP hD hS 0 rfl rfl 8 (by decide) (hT _ qq_5_160) (fun _ h9 => h9) rfl (by decide +kernel) rfl rfl (Nat.le_of_ble_eq_true rfl) dX12_readsAll_17 (fun H locs hP hD hS => ?_)
  have hP : va_P D vwCl [(m0, .inr (10, [.ref mTa, .int 0, .int 0, .ref mSi, .ref mLe, .ref mCl, .ref mCs, .ref mRe, .int 0, .int 0, .int 0, .int 0, .int 0, .int 0, .int 0, .ref mOp, .int 0, .ref mSt, .int 0, .ref mWo, .ref mSa, .int 0, .ref mWa, .int 0, .ref mFa, .ref mQu, .ref mIs, .int 0, .int 0, .long 0, .ref mIm, .ref mIx, .ref mMa])), (mLe, .inl (kmLe, 7, .inl g_1))] H := hP
  have hD : va_D A [(m0, .inr (10, [.ref mTa, .int 0, .int 0, .ref mSi, .ref mLe, .ref mCl, .ref mCs, .ref mRe, .int 0, .int 0, .int 0, .int 0, .int 0, .int 0, .int 0, .ref mOp, .int 0, .ref mSt, .int 0, .ref mWo, .ref mSa, .int 0, .ref mWa, .int 0, .ref mFa, .ref mQu, .ref mIs, .int 0, .int 0, .long 0, .ref mIm, .ref mIx, .ref mMa])), (mLe, .inl (kmLe, 7, .inl g_1))] := hD
  refine lv_aload_n hx hb dX12_readsAll_20 rfl (lv_at hl 0 rfl) ?_
  refine lv_iconst (v := 0) hx hb dX12_readsAll_21 (by decide) ?_
  refine va_put (D := D) (ci := 10) (v := .int 0) (ty := .int) (C := "WrongHoleModel") (T := TX12) (N := 33) hx hb hts (iq_RX12 _) tyX12 tyX12_ok nmX12 hown hK hP hD hS 0 rfl rfl 9 (by decide) (hT _ qq_5_161) (fun _ h9 => h9) rfl (by decide +kernel) rfl rfl (Nat.le_of_ble_eq_true rfl) dX12_readsAll_22 (fun H locs hP hD hS => ?_)
  have hP : va_P D vwCl [(m0, .inr (10, [.ref mTa, .int 0, .int 0, .ref mSi, .ref mLe, .ref mCl, .ref mCs, .ref mRe, .int 0, .int 0, .int 0, .int 0, .int 0, .int 0, .int 0, .ref mOp, .int 0, .ref mSt, .int 0, .ref mWo, .ref mSa, .int 0, .ref mWa, .int 0, .ref mFa, .ref mQu, .ref mIs, .int 0, .int 0, .long 0, .ref mIm, .ref mIx, .ref mMa])), (mLe, .inl (kmLe, 7, .inl g_1))] H := hP
  have hD : va_D A [(m0, .inr (10, [.ref mTa, .int 0, .int 0, .ref mSi, .ref mLe, .ref mCl, .ref mCs, .ref mRe, .int 0, .int 0, .int 0, .int 0, .int 0, .int 0, .int 0, .ref mOp, .int 0, .ref mSt, .int 0, .ref mWo, .ref mSa, .int 0, .ref mWa, .int 0, .ref mFa, .ref mQu, .ref mIs, .int 0, .int 0, .long 0, .ref mIm, .ref mIx, .ref mMa])), (mLe, .inl (kmLe, 7, .inl g_1))] := hD
  refine lv_aload_n hx hb dX12_readsAll_25 rfl (lv_at hl 0 rfl) ?_
  refine lv_iconst (v := 0) hx hb dX12_readsAll_26 (by decide) ?_
  refine va_put (D := D) (ci := 10) (v := .int 0) (ty := .int) (C := "WrongHoleModel") (T := TX12) (N := 33) hx hb hts (iq_RX12 _) tyX12 tyX12_ok nmX12 hown hK hP hD hS 0 rfl rfl 12 (by decide) (hT _ qq_5_164) (fun _ h9 => h9) rfl (by decide +kernel) rfl rfl (Nat.le_of_ble_eq_true rfl) dX12_readsAll_27 (fun H locs hP hD hS => ?_)
  have hP : va_P D vwCl [(m0, .inr (10, [.ref mTa, .int 0, .int 0, .ref mSi, .ref mLe, .ref mCl, .ref mCs, .ref mRe, .int 0, .int 0, .int 0, .int 0, .int 0, .int 0, .int 0, .ref mOp, .int 0, .ref mSt, .int 0, .ref mWo, .ref mSa, .int 0, .ref mWa, .int 0, .ref mFa, .ref mQu, .ref mIs, .int 0, .int 0, .long 0, .ref mIm, .ref mIx, .ref mMa])), (mLe, .inl (kmLe, 7, .inl g_1))] H := hP
  have hD : va_D A [(m0, .inr (10, [.ref mTa, .int 0, .int 0, .ref mSi, .ref mLe, .ref mCl, .ref mCs, .ref mRe, .int 0, .int 0, .int 0, .int 0, .int 0, .int 0, .int 0, .ref mOp, .int 0, .ref mSt, .int 0, .ref mWo, .ref mSa, .int 0, .ref mWa, .int 0, .ref mFa, .ref mQu, .ref mIs, .int 0, .int 0, .long 0, .ref mIm, .ref mIx, .ref mMa])), (mLe, .inl (kmLe, 7, .inl g_1))] := hD
  refine lv_aload_n hx hb dX12_readsAll_30 rfl (lv_at hl 0 rfl) ?_
  have hPc := hP.sub (ws' := [(m0, .inr (10, [.ref mTa, .int 0, .int 0, .ref mSi, .ref mLe, .ref mCl, .ref mCs, .ref mRe, .int 0, .int 0, .int 0, .int 0, .int 0, .int 0, .int 0, .ref mOp, .int 0, .ref mSt, .int 0, .ref mWo, .ref mSa, .int 0, .ref mWa, .int 0, .ref mFa, .ref mQu, .ref mIs, .int 0, .int 0, .long 0, .ref mIm, .ref mIx, .ref mMa]))]) [0] rfl
  have hDc := hD.sub (ws' := [(m0, .inr (10, [.ref mTa, .int 0, .int 0, .ref mSi, .ref mLe, .ref mCl, .ref mCs, .ref mRe, .int 0, .int 0, .int 0, .int 0, .int 0, .int 0, .int 0, .ref mOp, .int 0, .ref mSt, .int 0, .ref mWo, .ref mSa, .int 0, .ref mWa, .int 0, .ref mFa, .ref mQu, .ref mIs, .int 0, .int 0, .long 0, .ref mIm, .ref mIx, .ref mMa]))]) [0] (by decide) rfl
  have hKc := hK.sub (tys' := []) [] rfl
  have hFc := va_free (wc := [(m0, .inr (10, [.ref mTa, .int 0, .int 0, .ref mSi, .ref mLe, .ref mCl, .ref mCs, .ref mRe, .int 0, .int 0, .int 0, .int 0, .int 0, .int 0, .int 0, .ref mOp, .int 0, .ref mSt, .int 0, .ref mWo, .ref mSa, .int 0, .ref mWa, .int 0, .ref mFa, .ref mQu, .ref mIs, .int 0, .int 0, .long 0, .ref mIm, .ref mIx, .ref mMa]))]) hD hS hA [0] rfl
  refine va_calli (va_runV (As := []) (rest := []) ⟨hx, hb, hml, hown, hts⟩ (c_clauseHere_0 l D ad H.size m0 mTa mSi mLe mCl mCs mRe mOp mSt mWo mSa mWa mFa mQu mIs mIm mIx mMa) ⟨callB_of 0 hts (gd_C qq_6_36) rfl rfl rfl (hT _ qq_1_9) (hT _ qq_6_33) (by decide +kernel) (rm_R rfl rfl), (hT _ qq_6_35), (hT _ qs_2_1)⟩ (pr_V hPc hKc hDc hN (ci := 10) (q0 := 0) rfl rfl) rfl rfl hl.1 rfl (lv_room (Nat.le_of_ble_eq_true rfl)) dX12_readsAll_31 ⟨Nat.le_of_ble_eq_true rfl, Nat.le_of_ble_eq_true rfl⟩) hS (fun q _ h => hFc q h) hFc (fun r_7 u_3 t_6 H1 locs ht9 hvm hw_4 hB_5 hz1 hk1 hS => ?_)
  obtain ⟨hP1, hK1, hD1⟩ := hB_5
  rw [ht9] at hP1
  have hK1 := va_K.moved hvm.symm hK1
  obtain ⟨hP, hD⟩ := va_join (wr := [(mLe, .inl (kmLe, 7, .inl g_1))]) (w1 := [(m0, .inr (10, [.ref mTa, .int 0, .int 0, .ref mSi, .ref mLe, .ref mCl, .ref mCs, .ref mRe, .int 0, .int 1, .int 0, .int 0, .int 0, .int 0, .int 0, .ref mOp, .int 0, .ref mSt, .int 0, .ref mWo, .ref mSa, .int 0, .ref mWa, .int 0, .ref mFa, .ref mQu, .ref mIs, .int 0, .int 0, .long 0, .ref mIm, .ref mIx, .ref mMa]))]) hP hD [0] [1] rfl rfl (by decide) (by decide) hk1 hFc hP1 hD1
  have hK := (hK.sub (tys' := [(kmLe, .int)]) [0] rfl).app hK1
  have hK : va_K D vwCl [(kmLe, .int)] s := hK
  generalize H1 = H at hP hS ⊢
  have hP : va_P D vwCl [(mLe, .inl (kmLe, 7, .inl g_1)), (m0, .inr (10, [.ref mTa, .int 0, .int 0, .ref mSi, .ref mLe, .ref mCl, .ref mCs, .ref mRe, .int 0, .int 1, .int 0, .int 0, .int 0, .int 0, .int 0, .ref mOp, .int 0, .ref mSt, .int 0, .ref mWo, .ref mSa, .int 0, .ref mWa, .int 0, .ref mFa, .ref mQu, .ref mIs, .int 0, .int 0, .long 0, .ref mIm, .ref mIx, .ref mMa]))] H := hP
  have hD : va_D A [(mLe, .inl (kmLe, 7, .inl g_1)), (m0, .inr (10, [.ref mTa, .int 0, .int 0, .ref mSi, .ref mLe, .ref mCl, .ref mCs, .ref mRe, .int 0, .int 1, .int 0, .int 0, .int 0, .int 0, .int 0, .ref mOp, .int 0, .ref mSt, .int 0, .ref mWo, .ref mSa, .int 0, .ref mWa, .int 0, .ref mFa, .ref mQu, .ref mIs, .int 0, .int 0, .long 0, .ref mIm, .ref mIx, .ref mMa]))] := hD
  refine tc_i 0 hw_4 ?_
  refine lv_istore_n (lv' := [(1, .int 0), (0, .ref m0)]) hx hb dX12_readsAll_34 rfl hl (by decide) rfl (fun ls hl => ?_)
  refine lv_iload_n hx hb dX12_readsAll_35 rfl (lv_at hl 0 rfl) ?_
  refine lv_if_eq (tgt := 66) hx hb dX12_readsAll_36 (by decide) (fun _ => ?_) (fun c_8 => absurd (by decide) c_8)
  refine lv_iload_n hx hb dX12_readsAll_66 rfl (lv_at hl 0 rfl) ?_
  refine lv_if_eq (tgt := 88) hx hb dX12_readsAll_67 (by decide) (fun _ => ?_) (fun c_9 => absurd (by decide) c_9)
  refine lv_aload_n hx hb dX12_readsAll_88 rfl (lv_at hl 1 rfl) ?_
  refine lv_iconst (v := 0) hx hb dX12_readsAll_89 (by decide) ?_
  refine va_put (D := D) (ci := 10) (v := .int 0) (ty := .int) (C := "WrongHoleModel") (T := TX12) (N := 33) hx hb hts (iq_RX12 _) tyX12 tyX12_ok nmX12 hown hK hP hD hS 1 rfl rfl 1 (by decide) (hT _ qq_5_153) (fun _ h9 => h9) rfl (by decide +kernel) rfl rfl (Nat.le_of_ble_eq_true rfl) dX12_readsAll_90 (fun H locs hP hD hS => ?_)
  have hP : va_P D vwCl [(mLe, .inl (kmLe, 7, .inl g_1)), (m0, .inr (10, [.ref mTa, .int 0, .int 0, .ref mSi, .ref mLe, .ref mCl, .ref mCs, .ref mRe, .int 0, .int 1, .int 0, .int 0, .int 0, .int 0, .int 0, .ref mOp, .int 0, .ref mSt, .int 0, .ref mWo, .ref mSa, .int 0, .ref mWa, .int 0, .ref mFa, .ref mQu, .ref mIs, .int 0, .int 0, .long 0, .ref mIm, .ref mIx, .ref mMa]))] H := hP
  have hD : va_D A [(mLe, .inl (kmLe, 7, .inl g_1)), (m0, .inr (10, [.ref mTa, .int 0, .int 0, .ref mSi, .ref mLe, .ref mCl, .ref mCs, .ref mRe, .int 0, .int 1, .int 0, .int 0, .int 0, .int 0, .int 0, .ref mOp, .int 0, .ref mSt, .int 0, .ref mWo, .ref mSa, .int 0, .ref mWa, .int 0, .ref mFa, .ref mQu, .ref mIs, .int 0, .int 0, .long 0, .ref mIm, .ref mIx, .ref mMa]))] := hD
  refine lv_aload_n hx hb dX12_readsAll_93 rfl (lv_at hl 1 rfl) ?_
  refine va_get (D := D) (ci := 10) (v := .int 1) (C := "WrongHoleModel") (T := TX12) (N := 33) hx hb hts (iq_RX12 _) hown hK hP 1 rfl rfl 9 (by decide) (hT _ qq_5_161) (fun _ h9 => h9) rfl dX12_readsAll_94 ?_
  refine lv_if_ne (tgt := 104) hx hb dX12_readsAll_97 (by decide) (fun _ => ?_) (fun c_10 => absurd c_10 (by decide))
  refine lv_iconst (v := 0) hx hb dX12_readsAll_104 (by decide) ?_
  refine W.widen (k := 0) (n := 0) (Nat.le_of_ble_eq_true rfl) (Nat.le_of_ble_eq_true rfl) ?_
  have hP9 := hP.sub (ws' := [(m0, .inr (10, [.ref mTa, .int 0, .int 0, .ref mSi, .ref mLe, .ref mCl, .ref mCs, .ref mRe, .int 0, .int 1, .int 0, .int 0, .int 0, .int 0, .int 0, .ref mOp, .int 0, .ref mSt, .int 0, .ref mWo, .ref mSa, .int 0, .ref mWa, .int 0, .ref mFa, .ref mQu, .ref mIs, .int 0, .int 0, .long 0, .ref mIm, .ref mIx, .ref mMa])), (mLe, .inl (kmLe, 7, .inl g_1))]) [1, 0] rfl
  have hD9 := hD.sub (ws' := [(m0, .inr (10, [.ref mTa, .int 0, .int 0, .ref mSi, .ref mLe, .ref mCl, .ref mCs, .ref mRe, .int 0, .int 1, .int 0, .int 0, .int 0, .int 0, .int 0, .ref mOp, .int 0, .ref mSt, .int 0, .ref mWo, .ref mSa, .int 0, .ref mWa, .int 0, .ref mFa, .ref mQu, .ref mIs, .int 0, .int 0, .long 0, .ref mIm, .ref mIx, .ref mMa])), (mLe, .inl (kmLe, 7, .inl g_1))]) [1, 0] (by decide) rfl
  have hK9 := hK.sub (tys' := [(kmLe, .int)]) [0] rfl
  exact W.zret (v := 0) (ty := .boolean) hx hb hr rfl (fun t9 ht9 hW9 => ⟨⟨_, (), rfl, rfl, ⟨g_1, by rw [ht9]; exact hP9, va_K.moved hW9.alike hK9, hD9⟩⟩, hS.F ht9⟩) hS.2.2 dX12_readsAll_105
theorem dX12_lift_0 : decode cX12_lift 0 = .ok (.aload_n 0, 1) := by decide +kernel
theorem dX12_lift_1 : decode cX12_lift 1 = .ok (.bipush 6, 2) := by decide +kernel
theorem dX12_lift_3 : decode cX12_lift 3 = .ok (.putfield 132, 3) := by decide +kernel
theorem dX12_lift_6 : decode cX12_lift 6 = .ok (.iconst 0, 1) := by decide +kernel
theorem dX12_lift_7 : decode cX12_lift 7 = .ok (.istore_n 1, 1) := by decide +kernel
theorem dX12_lift_8 : decode cX12_lift 8 = .ok (.iload_n 1, 1) := by decide +kernel
theorem dX12_lift_9 : decode cX12_lift 9 = .ok (.bipush 10, 2) := by decide +kernel
theorem dX12_lift_11 : decode cX12_lift 11 = .ok (.if_icmp .ge 16, 3) := by decide +kernel
theorem dX12_lift_14 : decode cX12_lift 14 = .ok (.aload_n 0, 1) := by decide +kernel
theorem dX12_lift_15 : decode cX12_lift 15 = .ok (.getfield 26, 3) := by decide +kernel
theorem qq_5_159 : Cond.fieldLink "WrongHoleModel" 26 "WrongHoleModel" "read" "[I" ∈ TB := mk_tb (ti_5 (List.mem_of_getElem? (i := 159) rfl)) rfl
theorem dX12_lift_18 : decode cX12_lift 18 = .ok (.iload_n 1, 1) := by decide +kernel
theorem dX12_lift_19 : decode cX12_lift 19 = .ok (.iconst 0, 1) := by decide +kernel
theorem dX12_lift_20 : decode cX12_lift 20 = .ok (.iastore, 1) := by decide +kernel
theorem dX12_lift_21 : decode cX12_lift 21 = .ok (.iinc 1 1, 3) := by decide +kernel
theorem dX12_lift_24 : decode cX12_lift 24 = .ok (.goto (-16), 3) := by decide +kernel
theorem dX12_lift_27 : decode cX12_lift 27 = .ok (.aload_n 0, 1) := by decide +kernel
theorem dX12_lift_28 : decode cX12_lift 28 = .ok (.invokevirtual 298, 3) := by decide +kernel
theorem qq_6_32 : Cond.code yX12_readsAll cX12_readsAll 2 (some .boolean) ∈ TB := mk_tb (ti_6 (List.mem_of_getElem? (i := 32) rfl)) rfl
theorem qq_6_29 : Cond.methodLink "WrongHoleModel" 298 yX12_readsAll ∈ TB := mk_tb (ti_6 (List.mem_of_getElem? (i := 29) rfl)) rfl
theorem qq_6_31 : Cond.instanceMethod yX12_readsAll ∈ TB := mk_tb (ti_6 (List.mem_of_getElem? (i := 31) rfl)) rfl
theorem qs_2_0 : Cond.selects "WrongHoleModel" yX12_readsAll yX12_readsAll ∈ TB := mk_tb (ti_s (q := (yX12_readsAll, 33)) (List.mem_append_right _ (List.mem_append_right _ (List.mem_append_left _ (List.mem_of_getElem? (i := 0) rfl))))) rfl
theorem dX12_lift_31 : decode cX12_lift 31 = .ok (.ifCond .ne 11, 3) := by decide +kernel
theorem dX12_lift_34 : decode cX12_lift 34 = .ok (.bipush (-2), 2) := by decide +kernel
theorem dX12_lift_36 : decode cX12_lift 36 = .ok (.aload_n 0, 1) := by decide +kernel
theorem dX12_lift_37 : decode cX12_lift 37 = .ok (.getfield 73, 3) := by decide +kernel
theorem dX12_lift_40 : decode cX12_lift 40 = .ok (.isub, 1) := by decide +kernel
theorem dX12_lift_41 : decode cX12_lift 41 = .ok (.ireturn, 1) := by decide +kernel
set_option maxHeartbeats 4000000 in
set_option maxRecDepth 100000 in
theorem c_m_lift (l : Launch) (D : va_G) (ad : Nat → Nat) (sz : Nat) (m0 : Nat) (mTa : Nat) (mSi : Nat) (mLe : Nat) (mCl : Nat) (mCs : Nat) (mRe : Nat) (mOp : Nat) (mSt : Nat) (mWo : Nat) (mSa : Nat) (mWa : Nat) (mFa : Nat) (mQu : Nat) (mIs : Nat) (mIm : Nat) (mIx : Nat) (mMa : Nat) (kmLe : ClassId) (f : Nat → Int32) (kmRe : ClassId) (f2 : Nat → Int32)  : Met l yX12_lift (Cond.code yX12_lift cX12_lift 2 (some .int) :: TB) (RM 5 0 0) (va_Pc [.ref m0] (PRE D ad [(m0, .inr (10, [.ref mTa, .int 0, .int 0, .ref mSi, .ref mLe, .ref mCl, .ref mCs, .ref mRe, .int 0, .int 0, .int 0, .int 0, .int 0, .int 0, .int 0, .ref mOp, .int 0, .ref mSt, .int 0, .ref mWo, .ref mSa, .int 0, .ref mWa, .int 0, .ref mFa, .ref mQu, .ref mIs, .int 0, .int 0, .long 0, .ref mIm, .ref mIx, .ref mMa])), (mLe, .inl (kmLe, 7, .inl f)), (mRe, .inl (kmRe, 92, .inl f2))] [(kmLe, .int), (kmRe, .int)] sz)) (va_Qi (S := Unit) (fun r _ => r = (-3)) (fun _ t => True) (va_A [(m0, .inr (10, [.ref mTa, .int 0, .int 0, .ref mSi, .ref mLe, .ref mCl, .ref mCs, .ref mRe, .int 0, .int 0, .int 0, .int 0, .int 0, .int 0, .int 0, .ref mOp, .int 0, .ref mSt, .int 0, .ref mWo, .ref mSa, .int 0, .ref mWa, .int 0, .ref mFa, .ref mQu, .ref mIs, .int 0, .int 0, .long 0, .ref mIm, .ref mIx, .ref mMa])), (mLe, .inl (kmLe, 7, .inl f)), (mRe, .inl (kmRe, 92, .inl f2))] sz)) 0 0 (va_A [(m0, .inr (10, [.ref mTa, .int 0, .int 0, .ref mSi, .ref mLe, .ref mCl, .ref mCs, .ref mRe, .int 0, .int 0, .int 0, .int 0, .int 0, .int 0, .int 0, .ref mOp, .int 0, .ref mSt, .int 0, .ref mWo, .ref mSa, .int 0, .ref mWa, .int 0, .ref mFa, .ref mQu, .ref mIs, .int 0, .int 0, .long 0, .ref mIm, .ref mIx, .ref mMa])), (mLe, .inl (kmLe, 7, .inl f)), (mRe, .inl (kmRe, 92, .inl f2))] sz) := by
  refine MET (y := yX12_lift) (cc := cX12_lift) (maxL := 2) (ret := (some .int)) (d := 5) (mc := 0) (ms := 0) (D := D) (ad := ad) (ws := [(m0, .inr (10, [.ref mTa, .int 0, .int 0, .ref mSi, .ref mLe, .ref mCl, .ref mCs, .ref mRe, .int 0, .int 0, .int 0, .int 0, .int 0, .int 0, .int 0, .ref mOp, .int 0, .ref mSt, .int 0, .ref mWo, .ref mSa, .int 0, .ref mWa, .int 0, .ref mFa, .ref mQu, .ref mIs, .int 0, .int 0, .long 0, .ref mIm, .ref mIx, .ref mMa])), (mLe, .inl (kmLe, 7, .inl f)), (mRe, .inl (kmRe, 92, .inl f2))]) (tys := [(kmLe, .int), (kmRe, .int)]) (sz := sz) (av := [.ref m0]) (Qc := fun A => va_Qi (S := Unit) (fun r _ => r = (-3)) (fun _ t => True) A) (fr := fun A => A) (by decide) (Nat.le_of_ble_eq_true rfl) ?_
  intro p e s m below meth c ls A H hHe hx hb hr hml hown hts hlocks hnm hP hK hD hA hS hN hl
  have hown : s.vm.findClass "WrongHoleModel" = some m.cls := hown
  have hT : ∀ w ∈ TB, w.before ([.ref m0] : List Value).toArray s = true := fun w h => hts w (List.mem_cons_of_mem _ h)
  have hl : lv_has ls 2 [(0, .ref m0)] := hl
  have hP : va_P D vwCl [(m0, .inr (10, [.ref mTa, .int 0, .int 0, .ref mSi, .ref mLe, .ref mCl, .ref mCs, .ref mRe, .int 0, .int 0, .int 0, .int 0, .int 0, .int 0, .int 0, .ref mOp, .int 0, .ref mSt, .int 0, .ref mWo, .ref mSa, .int 0, .ref mWa, .int 0, .ref mFa, .ref mQu, .ref mIs, .int 0, .int 0, .long 0, .ref mIm, .ref mIx, .ref mMa])), (mLe, .inl (kmLe, 7, .inl f)), (mRe, .inl (kmRe, 92, .inl f2))] H := hP
  refine lv_aload_n hx hb dX12_lift_0 rfl (lv_at hl 0 rfl) ?_
  refine lv_bipush (v := 6) hx hb dX12_lift_1 (by decide) ?_
  refine va_put (D := D) (ci := 10) (v := .int 6) (ty := .int) (C := "WrongHoleModel") (T := TX12) (N := 33) hx hb hts (iq_RX12 _) tyX12 tyX12_ok nmX12 hown hK hP hD hS 0 rfl rfl 11 (by decide) (hT _ qq_5_163) (fun _ h9 => h9) rfl (by decide +kernel) rfl rfl (Nat.le_of_ble_eq_true rfl) dX12_lift_3 (fun H locs hP hD hS => ?_)
  have hP : va_P D vwCl [(m0, .inr (10, [.ref mTa, .int 0, .int 0, .ref mSi, .ref mLe, .ref mCl, .ref mCs, .ref mRe, .int 0, .int 0, .int 0, .int 6, .int 0, .int 0, .int 0, .ref mOp, .int 0, .ref mSt, .int 0, .ref mWo, .ref mSa, .int 0, .ref mWa, .int 0, .ref mFa, .ref mQu, .ref mIs, .int 0, .int 0, .long 0, .ref mIm, .ref mIx, .ref mMa])), (mLe, .inl (kmLe, 7, .inl f)), (mRe, .inl (kmRe, 92, .inl f2))] H := hP
  have hD : va_D A [(m0, .inr (10, [.ref mTa, .int 0, .int 0, .ref mSi, .ref mLe, .ref mCl, .ref mCs, .ref mRe, .int 0, .int 0, .int 0, .int 6, .int 0, .int 0, .int 0, .ref mOp, .int 0, .ref mSt, .int 0, .ref mWo, .ref mSa, .int 0, .ref mWa, .int 0, .ref mFa, .ref mQu, .ref mIs, .int 0, .int 0, .long 0, .ref mIm, .ref mIx, .ref mMa])), (mLe, .inl (kmLe, 7, .inl f)), (mRe, .inl (kmRe, 92, .inl f2))] := hD
  refine lv_iconst (v := 0) hx hb dX12_lift_6 (by decide) ?_
  refine lv_istore_n (lv' := [(1, .int 0), (0, .ref m0)]) hx hb dX12_lift_7 rfl hl (by decide) rfl (fun ls hl => ?_)
  refine lv_iload_n hx hb dX12_lift_8 rfl (lv_at hl 0 rfl) ?_
  refine lv_bipush (v := 10) hx hb dX12_lift_9 (by decide) ?_
  refine lv_icmp_ge (tgt := 27) hx hb dX12_lift_11 (by decide) (fun c_1 => absurd c_1 (by decide)) (fun _ => ?_)
  refine lv_aload_n hx hb dX12_lift_14 rfl (lv_at hl 1 rfl) ?_
  refine va_get (D := D) (ci := 10) (v := .ref mRe) (C := "WrongHoleModel") (T := TX12) (N := 33) hx hb hts (iq_RX12 _) hown hK hP 0 rfl rfl 7 (by decide) (hT _ qq_5_159) (fun _ h9 => h9) rfl dX12_lift_15 ?_
  refine lv_iload_n hx hb dX12_lift_18 rfl (lv_at hl 0 rfl) ?_
  refine lv_iconst (v := 0) hx hb dX12_lift_19 (by decide) ?_
  refine va_iast hx hb hK hP hD hS 2 1 rfl rfl (vi_c rfl) dX12_lift_20 (fun H locs hP hD hS => ?_)
  have hP : va_P D vwCl [(m0, .inr (10, [.ref mTa, .int 0, .int 0, .ref mSi, .ref mLe, .ref mCl, .ref mCs, .ref mRe, .int 0, .int 0, .int 0, .int 6, .int 0, .int 0, .int 0, .ref mOp, .int 0, .ref mSt, .int 0, .ref mWo, .ref mSa, .int 0, .ref mWa, .int 0, .ref mFa, .ref mQu, .ref mIs, .int 0, .int 0, .long 0, .ref mIm, .ref mIx, .ref mMa])), (mLe, .inl (kmLe, 7, .inl f)), (mRe, .inl (kmRe, 92, .inl (upd f2 0 0)))] H := hP
  have hD : va_D A [(m0, .inr (10, [.ref mTa, .int 0, .int 0, .ref mSi, .ref mLe, .ref mCl, .ref mCs, .ref mRe, .int 0, .int 0, .int 0, .int 6, .int 0, .int 0, .int 0, .ref mOp, .int 0, .ref mSt, .int 0, .ref mWo, .ref mSa, .int 0, .ref mWa, .int 0, .ref mFa, .ref mQu, .ref mIs, .int 0, .int 0, .long 0, .ref mIm, .ref mIx, .ref mMa])), (mLe, .inl (kmLe, 7, .inl f)), (mRe, .inl (kmRe, 92, .inl (upd f2 0 0)))] := hD
  generalize upd f2 0 0 = g_2 at hP hD
  refine lv_iinc (v := 1) (lv' := [(1, .int 1), (0, .ref m0)]) hx hb dX12_lift_21 hl (k := 0) rfl (by decide) (by decide) rfl (fun ls hl => ?_)
  refine lv_goto (tgt := 8) hx hb dX12_lift_24 (by decide) ?_
  refine lv_iload_n hx hb dX12_lift_8 rfl (lv_at hl 0 rfl) ?_
  refine lv_bipush (v := 10) hx hb dX12_lift_9 (by decide) ?_
  refine lv_icmp_ge (tgt := 27) hx hb dX12_lift_11 (by decide) (fun c_4 => absurd c_4 (by decide)) (fun _ => ?_)
  refine lv_aload_n hx hb dX12_lift_14 rfl (lv_at hl 1 rfl) ?_
  refine va_get (D := D) (ci := 10) (v := .ref mRe) (C := "WrongHoleModel") (T := TX12) (N := 33) hx hb hts (iq_RX12 _) hown hK hP 0 rfl rfl 7 (by decide) (hT _ qq_5_159) (fun _ h9 => h9) rfl dX12_lift_15 ?_
  refine lv_iload_n hx hb dX12_lift_18 rfl (lv_at hl 0 rfl) ?_
  refine lv_iconst (v := 0) hx hb dX12_lift_19 (by decide) ?_
  refine va_iast hx hb hK hP hD hS 2 1 rfl rfl (vi_c rfl) dX12_lift_20 (fun H locs hP hD hS => ?_)
  have hP : va_P D vwCl [(m0, .inr (10, [.ref mTa, .int 0, .int 0, .ref mSi, .ref mLe, .ref mCl, .ref mCs, .ref mRe, .int 0, .int 0, .int 0, .int 6, .int 0, .int 0, .int 0, .ref mOp, .int 0, .ref mSt, .int 0, .ref mWo, .ref mSa, .int 0, .ref mWa, .int 0, .ref mFa, .ref mQu, .ref mIs, .int 0, .int 0, .long 0, .ref mIm, .ref mIx, .ref mMa])), (mLe, .inl (kmLe, 7, .inl f)), (mRe, .inl (kmRe, 92, .inl (upd g_2 1 0)))] H := hP
  have hD : va_D A [(m0, .inr (10, [.ref mTa, .int 0, .int 0, .ref mSi, .ref mLe, .ref mCl, .ref mCs, .ref mRe, .int 0, .int 0, .int 0, .int 6, .int 0, .int 0, .int 0, .ref mOp, .int 0, .ref mSt, .int 0, .ref mWo, .ref mSa, .int 0, .ref mWa, .int 0, .ref mFa, .ref mQu, .ref mIs, .int 0, .int 0, .long 0, .ref mIm, .ref mIx, .ref mMa])), (mLe, .inl (kmLe, 7, .inl f)), (mRe, .inl (kmRe, 92, .inl (upd g_2 1 0)))] := hD
  generalize upd g_2 1 0 = g_5 at hP hD
  refine lv_iinc (v := 2) (lv' := [(1, .int 2), (0, .ref m0)]) hx hb dX12_lift_21 hl (k := 0) rfl (by decide) (by decide) rfl (fun ls hl => ?_)
  refine lv_goto (tgt := 8) hx hb dX12_lift_24 (by decide) ?_
  refine lv_iload_n hx hb dX12_lift_8 rfl (lv_at hl 0 rfl) ?_
  refine lv_bipush (v := 10) hx hb dX12_lift_9 (by decide) ?_
  refine lv_icmp_ge (tgt := 27) hx hb dX12_lift_11 (by decide) (fun c_7 => absurd c_7 (by decide)) (fun _ => ?_)
  refine lv_aload_n hx hb dX12_lift_14 rfl (lv_at hl 1 rfl) ?_
  refine va_get (D := D) (ci := 10) (v := .ref mRe) (C := "WrongHoleModel") (T := TX12) (N := 33) hx hb hts (iq_RX12 _) hown hK hP 0 rfl rfl 7 (by decide) (hT _ qq_5_159) (fun _ h9 => h9) rfl dX12_lift_15 ?_
  refine lv_iload_n hx hb dX12_lift_18 rfl (lv_at hl 0 rfl) ?_
  refine lv_iconst (v := 0) hx hb dX12_lift_19 (by decide) ?_
  refine va_iast hx hb hK hP hD hS 2 1 rfl rfl (vi_c rfl) dX12_lift_20 (fun H locs hP hD hS => ?_)
  have hP : va_P D vwCl [(m0, .inr (10, [.ref mTa, .int 0, .int 0, .ref mSi, .ref mLe, .ref mCl, .ref mCs, .ref mRe, .int 0, .int 0, .int 0, .int 6, .int 0, .int 0, .int 0, .ref mOp, .int 0, .ref mSt, .int 0, .ref mWo, .ref mSa, .int 0, .ref mWa, .int 0, .ref mFa, .ref mQu, .ref mIs, .int 0, .int 0, .long 0, .ref mIm, .ref mIx, .ref mMa])), (mLe, .inl (kmLe, 7, .inl f)), (mRe, .inl (kmRe, 92, .inl (upd g_5 2 0)))] H := hP
  have hD : va_D A [(m0, .inr (10, [.ref mTa, .int 0, .int 0, .ref mSi, .ref mLe, .ref mCl, .ref mCs, .ref mRe, .int 0, .int 0, .int 0, .int 6, .int 0, .int 0, .int 0, .ref mOp, .int 0, .ref mSt, .int 0, .ref mWo, .ref mSa, .int 0, .ref mWa, .int 0, .ref mFa, .ref mQu, .ref mIs, .int 0, .int 0, .long 0, .ref mIm, .ref mIx, .ref mMa])), (mLe, .inl (kmLe, 7, .inl f)), (mRe, .inl (kmRe, 92, .inl (upd g_5 2 0)))] := hD
  generalize upd g_5 2 0 = g_8 at hP hD
  refine lv_iinc (v := 3) (lv' := [(1, .int 3), (0, .ref m0)]) hx hb dX12_lift_21 hl (k := 0) rfl (by decide) (by decide) rfl (fun ls hl => ?_)
  refine lv_goto (tgt := 8) hx hb dX12_lift_24 (by decide) ?_
  refine lv_iload_n hx hb dX12_lift_8 rfl (lv_at hl 0 rfl) ?_
  refine lv_bipush (v := 10) hx hb dX12_lift_9 (by decide) ?_
  refine lv_icmp_ge (tgt := 27) hx hb dX12_lift_11 (by decide) (fun c_10 => absurd c_10 (by decide)) (fun _ => ?_)
  refine lv_aload_n hx hb dX12_lift_14 rfl (lv_at hl 1 rfl) ?_
  refine va_get (D := D) (ci := 10) (v := .ref mRe) (C := "WrongHoleModel") (T := TX12) (N := 33) hx hb hts (iq_RX12 _) hown hK hP 0 rfl rfl 7 (by decide) (hT _ qq_5_159) (fun _ h9 => h9) rfl dX12_lift_15 ?_
  refine lv_iload_n hx hb dX12_lift_18 rfl (lv_at hl 0 rfl) ?_
  refine lv_iconst (v := 0) hx hb dX12_lift_19 (by decide) ?_
  refine va_iast hx hb hK hP hD hS 2 1 rfl rfl (vi_c rfl) dX12_lift_20 (fun H locs hP hD hS => ?_)
  have hP : va_P D vwCl [(m0, .inr (10, [.ref mTa, .int 0, .int 0, .ref mSi, .ref mLe, .ref mCl, .ref mCs, .ref mRe, .int 0, .int 0, .int 0, .int 6, .int 0, .int 0, .int 0, .ref mOp, .int 0, .ref mSt, .int 0, .ref mWo, .ref mSa, .int 0, .ref mWa, .int 0, .ref mFa, .ref mQu, .ref mIs, .int 0, .int 0, .long 0, .ref mIm, .ref mIx, .ref mMa])), (mLe, .inl (kmLe, 7, .inl f)), (mRe, .inl (kmRe, 92, .inl (upd g_8 3 0)))] H := hP
  have hD : va_D A [(m0, .inr (10, [.ref mTa, .int 0, .int 0, .ref mSi, .ref mLe, .ref mCl, .ref mCs, .ref mRe, .int 0, .int 0, .int 0, .int 6, .int 0, .int 0, .int 0, .ref mOp, .int 0, .ref mSt, .int 0, .ref mWo, .ref mSa, .int 0, .ref mWa, .int 0, .ref mFa, .ref mQu, .ref mIs, .int 0, .int 0, .long 0, .ref mIm, .ref mIx, .ref mMa])), (mLe, .inl (kmLe, 7, .inl f)), (mRe, .inl (kmRe, 92, .inl (upd g_8 3 0)))] := hD
  generalize upd g_8 3 0 = g_11 at hP hD
  refine lv_iinc (v := 4) (lv' := [(1, .int 4), (0, .ref m0)]) hx hb dX12_lift_21 hl (k := 0) rfl (by decide) (by decide) rfl (fun ls hl => ?_)
  refine lv_goto (tgt := 8) hx hb dX12_lift_24 (by decide) ?_
  refine lv_iload_n hx hb dX12_lift_8 rfl (lv_at hl 0 rfl) ?_
  refine lv_bipush (v := 10) hx hb dX12_lift_9 (by decide) ?_
  refine lv_icmp_ge (tgt := 27) hx hb dX12_lift_11 (by decide) (fun c_13 => absurd c_13 (by decide)) (fun _ => ?_)
  refine lv_aload_n hx hb dX12_lift_14 rfl (lv_at hl 1 rfl) ?_
  refine va_get (D := D) (ci := 10) (v := .ref mRe) (C := "WrongHoleModel") (T := TX12) (N := 33) hx hb hts (iq_RX12 _) hown hK hP 0 rfl rfl 7 (by decide) (hT _ qq_5_159) (fun _ h9 => h9) rfl dX12_lift_15 ?_
  refine lv_iload_n hx hb dX12_lift_18 rfl (lv_at hl 0 rfl) ?_
  refine lv_iconst (v := 0) hx hb dX12_lift_19 (by decide) ?_
  refine va_iast hx hb hK hP hD hS 2 1 rfl rfl (vi_c rfl) dX12_lift_20 (fun H locs hP hD hS => ?_)
  have hP : va_P D vwCl [(m0, .inr (10, [.ref mTa, .int 0, .int 0, .ref mSi, .ref mLe, .ref mCl, .ref mCs, .ref mRe, .int 0, .int 0, .int 0, .int 6, .int 0, .int 0, .int 0, .ref mOp, .int 0, .ref mSt, .int 0, .ref mWo, .ref mSa, .int 0, .ref mWa, .int 0, .ref mFa, .ref mQu, .ref mIs, .int 0, .int 0, .long 0, .ref mIm, .ref mIx, .ref mMa])), (mLe, .inl (kmLe, 7, .inl f)), (mRe, .inl (kmRe, 92, .inl (upd g_11 4 0)))] H := hP
  have hD : va_D A [(m0, .inr (10, [.ref mTa, .int 0, .int 0, .ref mSi, .ref mLe, .ref mCl, .ref mCs, .ref mRe, .int 0, .int 0, .int 0, .int 6, .int 0, .int 0, .int 0, .ref mOp, .int 0, .ref mSt, .int 0, .ref mWo, .ref mSa, .int 0, .ref mWa, .int 0, .ref mFa, .ref mQu, .ref mIs, .int 0, .int 0, .long 0, .ref mIm, .ref mIx, .ref mMa])), (mLe, .inl (kmLe, 7, .inl f)), (mRe, .inl (kmRe, 92, .inl (upd g_11 4 0)))] := hD
  generalize upd g_11 4 0 = g_14 at hP hD
  refine lv_iinc (v := 5) (lv' := [(1, .int 5), (0, .ref m0)]) hx hb dX12_lift_21 hl (k := 0) rfl (by decide) (by decide) rfl (fun ls hl => ?_)
  refine lv_goto (tgt := 8) hx hb dX12_lift_24 (by decide) ?_
  refine lv_iload_n hx hb dX12_lift_8 rfl (lv_at hl 0 rfl) ?_
  refine lv_bipush (v := 10) hx hb dX12_lift_9 (by decide) ?_
  refine lv_icmp_ge (tgt := 27) hx hb dX12_lift_11 (by decide) (fun c_16 => absurd c_16 (by decide)) (fun _ => ?_)
  refine lv_aload_n hx hb dX12_lift_14 rfl (lv_at hl 1 rfl) ?_
  refine va_get (D := D) (ci := 10) (v := .ref mRe) (C := "WrongHoleModel") (T := TX12) (N := 33) hx hb hts (iq_RX12 _) hown hK hP 0 rfl rfl 7 (by decide) (hT _ qq_5_159) (fun _ h9 => h9) rfl dX12_lift_15 ?_
  refine lv_iload_n hx hb dX12_lift_18 rfl (lv_at hl 0 rfl) ?_
  refine lv_iconst (v := 0) hx hb dX12_lift_19 (by decide) ?_
  refine va_iast hx hb hK hP hD hS 2 1 rfl rfl (vi_c rfl) dX12_lift_20 (fun H locs hP hD hS => ?_)
  have hP : va_P D vwCl [(m0, .inr (10, [.ref mTa, .int 0, .int 0, .ref mSi, .ref mLe, .ref mCl, .ref mCs, .ref mRe, .int 0, .int 0, .int 0, .int 6, .int 0, .int 0, .int 0, .ref mOp, .int 0, .ref mSt, .int 0, .ref mWo, .ref mSa, .int 0, .ref mWa, .int 0, .ref mFa, .ref mQu, .ref mIs, .int 0, .int 0, .long 0, .ref mIm, .ref mIx, .ref mMa])), (mLe, .inl (kmLe, 7, .inl f)), (mRe, .inl (kmRe, 92, .inl (upd g_14 5 0)))] H := hP
  have hD : va_D A [(m0, .inr (10, [.ref mTa, .int 0, .int 0, .ref mSi, .ref mLe, .ref mCl, .ref mCs, .ref mRe, .int 0, .int 0, .int 0, .int 6, .int 0, .int 0, .int 0, .ref mOp, .int 0, .ref mSt, .int 0, .ref mWo, .ref mSa, .int 0, .ref mWa, .int 0, .ref mFa, .ref mQu, .ref mIs, .int 0, .int 0, .long 0, .ref mIm, .ref mIx, .ref mMa])), (mLe, .inl (kmLe, 7, .inl f)), (mRe, .inl (kmRe, 92, .inl (upd g_14 5 0)))] := hD
  generalize upd g_14 5 0 = g_17 at hP hD
  refine lv_iinc (v := 6) (lv' := [(1, .int 6), (0, .ref m0)]) hx hb dX12_lift_21 hl (k := 0) rfl (by decide) (by decide) rfl (fun ls hl => ?_)
  refine lv_goto (tgt := 8) hx hb dX12_lift_24 (by decide) ?_
  refine lv_iload_n hx hb dX12_lift_8 rfl (lv_at hl 0 rfl) ?_
  refine lv_bipush (v := 10) hx hb dX12_lift_9 (by decide) ?_
  refine lv_icmp_ge (tgt := 27) hx hb dX12_lift_11 (by decide) (fun c_19 => absurd c_19 (by decide)) (fun _ => ?_)
  refine lv_aload_n hx hb dX12_lift_14 rfl (lv_at hl 1 rfl) ?_
  refine va_get (D := D) (ci := 10) (v := .ref mRe) (C := "WrongHoleModel") (T := TX12) (N := 33) hx hb hts (iq_RX12 _) hown hK hP 0 rfl rfl 7 (by decide) (hT _ qq_5_159) (fun _ h9 => h9) rfl dX12_lift_15 ?_
  refine lv_iload_n hx hb dX12_lift_18 rfl (lv_at hl 0 rfl) ?_
  refine lv_iconst (v := 0) hx hb dX12_lift_19 (by decide) ?_
  refine va_iast hx hb hK hP hD hS 2 1 rfl rfl (vi_c rfl) dX12_lift_20 (fun H locs hP hD hS => ?_)
  have hP : va_P D vwCl [(m0, .inr (10, [.ref mTa, .int 0, .int 0, .ref mSi, .ref mLe, .ref mCl, .ref mCs, .ref mRe, .int 0, .int 0, .int 0, .int 6, .int 0, .int 0, .int 0, .ref mOp, .int 0, .ref mSt, .int 0, .ref mWo, .ref mSa, .int 0, .ref mWa, .int 0, .ref mFa, .ref mQu, .ref mIs, .int 0, .int 0, .long 0, .ref mIm, .ref mIx, .ref mMa])), (mLe, .inl (kmLe, 7, .inl f)), (mRe, .inl (kmRe, 92, .inl (upd g_17 6 0)))] H := hP
  have hD : va_D A [(m0, .inr (10, [.ref mTa, .int 0, .int 0, .ref mSi, .ref mLe, .ref mCl, .ref mCs, .ref mRe, .int 0, .int 0, .int 0, .int 6, .int 0, .int 0, .int 0, .ref mOp, .int 0, .ref mSt, .int 0, .ref mWo, .ref mSa, .int 0, .ref mWa, .int 0, .ref mFa, .ref mQu, .ref mIs, .int 0, .int 0, .long 0, .ref mIm, .ref mIx, .ref mMa])), (mLe, .inl (kmLe, 7, .inl f)), (mRe, .inl (kmRe, 92, .inl (upd g_17 6 0)))] := hD
  generalize upd g_17 6 0 = g_20 at hP hD
  refine lv_iinc (v := 7) (lv' := [(1, .int 7), (0, .ref m0)]) hx hb dX12_lift_21 hl (k := 0) rfl (by decide) (by decide) rfl (fun ls hl => ?_)
  refine lv_goto (tgt := 8) hx hb dX12_lift_24 (by decide) ?_
  refine lv_iload_n hx hb dX12_lift_8 rfl (lv_at hl 0 rfl) ?_
  refine lv_bipush (v := 10) hx hb dX12_lift_9 (by decide) ?_
  refine lv_icmp_ge (tgt := 27) hx hb dX12_lift_11 (by decide) (fun c_22 => absurd c_22 (by decide)) (fun _ => ?_)
  refine lv_aload_n hx hb dX12_lift_14 rfl (lv_at hl 1 rfl) ?_
  refine va_get (D := D) (ci := 10) (v := .ref mRe) (C := "WrongHoleModel") (T := TX12) (N := 33) hx hb hts (iq_RX12 _) hown hK hP 0 rfl rfl 7 (by decide) (hT _ qq_5_159) (fun _ h9 => h9) rfl dX12_lift_15 ?_
  refine lv_iload_n hx hb dX12_lift_18 rfl (lv_at hl 0 rfl) ?_
  refine lv_iconst (v := 0) hx hb dX12_lift_19 (by decide) ?_
  refine va_iast hx hb hK hP hD hS 2 1 rfl rfl (vi_c rfl) dX12_lift_20 (fun H locs hP hD hS => ?_)
  have hP : va_P D vwCl [(m0, .inr (10, [.ref mTa, .int 0, .int 0, .ref mSi, .ref mLe, .ref mCl, .ref mCs, .ref mRe, .int 0, .int 0, .int 0, .int 6, .int 0, .int 0, .int 0, .ref mOp, .int 0, .ref mSt, .int 0, .ref mWo, .ref mSa, .int 0, .ref mWa, .int 0, .ref mFa, .ref mQu, .ref mIs, .int 0, .int 0, .long 0, .ref mIm, .ref mIx, .ref mMa])), (mLe, .inl (kmLe, 7, .inl f)), (mRe, .inl (kmRe, 92, .inl (upd g_20 7 0)))] H := hP
  have hD : va_D A [(m0, .inr (10, [.ref mTa, .int 0, .int 0, .ref mSi, .ref mLe, .ref mCl, .ref mCs, .ref mRe, .int 0, .int 0, .int 0, .int 6, .int 0, .int 0, .int 0, .ref mOp, .int 0, .ref mSt, .int 0, .ref mWo, .ref mSa, .int 0, .ref mWa, .int 0, .ref mFa, .ref mQu, .ref mIs, .int 0, .int 0, .long 0, .ref mIm, .ref mIx, .ref mMa])), (mLe, .inl (kmLe, 7, .inl f)), (mRe, .inl (kmRe, 92, .inl (upd g_20 7 0)))] := hD
  generalize upd g_20 7 0 = g_23 at hP hD
  refine lv_iinc (v := 8) (lv' := [(1, .int 8), (0, .ref m0)]) hx hb dX12_lift_21 hl (k := 0) rfl (by decide) (by decide) rfl (fun ls hl => ?_)
  refine lv_goto (tgt := 8) hx hb dX12_lift_24 (by decide) ?_
  refine lv_iload_n hx hb dX12_lift_8 rfl (lv_at hl 0 rfl) ?_
  refine lv_bipush (v := 10) hx hb dX12_lift_9 (by decide) ?_
  refine lv_icmp_ge (tgt := 27) hx hb dX12_lift_11 (by decide) (fun c_25 => absurd c_25 (by decide)) (fun _ => ?_)
  refine lv_aload_n hx hb dX12_lift_14 rfl (lv_at hl 1 rfl) ?_
  refine va_get (D := D) (ci := 10) (v := .ref mRe) (C := "WrongHoleModel") (T := TX12) (N := 33) hx hb hts (iq_RX12 _) hown hK hP 0 rfl rfl 7 (by decide) (hT _ qq_5_159) (fun _ h9 => h9) rfl dX12_lift_15 ?_
  refine lv_iload_n hx hb dX12_lift_18 rfl (lv_at hl 0 rfl) ?_
  refine lv_iconst (v := 0) hx hb dX12_lift_19 (by decide) ?_
  refine va_iast hx hb hK hP hD hS 2 1 rfl rfl (vi_c rfl) dX12_lift_20 (fun H locs hP hD hS => ?_)
  have hP : va_P D vwCl [(m0, .inr (10, [.ref mTa, .int 0, .int 0, .ref mSi, .ref mLe, .ref mCl, .ref mCs, .ref mRe, .int 0, .int 0, .int 0, .int 6, .int 0, .int 0, .int 0, .ref mOp, .int 0, .ref mSt, .int 0, .ref mWo, .ref mSa, .int 0, .ref mWa, .int 0, .ref mFa, .ref mQu, .ref mIs, .int 0, .int 0, .long 0, .ref mIm, .ref mIx, .ref mMa])), (mLe, .inl (kmLe, 7, .inl f)), (mRe, .inl (kmRe, 92, .inl (upd g_23 8 0)))] H := hP
  have hD : va_D A [(m0, .inr (10, [.ref mTa, .int 0, .int 0, .ref mSi, .ref mLe, .ref mCl, .ref mCs, .ref mRe, .int 0, .int 0, .int 0, .int 6, .int 0, .int 0, .int 0, .ref mOp, .int 0, .ref mSt, .int 0, .ref mWo, .ref mSa, .int 0, .ref mWa, .int 0, .ref mFa, .ref mQu, .ref mIs, .int 0, .int 0, .long 0, .ref mIm, .ref mIx, .ref mMa])), (mLe, .inl (kmLe, 7, .inl f)), (mRe, .inl (kmRe, 92, .inl (upd g_23 8 0)))] := hD
  generalize upd g_23 8 0 = g_26 at hP hD
  refine lv_iinc (v := 9) (lv' := [(1, .int 9), (0, .ref m0)]) hx hb dX12_lift_21 hl (k := 0) rfl (by decide) (by decide) rfl (fun ls hl => ?_)
  refine lv_goto (tgt := 8) hx hb dX12_lift_24 (by decide) ?_
  refine lv_iload_n hx hb dX12_lift_8 rfl (lv_at hl 0 rfl) ?_
  refine lv_bipush (v := 10) hx hb dX12_lift_9 (by decide) ?_
  refine lv_icmp_ge (tgt := 27) hx hb dX12_lift_11 (by decide) (fun c_28 => absurd c_28 (by decide)) (fun _ => ?_)
  refine lv_aload_n hx hb dX12_lift_14 rfl (lv_at hl 1 rfl) ?_
  refine va_get (D := D) (ci := 10) (v := .ref mRe) (C := "WrongHoleModel") (T := TX12) (N := 33) hx hb hts (iq_RX12 _) hown hK hP 0 rfl rfl 7 (by decide) (hT _ qq_5_159) (fun _ h9 => h9) rfl dX12_lift_15 ?_
  refine lv_iload_n hx hb dX12_lift_18 rfl (lv_at hl 0 rfl) ?_
  refine lv_iconst (v := 0) hx hb dX12_lift_19 (by decide) ?_
  refine va_iast hx hb hK hP hD hS 2 1 rfl rfl (vi_c rfl) dX12_lift_20 (fun H locs hP hD hS => ?_)
  have hP : va_P D vwCl [(m0, .inr (10, [.ref mTa, .int 0, .int 0, .ref mSi, .ref mLe, .ref mCl, .ref mCs, .ref mRe, .int 0, .int 0, .int 0, .int 6, .int 0, .int 0, .int 0, .ref mOp, .int 0, .ref mSt, .int 0, .ref mWo, .ref mSa, .int 0, .ref mWa, .int 0, .ref mFa, .ref mQu, .ref mIs, .int 0, .int 0, .long 0, .ref mIm, .ref mIx, .ref mMa])), (mLe, .inl (kmLe, 7, .inl f)), (mRe, .inl (kmRe, 92, .inl (upd g_26 9 0)))] H := hP
  have hD : va_D A [(m0, .inr (10, [.ref mTa, .int 0, .int 0, .ref mSi, .ref mLe, .ref mCl, .ref mCs, .ref mRe, .int 0, .int 0, .int 0, .int 6, .int 0, .int 0, .int 0, .ref mOp, .int 0, .ref mSt, .int 0, .ref mWo, .ref mSa, .int 0, .ref mWa, .int 0, .ref mFa, .ref mQu, .ref mIs, .int 0, .int 0, .long 0, .ref mIm, .ref mIx, .ref mMa])), (mLe, .inl (kmLe, 7, .inl f)), (mRe, .inl (kmRe, 92, .inl (upd g_26 9 0)))] := hD
  generalize upd g_26 9 0 = g_29 at hP hD
  refine lv_iinc (v := 10) (lv' := [(1, .int 10), (0, .ref m0)]) hx hb dX12_lift_21 hl (k := 0) rfl (by decide) (by decide) rfl (fun ls hl => ?_)
  refine lv_goto (tgt := 8) hx hb dX12_lift_24 (by decide) ?_
  refine lv_iload_n hx hb dX12_lift_8 rfl (lv_at hl 0 rfl) ?_
  refine lv_bipush (v := 10) hx hb dX12_lift_9 (by decide) ?_
  refine lv_icmp_ge (tgt := 27) hx hb dX12_lift_11 (by decide) (fun _ => ?_) (fun c_31 => absurd (by decide) c_31)
  refine lv_aload_n hx hb dX12_lift_27 rfl (lv_at hl 1 rfl) ?_
  have hPc := hP.sub (ws' := [(m0, .inr (10, [.ref mTa, .int 0, .int 0, .ref mSi, .ref mLe, .ref mCl, .ref mCs, .ref mRe, .int 0, .int 0, .int 0, .int 6, .int 0, .int 0, .int 0, .ref mOp, .int 0, .ref mSt, .int 0, .ref mWo, .ref mSa, .int 0, .ref mWa, .int 0, .ref mFa, .ref mQu, .ref mIs, .int 0, .int 0, .long 0, .ref mIm, .ref mIx, .ref mMa])), (mLe, .inl (kmLe, 7, .inl f))]) [0, 1] rfl
  have hDc := hD.sub (ws' := [(m0, .inr (10, [.ref mTa, .int 0, .int 0, .ref mSi, .ref mLe, .ref mCl, .ref mCs, .ref mRe, .int 0, .int 0, .int 0, .int 6, .int 0, .int 0, .int 0, .ref mOp, .int 0, .ref mSt, .int 0, .ref mWo, .ref mSa, .int 0, .ref mWa, .int 0, .ref mFa, .ref mQu, .ref mIs, .int 0, .int 0, .long 0, .ref mIm, .ref mIx, .ref mMa])), (mLe, .inl (kmLe, 7, .inl f))]) [0, 1] (by decide) rfl
  have hKc := hK.sub (tys' := [(kmLe, .int)]) [0] rfl
  have hFc := va_free (wc := [(m0, .inr (10, [.ref mTa, .int 0, .int 0, .ref mSi, .ref mLe, .ref mCl, .ref mCs, .ref mRe, .int 0, .int 0, .int 0, .int 6, .int 0, .int 0, .int 0, .ref mOp, .int 0, .ref mSt, .int 0, .ref mWo, .ref mSa, .int 0, .ref mWa, .int 0, .ref mFa, .ref mQu, .ref mIs, .int 0, .int 0, .long 0, .ref mIm, .ref mIx, .ref mMa])), (mLe, .inl (kmLe, 7, .inl f))]) hD hS hA [0, 1] rfl
  refine va_calli (va_runV (As := []) (rest := []) ⟨hx, hb, hml, hown, hts⟩ (c_readsAll_6 l D ad H.size m0 mTa mSi mLe mCl mCs mRe mOp mSt mWo mSa mWa mFa mQu mIs mIm mIx mMa kmLe f) ⟨callB_of 0 hts (gd_C qq_6_32) rfl rfl rfl (hT _ qq_1_9) (hT _ qq_6_29) (by decide +kernel) (rm_R rfl rfl), (hT _ qq_6_31), (hT _ qs_2_0)⟩ (pr_V hPc hKc hDc hN (ci := 10) (q0 := 0) rfl rfl) rfl rfl hl.1 rfl (lv_room (Nat.le_of_ble_eq_true rfl)) dX12_lift_28 ⟨Nat.le_of_ble_eq_true rfl, Nat.le_of_ble_eq_true rfl⟩) hS (fun q _ h => hFc q h) hFc (fun r_36 u_32 t_35 H1 locs ht9 hvm hw_33 hB_34 hz1 hk1 hS => ?_)
  obtain ⟨g_37, hP1, hK1, hD1⟩ := hB_34
  rw [ht9] at hP1
  have hK1 := va_K.moved hvm.symm hK1
  obtain ⟨hP, hD⟩ := va_join (wr := [(mRe, .inl (kmRe, 92, .inl g_29))]) (w1 := [(m0, .inr (10, [.ref mTa, .int 0, .int 0, .ref mSi, .ref mLe, .ref mCl, .ref mCs, .ref mRe, .int 0, .int 1, .int 0, .int 6, .int 0, .int 0, .int 0, .ref mOp, .int 0, .ref mSt, .int 0, .ref mWo, .ref mSa, .int 0, .ref mWa, .int 0, .ref mFa, .ref mQu, .ref mIs, .int 0, .int 0, .long 0, .ref mIm, .ref mIx, .ref mMa])), (mLe, .inl (kmLe, 7, .inl g_37))]) hP hD [0, 1] [2] rfl rfl (by decide) (by decide) hk1 hFc hP1 hD1
  have hK := (hK.sub (tys' := [(kmRe, .int)]) [1] rfl).app hK1
  have hK : va_K D vwCl [(kmRe, .int), (kmLe, .int)] s := hK
  generalize H1 = H at hP hS ⊢
  have hP : va_P D vwCl [(mRe, .inl (kmRe, 92, .inl g_29)), (m0, .inr (10, [.ref mTa, .int 0, .int 0, .ref mSi, .ref mLe, .ref mCl, .ref mCs, .ref mRe, .int 0, .int 1, .int 0, .int 6, .int 0, .int 0, .int 0, .ref mOp, .int 0, .ref mSt, .int 0, .ref mWo, .ref mSa, .int 0, .ref mWa, .int 0, .ref mFa, .ref mQu, .ref mIs, .int 0, .int 0, .long 0, .ref mIm, .ref mIx, .ref mMa])), (mLe, .inl (kmLe, 7, .inl g_37))] H := hP
  have hD : va_D A [(mRe, .inl (kmRe, 92, .inl g_29)), (m0, .inr (10, [.ref mTa, .int 0, .int 0, .ref mSi, .ref mLe, .ref mCl, .ref mCs, .ref mRe, .int 0, .int 1, .int 0, .int 6, .int 0, .int 0, .int 0, .ref mOp, .int 0, .ref mSt, .int 0, .ref mWo, .ref mSa, .int 0, .ref mWa, .int 0, .ref mFa, .ref mQu, .ref mIs, .int 0, .int 0, .long 0, .ref mIm, .ref mIx, .ref mMa])), (mLe, .inl (kmLe, 7, .inl g_37))] := hD
  refine tc_i 0 hw_33 ?_
  refine lv_if_ne (tgt := 42) hx hb dX12_lift_31 (by decide) (fun c_38 => absurd (by decide) c_38) (fun _ => ?_)
  refine lv_bipush (v := (-2)) hx hb dX12_lift_34 (by decide) ?_
  refine lv_aload_n hx hb dX12_lift_36 rfl (lv_at hl 1 rfl) ?_
  refine va_get (D := D) (ci := 10) (v := .int 1) (C := "WrongHoleModel") (T := TX12) (N := 33) hx hb hts (iq_RX12 _) hown hK hP 1 rfl rfl 9 (by decide) (hT _ qq_5_161) (fun _ h9 => h9) rfl dX12_lift_37 ?_
  refine lv_isub hx hb dX12_lift_40 ?_
  refine tc_i (-3) (by decide) ?_
  refine W.widen (k := 0) (n := 0) (Nat.le_of_ble_eq_true rfl) (Nat.le_of_ble_eq_true rfl) ?_
  exact W.iret (v := (-3)) hx hb hr (fun t9 ht9 hW9 => ⟨⟨_, (), rfl, rfl, trivial⟩, hS.F ht9⟩) hS.2.2 dX12_lift_41
theorem dX12_rule_0 : decode cX12_rule 0 = .ok (.aload_n 0, 1) := by decide +kernel
theorem dX12_rule_1 : decode cX12_rule 1 = .ok (.getfield 295, 3) := by decide +kernel
theorem qq_5_154 : Cond.fieldLink "WrongHoleModel" 295 "WrongHoleModel" "rules" "I" ∈ TB := mk_tb (ti_5 (List.mem_of_getElem? (i := 154) rfl)) rfl
theorem dX12_rule_4 : decode cX12_rule 4 = .ok (.bipush 6, 2) := by decide +kernel
theorem dX12_rule_6 : decode cX12_rule 6 = .ok (.if_icmp .ne 5, 3) := by decide +kernel
theorem dX12_rule_11 : decode cX12_rule 11 = .ok (.aload_n 0, 1) := by decide +kernel
theorem dX12_rule_12 : decode cX12_rule 12 = .ok (.aload_n 0, 1) := by decide +kernel
theorem dX12_rule_13 : decode cX12_rule 13 = .ok (.getfield 295, 3) := by decide +kernel
theorem dX12_rule_16 : decode cX12_rule 16 = .ok (.putfield 132, 3) := by decide +kernel
theorem dX12_rule_19 : decode cX12_rule 19 = .ok (.aload_n 0, 1) := by decide +kernel
theorem dX12_rule_20 : decode cX12_rule 20 = .ok (.getfield 23, 3) := by decide +kernel
theorem qq_5_158 : Cond.fieldLink "WrongHoleModel" 23 "WrongHoleModel" "clauses" "[I" ∈ TB := mk_tb (ti_5 (List.mem_of_getElem? (i := 158) rfl)) rfl
theorem dX12_rule_23 : decode cX12_rule 23 = .ok (.aload_n 0, 1) := by decide +kernel
theorem dX12_rule_24 : decode cX12_rule 24 = .ok (.getfield 132, 3) := by decide +kernel
theorem dX12_rule_27 : decode cX12_rule 27 = .ok (.iconst 0, 1) := by decide +kernel
theorem dX12_rule_28 : decode cX12_rule 28 = .ok (.iastore, 1) := by decide +kernel
theorem dX12_rule_29 : decode cX12_rule 29 = .ok (.aload_n 0, 1) := by decide +kernel
theorem dX12_rule_30 : decode cX12_rule 30 = .ok (.invokevirtual 298, 3) := by decide +kernel
theorem dX12_rule_33 : decode cX12_rule 33 = .ok (.ifCond .ne 11, 3) := by decide +kernel
theorem dX12_rule_36 : decode cX12_rule 36 = .ok (.bipush (-2), 2) := by decide +kernel
theorem dX12_rule_38 : decode cX12_rule 38 = .ok (.aload_n 0, 1) := by decide +kernel
theorem dX12_rule_39 : decode cX12_rule 39 = .ok (.getfield 73, 3) := by decide +kernel
theorem dX12_rule_42 : decode cX12_rule 42 = .ok (.isub, 1) := by decide +kernel
theorem dX12_rule_43 : decode cX12_rule 43 = .ok (.ireturn, 1) := by decide +kernel
set_option maxHeartbeats 4000000 in
set_option maxRecDepth 100000 in
theorem c_m_rule (l : Launch) (D : va_G) (ad : Nat → Nat) (sz : Nat) (m0 : Nat) (mTa : Nat) (mSi : Nat) (mLe : Nat) (mCl : Nat) (mCs : Nat) (mRe : Nat) (mOp : Nat) (mSt : Nat) (mWo : Nat) (mSa : Nat) (mWa : Nat) (mFa : Nat) (mQu : Nat) (mIs : Nat) (mIm : Nat) (mIx : Nat) (mMa : Nat) (kmLe : ClassId) (f : Nat → Int32) (kmCs : ClassId) (f2 : Nat → Int32)  : Met l yX12_rule (Cond.code yX12_rule cX12_rule 1 (some .int) :: TB) (RM 5 0 0) (va_Pc [.ref m0] (PRE D ad [(m0, .inr (10, [.ref mTa, .int 0, .int 0, .ref mSi, .ref mLe, .ref mCl, .ref mCs, .ref mRe, .int 0, .int 0, .int 0, .int 0, .int 0, .int 0, .int 0, .ref mOp, .int 0, .ref mSt, .int 0, .ref mWo, .ref mSa, .int 0, .ref mWa, .int 0, .ref mFa, .ref mQu, .ref mIs, .int 0, .int 0, .long 0, .ref mIm, .ref mIx, .ref mMa])), (mLe, .inl (kmLe, 7, .inl f)), (mCs, .inl (kmCs, 6, .inl f2))] [(kmLe, .int), (kmCs, .int)] sz)) (va_Qi (S := Unit) (fun r _ => r = (-3)) (fun _ t => True) (va_A [(m0, .inr (10, [.ref mTa, .int 0, .int 0, .ref mSi, .ref mLe, .ref mCl, .ref mCs, .ref mRe, .int 0, .int 0, .int 0, .int 0, .int 0, .int 0, .int 0, .ref mOp, .int 0, .ref mSt, .int 0, .ref mWo, .ref mSa, .int 0, .ref mWa, .int 0, .ref mFa, .ref mQu, .ref mIs, .int 0, .int 0, .long 0, .ref mIm, .ref mIx, .ref mMa])), (mLe, .inl (kmLe, 7, .inl f)), (mCs, .inl (kmCs, 6, .inl f2))] sz)) 0 0 (va_A [(m0, .inr (10, [.ref mTa, .int 0, .int 0, .ref mSi, .ref mLe, .ref mCl, .ref mCs, .ref mRe, .int 0, .int 0, .int 0, .int 0, .int 0, .int 0, .int 0, .ref mOp, .int 0, .ref mSt, .int 0, .ref mWo, .ref mSa, .int 0, .ref mWa, .int 0, .ref mFa, .ref mQu, .ref mIs, .int 0, .int 0, .long 0, .ref mIm, .ref mIx, .ref mMa])), (mLe, .inl (kmLe, 7, .inl f)), (mCs, .inl (kmCs, 6, .inl f2))] sz) := by
  refine MET (y := yX12_rule) (cc := cX12_rule) (maxL := 1) (ret := (some .int)) (d := 5) (mc := 0) (ms := 0) (D := D) (ad := ad) (ws := [(m0, .inr (10, [.ref mTa, .int 0, .int 0, .ref mSi, .ref mLe, .ref mCl, .ref mCs, .ref mRe, .int 0, .int 0, .int 0, .int 0, .int 0, .int 0, .int 0, .ref mOp, .int 0, .ref mSt, .int 0, .ref mWo, .ref mSa, .int 0, .ref mWa, .int 0, .ref mFa, .ref mQu, .ref mIs, .int 0, .int 0, .long 0, .ref mIm, .ref mIx, .ref mMa])), (mLe, .inl (kmLe, 7, .inl f)), (mCs, .inl (kmCs, 6, .inl f2))]) (tys := [(kmLe, .int), (kmCs, .int)]) (sz := sz) (av := [.ref m0]) (Qc := fun A => va_Qi (S := Unit) (fun r _ => r = (-3)) (fun _ t => True) A) (fr := fun A => A) (by decide) (Nat.le_of_ble_eq_true rfl) ?_
  intro p e s m below meth c ls A H hHe hx hb hr hml hown hts hlocks hnm hP hK hD hA hS hN hl
  have hown : s.vm.findClass "WrongHoleModel" = some m.cls := hown
  have hT : ∀ w ∈ TB, w.before ([.ref m0] : List Value).toArray s = true := fun w h => hts w (List.mem_cons_of_mem _ h)
  have hl : lv_has ls 1 [(0, .ref m0)] := hl
  have hP : va_P D vwCl [(m0, .inr (10, [.ref mTa, .int 0, .int 0, .ref mSi, .ref mLe, .ref mCl, .ref mCs, .ref mRe, .int 0, .int 0, .int 0, .int 0, .int 0, .int 0, .int 0, .ref mOp, .int 0, .ref mSt, .int 0, .ref mWo, .ref mSa, .int 0, .ref mWa, .int 0, .ref mFa, .ref mQu, .ref mIs, .int 0, .int 0, .long 0, .ref mIm, .ref mIx, .ref mMa])), (mLe, .inl (kmLe, 7, .inl f)), (mCs, .inl (kmCs, 6, .inl f2))] H := hP
  refine lv_aload_n hx hb dX12_rule_0 rfl (lv_at hl 0 rfl) ?_
  refine va_get (D := D) (ci := 10) (v := .int 0) (C := "WrongHoleModel") (T := TX12) (N := 33) hx hb hts (iq_RX12 _) hown hK hP 0 rfl rfl 2 (by decide) (hT _ qq_5_154) (fun _ h9 => h9) rfl dX12_rule_1 ?_
  refine lv_bipush (v := 6) hx hb dX12_rule_4 (by decide) ?_
  refine lv_icmp_ne (tgt := 11) hx hb dX12_rule_6 (by decide) (fun _ => ?_) (fun c_1 => absurd c_1 (by decide))
  refine lv_aload_n hx hb dX12_rule_11 rfl (lv_at hl 0 rfl) ?_
  refine lv_aload_n hx hb dX12_rule_12 rfl (lv_at hl 0 rfl) ?_
  refine va_get (D := D) (ci := 10) (v := .int 0) (C := "WrongHoleModel") (T := TX12) (N := 33) hx hb hts (iq_RX12 _) hown hK hP 0 rfl rfl 2 (by decide) (hT _ qq_5_154) (fun _ h9 => h9) rfl dX12_rule_13 ?_
  refine va_put (D := D) (ci := 10) (v := .int 0) (ty := .int) (C := "WrongHoleModel") (T := TX12) (N := 33) hx hb hts (iq_RX12 _) tyX12 tyX12_ok nmX12 hown hK hP hD hS 0 rfl rfl 11 (by decide) (hT _ qq_5_163) (fun _ h9 => h9) rfl (by decide +kernel) rfl rfl (Nat.le_of_ble_eq_true rfl) dX12_rule_16 (fun H locs hP hD hS => ?_)
  have hP : va_P D vwCl [(m0, .inr (10, [.ref mTa, .int 0, .int 0, .ref mSi, .ref mLe, .ref mCl, .ref mCs, .ref mRe, .int 0, .int 0, .int 0, .int 0, .int 0, .int 0, .int 0, .ref mOp, .int 0, .ref mSt, .int 0, .ref mWo, .ref mSa, .int 0, .ref mWa, .int 0, .ref mFa, .ref mQu, .ref mIs, .int 0, .int 0, .long 0, .ref mIm, .ref mIx, .ref mMa])), (mLe, .inl (kmLe, 7, .inl f)), (mCs, .inl (kmCs, 6, .inl f2))] H := hP
  have hD : va_D A [(m0, .inr (10, [.ref mTa, .int 0, .int 0, .ref mSi, .ref mLe, .ref mCl, .ref mCs, .ref mRe, .int 0, .int 0, .int 0, .int 0, .int 0, .int 0, .int 0, .ref mOp, .int 0, .ref mSt, .int 0, .ref mWo, .ref mSa, .int 0, .ref mWa, .int 0, .ref mFa, .ref mQu, .ref mIs, .int 0, .int 0, .long 0, .ref mIm, .ref mIx, .ref mMa])), (mLe, .inl (kmLe, 7, .inl f)), (mCs, .inl (kmCs, 6, .inl f2))] := hD
  refine lv_aload_n hx hb dX12_rule_19 rfl (lv_at hl 0 rfl) ?_
  refine va_get (D := D) (ci := 10) (v := .ref mCs) (C := "WrongHoleModel") (T := TX12) (N := 33) hx hb hts (iq_RX12 _) hown hK hP 0 rfl rfl 6 (by decide) (hT _ qq_5_158) (fun _ h9 => h9) rfl dX12_rule_20 ?_
  refine lv_aload_n hx hb dX12_rule_23 rfl (lv_at hl 0 rfl) ?_
  refine va_get (D := D) (ci := 10) (v := .int 0) (C := "WrongHoleModel") (T := TX12) (N := 33) hx hb hts (iq_RX12 _) hown hK hP 0 rfl rfl 11 (by decide) (hT _ qq_5_163) (fun _ h9 => h9) rfl dX12_rule_24 ?_
  refine lv_iconst (v := 0) hx hb dX12_rule_27 (by decide) ?_
  refine va_iast hx hb hK hP hD hS 2 1 rfl rfl (vi_c rfl) dX12_rule_28 (fun H locs hP hD hS => ?_)
  have hP : va_P D vwCl [(m0, .inr (10, [.ref mTa, .int 0, .int 0, .ref mSi, .ref mLe, .ref mCl, .ref mCs, .ref mRe, .int 0, .int 0, .int 0, .int 0, .int 0, .int 0, .int 0, .ref mOp, .int 0, .ref mSt, .int 0, .ref mWo, .ref mSa, .int 0, .ref mWa, .int 0, .ref mFa, .ref mQu, .ref mIs, .int 0, .int 0, .long 0, .ref mIm, .ref mIx, .ref mMa])), (mLe, .inl (kmLe, 7, .inl f)), (mCs, .inl (kmCs, 6, .inl (upd f2 0 0)))] H := hP
  have hD : va_D A [(m0, .inr (10, [.ref mTa, .int 0, .int 0, .ref mSi, .ref mLe, .ref mCl, .ref mCs, .ref mRe, .int 0, .int 0, .int 0, .int 0, .int 0, .int 0, .int 0, .ref mOp, .int 0, .ref mSt, .int 0, .ref mWo, .ref mSa, .int 0, .ref mWa, .int 0, .ref mFa, .ref mQu, .ref mIs, .int 0, .int 0, .long 0, .ref mIm, .ref mIx, .ref mMa])), (mLe, .inl (kmLe, 7, .inl f)), (mCs, .inl (kmCs, 6, .inl (upd f2 0 0)))] := hD
  generalize upd f2 0 0 = g_2 at hP hD
  refine lv_aload_n hx hb dX12_rule_29 rfl (lv_at hl 0 rfl) ?_
  have hPc := hP.sub (ws' := [(m0, .inr (10, [.ref mTa, .int 0, .int 0, .ref mSi, .ref mLe, .ref mCl, .ref mCs, .ref mRe, .int 0, .int 0, .int 0, .int 0, .int 0, .int 0, .int 0, .ref mOp, .int 0, .ref mSt, .int 0, .ref mWo, .ref mSa, .int 0, .ref mWa, .int 0, .ref mFa, .ref mQu, .ref mIs, .int 0, .int 0, .long 0, .ref mIm, .ref mIx, .ref mMa])), (mLe, .inl (kmLe, 7, .inl f))]) [0, 1] rfl
  have hDc := hD.sub (ws' := [(m0, .inr (10, [.ref mTa, .int 0, .int 0, .ref mSi, .ref mLe, .ref mCl, .ref mCs, .ref mRe, .int 0, .int 0, .int 0, .int 0, .int 0, .int 0, .int 0, .ref mOp, .int 0, .ref mSt, .int 0, .ref mWo, .ref mSa, .int 0, .ref mWa, .int 0, .ref mFa, .ref mQu, .ref mIs, .int 0, .int 0, .long 0, .ref mIm, .ref mIx, .ref mMa])), (mLe, .inl (kmLe, 7, .inl f))]) [0, 1] (by decide) rfl
  have hKc := hK.sub (tys' := [(kmLe, .int)]) [0] rfl
  have hFc := va_free (wc := [(m0, .inr (10, [.ref mTa, .int 0, .int 0, .ref mSi, .ref mLe, .ref mCl, .ref mCs, .ref mRe, .int 0, .int 0, .int 0, .int 0, .int 0, .int 0, .int 0, .ref mOp, .int 0, .ref mSt, .int 0, .ref mWo, .ref mSa, .int 0, .ref mWa, .int 0, .ref mFa, .ref mQu, .ref mIs, .int 0, .int 0, .long 0, .ref mIm, .ref mIx, .ref mMa])), (mLe, .inl (kmLe, 7, .inl f))]) hD hS hA [0, 1] rfl
  refine va_calli (va_runV (As := []) (rest := []) ⟨hx, hb, hml, hown, hts⟩ (c_readsAll_0 l D ad H.size m0 mTa mSi mLe mCl mCs mRe mOp mSt mWo mSa mWa mFa mQu mIs mIm mIx mMa kmLe f) ⟨callB_of 0 hts (gd_C qq_6_32) rfl rfl rfl (hT _ qq_1_9) (hT _ qq_6_29) (by decide +kernel) (rm_R rfl rfl), (hT _ qq_6_31), (hT _ qs_2_0)⟩ (pr_V hPc hKc hDc hN (ci := 10) (q0 := 0) rfl rfl) rfl rfl hl.1 rfl (lv_room (Nat.le_of_ble_eq_true rfl)) dX12_rule_30 ⟨Nat.le_of_ble_eq_true rfl, Nat.le_of_ble_eq_true rfl⟩) hS (fun q _ h => hFc q h) hFc (fun r_8 u_4 t_7 H1 locs ht9 hvm hw_5 hB_6 hz1 hk1 hS => ?_)
  obtain ⟨g_9, hP1, hK1, hD1⟩ := hB_6
  rw [ht9] at hP1
  have hK1 := va_K.moved hvm.symm hK1
  obtain ⟨hP, hD⟩ := va_join (wr := [(mCs, .inl (kmCs, 6, .inl g_2))]) (w1 := [(m0, .inr (10, [.ref mTa, .int 0, .int 0, .ref mSi, .ref mLe, .ref mCl, .ref mCs, .ref mRe, .int 0, .int 1, .int 0, .int 0, .int 0, .int 0, .int 0, .ref mOp, .int 0, .ref mSt, .int 0, .ref mWo, .ref mSa, .int 0, .ref mWa, .int 0, .ref mFa, .ref mQu, .ref mIs, .int 0, .int 0, .long 0, .ref mIm, .ref mIx, .ref mMa])), (mLe, .inl (kmLe, 7, .inl g_9))]) hP hD [0, 1] [2] rfl rfl (by decide) (by decide) hk1 hFc hP1 hD1
  have hK := (hK.sub (tys' := [(kmCs, .int)]) [1] rfl).app hK1
  have hK : va_K D vwCl [(kmCs, .int), (kmLe, .int)] s := hK
  generalize H1 = H at hP hS ⊢
  have hP : va_P D vwCl [(mCs, .inl (kmCs, 6, .inl g_2)), (m0, .inr (10, [.ref mTa, .int 0, .int 0, .ref mSi, .ref mLe, .ref mCl, .ref mCs, .ref mRe, .int 0, .int 1, .int 0, .int 0, .int 0, .int 0, .int 0, .ref mOp, .int 0, .ref mSt, .int 0, .ref mWo, .ref mSa, .int 0, .ref mWa, .int 0, .ref mFa, .ref mQu, .ref mIs, .int 0, .int 0, .long 0, .ref mIm, .ref mIx, .ref mMa])), (mLe, .inl (kmLe, 7, .inl g_9))] H := hP
  have hD : va_D A [(mCs, .inl (kmCs, 6, .inl g_2)), (m0, .inr (10, [.ref mTa, .int 0, .int 0, .ref mSi, .ref mLe, .ref mCl, .ref mCs, .ref mRe, .int 0, .int 1, .int 0, .int 0, .int 0, .int 0, .int 0, .ref mOp, .int 0, .ref mSt, .int 0, .ref mWo, .ref mSa, .int 0, .ref mWa, .int 0, .ref mFa, .ref mQu, .ref mIs, .int 0, .int 0, .long 0, .ref mIm, .ref mIx, .ref mMa])), (mLe, .inl (kmLe, 7, .inl g_9))] := hD
  refine tc_i 0 hw_5 ?_
  refine lv_if_ne (tgt := 44) hx hb dX12_rule_33 (by decide) (fun c_10 => absurd (by decide) c_10) (fun _ => ?_)
  refine lv_bipush (v := (-2)) hx hb dX12_rule_36 (by decide) ?_
  refine lv_aload_n hx hb dX12_rule_38 rfl (lv_at hl 0 rfl) ?_
  refine va_get (D := D) (ci := 10) (v := .int 1) (C := "WrongHoleModel") (T := TX12) (N := 33) hx hb hts (iq_RX12 _) hown hK hP 1 rfl rfl 9 (by decide) (hT _ qq_5_161) (fun _ h9 => h9) rfl dX12_rule_39 ?_
  refine lv_isub hx hb dX12_rule_42 ?_
  refine tc_i (-3) (by decide) ?_
  refine W.widen (k := 0) (n := 0) (Nat.le_of_ble_eq_true rfl) (Nat.le_of_ble_eq_true rfl) ?_
  exact W.iret (v := (-3)) hx hb hr (fun t9 ht9 hW9 => ⟨⟨_, (), rfl, rfl, trivial⟩, hS.F ht9⟩) hS.2.2 dX12_rule_43
