theorem dX12_crease_0 : decode cX12_crease 0 = .ok (.iload_n 1, 1) := by decide +kernel
theorem dX12_crease_1 : decode cX12_crease 1 = .ok (.iconst (-1), 1) := by decide +kernel
theorem dX12_crease_2 : decode cX12_crease 2 = .ok (.if_icmp .ne 14, 3) := by decide +kernel
theorem dX12_crease_16 : decode cX12_crease 16 = .ok (.iload_n 1, 1) := by decide +kernel
theorem dX12_crease_17 : decode cX12_crease 17 = .ok (.ifCond .eq 8, 3) := by decide +kernel
theorem dX12_crease_25 : decode cX12_crease 25 = .ok (.iconst 1, 1) := by decide +kernel
theorem dX12_crease_26 : decode cX12_crease 26 = .ok (.goto 4, 3) := by decide +kernel
theorem dX12_crease_30 : decode cX12_crease 30 = .ok (.istore 4, 2) := by decide +kernel
theorem dX12_crease_32 : decode cX12_crease 32 = .ok (.iload_n 1, 1) := by decide +kernel
theorem dX12_crease_33 : decode cX12_crease 33 = .ok (.iconst 2, 1) := by decide +kernel
theorem dX12_crease_34 : decode cX12_crease 34 = .ok (.if_icmp .eq 8, 3) := by decide +kernel
theorem dX12_crease_42 : decode cX12_crease 42 = .ok (.iconst 1, 1) := by decide +kernel
theorem dX12_crease_43 : decode cX12_crease 43 = .ok (.goto 4, 3) := by decide +kernel
theorem dX12_crease_47 : decode cX12_crease 47 = .ok (.istore 5, 2) := by decide +kernel
theorem dX12_crease_49 : decode cX12_crease 49 = .ok (.iload_n 1, 1) := by decide +kernel
theorem dX12_crease_50 : decode cX12_crease 50 = .ok (.i2l, 1) := by decide +kernel
theorem dX12_crease_51 : decode cX12_crease 51 = .ok (.lconst 0, 1) := by decide +kernel
theorem dX12_crease_52 : decode cX12_crease 52 = .ok (.ldc2_w 400, 3) := by decide +kernel
theorem qq_7_47 : Cond.constantLong "WrongHoleModel" 400 5 ∈ TB := mk_tb (ti_7 (List.mem_of_getElem? (i := 47) rfl)) rfl
theorem dX12_crease_55 : decode cX12_crease 55 = .ok (.invokestatic 104, 3) := by decide +kernel
theorem qq_6_97 : Cond.code yX12_in cX12_in 6 (some .boolean) ∈ TB := mk_tb (ti_6 (List.mem_of_getElem? (i := 97) rfl)) rfl
theorem qq_6_95 : Cond.methodLink "WrongHoleModel" 104 yX12_in ∈ TB := mk_tb (ti_6 (List.mem_of_getElem? (i := 95) rfl)) rfl
theorem qq_6_96 : Cond.static yX12_in ∈ TB := mk_tb (ti_6 (List.mem_of_getElem? (i := 96) rfl)) rfl
theorem dX12_crease_58 : decode cX12_crease 58 = .ok (.ifCond .eq 50, 3) := by decide +kernel
theorem dX12_crease_108 : decode cX12_crease 108 = .ok (.bipush (-2), 2) := by decide +kernel
theorem dX12_crease_110 : decode cX12_crease 110 = .ok (.ireturn, 1) := by decide +kernel
theorem dX12_crease_61 : decode cX12_crease 61 = .ok (.aload_n 0, 1) := by decide +kernel
theorem dX12_crease_62 : decode cX12_crease 62 = .ok (.iload_n 2, 1) := by decide +kernel
theorem dX12_crease_63 : decode cX12_crease 63 = .ok (.invokevirtual 365, 3) := by decide +kernel
theorem dX12_crease_66 : decode cX12_crease 66 = .ok (.ifCond .eq 42, 3) := by decide +kernel
theorem dX12_crease_37 : decode cX12_crease 37 = .ok (.iload_n 1, 1) := by decide +kernel
theorem dX12_crease_38 : decode cX12_crease 38 = .ok (.iconst 3, 1) := by decide +kernel
theorem dX12_crease_39 : decode cX12_crease 39 = .ok (.if_icmp .ne 7, 3) := by decide +kernel
theorem dX12_crease_46 : decode cX12_crease 46 = .ok (.iconst 0, 1) := by decide +kernel
theorem dX12_crease_20 : decode cX12_crease 20 = .ok (.iload_n 1, 1) := by decide +kernel
theorem dX12_crease_21 : decode cX12_crease 21 = .ok (.iconst 1, 1) := by decide +kernel
theorem dX12_crease_22 : decode cX12_crease 22 = .ok (.if_icmp .ne 7, 3) := by decide +kernel
theorem dX12_crease_29 : decode cX12_crease 29 = .ok (.iconst 0, 1) := by decide +kernel
theorem dX12_crease_5 : decode cX12_crease 5 = .ok (.aload_n 0, 1) := by decide +kernel
theorem dX12_crease_6 : decode cX12_crease 6 = .ok (.getfield 39, 3) := by decide +kernel
theorem dX12_crease_9 : decode cX12_crease 9 = .ok (.sipush 132, 3) := by decide +kernel
theorem dX12_crease_12 : decode cX12_crease 12 = .ok (.iconst 0, 1) := by decide +kernel
theorem dX12_crease_13 : decode cX12_crease 13 = .ok (.iastore, 1) := by decide +kernel
theorem dX12_crease_14 : decode cX12_crease 14 = .ok (.iconst 0, 1) := by decide +kernel
theorem dX12_crease_15 : decode cX12_crease 15 = .ok (.ireturn, 1) := by decide +kernel
set_option maxHeartbeats 4000000 in
set_option maxRecDepth 100000 in
theorem c_m_crease (l : Launch) (D : va_G) (ad : Nat → Nat) (sz : Nat) (m0 : Nat) (mTa : Nat) (mSi : Nat) (mLe : Nat) (mCl : Nat) (mCs : Nat) (mRe : Nat) (mOp : Nat) (mSt : Nat) (mWo : Nat) (mSa : Nat) (mWa : Nat) (mFa : Nat) (mQu : Nat) (mIs : Nat) (mIm : Nat) (mIx : Nat) (mMa : Nat) (kmSa : ClassId) (a1 : Int32) (a2 : Int32) (a3 : Int32)  : Met l yX12_crease (Cond.code yX12_crease cX12_crease 7 (some .int) :: TB) (RM 1 0 0) (va_Pc [.ref m0, .int a1, .int a2, .int a3] (PRE D ad [(m0, .inr (10, [.ref mTa, .int 0, .int 0, .ref mSi, .ref mLe, .ref mCl, .ref mCs, .ref mRe, .int 0, .int 0, .int 0, .int 0, .int 0, .int 0, .int 0, .ref mOp, .int 0, .ref mSt, .int 0, .ref mWo, .ref mSa, .int 0, .ref mWa, .int 0, .ref mFa, .ref mQu, .ref mIs, .int 0, .int 0, .long 0, .ref mIm, .ref mIx, .ref mMa])), (mSa, .inl (kmSa, 133, .inl sd0))] [(kmSa, .int)] sz)) (va_Qi (S := Unit) (fun r _ => r = (r_crease a1)) (fun _ t => True) (va_A [(m0, .inr (10, [.ref mTa, .int 0, .int 0, .ref mSi, .ref mLe, .ref mCl, .ref mCs, .ref mRe, .int 0, .int 0, .int 0, .int 0, .int 0, .int 0, .int 0, .ref mOp, .int 0, .ref mSt, .int 0, .ref mWo, .ref mSa, .int 0, .ref mWa, .int 0, .ref mFa, .ref mQu, .ref mIs, .int 0, .int 0, .long 0, .ref mIm, .ref mIx, .ref mMa])), (mSa, .inl (kmSa, 133, .inl sd0))] sz)) 0 0 (va_A [(m0, .inr (10, [.ref mTa, .int 0, .int 0, .ref mSi, .ref mLe, .ref mCl, .ref mCs, .ref mRe, .int 0, .int 0, .int 0, .int 0, .int 0, .int 0, .int 0, .ref mOp, .int 0, .ref mSt, .int 0, .ref mWo, .ref mSa, .int 0, .ref mWa, .int 0, .ref mFa, .ref mQu, .ref mIs, .int 0, .int 0, .long 0, .ref mIm, .ref mIx, .ref mMa])), (mSa, .inl (kmSa, 133, .inl sd0))] sz) := by
  refine MET (y := yX12_crease) (cc := cX12_crease) (maxL := 7) (ret := (some .int)) (d := 1) (mc := 0) (ms := 0) (D := D) (ad := ad) (ws := [(m0, .inr (10, [.ref mTa, .int 0, .int 0, .ref mSi, .ref mLe, .ref mCl, .ref mCs, .ref mRe, .int 0, .int 0, .int 0, .int 0, .int 0, .int 0, .int 0, .ref mOp, .int 0, .ref mSt, .int 0, .ref mWo, .ref mSa, .int 0, .ref mWa, .int 0, .ref mFa, .ref mQu, .ref mIs, .int 0, .int 0, .long 0, .ref mIm, .ref mIx, .ref mMa])), (mSa, .inl (kmSa, 133, .inl sd0))]) (tys := [(kmSa, .int)]) (sz := sz) (av := [.ref m0, .int a1, .int a2, .int a3]) (Qc := fun A => va_Qi (S := Unit) (fun r _ => r = (r_crease a1)) (fun _ t => True) A) (fr := fun A => A) (by decide) (Nat.le_of_ble_eq_true rfl) ?_
  intro p e s m below meth c ls A H hHe hx hb hr hml hown hts hlocks hnm hP hK hD hA hS hN hl
  have hown : s.vm.findClass "WrongHoleModel" = some m.cls := hown
  have hT : ∀ w ∈ TB, w.before ([.ref m0, .int a1, .int a2, .int a3] : List Value).toArray s = true := fun w h => hts w (List.mem_cons_of_mem _ h)
  have hl : lv_has ls 7 [(0, .ref m0), (1, .int a1), (2, .int a2), (3, .int a3)] := hl
  have hP : va_P D vwCl [(m0, .inr (10, [.ref mTa, .int 0, .int 0, .ref mSi, .ref mLe, .ref mCl, .ref mCs, .ref mRe, .int 0, .int 0, .int 0, .int 0, .int 0, .int 0, .int 0, .ref mOp, .int 0, .ref mSt, .int 0, .ref mWo, .ref mSa, .int 0, .ref mWa, .int 0, .ref mFa, .ref mQu, .ref mIs, .int 0, .int 0, .long 0, .ref mIm, .ref mIx, .ref mMa])), (mSa, .inl (kmSa, 133, .inl sd0))] H := hP
  refine lv_iload_n hx hb dX12_crease_0 rfl (lv_at hl 1 rfl) ?_
  refine lv_iconst (v := (-1)) hx hb dX12_crease_1 (by decide) ?_
  refine lv_icmp_ne (tgt := 16) hx hb dX12_crease_2 (by decide) (fun c_1 => ?_) (fun c_1 => ?_)
  · refine lv_iload_n hx hb dX12_crease_16 rfl (lv_at hl 1 rfl) ?_
    refine lv_if_eq (tgt := 25) hx hb dX12_crease_17 (by decide) (fun c_2 => ?_) (fun c_2 => ?_)
    · refine lv_iconst (v := 1) hx hb dX12_crease_25 (by decide) ?_
      refine lv_goto (tgt := 30) hx hb dX12_crease_26 (by decide) ?_
      refine lv_istore (lv' := [(4, .int 1), (0, .ref m0), (1, .int a1), (2, .int a2), (3, .int a3)]) hx hb dX12_crease_30 hl (by decide) rfl (fun ls hl => ?_)
      refine lv_iload_n hx hb dX12_crease_32 rfl (lv_at hl 2 rfl) ?_
      refine lv_iconst (v := 2) hx hb dX12_crease_33 (by decide) ?_
      refine lv_icmp_eq (tgt := 42) hx hb dX12_crease_34 (by decide) (fun c_3 => ?_) (fun c_3 => ?_)
      · refine lv_iconst (v := 1) hx hb dX12_crease_42 (by decide) ?_
        refine lv_goto (tgt := 47) hx hb dX12_crease_43 (by decide) ?_
        refine lv_istore (lv' := [(5, .int 1), (4, .int 1), (0, .ref m0), (1, .int a1), (2, .int a2), (3, .int a3)]) hx hb dX12_crease_47 hl (by decide) rfl (fun ls hl => ?_)
        refine lv_iload_n hx hb dX12_crease_49 rfl (lv_at hl 3 rfl) ?_
        refine lv_i2l (v := a1.toInt64) hx hb dX12_crease_50 rfl ?_
        refine lv_lconst (v := 0) hx hb dX12_crease_51 (by decide) ?_
        refine lv_ldc2 (v := 5) hx hb hown (hT _ qq_7_47) dX12_crease_52 ?_
        have hPc := hP.sub (ws' := []) [] rfl
        have hDc := hD.sub (ws' := []) [] (by decide) rfl
        have hKc := hK.sub (tys' := []) [] rfl
        refine cl_V (W.runS (As := [.long a1.toInt64, .long 0, .long 5]) (rest := []) ⟨hx, hb, hml, hown, hts⟩ (c_in_0_5 l D ad H.size a1) ⟨callB_of 3 hts (gd_C qq_6_97) rfl rfl rfl (hT _ qq_1_9) (hT _ qq_6_95) (by decide +kernel) (rm_R rfl rfl), (hT _ qq_6_96)⟩ (pr_S hPc hKc hDc hN) rfl rfl hl.1 rfl (lv_room (Nat.le_of_ble_eq_true rfl)) dX12_crease_55 ⟨Nat.le_of_ble_eq_true rfl, Nat.le_of_ble_eq_true rfl⟩) ?_
        refine lv_if_eq (tgt := 108) hx hb dX12_crease_58 (by decide) (fun c_4 => ?_) (fun c_4 => ?_)
        · refine lv_bipush (v := (-2)) hx hb dX12_crease_108 (by decide) ?_
          refine W.widen (k := 0) (n := 0) (Nat.le_of_ble_eq_true rfl) (Nat.le_of_ble_eq_true rfl) ?_
          exact W.iret (v := (-2)) hx hb hr (fun t9 ht9 hW9 => ⟨⟨_, (), rfl, (by simp [r_crease, c_1]), trivial⟩, hS.F ht9⟩) hS.2.2 dX12_crease_110
        · refine lv_aload_n hx hb dX12_crease_61 rfl (lv_at hl 2 rfl) ?_
          refine lv_iload_n hx hb dX12_crease_62 rfl (lv_at hl 4 rfl) ?_
          have hPc := hP.sub (ws' := [(m0, .inr (10, [.ref mTa, .int 0, .int 0, .ref mSi, .ref mLe, .ref mCl, .ref mCs, .ref mRe, .int 0, .int 0, .int 0, .int 0, .int 0, .int 0, .int 0, .ref mOp, .int 0, .ref mSt, .int 0, .ref mWo, .ref mSa, .int 0, .ref mWa, .int 0, .ref mFa, .ref mQu, .ref mIs, .int 0, .int 0, .long 0, .ref mIm, .ref mIx, .ref mMa])), (mSa, .inl (kmSa, 133, .inl sd0))]) [0, 1] rfl
          have hDc := hD.sub (ws' := [(m0, .inr (10, [.ref mTa, .int 0, .int 0, .ref mSi, .ref mLe, .ref mCl, .ref mCs, .ref mRe, .int 0, .int 0, .int 0, .int 0, .int 0, .int 0, .int 0, .ref mOp, .int 0, .ref mSt, .int 0, .ref mWo, .ref mSa, .int 0, .ref mWa, .int 0, .ref mFa, .ref mQu, .ref mIs, .int 0, .int 0, .long 0, .ref mIm, .ref mIx, .ref mMa])), (mSa, .inl (kmSa, 133, .inl sd0))]) [0, 1] (by decide) rfl
          have hKc := hK.sub (tys' := [(kmSa, .int)]) [0] rfl
          refine cl_V (W.runV (As := [.int a2]) (rest := []) ⟨hx, hb, hml, hown, hts⟩ (c_isButton l D ad H.size m0 mTa mSi mLe mCl mCs mRe mOp mSt mWo mSa mWa mFa mQu mIs mIm mIx mMa kmSa a2) ⟨callB_of 1 hts (gd_C qq_7_4) rfl rfl rfl (hT _ qq_1_9) (hT _ qq_7_1) (by decide +kernel) (rm_R rfl rfl), (hT _ qq_7_3), (hT _ qs_4_10)⟩ (pr_V hPc hKc hDc hN (ci := 10) (q0 := 0) rfl rfl) rfl rfl hl.1 rfl (lv_room (Nat.le_of_ble_eq_true rfl)) dX12_crease_63 ⟨Nat.le_of_ble_eq_true rfl, Nat.le_of_ble_eq_true rfl⟩) ?_
          refine lv_if_eq (tgt := 108) hx hb dX12_crease_66 (by decide) (fun _ => ?_) (fun c_5 => absurd (by decide) c_5)
          refine lv_bipush (v := (-2)) hx hb dX12_crease_108 (by decide) ?_
          refine W.widen (k := 0) (n := 0) (Nat.le_of_ble_eq_true rfl) (Nat.le_of_ble_eq_true rfl) ?_
          exact W.iret (v := (-2)) hx hb hr (fun t9 ht9 hW9 => ⟨⟨_, (), rfl, (by simp [r_crease, c_1]), trivial⟩, hS.F ht9⟩) hS.2.2 dX12_crease_110
      · refine lv_iload_n hx hb dX12_crease_37 rfl (lv_at hl 2 rfl) ?_
        refine lv_iconst (v := 3) hx hb dX12_crease_38 (by decide) ?_
        refine lv_icmp_ne (tgt := 46) hx hb dX12_crease_39 (by decide) (fun c_6 => ?_) (fun c_6 => ?_)
        · refine lv_iconst (v := 0) hx hb dX12_crease_46 (by decide) ?_
          refine lv_istore (lv' := [(5, .int 0), (4, .int 1), (0, .ref m0), (1, .int a1), (2, .int a2), (3, .int a3)]) hx hb dX12_crease_47 hl (by decide) rfl (fun ls hl => ?_)
          refine lv_iload_n hx hb dX12_crease_49 rfl (lv_at hl 3 rfl) ?_
          refine lv_i2l (v := a1.toInt64) hx hb dX12_crease_50 rfl ?_
          refine lv_lconst (v := 0) hx hb dX12_crease_51 (by decide) ?_
          refine lv_ldc2 (v := 5) hx hb hown (hT _ qq_7_47) dX12_crease_52 ?_
          have hPc := hP.sub (ws' := []) [] rfl
          have hDc := hD.sub (ws' := []) [] (by decide) rfl
          have hKc := hK.sub (tys' := []) [] rfl
          refine cl_V (W.runS (As := [.long a1.toInt64, .long 0, .long 5]) (rest := []) ⟨hx, hb, hml, hown, hts⟩ (c_in_0_5 l D ad H.size a1) ⟨callB_of 3 hts (gd_C qq_6_97) rfl rfl rfl (hT _ qq_1_9) (hT _ qq_6_95) (by decide +kernel) (rm_R rfl rfl), (hT _ qq_6_96)⟩ (pr_S hPc hKc hDc hN) rfl rfl hl.1 rfl (lv_room (Nat.le_of_ble_eq_true rfl)) dX12_crease_55 ⟨Nat.le_of_ble_eq_true rfl, Nat.le_of_ble_eq_true rfl⟩) ?_
          refine lv_if_eq (tgt := 108) hx hb dX12_crease_58 (by decide) (fun c_7 => ?_) (fun c_7 => ?_)
          · refine lv_bipush (v := (-2)) hx hb dX12_crease_108 (by decide) ?_
            refine W.widen (k := 0) (n := 0) (Nat.le_of_ble_eq_true rfl) (Nat.le_of_ble_eq_true rfl) ?_
            exact W.iret (v := (-2)) hx hb hr (fun t9 ht9 hW9 => ⟨⟨_, (), rfl, (by simp [r_crease, c_1]), trivial⟩, hS.F ht9⟩) hS.2.2 dX12_crease_110
          · refine lv_aload_n hx hb dX12_crease_61 rfl (lv_at hl 2 rfl) ?_
            refine lv_iload_n hx hb dX12_crease_62 rfl (lv_at hl 4 rfl) ?_
            have hPc := hP.sub (ws' := [(m0, .inr (10, [.ref mTa, .int 0, .int 0, .ref mSi, .ref mLe, .ref mCl, .ref mCs, .ref mRe, .int 0, .int 0, .int 0, .int 0, .int 0, .int 0, .int 0, .ref mOp, .int 0, .ref mSt, .int 0, .ref mWo, .ref mSa, .int 0, .ref mWa, .int 0, .ref mFa, .ref mQu, .ref mIs, .int 0, .int 0, .long 0, .ref mIm, .ref mIx, .ref mMa])), (mSa, .inl (kmSa, 133, .inl sd0))]) [0, 1] rfl
            have hDc := hD.sub (ws' := [(m0, .inr (10, [.ref mTa, .int 0, .int 0, .ref mSi, .ref mLe, .ref mCl, .ref mCs, .ref mRe, .int 0, .int 0, .int 0, .int 0, .int 0, .int 0, .int 0, .ref mOp, .int 0, .ref mSt, .int 0, .ref mWo, .ref mSa, .int 0, .ref mWa, .int 0, .ref mFa, .ref mQu, .ref mIs, .int 0, .int 0, .long 0, .ref mIm, .ref mIx, .ref mMa])), (mSa, .inl (kmSa, 133, .inl sd0))]) [0, 1] (by decide) rfl
            have hKc := hK.sub (tys' := [(kmSa, .int)]) [0] rfl
            refine cl_V (W.runV (As := [.int a2]) (rest := []) ⟨hx, hb, hml, hown, hts⟩ (c_isButton l D ad H.size m0 mTa mSi mLe mCl mCs mRe mOp mSt mWo mSa mWa mFa mQu mIs mIm mIx mMa kmSa a2) ⟨callB_of 1 hts (gd_C qq_7_4) rfl rfl rfl (hT _ qq_1_9) (hT _ qq_7_1) (by decide +kernel) (rm_R rfl rfl), (hT _ qq_7_3), (hT _ qs_4_10)⟩ (pr_V hPc hKc hDc hN (ci := 10) (q0 := 0) rfl rfl) rfl rfl hl.1 rfl (lv_room (Nat.le_of_ble_eq_true rfl)) dX12_crease_63 ⟨Nat.le_of_ble_eq_true rfl, Nat.le_of_ble_eq_true rfl⟩) ?_
            refine lv_if_eq (tgt := 108) hx hb dX12_crease_66 (by decide) (fun _ => ?_) (fun c_8 => absurd (by decide) c_8)
            refine lv_bipush (v := (-2)) hx hb dX12_crease_108 (by decide) ?_
            refine W.widen (k := 0) (n := 0) (Nat.le_of_ble_eq_true rfl) (Nat.le_of_ble_eq_true rfl) ?_
            exact W.iret (v := (-2)) hx hb hr (fun t9 ht9 hW9 => ⟨⟨_, (), rfl, (by simp [r_crease, c_1]), trivial⟩, hS.F ht9⟩) hS.2.2 dX12_crease_110
        · refine lv_iconst (v := 1) hx hb dX12_crease_42 (by decide) ?_
          refine lv_goto (tgt := 47) hx hb dX12_crease_43 (by decide) ?_
          refine lv_istore (lv' := [(5, .int 1), (4, .int 1), (0, .ref m0), (1, .int a1), (2, .int a2), (3, .int a3)]) hx hb dX12_crease_47 hl (by decide) rfl (fun ls hl => ?_)
          refine lv_iload_n hx hb dX12_crease_49 rfl (lv_at hl 3 rfl) ?_
          refine lv_i2l (v := a1.toInt64) hx hb dX12_crease_50 rfl ?_
          refine lv_lconst (v := 0) hx hb dX12_crease_51 (by decide) ?_
          refine lv_ldc2 (v := 5) hx hb hown (hT _ qq_7_47) dX12_crease_52 ?_
          have hPc := hP.sub (ws' := []) [] rfl
          have hDc := hD.sub (ws' := []) [] (by decide) rfl
          have hKc := hK.sub (tys' := []) [] rfl
          refine cl_V (W.runS (As := [.long a1.toInt64, .long 0, .long 5]) (rest := []) ⟨hx, hb, hml, hown, hts⟩ (c_in_0_5 l D ad H.size a1) ⟨callB_of 3 hts (gd_C qq_6_97) rfl rfl rfl (hT _ qq_1_9) (hT _ qq_6_95) (by decide +kernel) (rm_R rfl rfl), (hT _ qq_6_96)⟩ (pr_S hPc hKc hDc hN) rfl rfl hl.1 rfl (lv_room (Nat.le_of_ble_eq_true rfl)) dX12_crease_55 ⟨Nat.le_of_ble_eq_true rfl, Nat.le_of_ble_eq_true rfl⟩) ?_
          refine lv_if_eq (tgt := 108) hx hb dX12_crease_58 (by decide) (fun c_9 => ?_) (fun c_9 => ?_)
          · refine lv_bipush (v := (-2)) hx hb dX12_crease_108 (by decide) ?_
            refine W.widen (k := 0) (n := 0) (Nat.le_of_ble_eq_true rfl) (Nat.le_of_ble_eq_true rfl) ?_
            exact W.iret (v := (-2)) hx hb hr (fun t9 ht9 hW9 => ⟨⟨_, (), rfl, (by simp [r_crease, c_1]), trivial⟩, hS.F ht9⟩) hS.2.2 dX12_crease_110
          · refine lv_aload_n hx hb dX12_crease_61 rfl (lv_at hl 2 rfl) ?_
            refine lv_iload_n hx hb dX12_crease_62 rfl (lv_at hl 4 rfl) ?_
            have hPc := hP.sub (ws' := [(m0, .inr (10, [.ref mTa, .int 0, .int 0, .ref mSi, .ref mLe, .ref mCl, .ref mCs, .ref mRe, .int 0, .int 0, .int 0, .int 0, .int 0, .int 0, .int 0, .ref mOp, .int 0, .ref mSt, .int 0, .ref mWo, .ref mSa, .int 0, .ref mWa, .int 0, .ref mFa, .ref mQu, .ref mIs, .int 0, .int 0, .long 0, .ref mIm, .ref mIx, .ref mMa])), (mSa, .inl (kmSa, 133, .inl sd0))]) [0, 1] rfl
            have hDc := hD.sub (ws' := [(m0, .inr (10, [.ref mTa, .int 0, .int 0, .ref mSi, .ref mLe, .ref mCl, .ref mCs, .ref mRe, .int 0, .int 0, .int 0, .int 0, .int 0, .int 0, .int 0, .ref mOp, .int 0, .ref mSt, .int 0, .ref mWo, .ref mSa, .int 0, .ref mWa, .int 0, .ref mFa, .ref mQu, .ref mIs, .int 0, .int 0, .long 0, .ref mIm, .ref mIx, .ref mMa])), (mSa, .inl (kmSa, 133, .inl sd0))]) [0, 1] (by decide) rfl
            have hKc := hK.sub (tys' := [(kmSa, .int)]) [0] rfl
            refine cl_V (W.runV (As := [.int a2]) (rest := []) ⟨hx, hb, hml, hown, hts⟩ (c_isButton l D ad H.size m0 mTa mSi mLe mCl mCs mRe mOp mSt mWo mSa mWa mFa mQu mIs mIm mIx mMa kmSa a2) ⟨callB_of 1 hts (gd_C qq_7_4) rfl rfl rfl (hT _ qq_1_9) (hT _ qq_7_1) (by decide +kernel) (rm_R rfl rfl), (hT _ qq_7_3), (hT _ qs_4_10)⟩ (pr_V hPc hKc hDc hN (ci := 10) (q0 := 0) rfl rfl) rfl rfl hl.1 rfl (lv_room (Nat.le_of_ble_eq_true rfl)) dX12_crease_63 ⟨Nat.le_of_ble_eq_true rfl, Nat.le_of_ble_eq_true rfl⟩) ?_
            refine lv_if_eq (tgt := 108) hx hb dX12_crease_66 (by decide) (fun _ => ?_) (fun c_10 => absurd (by decide) c_10)
            refine lv_bipush (v := (-2)) hx hb dX12_crease_108 (by decide) ?_
            refine W.widen (k := 0) (n := 0) (Nat.le_of_ble_eq_true rfl) (Nat.le_of_ble_eq_true rfl) ?_
            exact W.iret (v := (-2)) hx hb hr (fun t9 ht9 hW9 => ⟨⟨_, (), rfl, (by simp [r_crease, c_1]), trivial⟩, hS.F ht9⟩) hS.2.2 dX12_crease_110
    · refine lv_iload_n hx hb dX12_crease_20 rfl (lv_at hl 1 rfl) ?_
      refine lv_iconst (v := 1) hx hb dX12_crease_21 (by decide) ?_
      refine lv_icmp_ne (tgt := 29) hx hb dX12_crease_22 (by decide) (fun c_11 => ?_) (fun c_11 => ?_)
      · refine lv_iconst (v := 0) hx hb dX12_crease_29 (by decide) ?_
        refine lv_istore (lv' := [(4, .int 0), (0, .ref m0), (1, .int a1), (2, .int a2), (3, .int a3)]) hx hb dX12_crease_30 hl (by decide) rfl (fun ls hl => ?_)
        refine lv_iload_n hx hb dX12_crease_32 rfl (lv_at hl 2 rfl) ?_
        refine lv_iconst (v := 2) hx hb dX12_crease_33 (by decide) ?_
        refine lv_icmp_eq (tgt := 42) hx hb dX12_crease_34 (by decide) (fun c_12 => ?_) (fun c_12 => ?_)
        · refine lv_iconst (v := 1) hx hb dX12_crease_42 (by decide) ?_
          refine lv_goto (tgt := 47) hx hb dX12_crease_43 (by decide) ?_
          refine lv_istore (lv' := [(5, .int 1), (4, .int 0), (0, .ref m0), (1, .int a1), (2, .int a2), (3, .int a3)]) hx hb dX12_crease_47 hl (by decide) rfl (fun ls hl => ?_)
          refine lv_iload_n hx hb dX12_crease_49 rfl (lv_at hl 3 rfl) ?_
          refine lv_i2l (v := a1.toInt64) hx hb dX12_crease_50 rfl ?_
          refine lv_lconst (v := 0) hx hb dX12_crease_51 (by decide) ?_
          refine lv_ldc2 (v := 5) hx hb hown (hT _ qq_7_47) dX12_crease_52 ?_
          have hPc := hP.sub (ws' := []) [] rfl
          have hDc := hD.sub (ws' := []) [] (by decide) rfl
          have hKc := hK.sub (tys' := []) [] rfl
          refine cl_V (W.runS (As := [.long a1.toInt64, .long 0, .long 5]) (rest := []) ⟨hx, hb, hml, hown, hts⟩ (c_in_0_5 l D ad H.size a1) ⟨callB_of 3 hts (gd_C qq_6_97) rfl rfl rfl (hT _ qq_1_9) (hT _ qq_6_95) (by decide +kernel) (rm_R rfl rfl), (hT _ qq_6_96)⟩ (pr_S hPc hKc hDc hN) rfl rfl hl.1 rfl (lv_room (Nat.le_of_ble_eq_true rfl)) dX12_crease_55 ⟨Nat.le_of_ble_eq_true rfl, Nat.le_of_ble_eq_true rfl⟩) ?_
          refine lv_if_eq (tgt := 108) hx hb dX12_crease_58 (by decide) (fun c_13 => ?_) (fun c_13 => ?_)
          · refine lv_bipush (v := (-2)) hx hb dX12_crease_108 (by decide) ?_
            refine W.widen (k := 0) (n := 0) (Nat.le_of_ble_eq_true rfl) (Nat.le_of_ble_eq_true rfl) ?_
            exact W.iret (v := (-2)) hx hb hr (fun t9 ht9 hW9 => ⟨⟨_, (), rfl, (by simp [r_crease, c_1]), trivial⟩, hS.F ht9⟩) hS.2.2 dX12_crease_110
          · refine lv_aload_n hx hb dX12_crease_61 rfl (lv_at hl 2 rfl) ?_
            refine lv_iload_n hx hb dX12_crease_62 rfl (lv_at hl 4 rfl) ?_
            have hPc := hP.sub (ws' := [(m0, .inr (10, [.ref mTa, .int 0, .int 0, .ref mSi, .ref mLe, .ref mCl, .ref mCs, .ref mRe, .int 0, .int 0, .int 0, .int 0, .int 0, .int 0, .int 0, .ref mOp, .int 0, .ref mSt, .int 0, .ref mWo, .ref mSa, .int 0, .ref mWa, .int 0, .ref mFa, .ref mQu, .ref mIs, .int 0, .int 0, .long 0, .ref mIm, .ref mIx, .ref mMa])), (mSa, .inl (kmSa, 133, .inl sd0))]) [0, 1] rfl
            have hDc := hD.sub (ws' := [(m0, .inr (10, [.ref mTa, .int 0, .int 0, .ref mSi, .ref mLe, .ref mCl, .ref mCs, .ref mRe, .int 0, .int 0, .int 0, .int 0, .int 0, .int 0, .int 0, .ref mOp, .int 0, .ref mSt, .int 0, .ref mWo, .ref mSa, .int 0, .ref mWa, .int 0, .ref mFa, .ref mQu, .ref mIs, .int 0, .int 0, .long 0, .ref mIm, .ref mIx, .ref mMa])), (mSa, .inl (kmSa, 133, .inl sd0))]) [0, 1] (by decide) rfl
            have hKc := hK.sub (tys' := [(kmSa, .int)]) [0] rfl
            refine cl_V (W.runV (As := [.int a2]) (rest := []) ⟨hx, hb, hml, hown, hts⟩ (c_isButton l D ad H.size m0 mTa mSi mLe mCl mCs mRe mOp mSt mWo mSa mWa mFa mQu mIs mIm mIx mMa kmSa a2) ⟨callB_of 1 hts (gd_C qq_7_4) rfl rfl rfl (hT _ qq_1_9) (hT _ qq_7_1) (by decide +kernel) (rm_R rfl rfl), (hT _ qq_7_3), (hT _ qs_4_10)⟩ (pr_V hPc hKc hDc hN (ci := 10) (q0 := 0) rfl rfl) rfl rfl hl.1 rfl (lv_room (Nat.le_of_ble_eq_true rfl)) dX12_crease_63 ⟨Nat.le_of_ble_eq_true rfl, Nat.le_of_ble_eq_true rfl⟩) ?_
            refine lv_if_eq (tgt := 108) hx hb dX12_crease_66 (by decide) (fun _ => ?_) (fun c_14 => absurd (by decide) c_14)
            refine lv_bipush (v := (-2)) hx hb dX12_crease_108 (by decide) ?_
            refine W.widen (k := 0) (n := 0) (Nat.le_of_ble_eq_true rfl) (Nat.le_of_ble_eq_true rfl) ?_
            exact W.iret (v := (-2)) hx hb hr (fun t9 ht9 hW9 => ⟨⟨_, (), rfl, (by simp [r_crease, c_1]), trivial⟩, hS.F ht9⟩) hS.2.2 dX12_crease_110
        · refine lv_iload_n hx hb dX12_crease_37 rfl (lv_at hl 2 rfl) ?_
          refine lv_iconst (v := 3) hx hb dX12_crease_38 (by decide) ?_
          refine lv_icmp_ne (tgt := 46) hx hb dX12_crease_39 (by decide) (fun c_15 => ?_) (fun c_15 => ?_)
          · refine lv_iconst (v := 0) hx hb dX12_crease_46 (by decide) ?_
            refine lv_istore (lv' := [(5, .int 0), (4, .int 0), (0, .ref m0), (1, .int a1), (2, .int a2), (3, .int a3)]) hx hb dX12_crease_47 hl (by decide) rfl (fun ls hl => ?_)
            refine lv_iload_n hx hb dX12_crease_49 rfl (lv_at hl 3 rfl) ?_
            refine lv_i2l (v := a1.toInt64) hx hb dX12_crease_50 rfl ?_
            refine lv_lconst (v := 0) hx hb dX12_crease_51 (by decide) ?_
            refine lv_ldc2 (v := 5) hx hb hown (hT _ qq_7_47) dX12_crease_52 ?_
            have hPc := hP.sub (ws' := []) [] rfl
            have hDc := hD.sub (ws' := []) [] (by decide) rfl
            have hKc := hK.sub (tys' := []) [] rfl
            refine cl_V (W.runS (As := [.long a1.toInt64, .long 0, .long 5]) (rest := []) ⟨hx, hb, hml, hown, hts⟩ (c_in_0_5 l D ad H.size a1) ⟨callB_of 3 hts (gd_C qq_6_97) rfl rfl rfl (hT _ qq_1_9) (hT _ qq_6_95) (by decide +kernel) (rm_R rfl rfl), (hT _ qq_6_96)⟩ (pr_S hPc hKc hDc hN) rfl rfl hl.1 rfl (lv_room (Nat.le_of_ble_eq_true rfl)) dX12_crease_55 ⟨Nat.le_of_ble_eq_true rfl, Nat.le_of_ble_eq_true rfl⟩) ?_
            refine lv_if_eq (tgt := 108) hx hb dX12_crease_58 (by decide) (fun c_16 => ?_) (fun c_16 => ?_)
            · refine lv_bipush (v := (-2)) hx hb dX12_crease_108 (by decide) ?_
              refine W.widen (k := 0) (n := 0) (Nat.le_of_ble_eq_true rfl) (Nat.le_of_ble_eq_true rfl) ?_
              exact W.iret (v := (-2)) hx hb hr (fun t9 ht9 hW9 => ⟨⟨_, (), rfl, (by simp [r_crease, c_1]), trivial⟩, hS.F ht9⟩) hS.2.2 dX12_crease_110
            · refine lv_aload_n hx hb dX12_crease_61 rfl (lv_at hl 2 rfl) ?_
              refine lv_iload_n hx hb dX12_crease_62 rfl (lv_at hl 4 rfl) ?_
              have hPc := hP.sub (ws' := [(m0, .inr (10, [.ref mTa, .int 0, .int 0, .ref mSi, .ref mLe, .ref mCl, .ref mCs, .ref mRe, .int 0, .int 0, .int 0, .int 0, .int 0, .int 0, .int 0, .ref mOp, .int 0, .ref mSt, .int 0, .ref mWo, .ref mSa, .int 0, .ref mWa, .int 0, .ref mFa, .ref mQu, .ref mIs, .int 0, .int 0, .long 0, .ref mIm, .ref mIx, .ref mMa])), (mSa, .inl (kmSa, 133, .inl sd0))]) [0, 1] rfl
              have hDc := hD.sub (ws' := [(m0, .inr (10, [.ref mTa, .int 0, .int 0, .ref mSi, .ref mLe, .ref mCl, .ref mCs, .ref mRe, .int 0, .int 0, .int 0, .int 0, .int 0, .int 0, .int 0, .ref mOp, .int 0, .ref mSt, .int 0, .ref mWo, .ref mSa, .int 0, .ref mWa, .int 0, .ref mFa, .ref mQu, .ref mIs, .int 0, .int 0, .long 0, .ref mIm, .ref mIx, .ref mMa])), (mSa, .inl (kmSa, 133, .inl sd0))]) [0, 1] (by decide) rfl
              have hKc := hK.sub (tys' := [(kmSa, .int)]) [0] rfl
              refine cl_V (W.runV (As := [.int a2]) (rest := []) ⟨hx, hb, hml, hown, hts⟩ (c_isButton l D ad H.size m0 mTa mSi mLe mCl mCs mRe mOp mSt mWo mSa mWa mFa mQu mIs mIm mIx mMa kmSa a2) ⟨callB_of 1 hts (gd_C qq_7_4) rfl rfl rfl (hT _ qq_1_9) (hT _ qq_7_1) (by decide +kernel) (rm_R rfl rfl), (hT _ qq_7_3), (hT _ qs_4_10)⟩ (pr_V hPc hKc hDc hN (ci := 10) (q0 := 0) rfl rfl) rfl rfl hl.1 rfl (lv_room (Nat.le_of_ble_eq_true rfl)) dX12_crease_63 ⟨Nat.le_of_ble_eq_true rfl, Nat.le_of_ble_eq_true rfl⟩) ?_
              refine lv_if_eq (tgt := 108) hx hb dX12_crease_66 (by decide) (fun _ => ?_) (fun c_17 => absurd (by decide) c_17)
              refine lv_bipush (v := (-2)) hx hb dX12_crease_108 (by decide) ?_
              refine W.widen (k := 0) (n := 0) (Nat.le_of_ble_eq_true rfl) (Nat.le_of_ble_eq_true rfl) ?_
              exact W.iret (v := (-2)) hx hb hr (fun t9 ht9 hW9 => ⟨⟨_, (), rfl, (by simp [r_crease, c_1]), trivial⟩, hS.F ht9⟩) hS.2.2 dX12_crease_110
          · refine lv_iconst (v := 1) hx hb dX12_crease_42 (by decide) ?_
            refine lv_goto (tgt := 47) hx hb dX12_crease_43 (by decide) ?_
            refine lv_istore (lv' := [(5, .int 1), (4, .int 0), (0, .ref m0), (1, .int a1), (2, .int a2), (3, .int a3)]) hx hb dX12_crease_47 hl (by decide) rfl (fun ls hl => ?_)
            refine lv_iload_n hx hb dX12_crease_49 rfl (lv_at hl 3 rfl) ?_
            refine lv_i2l (v := a1.toInt64) hx hb dX12_crease_50 rfl ?_
            refine lv_lconst (v := 0) hx hb dX12_crease_51 (by decide) ?_
            refine lv_ldc2 (v := 5) hx hb hown (hT _ qq_7_47) dX12_crease_52 ?_
            have hPc := hP.sub (ws' := []) [] rfl
            have hDc := hD.sub (ws' := []) [] (by decide) rfl
            have hKc := hK.sub (tys' := []) [] rfl
            refine cl_V (W.runS (As := [.long a1.toInt64, .long 0, .long 5]) (rest := []) ⟨hx, hb, hml, hown, hts⟩ (c_in_0_5 l D ad H.size a1) ⟨callB_of 3 hts (gd_C qq_6_97) rfl rfl rfl (hT _ qq_1_9) (hT _ qq_6_95) (by decide +kernel) (rm_R rfl rfl), (hT _ qq_6_96)⟩ (pr_S hPc hKc hDc hN) rfl rfl hl.1 rfl (lv_room (Nat.le_of_ble_eq_true rfl)) dX12_crease_55 ⟨Nat.le_of_ble_eq_true rfl, Nat.le_of_ble_eq_true rfl⟩) ?_
            refine lv_if_eq (tgt := 108) hx hb dX12_crease_58 (by decide) (fun c_18 => ?_) (fun c_18 => ?_)
            · refine lv_bipush (v := (-2)) hx hb dX12_crease_108 (by decide) ?_
              refine W.widen (k := 0) (n := 0) (Nat.le_of_ble_eq_true rfl) (Nat.le_of_ble_eq_true rfl) ?_
              exact W.iret (v := (-2)) hx hb hr (fun t9 ht9 hW9 => ⟨⟨_, (), rfl, (by simp [r_crease, c_1]), trivial⟩, hS.F ht9⟩) hS.2.2 dX12_crease_110
            · refine lv_aload_n hx hb dX12_crease_61 rfl (lv_at hl 2 rfl) ?_
              refine lv_iload_n hx hb dX12_crease_62 rfl (lv_at hl 4 rfl) ?_
              have hPc := hP.sub (ws' := [(m0, .inr (10, [.ref mTa, .int 0, .int 0, .ref mSi, .ref mLe, .ref mCl, .ref mCs, .ref mRe, .int 0, .int 0, .int 0, .int 0, .int 0, .int 0, .int 0, .ref mOp, .int 0, .ref mSt, .int 0, .ref mWo, .ref mSa, .int 0, .ref mWa, .int 0, .ref mFa, .ref mQu, .ref mIs, .int 0, .int 0, .long 0, .ref mIm, .ref mIx, .ref mMa])), (mSa, .inl (kmSa, 133, .inl sd0))]) [0, 1] rfl
              have hDc := hD.sub (ws' := [(m0, .inr (10, [.ref mTa, .int 0, .int 0, .ref mSi, .ref mLe, .ref mCl, .ref mCs, .ref mRe, .int 0, .int 0, .int 0, .int 0, .int 0, .int 0, .int 0, .ref mOp, .int 0, .ref mSt, .int 0, .ref mWo, .ref mSa, .int 0, .ref mWa, .int 0, .ref mFa, .ref mQu, .ref mIs, .int 0, .int 0, .long 0, .ref mIm, .ref mIx, .ref mMa])), (mSa, .inl (kmSa, 133, .inl sd0))]) [0, 1] (by decide) rfl
              have hKc := hK.sub (tys' := [(kmSa, .int)]) [0] rfl
              refine cl_V (W.runV (As := [.int a2]) (rest := []) ⟨hx, hb, hml, hown, hts⟩ (c_isButton l D ad H.size m0 mTa mSi mLe mCl mCs mRe mOp mSt mWo mSa mWa mFa mQu mIs mIm mIx mMa kmSa a2) ⟨callB_of 1 hts (gd_C qq_7_4) rfl rfl rfl (hT _ qq_1_9) (hT _ qq_7_1) (by decide +kernel) (rm_R rfl rfl), (hT _ qq_7_3), (hT _ qs_4_10)⟩ (pr_V hPc hKc hDc hN (ci := 10) (q0 := 0) rfl rfl) rfl rfl hl.1 rfl (lv_room (Nat.le_of_ble_eq_true rfl)) dX12_crease_63 ⟨Nat.le_of_ble_eq_true rfl, Nat.le_of_ble_eq_true rfl⟩) ?_
              refine lv_if_eq (tgt := 108) hx hb dX12_crease_66 (by decide) (fun _ => ?_) (fun c_19 => absurd (by decide) c_19)
              refine lv_bipush (v := (-2)) hx hb dX12_crease_108 (by decide) ?_
              refine W.widen (k := 0) (n := 0) (Nat.le_of_ble_eq_true rfl) (Nat.le_of_ble_eq_true rfl) ?_
              exact W.iret (v := (-2)) hx hb hr (fun t9 ht9 hW9 => ⟨⟨_, (), rfl, (by simp [r_crease, c_1]), trivial⟩, hS.F ht9⟩) hS.2.2 dX12_crease_110
      · refine lv_iconst (v := 1) hx hb dX12_crease_25 (by decide) ?_
        refine lv_goto (tgt := 30) hx hb dX12_crease_26 (by decide) ?_
        refine lv_istore (lv' := [(4, .int 1), (0, .ref m0), (1, .int a1), (2, .int a2), (3, .int a3)]) hx hb dX12_crease_30 hl (by decide) rfl (fun ls hl => ?_)
        refine lv_iload_n hx hb dX12_crease_32 rfl (lv_at hl 2 rfl) ?_
        refine lv_iconst (v := 2) hx hb dX12_crease_33 (by decide) ?_
        refine lv_icmp_eq (tgt := 42) hx hb dX12_crease_34 (by decide) (fun c_20 => ?_) (fun c_20 => ?_)
        · refine lv_iconst (v := 1) hx hb dX12_crease_42 (by decide) ?_
          refine lv_goto (tgt := 47) hx hb dX12_crease_43 (by decide) ?_
          refine lv_istore (lv' := [(5, .int 1), (4, .int 1), (0, .ref m0), (1, .int a1), (2, .int a2), (3, .int a3)]) hx hb dX12_crease_47 hl (by decide) rfl (fun ls hl => ?_)
          refine lv_iload_n hx hb dX12_crease_49 rfl (lv_at hl 3 rfl) ?_
          refine lv_i2l (v := a1.toInt64) hx hb dX12_crease_50 rfl ?_
          refine lv_lconst (v := 0) hx hb dX12_crease_51 (by decide) ?_
          refine lv_ldc2 (v := 5) hx hb hown (hT _ qq_7_47) dX12_crease_52 ?_
          have hPc := hP.sub (ws' := []) [] rfl
          have hDc := hD.sub (ws' := []) [] (by decide) rfl
          have hKc := hK.sub (tys' := []) [] rfl
          refine cl_V (W.runS (As := [.long a1.toInt64, .long 0, .long 5]) (rest := []) ⟨hx, hb, hml, hown, hts⟩ (c_in_0_5 l D ad H.size a1) ⟨callB_of 3 hts (gd_C qq_6_97) rfl rfl rfl (hT _ qq_1_9) (hT _ qq_6_95) (by decide +kernel) (rm_R rfl rfl), (hT _ qq_6_96)⟩ (pr_S hPc hKc hDc hN) rfl rfl hl.1 rfl (lv_room (Nat.le_of_ble_eq_true rfl)) dX12_crease_55 ⟨Nat.le_of_ble_eq_true rfl, Nat.le_of_ble_eq_true rfl⟩) ?_
          refine lv_if_eq (tgt := 108) hx hb dX12_crease_58 (by decide) (fun c_21 => ?_) (fun c_21 => ?_)
          · refine lv_bipush (v := (-2)) hx hb dX12_crease_108 (by decide) ?_
            refine W.widen (k := 0) (n := 0) (Nat.le_of_ble_eq_true rfl) (Nat.le_of_ble_eq_true rfl) ?_
            exact W.iret (v := (-2)) hx hb hr (fun t9 ht9 hW9 => ⟨⟨_, (), rfl, (by simp [r_crease, c_1]), trivial⟩, hS.F ht9⟩) hS.2.2 dX12_crease_110
          · refine lv_aload_n hx hb dX12_crease_61 rfl (lv_at hl 2 rfl) ?_
            refine lv_iload_n hx hb dX12_crease_62 rfl (lv_at hl 4 rfl) ?_
            have hPc := hP.sub (ws' := [(m0, .inr (10, [.ref mTa, .int 0, .int 0, .ref mSi, .ref mLe, .ref mCl, .ref mCs, .ref mRe, .int 0, .int 0, .int 0, .int 0, .int 0, .int 0, .int 0, .ref mOp, .int 0, .ref mSt, .int 0, .ref mWo, .ref mSa, .int 0, .ref mWa, .int 0, .ref mFa, .ref mQu, .ref mIs, .int 0, .int 0, .long 0, .ref mIm, .ref mIx, .ref mMa])), (mSa, .inl (kmSa, 133, .inl sd0))]) [0, 1] rfl
            have hDc := hD.sub (ws' := [(m0, .inr (10, [.ref mTa, .int 0, .int 0, .ref mSi, .ref mLe, .ref mCl, .ref mCs, .ref mRe, .int 0, .int 0, .int 0, .int 0, .int 0, .int 0, .int 0, .ref mOp, .int 0, .ref mSt, .int 0, .ref mWo, .ref mSa, .int 0, .ref mWa, .int 0, .ref mFa, .ref mQu, .ref mIs, .int 0, .int 0, .long 0, .ref mIm, .ref mIx, .ref mMa])), (mSa, .inl (kmSa, 133, .inl sd0))]) [0, 1] (by decide) rfl
            have hKc := hK.sub (tys' := [(kmSa, .int)]) [0] rfl
            refine cl_V (W.runV (As := [.int a2]) (rest := []) ⟨hx, hb, hml, hown, hts⟩ (c_isButton l D ad H.size m0 mTa mSi mLe mCl mCs mRe mOp mSt mWo mSa mWa mFa mQu mIs mIm mIx mMa kmSa a2) ⟨callB_of 1 hts (gd_C qq_7_4) rfl rfl rfl (hT _ qq_1_9) (hT _ qq_7_1) (by decide +kernel) (rm_R rfl rfl), (hT _ qq_7_3), (hT _ qs_4_10)⟩ (pr_V hPc hKc hDc hN (ci := 10) (q0 := 0) rfl rfl) rfl rfl hl.1 rfl (lv_room (Nat.le_of_ble_eq_true rfl)) dX12_crease_63 ⟨Nat.le_of_ble_eq_true rfl, Nat.le_of_ble_eq_true rfl⟩) ?_
            refine lv_if_eq (tgt := 108) hx hb dX12_crease_66 (by decide) (fun _ => ?_) (fun c_22 => absurd (by decide) c_22)
            refine lv_bipush (v := (-2)) hx hb dX12_crease_108 (by decide) ?_
            refine W.widen (k := 0) (n := 0) (Nat.le_of_ble_eq_true rfl) (Nat.le_of_ble_eq_true rfl) ?_
            exact W.iret (v := (-2)) hx hb hr (fun t9 ht9 hW9 => ⟨⟨_, (), rfl, (by simp [r_crease, c_1]), trivial⟩, hS.F ht9⟩) hS.2.2 dX12_crease_110
        · refine lv_iload_n hx hb dX12_crease_37 rfl (lv_at hl 2 rfl) ?_
          refine lv_iconst (v := 3) hx hb dX12_crease_38 (by decide) ?_
          refine lv_icmp_ne (tgt := 46) hx hb dX12_crease_39 (by decide) (fun c_23 => ?_) (fun c_23 => ?_)
          · refine lv_iconst (v := 0) hx hb dX12_crease_46 (by decide) ?_
            refine lv_istore (lv' := [(5, .int 0), (4, .int 1), (0, .ref m0), (1, .int a1), (2, .int a2), (3, .int a3)]) hx hb dX12_crease_47 hl (by decide) rfl (fun ls hl => ?_)
            refine lv_iload_n hx hb dX12_crease_49 rfl (lv_at hl 3 rfl) ?_
            refine lv_i2l (v := a1.toInt64) hx hb dX12_crease_50 rfl ?_
            refine lv_lconst (v := 0) hx hb dX12_crease_51 (by decide) ?_
            refine lv_ldc2 (v := 5) hx hb hown (hT _ qq_7_47) dX12_crease_52 ?_
            have hPc := hP.sub (ws' := []) [] rfl
            have hDc := hD.sub (ws' := []) [] (by decide) rfl
            have hKc := hK.sub (tys' := []) [] rfl
            refine cl_V (W.runS (As := [.long a1.toInt64, .long 0, .long 5]) (rest := []) ⟨hx, hb, hml, hown, hts⟩ (c_in_0_5 l D ad H.size a1) ⟨callB_of 3 hts (gd_C qq_6_97) rfl rfl rfl (hT _ qq_1_9) (hT _ qq_6_95) (by decide +kernel) (rm_R rfl rfl), (hT _ qq_6_96)⟩ (pr_S hPc hKc hDc hN) rfl rfl hl.1 rfl (lv_room (Nat.le_of_ble_eq_true rfl)) dX12_crease_55 ⟨Nat.le_of_ble_eq_true rfl, Nat.le_of_ble_eq_true rfl⟩) ?_
            refine lv_if_eq (tgt := 108) hx hb dX12_crease_58 (by decide) (fun c_24 => ?_) (fun c_24 => ?_)
            · refine lv_bipush (v := (-2)) hx hb dX12_crease_108 (by decide) ?_
              refine W.widen (k := 0) (n := 0) (Nat.le_of_ble_eq_true rfl) (Nat.le_of_ble_eq_true rfl) ?_
              exact W.iret (v := (-2)) hx hb hr (fun t9 ht9 hW9 => ⟨⟨_, (), rfl, (by simp [r_crease, c_1]), trivial⟩, hS.F ht9⟩) hS.2.2 dX12_crease_110
            · refine lv_aload_n hx hb dX12_crease_61 rfl (lv_at hl 2 rfl) ?_
              refine lv_iload_n hx hb dX12_crease_62 rfl (lv_at hl 4 rfl) ?_
              have hPc := hP.sub (ws' := [(m0, .inr (10, [.ref mTa, .int 0, .int 0, .ref mSi, .ref mLe, .ref mCl, .ref mCs, .ref mRe, .int 0, .int 0, .int 0, .int 0, .int 0, .int 0, .int 0, .ref mOp, .int 0, .ref mSt, .int 0, .ref mWo, .ref mSa, .int 0, .ref mWa, .int 0, .ref mFa, .ref mQu, .ref mIs, .int 0, .int 0, .long 0, .ref mIm, .ref mIx, .ref mMa])), (mSa, .inl (kmSa, 133, .inl sd0))]) [0, 1] rfl
              have hDc := hD.sub (ws' := [(m0, .inr (10, [.ref mTa, .int 0, .int 0, .ref mSi, .ref mLe, .ref mCl, .ref mCs, .ref mRe, .int 0, .int 0, .int 0, .int 0, .int 0, .int 0, .int 0, .ref mOp, .int 0, .ref mSt, .int 0, .ref mWo, .ref mSa, .int 0, .ref mWa, .int 0, .ref mFa, .ref mQu, .ref mIs, .int 0, .int 0, .long 0, .ref mIm, .ref mIx, .ref mMa])), (mSa, .inl (kmSa, 133, .inl sd0))]) [0, 1] (by decide) rfl
              have hKc := hK.sub (tys' := [(kmSa, .int)]) [0] rfl
              refine cl_V (W.runV (As := [.int a2]) (rest := []) ⟨hx, hb, hml, hown, hts⟩ (c_isButton l D ad H.size m0 mTa mSi mLe mCl mCs mRe mOp mSt mWo mSa mWa mFa mQu mIs mIm mIx mMa kmSa a2) ⟨callB_of 1 hts (gd_C qq_7_4) rfl rfl rfl (hT _ qq_1_9) (hT _ qq_7_1) (by decide +kernel) (rm_R rfl rfl), (hT _ qq_7_3), (hT _ qs_4_10)⟩ (pr_V hPc hKc hDc hN (ci := 10) (q0 := 0) rfl rfl) rfl rfl hl.1 rfl (lv_room (Nat.le_of_ble_eq_true rfl)) dX12_crease_63 ⟨Nat.le_of_ble_eq_true rfl, Nat.le_of_ble_eq_true rfl⟩) ?_
              refine lv_if_eq (tgt := 108) hx hb dX12_crease_66 (by decide) (fun _ => ?_) (fun c_25 => absurd (by decide) c_25)
              refine lv_bipush (v := (-2)) hx hb dX12_crease_108 (by decide) ?_
              refine W.widen (k := 0) (n := 0) (Nat.le_of_ble_eq_true rfl) (Nat.le_of_ble_eq_true rfl) ?_
              exact W.iret (v := (-2)) hx hb hr (fun t9 ht9 hW9 => ⟨⟨_, (), rfl, (by simp [r_crease, c_1]), trivial⟩, hS.F ht9⟩) hS.2.2 dX12_crease_110
          · refine lv_iconst (v := 1) hx hb dX12_crease_42 (by decide) ?_
            refine lv_goto (tgt := 47) hx hb dX12_crease_43 (by decide) ?_
            refine lv_istore (lv' := [(5, .int 1), (4, .int 1), (0, .ref m0), (1, .int a1), (2, .int a2), (3, .int a3)]) hx hb dX12_crease_47 hl (by decide) rfl (fun ls hl => ?_)
            refine lv_iload_n hx hb dX12_crease_49 rfl (lv_at hl 3 rfl) ?_
            refine lv_i2l (v := a1.toInt64) hx hb dX12_crease_50 rfl ?_
            refine lv_lconst (v := 0) hx hb dX12_crease_51 (by decide) ?_
            refine lv_ldc2 (v := 5) hx hb hown (hT _ qq_7_47) dX12_crease_52 ?_
            have hPc := hP.sub (ws' := []) [] rfl
            have hDc := hD.sub (ws' := []) [] (by decide) rfl
            have hKc := hK.sub (tys' := []) [] rfl
            refine cl_V (W.runS (As := [.long a1.toInt64, .long 0, .long 5]) (rest := []) ⟨hx, hb, hml, hown, hts⟩ (c_in_0_5 l D ad H.size a1) ⟨callB_of 3 hts (gd_C qq_6_97) rfl rfl rfl (hT _ qq_1_9) (hT _ qq_6_95) (by decide +kernel) (rm_R rfl rfl), (hT _ qq_6_96)⟩ (pr_S hPc hKc hDc hN) rfl rfl hl.1 rfl (lv_room (Nat.le_of_ble_eq_true rfl)) dX12_crease_55 ⟨Nat.le_of_ble_eq_true rfl, Nat.le_of_ble_eq_true rfl⟩) ?_
            refine lv_if_eq (tgt := 108) hx hb dX12_crease_58 (by decide) (fun c_26 => ?_) (fun c_26 => ?_)
            · refine lv_bipush (v := (-2)) hx hb dX12_crease_108 (by decide) ?_
              refine W.widen (k := 0) (n := 0) (Nat.le_of_ble_eq_true rfl) (Nat.le_of_ble_eq_true rfl) ?_
              exact W.iret (v := (-2)) hx hb hr (fun t9 ht9 hW9 => ⟨⟨_, (), rfl, (by simp [r_crease, c_1]), trivial⟩, hS.F ht9⟩) hS.2.2 dX12_crease_110
            · refine lv_aload_n hx hb dX12_crease_61 rfl (lv_at hl 2 rfl) ?_
              refine lv_iload_n hx hb dX12_crease_62 rfl (lv_at hl 4 rfl) ?_
              have hPc := hP.sub (ws' := [(m0, .inr (10, [.ref mTa, .int 0, .int 0, .ref mSi, .ref mLe, .ref mCl, .ref mCs, .ref mRe, .int 0, .int 0, .int 0, .int 0, .int 0, .int 0, .int 0, .ref mOp, .int 0, .ref mSt, .int 0, .ref mWo, .ref mSa, .int 0, .ref mWa, .int 0, .ref mFa, .ref mQu, .ref mIs, .int 0, .int 0, .long 0, .ref mIm, .ref mIx, .ref mMa])), (mSa, .inl (kmSa, 133, .inl sd0))]) [0, 1] rfl
              have hDc := hD.sub (ws' := [(m0, .inr (10, [.ref mTa, .int 0, .int 0, .ref mSi, .ref mLe, .ref mCl, .ref mCs, .ref mRe, .int 0, .int 0, .int 0, .int 0, .int 0, .int 0, .int 0, .ref mOp, .int 0, .ref mSt, .int 0, .ref mWo, .ref mSa, .int 0, .ref mWa, .int 0, .ref mFa, .ref mQu, .ref mIs, .int 0, .int 0, .long 0, .ref mIm, .ref mIx, .ref mMa])), (mSa, .inl (kmSa, 133, .inl sd0))]) [0, 1] (by decide) rfl
              have hKc := hK.sub (tys' := [(kmSa, .int)]) [0] rfl
              refine cl_V (W.runV (As := [.int a2]) (rest := []) ⟨hx, hb, hml, hown, hts⟩ (c_isButton l D ad H.size m0 mTa mSi mLe mCl mCs mRe mOp mSt mWo mSa mWa mFa mQu mIs mIm mIx mMa kmSa a2) ⟨callB_of 1 hts (gd_C qq_7_4) rfl rfl rfl (hT _ qq_1_9) (hT _ qq_7_1) (by decide +kernel) (rm_R rfl rfl), (hT _ qq_7_3), (hT _ qs_4_10)⟩ (pr_V hPc hKc hDc hN (ci := 10) (q0 := 0) rfl rfl) rfl rfl hl.1 rfl (lv_room (Nat.le_of_ble_eq_true rfl)) dX12_crease_63 ⟨Nat.le_of_ble_eq_true rfl, Nat.le_of_ble_eq_true rfl⟩) ?_
              refine lv_if_eq (tgt := 108) hx hb dX12_crease_66 (by decide) (fun _ => ?_) (fun c_27 => absurd (by decide) c_27)
              refine lv_bipush (v := (-2)) hx hb dX12_crease_108 (by decide) ?_
              refine W.widen (k := 0) (n := 0) (Nat.le_of_ble_eq_true rfl) (Nat.le_of_ble_eq_true rfl) ?_
              exact W.iret (v := (-2)) hx hb hr (fun t9 ht9 hW9 => ⟨⟨_, (), rfl, (by simp [r_crease, c_1]), trivial⟩, hS.F ht9⟩) hS.2.2 dX12_crease_110
  · refine lv_aload_n hx hb dX12_crease_5 rfl (lv_at hl 0 rfl) ?_
    refine va_get (D := D) (ci := 10) (v := .ref mSa) (C := "WrongHoleModel") (T := TX12) (N := 33) hx hb hts (iq_RX12 _) hown hK hP 0 rfl rfl 20 (by decide) (hT _ qq_5_172) (fun _ h9 => h9) rfl dX12_crease_6 ?_
    refine lv_sipush (v := 132) hx hb dX12_crease_9 (by decide) ?_
    refine lv_iconst (v := 0) hx hb dX12_crease_12 (by decide) ?_
    refine va_iast hx hb hK hP hD hS 1 0 rfl rfl (vi_c rfl) dX12_crease_13 (fun H locs hP hD hS => ?_)
    have hP : va_P D vwCl [(m0, .inr (10, [.ref mTa, .int 0, .int 0, .ref mSi, .ref mLe, .ref mCl, .ref mCs, .ref mRe, .int 0, .int 0, .int 0, .int 0, .int 0, .int 0, .int 0, .ref mOp, .int 0, .ref mSt, .int 0, .ref mWo, .ref mSa, .int 0, .ref mWa, .int 0, .ref mFa, .ref mQu, .ref mIs, .int 0, .int 0, .long 0, .ref mIm, .ref mIx, .ref mMa])), (mSa, .inl (kmSa, 133, .inl (upd sd0 132 0)))] H := hP
    have hD : va_D A [(m0, .inr (10, [.ref mTa, .int 0, .int 0, .ref mSi, .ref mLe, .ref mCl, .ref mCs, .ref mRe, .int 0, .int 0, .int 0, .int 0, .int 0, .int 0, .int 0, .ref mOp, .int 0, .ref mSt, .int 0, .ref mWo, .ref mSa, .int 0, .ref mWa, .int 0, .ref mFa, .ref mQu, .ref mIs, .int 0, .int 0, .long 0, .ref mIm, .ref mIx, .ref mMa])), (mSa, .inl (kmSa, 133, .inl (upd sd0 132 0)))] := hD
    generalize upd sd0 132 0 = g_28 at hP hD
    refine lv_iconst (v := 0) hx hb dX12_crease_14 (by decide) ?_
    refine W.widen (k := 0) (n := 0) (Nat.le_of_ble_eq_true rfl) (Nat.le_of_ble_eq_true rfl) ?_
    exact W.iret (v := 0) hx hb hr (fun t9 ht9 hW9 => ⟨⟨_, (), rfl, (by simp [r_crease, c_1]), trivial⟩, hS.F ht9⟩) hS.2.2 dX12_crease_15
theorem seat_a {a b : Int32} (h : b_rng 0 9 a = 0) : -2 = r_seat a b := by
  unfold r_seat
  rw [if_pos]
  rcases rng_0 h with q | q
  · exact Or.inl q
  · exact Or.inr (Or.inl q)
theorem seat_b {a b : Int32} (h : b_rng (-1) 9 b = 0) : -2 = r_seat a b := by
  unfold r_seat
  rw [if_pos]
  rcases rng_0 h with q | q
  · exact Or.inr (Or.inr (Or.inl q))
  · exact Or.inr (Or.inr (Or.inr q))
theorem seat_c {a b : Int32} (h : ¬ b_rng 0 9 a = 0) (h2 : ¬ b_rng (-1) 9 b = 0) : -1 = r_seat a b := by
  unfold r_seat
  rw [if_neg]
  rintro (q | q | q | q)
  · exact rng_1 h (Or.inl q)
  · exact rng_1 h (Or.inr q)
  · exact rng_1 h2 (Or.inl q)
  · exact rng_1 h2 (Or.inr q)
theorem dX12_seat_0 : decode cX12_seat 0 = .ok (.iload_n 1, 1) := by decide +kernel
theorem dX12_seat_1 : decode cX12_seat 1 = .ok (.i2l, 1) := by decide +kernel
theorem dX12_seat_2 : decode cX12_seat 2 = .ok (.lconst 0, 1) := by decide +kernel
theorem dX12_seat_3 : decode cX12_seat 3 = .ok (.ldc2_w 495, 3) := by decide +kernel
theorem qq_8_36 : Cond.constantLong "WrongHoleModel" 495 9 ∈ TB := mk_tb (ti_8 (List.mem_of_getElem? (i := 36) rfl)) rfl
theorem dX12_seat_6 : decode cX12_seat 6 = .ok (.invokestatic 104, 3) := by decide +kernel
theorem dX12_seat_9 : decode cX12_seat 9 = .ok (.ifCond .eq 17, 3) := by decide +kernel
theorem dX12_seat_26 : decode cX12_seat 26 = .ok (.bipush (-2), 2) := by decide +kernel
theorem dX12_seat_28 : decode cX12_seat 28 = .ok (.ireturn, 1) := by decide +kernel
theorem dX12_seat_12 : decode cX12_seat 12 = .ok (.iload_n 2, 1) := by decide +kernel
theorem dX12_seat_13 : decode cX12_seat 13 = .ok (.i2l, 1) := by decide +kernel
theorem dX12_seat_14 : decode cX12_seat 14 = .ok (.ldc2_w 506, 3) := by decide +kernel
theorem qq_8_64 : Cond.constantLong "WrongHoleModel" 506 (-1) ∈ TB := mk_tb (ti_8 (List.mem_of_getElem? (i := 64) rfl)) rfl
theorem dX12_seat_17 : decode cX12_seat 17 = .ok (.ldc2_w 495, 3) := by decide +kernel
theorem dX12_seat_20 : decode cX12_seat 20 = .ok (.invokestatic 104, 3) := by decide +kernel
theorem dX12_seat_23 : decode cX12_seat 23 = .ok (.ifCond .ne 6, 3) := by decide +kernel
theorem dX12_seat_29 : decode cX12_seat 29 = .ok (.aload_n 0, 1) := by decide +kernel
theorem dX12_seat_30 : decode cX12_seat 30 = .ok (.getfield 39, 3) := by decide +kernel
theorem dX12_seat_33 : decode cX12_seat 33 = .ok (.bipush 92, 2) := by decide +kernel
theorem dX12_seat_35 : decode cX12_seat 35 = .ok (.iload_n 1, 1) := by decide +kernel
theorem dX12_seat_36 : decode cX12_seat 36 = .ok (.iadd, 1) := by decide +kernel
theorem dX12_seat_37 : decode cX12_seat 37 = .ok (.iaload, 1) := by decide +kernel
theorem dX12_seat_38 : decode cX12_seat 38 = .ok (.istore_n 3, 1) := by decide +kernel
theorem dX12_seat_39 : decode cX12_seat 39 = .ok (.iconst 0, 1) := by decide +kernel
theorem dX12_seat_40 : decode cX12_seat 40 = .ok (.istore 4, 2) := by decide +kernel
theorem dX12_seat_42 : decode cX12_seat 42 = .ok (.iload 4, 2) := by decide +kernel
theorem dX12_seat_44 : decode cX12_seat 44 = .ok (.bipush 10, 2) := by decide +kernel
theorem dX12_seat_46 : decode cX12_seat 46 = .ok (.if_icmp .ge 38, 3) := by decide +kernel
theorem dX12_seat_49 : decode cX12_seat 49 = .ok (.iload_n 2, 1) := by decide +kernel
theorem dX12_seat_50 : decode cX12_seat 50 = .ok (.ifCond .lt 28, 3) := by decide +kernel
theorem dX12_seat_78 : decode cX12_seat 78 = .ok (.iinc 4 1, 3) := by decide +kernel
theorem dX12_seat_81 : decode cX12_seat 81 = .ok (.goto (-39), 3) := by decide +kernel
theorem dX12_seat_84 : decode cX12_seat 84 = .ok (.aload_n 0, 1) := by decide +kernel
theorem dX12_seat_85 : decode cX12_seat 85 = .ok (.getfield 39, 3) := by decide +kernel
theorem dX12_seat_88 : decode cX12_seat 88 = .ok (.bipush 92, 2) := by decide +kernel
theorem dX12_seat_90 : decode cX12_seat 90 = .ok (.iload_n 1, 1) := by decide +kernel
theorem dX12_seat_91 : decode cX12_seat 91 = .ok (.iadd, 1) := by decide +kernel
theorem dX12_seat_92 : decode cX12_seat 92 = .ok (.iload_n 2, 1) := by decide +kernel
theorem dX12_seat_93 : decode cX12_seat 93 = .ok (.iastore, 1) := by decide +kernel
theorem dX12_seat_94 : decode cX12_seat 94 = .ok (.iload_n 3, 1) := by decide +kernel
theorem dX12_seat_95 : decode cX12_seat 95 = .ok (.ireturn, 1) := by decide +kernel
theorem dX12_seat_53 : decode cX12_seat 53 = .ok (.aload_n 0, 1) := by decide +kernel
theorem dX12_seat_54 : decode cX12_seat 54 = .ok (.getfield 39, 3) := by decide +kernel
theorem dX12_seat_57 : decode cX12_seat 57 = .ok (.bipush 92, 2) := by decide +kernel
theorem dX12_seat_59 : decode cX12_seat 59 = .ok (.iload 4, 2) := by decide +kernel
theorem dX12_seat_61 : decode cX12_seat 61 = .ok (.iadd, 1) := by decide +kernel
theorem dX12_seat_62 : decode cX12_seat 62 = .ok (.iaload, 1) := by decide +kernel
theorem dX12_seat_63 : decode cX12_seat 63 = .ok (.iload_n 2, 1) := by decide +kernel
theorem dX12_seat_64 : decode cX12_seat 64 = .ok (.if_icmp .ne 14, 3) := by decide +kernel
set_option maxHeartbeats 4000000 in
set_option maxRecDepth 100000 in
theorem c_m_seat (l : Launch) (D : va_G) (ad : Nat → Nat) (sz : Nat) (m0 : Nat) (mTa : Nat) (mSi : Nat) (mLe : Nat) (mCl : Nat) (mCs : Nat) (mRe : Nat) (mOp : Nat) (mSt : Nat) (mWo : Nat) (mSa : Nat) (mWa : Nat) (mFa : Nat) (mQu : Nat) (mIs : Nat) (mIm : Nat) (mIx : Nat) (mMa : Nat) (kmSa : ClassId) (a1 : Int32) (a2 : Int32)  : Met l yX12_seat (Cond.code yX12_seat cX12_seat 5 (some .int) :: TB) (RM 1 0 0) (va_Pc [.ref m0, .int a1, .int a2] (PRE D ad [(m0, .inr (10, [.ref mTa, .int 0, .int 0, .ref mSi, .ref mLe, .ref mCl, .ref mCs, .ref mRe, .int 0, .int 0, .int 0, .int 0, .int 0, .int 0, .int 0, .ref mOp, .int 0, .ref mSt, .int 0, .ref mWo, .ref mSa, .int 0, .ref mWa, .int 0, .ref mFa, .ref mQu, .ref mIs, .int 0, .int 0, .long 0, .ref mIm, .ref mIx, .ref mMa])), (mSa, .inl (kmSa, 133, .inl sd0))] [(kmSa, .int)] sz)) (va_Qi (S := Unit) (fun r _ => r = (r_seat a1 a2)) (fun _ t => True) (va_A [(m0, .inr (10, [.ref mTa, .int 0, .int 0, .ref mSi, .ref mLe, .ref mCl, .ref mCs, .ref mRe, .int 0, .int 0, .int 0, .int 0, .int 0, .int 0, .int 0, .ref mOp, .int 0, .ref mSt, .int 0, .ref mWo, .ref mSa, .int 0, .ref mWa, .int 0, .ref mFa, .ref mQu, .ref mIs, .int 0, .int 0, .long 0, .ref mIm, .ref mIx, .ref mMa])), (mSa, .inl (kmSa, 133, .inl sd0))] sz)) 0 0 (va_A [(m0, .inr (10, [.ref mTa, .int 0, .int 0, .ref mSi, .ref mLe, .ref mCl, .ref mCs, .ref mRe, .int 0, .int 0, .int 0, .int 0, .int 0, .int 0, .int 0, .ref mOp, .int 0, .ref mSt, .int 0, .ref mWo, .ref mSa, .int 0, .ref mWa, .int 0, .ref mFa, .ref mQu, .ref mIs, .int 0, .int 0, .long 0, .ref mIm, .ref mIx, .ref mMa])), (mSa, .inl (kmSa, 133, .inl sd0))] sz) := by
  refine MET (y := yX12_seat) (cc := cX12_seat) (maxL := 5) (ret := (some .int)) (d := 1) (mc := 0) (ms := 0) (D := D) (ad := ad) (ws := [(m0, .inr (10, [.ref mTa, .int 0, .int 0, .ref mSi, .ref mLe, .ref mCl, .ref mCs, .ref mRe, .int 0, .int 0, .int 0, .int 0, .int 0, .int 0, .int 0, .ref mOp, .int 0, .ref mSt, .int 0, .ref mWo, .ref mSa, .int 0, .ref mWa, .int 0, .ref mFa, .ref mQu, .ref mIs, .int 0, .int 0, .long 0, .ref mIm, .ref mIx, .ref mMa])), (mSa, .inl (kmSa, 133, .inl sd0))]) (tys := [(kmSa, .int)]) (sz := sz) (av := [.ref m0, .int a1, .int a2]) (Qc := fun A => va_Qi (S := Unit) (fun r _ => r = (r_seat a1 a2)) (fun _ t => True) A) (fr := fun A => A) (by decide) (Nat.le_of_ble_eq_true rfl) ?_
  intro p e s m below meth c ls A H hHe hx hb hr hml hown hts hlocks hnm hP hK hD hA hS hN hl
  have hown : s.vm.findClass "WrongHoleModel" = some m.cls := hown
  have hT : ∀ w ∈ TB, w.before ([.ref m0, .int a1, .int a2] : List Value).toArray s = true := fun w h => hts w (List.mem_cons_of_mem _ h)
  have hl : lv_has ls 5 [(0, .ref m0), (1, .int a1), (2, .int a2)] := hl
  have hP : va_P D vwCl [(m0, .inr (10, [.ref mTa, .int 0, .int 0, .ref mSi, .ref mLe, .ref mCl, .ref mCs, .ref mRe, .int 0, .int 0, .int 0, .int 0, .int 0, .int 0, .int 0, .ref mOp, .int 0, .ref mSt, .int 0, .ref mWo, .ref mSa, .int 0, .ref mWa, .int 0, .ref mFa, .ref mQu, .ref mIs, .int 0, .int 0, .long 0, .ref mIm, .ref mIx, .ref mMa])), (mSa, .inl (kmSa, 133, .inl sd0))] H := hP
  refine lv_iload_n hx hb dX12_seat_0 rfl (lv_at hl 1 rfl) ?_
  refine lv_i2l (v := a1.toInt64) hx hb dX12_seat_1 rfl ?_
  refine lv_lconst (v := 0) hx hb dX12_seat_2 (by decide) ?_
  refine lv_ldc2 (v := 9) hx hb hown (hT _ qq_8_36) dX12_seat_3 ?_
  have hPc := hP.sub (ws' := []) [] rfl
  have hDc := hD.sub (ws' := []) [] (by decide) rfl
  have hKc := hK.sub (tys' := []) [] rfl
  refine cl_V (W.runS (As := [.long a1.toInt64, .long 0, .long 9]) (rest := []) ⟨hx, hb, hml, hown, hts⟩ (c_in_0_9 l D ad H.size a1) ⟨callB_of 3 hts (gd_C qq_6_97) rfl rfl rfl (hT _ qq_1_9) (hT _ qq_6_95) (by decide +kernel) (rm_R rfl rfl), (hT _ qq_6_96)⟩ (pr_S hPc hKc hDc hN) rfl rfl hl.1 rfl (lv_room (Nat.le_of_ble_eq_true rfl)) dX12_seat_6 ⟨Nat.le_of_ble_eq_true rfl, Nat.le_of_ble_eq_true rfl⟩) ?_
  refine lv_if_eq (tgt := 26) hx hb dX12_seat_9 (by decide) (fun c_1 => ?_) (fun c_1 => ?_)
  · refine lv_bipush (v := (-2)) hx hb dX12_seat_26 (by decide) ?_
    refine W.widen (k := 0) (n := 0) (Nat.le_of_ble_eq_true rfl) (Nat.le_of_ble_eq_true rfl) ?_
    exact W.iret (v := (-2)) hx hb hr (fun t9 ht9 hW9 => ⟨⟨_, (), rfl, (seat_a c_1), trivial⟩, hS.F ht9⟩) hS.2.2 dX12_seat_28
  · refine lv_iload_n hx hb dX12_seat_12 rfl (lv_at hl 2 rfl) ?_
    refine lv_i2l (v := a2.toInt64) hx hb dX12_seat_13 rfl ?_
    refine lv_ldc2 (v := (-1)) hx hb hown (hT _ qq_8_64) dX12_seat_14 ?_
    refine lv_ldc2 (v := 9) hx hb hown (hT _ qq_8_36) dX12_seat_17 ?_
    have hPc := hP.sub (ws' := []) [] rfl
    have hDc := hD.sub (ws' := []) [] (by decide) rfl
    have hKc := hK.sub (tys' := []) [] rfl
    refine cl_V (W.runS (As := [.long a2.toInt64, .long (-1), .long 9]) (rest := []) ⟨hx, hb, hml, hown, hts⟩ (c_in_m1_9 l D ad H.size a2) ⟨callB_of 3 hts (gd_C qq_6_97) rfl rfl rfl (hT _ qq_1_9) (hT _ qq_6_95) (by decide +kernel) (rm_R rfl rfl), (hT _ qq_6_96)⟩ (pr_S hPc hKc hDc hN) rfl rfl hl.1 rfl (lv_room (Nat.le_of_ble_eq_true rfl)) dX12_seat_20 ⟨Nat.le_of_ble_eq_true rfl, Nat.le_of_ble_eq_true rfl⟩) ?_
    refine lv_if_ne (tgt := 29) hx hb dX12_seat_23 (by decide) (fun c_2 => ?_) (fun c_2 => ?_)
    · refine lv_aload_n hx hb dX12_seat_29 rfl (lv_at hl 0 rfl) ?_
      refine va_get (D := D) (ci := 10) (v := .ref mSa) (C := "WrongHoleModel") (T := TX12) (N := 33) hx hb hts (iq_RX12 _) hown hK hP 0 rfl rfl 20 (by decide) (hT _ qq_5_172) (fun _ h9 => h9) rfl dX12_seat_30 ?_
      refine lv_bipush (v := 92) hx hb dX12_seat_33 (by decide) ?_
      refine lv_iload_n hx hb dX12_seat_35 rfl (lv_at hl 1 rfl) ?_
      refine lv_iadd hx hb dX12_seat_36 ?_
      refine lv_topi (fun x_3 e_4 => ?_)
      refine va_iald hx hb hK hP 1 0 rfl rfl (se_i e_4 c_1) dX12_seat_37 ?_
      refine tc_i (-1) (se_v e_4 c_1) ?_
      refine lv_istore_n (lv' := [(3, .int (-1)), (0, .ref m0), (1, .int a1), (2, .int a2)]) hx hb dX12_seat_38 rfl hl (by decide) rfl (fun ls hl => ?_)
      refine lv_iconst (v := 0) hx hb dX12_seat_39 (by decide) ?_
      refine lv_istore (lv' := [(4, .int 0), (3, .int (-1)), (0, .ref m0), (1, .int a1), (2, .int a2)]) hx hb dX12_seat_40 hl (by decide) rfl (fun ls hl => ?_)
      refine lv_iload hx hb dX12_seat_42 (lv_at hl 0 rfl) ?_
      refine lv_bipush (v := 10) hx hb dX12_seat_44 (by decide) ?_
      refine lv_icmp_ge (tgt := 84) hx hb dX12_seat_46 (by decide) (fun c_5 => absurd c_5 (by decide)) (fun _ => ?_)
      refine lv_iload_n hx hb dX12_seat_49 rfl (lv_at hl 4 rfl) ?_
      refine lv_if_lt (tgt := 78) hx hb dX12_seat_50 (by decide) (fun c_6 => ?_) (fun c_6 => ?_)
      · refine lv_iinc (v := 1) (lv' := [(4, .int 1), (3, .int (-1)), (0, .ref m0), (1, .int a1), (2, .int a2)]) hx hb dX12_seat_78 hl (k := 0) rfl (by decide) (by decide) rfl (fun ls hl => ?_)
        refine lv_goto (tgt := 42) hx hb dX12_seat_81 (by decide) ?_
        refine lv_iload hx hb dX12_seat_42 (lv_at hl 0 rfl) ?_
        refine lv_bipush (v := 10) hx hb dX12_seat_44 (by decide) ?_
        refine lv_icmp_ge (tgt := 84) hx hb dX12_seat_46 (by decide) (fun c_7 => absurd c_7 (by decide)) (fun _ => ?_)
        refine lv_iload_n hx hb dX12_seat_49 rfl (lv_at hl 4 rfl) ?_
        refine lv_if_lt (tgt := 78) hx hb dX12_seat_50 (by decide) (fun _ => ?_) (fun c_8 => absurd (c_6) c_8)
        refine lv_iinc (v := 2) (lv' := [(4, .int 2), (3, .int (-1)), (0, .ref m0), (1, .int a1), (2, .int a2)]) hx hb dX12_seat_78 hl (k := 0) rfl (by decide) (by decide) rfl (fun ls hl => ?_)
        refine lv_goto (tgt := 42) hx hb dX12_seat_81 (by decide) ?_
        refine lv_iload hx hb dX12_seat_42 (lv_at hl 0 rfl) ?_
        refine lv_bipush (v := 10) hx hb dX12_seat_44 (by decide) ?_
        refine lv_icmp_ge (tgt := 84) hx hb dX12_seat_46 (by decide) (fun c_9 => absurd c_9 (by decide)) (fun _ => ?_)
        refine lv_iload_n hx hb dX12_seat_49 rfl (lv_at hl 4 rfl) ?_
        refine lv_if_lt (tgt := 78) hx hb dX12_seat_50 (by decide) (fun _ => ?_) (fun c_10 => absurd (c_6) c_10)
        refine lv_iinc (v := 3) (lv' := [(4, .int 3), (3, .int (-1)), (0, .ref m0), (1, .int a1), (2, .int a2)]) hx hb dX12_seat_78 hl (k := 0) rfl (by decide) (by decide) rfl (fun ls hl => ?_)
        refine lv_goto (tgt := 42) hx hb dX12_seat_81 (by decide) ?_
        refine lv_iload hx hb dX12_seat_42 (lv_at hl 0 rfl) ?_
        refine lv_bipush (v := 10) hx hb dX12_seat_44 (by decide) ?_
        refine lv_icmp_ge (tgt := 84) hx hb dX12_seat_46 (by decide) (fun c_11 => absurd c_11 (by decide)) (fun _ => ?_)
        refine lv_iload_n hx hb dX12_seat_49 rfl (lv_at hl 4 rfl) ?_
        refine lv_if_lt (tgt := 78) hx hb dX12_seat_50 (by decide) (fun _ => ?_) (fun c_12 => absurd (c_6) c_12)
        refine lv_iinc (v := 4) (lv' := [(4, .int 4), (3, .int (-1)), (0, .ref m0), (1, .int a1), (2, .int a2)]) hx hb dX12_seat_78 hl (k := 0) rfl (by decide) (by decide) rfl (fun ls hl => ?_)
        refine lv_goto (tgt := 42) hx hb dX12_seat_81 (by decide) ?_
        refine lv_iload hx hb dX12_seat_42 (lv_at hl 0 rfl) ?_
        refine lv_bipush (v := 10) hx hb dX12_seat_44 (by decide) ?_
        refine lv_icmp_ge (tgt := 84) hx hb dX12_seat_46 (by decide) (fun c_13 => absurd c_13 (by decide)) (fun _ => ?_)
        refine lv_iload_n hx hb dX12_seat_49 rfl (lv_at hl 4 rfl) ?_
        refine lv_if_lt (tgt := 78) hx hb dX12_seat_50 (by decide) (fun _ => ?_) (fun c_14 => absurd (c_6) c_14)
        refine lv_iinc (v := 5) (lv' := [(4, .int 5), (3, .int (-1)), (0, .ref m0), (1, .int a1), (2, .int a2)]) hx hb dX12_seat_78 hl (k := 0) rfl (by decide) (by decide) rfl (fun ls hl => ?_)
        refine lv_goto (tgt := 42) hx hb dX12_seat_81 (by decide) ?_
        refine lv_iload hx hb dX12_seat_42 (lv_at hl 0 rfl) ?_
        refine lv_bipush (v := 10) hx hb dX12_seat_44 (by decide) ?_
        refine lv_icmp_ge (tgt := 84) hx hb dX12_seat_46 (by decide) (fun c_15 => absurd c_15 (by decide)) (fun _ => ?_)
        refine lv_iload_n hx hb dX12_seat_49 rfl (lv_at hl 4 rfl) ?_
        refine lv_if_lt (tgt := 78) hx hb dX12_seat_50 (by decide) (fun _ => ?_) (fun c_16 => absurd (c_6) c_16)
        refine lv_iinc (v := 6) (lv' := [(4, .int 6), (3, .int (-1)), (0, .ref m0), (1, .int a1), (2, .int a2)]) hx hb dX12_seat_78 hl (k := 0) rfl (by decide) (by decide) rfl (fun ls hl => ?_)
        refine lv_goto (tgt := 42) hx hb dX12_seat_81 (by decide) ?_
        refine lv_iload hx hb dX12_seat_42 (lv_at hl 0 rfl) ?_
        refine lv_bipush (v := 10) hx hb dX12_seat_44 (by decide) ?_
        refine lv_icmp_ge (tgt := 84) hx hb dX12_seat_46 (by decide) (fun c_17 => absurd c_17 (by decide)) (fun _ => ?_)
        refine lv_iload_n hx hb dX12_seat_49 rfl (lv_at hl 4 rfl) ?_
        refine lv_if_lt (tgt := 78) hx hb dX12_seat_50 (by decide) (fun _ => ?_) (fun c_18 => absurd (c_6) c_18)
        refine lv_iinc (v := 7) (lv' := [(4, .int 7), (3, .int (-1)), (0, .ref m0), (1, .int a1), (2, .int a2)]) hx hb dX12_seat_78 hl (k := 0) rfl (by decide) (by decide) rfl (fun ls hl => ?_)
        refine lv_goto (tgt := 42) hx hb dX12_seat_81 (by decide) ?_
        refine lv_iload hx hb dX12_seat_42 (lv_at hl 0 rfl) ?_
        refine lv_bipush (v := 10) hx hb dX12_seat_44 (by decide) ?_
        refine lv_icmp_ge (tgt := 84) hx hb dX12_seat_46 (by decide) (fun c_19 => absurd c_19 (by decide)) (fun _ => ?_)
        refine lv_iload_n hx hb dX12_seat_49 rfl (lv_at hl 4 rfl) ?_
        refine lv_if_lt (tgt := 78) hx hb dX12_seat_50 (by decide) (fun _ => ?_) (fun c_20 => absurd (c_6) c_20)
        refine lv_iinc (v := 8) (lv' := [(4, .int 8), (3, .int (-1)), (0, .ref m0), (1, .int a1), (2, .int a2)]) hx hb dX12_seat_78 hl (k := 0) rfl (by decide) (by decide) rfl (fun ls hl => ?_)
        refine lv_goto (tgt := 42) hx hb dX12_seat_81 (by decide) ?_
        refine lv_iload hx hb dX12_seat_42 (lv_at hl 0 rfl) ?_
        refine lv_bipush (v := 10) hx hb dX12_seat_44 (by decide) ?_
        refine lv_icmp_ge (tgt := 84) hx hb dX12_seat_46 (by decide) (fun c_21 => absurd c_21 (by decide)) (fun _ => ?_)
        refine lv_iload_n hx hb dX12_seat_49 rfl (lv_at hl 4 rfl) ?_
        refine lv_if_lt (tgt := 78) hx hb dX12_seat_50 (by decide) (fun _ => ?_) (fun c_22 => absurd (c_6) c_22)
        refine lv_iinc (v := 9) (lv' := [(4, .int 9), (3, .int (-1)), (0, .ref m0), (1, .int a1), (2, .int a2)]) hx hb dX12_seat_78 hl (k := 0) rfl (by decide) (by decide) rfl (fun ls hl => ?_)
        refine lv_goto (tgt := 42) hx hb dX12_seat_81 (by decide) ?_
        refine lv_iload hx hb dX12_seat_42 (lv_at hl 0 rfl) ?_
        refine lv_bipush (v := 10) hx hb dX12_seat_44 (by decide) ?_
        refine lv_icmp_ge (tgt := 84) hx hb dX12_seat_46 (by decide) (fun c_23 => absurd c_23 (by decide)) (fun _ => ?_)
        refine lv_iload_n hx hb dX12_seat_49 rfl (lv_at hl 4 rfl) ?_
        refine lv_if_lt (tgt := 78) hx hb dX12_seat_50 (by decide) (fun _ => ?_) (fun c_24 => absurd (c_6) c_24)
        refine lv_iinc (v := 10) (lv' := [(4, .int 10), (3, .int (-1)), (0, .ref m0), (1, .int a1), (2, .int a2)]) hx hb dX12_seat_78 hl (k := 0) rfl (by decide) (by decide) rfl (fun ls hl => ?_)
        refine lv_goto (tgt := 42) hx hb dX12_seat_81 (by decide) ?_
        refine lv_iload hx hb dX12_seat_42 (lv_at hl 0 rfl) ?_
        refine lv_bipush (v := 10) hx hb dX12_seat_44 (by decide) ?_
        refine lv_icmp_ge (tgt := 84) hx hb dX12_seat_46 (by decide) (fun _ => ?_) (fun c_25 => absurd (by decide) c_25)
        refine lv_aload_n hx hb dX12_seat_84 rfl (lv_at hl 2 rfl) ?_
        refine va_get (D := D) (ci := 10) (v := .ref mSa) (C := "WrongHoleModel") (T := TX12) (N := 33) hx hb hts (iq_RX12 _) hown hK hP 0 rfl rfl 20 (by decide) (hT _ qq_5_172) (fun _ h9 => h9) rfl dX12_seat_85 ?_
        refine lv_bipush (v := 92) hx hb dX12_seat_88 (by decide) ?_
        refine lv_iload_n hx hb dX12_seat_90 rfl (lv_at hl 3 rfl) ?_
        refine lv_iadd hx hb dX12_seat_91 ?_
        refine lv_topi (fun x_26 e_27 => ?_)
        refine lv_iload_n hx hb dX12_seat_92 rfl (lv_at hl 4 rfl) ?_
        refine va_iast hx hb hK hP hD hS 1 0 rfl rfl (se_i e_27 c_1) dX12_seat_93 (fun H locs hP hD hS => ?_)
        have hP : va_P D vwCl [(m0, .inr (10, [.ref mTa, .int 0, .int 0, .ref mSi, .ref mLe, .ref mCl, .ref mCs, .ref mRe, .int 0, .int 0, .int 0, .int 0, .int 0, .int 0, .int 0, .ref mOp, .int 0, .ref mSt, .int 0, .ref mWo, .ref mSa, .int 0, .ref mWa, .int 0, .ref mFa, .ref mQu, .ref mIs, .int 0, .int 0, .long 0, .ref mIm, .ref mIx, .ref mMa])), (mSa, .inl (kmSa, 133, .inl (upd sd0 (Int32.toNatClampNeg x_26) a2)))] H := hP
        have hD : va_D A [(m0, .inr (10, [.ref mTa, .int 0, .int 0, .ref mSi, .ref mLe, .ref mCl, .ref mCs, .ref mRe, .int 0, .int 0, .int 0, .int 0, .int 0, .int 0, .int 0, .ref mOp, .int 0, .ref mSt, .int 0, .ref mWo, .ref mSa, .int 0, .ref mWa, .int 0, .ref mFa, .ref mQu, .ref mIs, .int 0, .int 0, .long 0, .ref mIm, .ref mIx, .ref mMa])), (mSa, .inl (kmSa, 133, .inl (upd sd0 (Int32.toNatClampNeg x_26) a2)))] := hD
        generalize upd sd0 (Int32.toNatClampNeg x_26) a2 = g_28 at hP hD
        refine lv_iload_n hx hb dX12_seat_94 rfl (lv_at hl 1 rfl) ?_
        refine W.widen (k := 0) (n := 0) (Nat.le_of_ble_eq_true rfl) (Nat.le_of_ble_eq_true rfl) ?_
        exact W.iret (v := (-1)) hx hb hr (fun t9 ht9 hW9 => ⟨⟨_, (), rfl, (seat_c c_1 c_2), trivial⟩, hS.F ht9⟩) hS.2.2 dX12_seat_95
      · refine lv_aload_n hx hb dX12_seat_53 rfl (lv_at hl 2 rfl) ?_
        refine va_get (D := D) (ci := 10) (v := .ref mSa) (C := "WrongHoleModel") (T := TX12) (N := 33) hx hb hts (iq_RX12 _) hown hK hP 0 rfl rfl 20 (by decide) (hT _ qq_5_172) (fun _ h9 => h9) rfl dX12_seat_54 ?_
        refine lv_bipush (v := 92) hx hb dX12_seat_57 (by decide) ?_
        refine lv_iload hx hb dX12_seat_59 (lv_at hl 0 rfl) ?_
        refine lv_iadd hx hb dX12_seat_61 ?_
        refine tc_i 92 (by decide) ?_
        refine va_iald hx hb hK hP 1 0 rfl rfl (vi_c rfl) dX12_seat_62 ?_
        refine tc_i (-1) (by decide) ?_
        refine lv_iload_n hx hb dX12_seat_63 rfl (lv_at hl 4 rfl) ?_
        refine lv_icmp_ne (tgt := 78) hx hb dX12_seat_64 (by decide) (fun _ => ?_) (fun c_30 => absurd c_30 (ne_m1 c_6))
        refine lv_iinc (v := 1) (lv' := [(4, .int 1), (3, .int (-1)), (0, .ref m0), (1, .int a1), (2, .int a2)]) hx hb dX12_seat_78 hl (k := 0) rfl (by decide) (by decide) rfl (fun ls hl => ?_)
        refine lv_goto (tgt := 42) hx hb dX12_seat_81 (by decide) ?_
        refine lv_iload hx hb dX12_seat_42 (lv_at hl 0 rfl) ?_
        refine lv_bipush (v := 10) hx hb dX12_seat_44 (by decide) ?_
        refine lv_icmp_ge (tgt := 84) hx hb dX12_seat_46 (by decide) (fun c_31 => absurd c_31 (by decide)) (fun _ => ?_)
        refine lv_iload_n hx hb dX12_seat_49 rfl (lv_at hl 4 rfl) ?_
        refine lv_if_lt (tgt := 78) hx hb dX12_seat_50 (by decide) (fun c_32 => absurd c_32 (c_6)) (fun _ => ?_)
        refine lv_aload_n hx hb dX12_seat_53 rfl (lv_at hl 2 rfl) ?_
        refine va_get (D := D) (ci := 10) (v := .ref mSa) (C := "WrongHoleModel") (T := TX12) (N := 33) hx hb hts (iq_RX12 _) hown hK hP 0 rfl rfl 20 (by decide) (hT _ qq_5_172) (fun _ h9 => h9) rfl dX12_seat_54 ?_
        refine lv_bipush (v := 92) hx hb dX12_seat_57 (by decide) ?_
        refine lv_iload hx hb dX12_seat_59 (lv_at hl 0 rfl) ?_
        refine lv_iadd hx hb dX12_seat_61 ?_
        refine tc_i 93 (by decide) ?_
        refine va_iald hx hb hK hP 1 0 rfl rfl (vi_c rfl) dX12_seat_62 ?_
        refine tc_i (-1) (by decide) ?_
        refine lv_iload_n hx hb dX12_seat_63 rfl (lv_at hl 4 rfl) ?_
        refine lv_icmp_ne (tgt := 78) hx hb dX12_seat_64 (by decide) (fun _ => ?_) (fun c_33 => absurd c_33 (ne_m1 c_6))
        refine lv_iinc (v := 2) (lv' := [(4, .int 2), (3, .int (-1)), (0, .ref m0), (1, .int a1), (2, .int a2)]) hx hb dX12_seat_78 hl (k := 0) rfl (by decide) (by decide) rfl (fun ls hl => ?_)
        refine lv_goto (tgt := 42) hx hb dX12_seat_81 (by decide) ?_
        refine lv_iload hx hb dX12_seat_42 (lv_at hl 0 rfl) ?_
        refine lv_bipush (v := 10) hx hb dX12_seat_44 (by decide) ?_
        refine lv_icmp_ge (tgt := 84) hx hb dX12_seat_46 (by decide) (fun c_34 => absurd c_34 (by decide)) (fun _ => ?_)
        refine lv_iload_n hx hb dX12_seat_49 rfl (lv_at hl 4 rfl) ?_
        refine lv_if_lt (tgt := 78) hx hb dX12_seat_50 (by decide) (fun c_35 => absurd c_35 (c_6)) (fun _ => ?_)
        refine lv_aload_n hx hb dX12_seat_53 rfl (lv_at hl 2 rfl) ?_
        refine va_get (D := D) (ci := 10) (v := .ref mSa) (C := "WrongHoleModel") (T := TX12) (N := 33) hx hb hts (iq_RX12 _) hown hK hP 0 rfl rfl 20 (by decide) (hT _ qq_5_172) (fun _ h9 => h9) rfl dX12_seat_54 ?_
        refine lv_bipush (v := 92) hx hb dX12_seat_57 (by decide) ?_
        refine lv_iload hx hb dX12_seat_59 (lv_at hl 0 rfl) ?_
        refine lv_iadd hx hb dX12_seat_61 ?_
        refine tc_i 94 (by decide) ?_
        refine va_iald hx hb hK hP 1 0 rfl rfl (vi_c rfl) dX12_seat_62 ?_
        refine tc_i (-1) (by decide) ?_
        refine lv_iload_n hx hb dX12_seat_63 rfl (lv_at hl 4 rfl) ?_
        refine lv_icmp_ne (tgt := 78) hx hb dX12_seat_64 (by decide) (fun _ => ?_) (fun c_36 => absurd c_36 (ne_m1 c_6))
        refine lv_iinc (v := 3) (lv' := [(4, .int 3), (3, .int (-1)), (0, .ref m0), (1, .int a1), (2, .int a2)]) hx hb dX12_seat_78 hl (k := 0) rfl (by decide) (by decide) rfl (fun ls hl => ?_)
        refine lv_goto (tgt := 42) hx hb dX12_seat_81 (by decide) ?_
        refine lv_iload hx hb dX12_seat_42 (lv_at hl 0 rfl) ?_
        refine lv_bipush (v := 10) hx hb dX12_seat_44 (by decide) ?_
        refine lv_icmp_ge (tgt := 84) hx hb dX12_seat_46 (by decide) (fun c_37 => absurd c_37 (by decide)) (fun _ => ?_)
        refine lv_iload_n hx hb dX12_seat_49 rfl (lv_at hl 4 rfl) ?_
        refine lv_if_lt (tgt := 78) hx hb dX12_seat_50 (by decide) (fun c_38 => absurd c_38 (c_6)) (fun _ => ?_)
        refine lv_aload_n hx hb dX12_seat_53 rfl (lv_at hl 2 rfl) ?_
        refine va_get (D := D) (ci := 10) (v := .ref mSa) (C := "WrongHoleModel") (T := TX12) (N := 33) hx hb hts (iq_RX12 _) hown hK hP 0 rfl rfl 20 (by decide) (hT _ qq_5_172) (fun _ h9 => h9) rfl dX12_seat_54 ?_
        refine lv_bipush (v := 92) hx hb dX12_seat_57 (by decide) ?_
        refine lv_iload hx hb dX12_seat_59 (lv_at hl 0 rfl) ?_
        refine lv_iadd hx hb dX12_seat_61 ?_
        refine tc_i 95 (by decide) ?_
        refine va_iald hx hb hK hP 1 0 rfl rfl (vi_c rfl) dX12_seat_62 ?_
        refine tc_i (-1) (by decide) ?_
        refine lv_iload_n hx hb dX12_seat_63 rfl (lv_at hl 4 rfl) ?_
        refine lv_icmp_ne (tgt := 78) hx hb dX12_seat_64 (by decide) (fun _ => ?_) (fun c_39 => absurd c_39 (ne_m1 c_6))
        refine lv_iinc (v := 4) (lv' := [(4, .int 4), (3, .int (-1)), (0, .ref m0), (1, .int a1), (2, .int a2)]) hx hb dX12_seat_78 hl (k := 0) rfl (by decide) (by decide) rfl (fun ls hl => ?_)
        refine lv_goto (tgt := 42) hx hb dX12_seat_81 (by decide) ?_
        refine lv_iload hx hb dX12_seat_42 (lv_at hl 0 rfl) ?_
        refine lv_bipush (v := 10) hx hb dX12_seat_44 (by decide) ?_
        refine lv_icmp_ge (tgt := 84) hx hb dX12_seat_46 (by decide) (fun c_40 => absurd c_40 (by decide)) (fun _ => ?_)
        refine lv_iload_n hx hb dX12_seat_49 rfl (lv_at hl 4 rfl) ?_
        refine lv_if_lt (tgt := 78) hx hb dX12_seat_50 (by decide) (fun c_41 => absurd c_41 (c_6)) (fun _ => ?_)
        refine lv_aload_n hx hb dX12_seat_53 rfl (lv_at hl 2 rfl) ?_
        refine va_get (D := D) (ci := 10) (v := .ref mSa) (C := "WrongHoleModel") (T := TX12) (N := 33) hx hb hts (iq_RX12 _) hown hK hP 0 rfl rfl 20 (by decide) (hT _ qq_5_172) (fun _ h9 => h9) rfl dX12_seat_54 ?_
        refine lv_bipush (v := 92) hx hb dX12_seat_57 (by decide) ?_
        refine lv_iload hx hb dX12_seat_59 (lv_at hl 0 rfl) ?_
        refine lv_iadd hx hb dX12_seat_61 ?_
        refine tc_i 96 (by decide) ?_
        refine va_iald hx hb hK hP 1 0 rfl rfl (vi_c rfl) dX12_seat_62 ?_
        refine tc_i (-1) (by decide) ?_
        refine lv_iload_n hx hb dX12_seat_63 rfl (lv_at hl 4 rfl) ?_
        refine lv_icmp_ne (tgt := 78) hx hb dX12_seat_64 (by decide) (fun _ => ?_) (fun c_42 => absurd c_42 (ne_m1 c_6))
        refine lv_iinc (v := 5) (lv' := [(4, .int 5), (3, .int (-1)), (0, .ref m0), (1, .int a1), (2, .int a2)]) hx hb dX12_seat_78 hl (k := 0) rfl (by decide) (by decide) rfl (fun ls hl => ?_)
        refine lv_goto (tgt := 42) hx hb dX12_seat_81 (by decide) ?_
        refine lv_iload hx hb dX12_seat_42 (lv_at hl 0 rfl) ?_
        refine lv_bipush (v := 10) hx hb dX12_seat_44 (by decide) ?_
        refine lv_icmp_ge (tgt := 84) hx hb dX12_seat_46 (by decide) (fun c_43 => absurd c_43 (by decide)) (fun _ => ?_)
        refine lv_iload_n hx hb dX12_seat_49 rfl (lv_at hl 4 rfl) ?_
        refine lv_if_lt (tgt := 78) hx hb dX12_seat_50 (by decide) (fun c_44 => absurd c_44 (c_6)) (fun _ => ?_)
        refine lv_aload_n hx hb dX12_seat_53 rfl (lv_at hl 2 rfl) ?_
        refine va_get (D := D) (ci := 10) (v := .ref mSa) (C := "WrongHoleModel") (T := TX12) (N := 33) hx hb hts (iq_RX12 _) hown hK hP 0 rfl rfl 20 (by decide) (hT _ qq_5_172) (fun _ h9 => h9) rfl dX12_seat_54 ?_
        refine lv_bipush (v := 92) hx hb dX12_seat_57 (by decide) ?_
        refine lv_iload hx hb dX12_seat_59 (lv_at hl 0 rfl) ?_
        refine lv_iadd hx hb dX12_seat_61 ?_
        refine tc_i 97 (by decide) ?_
        refine va_iald hx hb hK hP 1 0 rfl rfl (vi_c rfl) dX12_seat_62 ?_
        refine tc_i (-1) (by decide) ?_
        refine lv_iload_n hx hb dX12_seat_63 rfl (lv_at hl 4 rfl) ?_
        refine lv_icmp_ne (tgt := 78) hx hb dX12_seat_64 (by decide) (fun _ => ?_) (fun c_45 => absurd c_45 (ne_m1 c_6))
        refine lv_iinc (v := 6) (lv' := [(4, .int 6), (3, .int (-1)), (0, .ref m0), (1, .int a1), (2, .int a2)]) hx hb dX12_seat_78 hl (k := 0) rfl (by decide) (by decide) rfl (fun ls hl => ?_)
        refine lv_goto (tgt := 42) hx hb dX12_seat_81 (by decide) ?_
        refine lv_iload hx hb dX12_seat_42 (lv_at hl 0 rfl) ?_
        refine lv_bipush (v := 10) hx hb dX12_seat_44 (by decide) ?_
        refine lv_icmp_ge (tgt := 84) hx hb dX12_seat_46 (by decide) (fun c_46 => absurd c_46 (by decide)) (fun _ => ?_)
        refine lv_iload_n hx hb dX12_seat_49 rfl (lv_at hl 4 rfl) ?_
        refine lv_if_lt (tgt := 78) hx hb dX12_seat_50 (by decide) (fun c_47 => absurd c_47 (c_6)) (fun _ => ?_)
        refine lv_aload_n hx hb dX12_seat_53 rfl (lv_at hl 2 rfl) ?_
        refine va_get (D := D) (ci := 10) (v := .ref mSa) (C := "WrongHoleModel") (T := TX12) (N := 33) hx hb hts (iq_RX12 _) hown hK hP 0 rfl rfl 20 (by decide) (hT _ qq_5_172) (fun _ h9 => h9) rfl dX12_seat_54 ?_
        refine lv_bipush (v := 92) hx hb dX12_seat_57 (by decide) ?_
        refine lv_iload hx hb dX12_seat_59 (lv_at hl 0 rfl) ?_
        refine lv_iadd hx hb dX12_seat_61 ?_
        refine tc_i 98 (by decide) ?_
        refine va_iald hx hb hK hP 1 0 rfl rfl (vi_c rfl) dX12_seat_62 ?_
        refine tc_i (-1) (by decide) ?_
        refine lv_iload_n hx hb dX12_seat_63 rfl (lv_at hl 4 rfl) ?_
        refine lv_icmp_ne (tgt := 78) hx hb dX12_seat_64 (by decide) (fun _ => ?_) (fun c_48 => absurd c_48 (ne_m1 c_6))
        refine lv_iinc (v := 7) (lv' := [(4, .int 7), (3, .int (-1)), (0, .ref m0), (1, .int a1), (2, .int a2)]) hx hb dX12_seat_78 hl (k := 0) rfl (by decide) (by decide) rfl (fun ls hl => ?_)
        refine lv_goto (tgt := 42) hx hb dX12_seat_81 (by decide) ?_
        refine lv_iload hx hb dX12_seat_42 (lv_at hl 0 rfl) ?_
        refine lv_bipush (v := 10) hx hb dX12_seat_44 (by decide) ?_
        refine lv_icmp_ge (tgt := 84) hx hb dX12_seat_46 (by decide) (fun c_49 => absurd c_49 (by decide)) (fun _ => ?_)
        refine lv_iload_n hx hb dX12_seat_49 rfl (lv_at hl 4 rfl) ?_
        refine lv_if_lt (tgt := 78) hx hb dX12_seat_50 (by decide) (fun c_50 => absurd c_50 (c_6)) (fun _ => ?_)
        refine lv_aload_n hx hb dX12_seat_53 rfl (lv_at hl 2 rfl) ?_
        refine va_get (D := D) (ci := 10) (v := .ref mSa) (C := "WrongHoleModel") (T := TX12) (N := 33) hx hb hts (iq_RX12 _) hown hK hP 0 rfl rfl 20 (by decide) (hT _ qq_5_172) (fun _ h9 => h9) rfl dX12_seat_54 ?_
        refine lv_bipush (v := 92) hx hb dX12_seat_57 (by decide) ?_
        refine lv_iload hx hb dX12_seat_59 (lv_at hl 0 rfl) ?_
        refine lv_iadd hx hb dX12_seat_61 ?_
        refine tc_i 99 (by decide) ?_
        refine va_iald hx hb hK hP 1 0 rfl rfl (vi_c rfl) dX12_seat_62 ?_
        refine tc_i (-1) (by decide) ?_
        refine lv_iload_n hx hb dX12_seat_63 rfl (lv_at hl 4 rfl) ?_
        refine lv_icmp_ne (tgt := 78) hx hb dX12_seat_64 (by decide) (fun _ => ?_) (fun c_51 => absurd c_51 (ne_m1 c_6))
        refine lv_iinc (v := 8) (lv' := [(4, .int 8), (3, .int (-1)), (0, .ref m0), (1, .int a1), (2, .int a2)]) hx hb dX12_seat_78 hl (k := 0) rfl (by decide) (by decide) rfl (fun ls hl => ?_)
        refine lv_goto (tgt := 42) hx hb dX12_seat_81 (by decide) ?_
        refine lv_iload hx hb dX12_seat_42 (lv_at hl 0 rfl) ?_
        refine lv_bipush (v := 10) hx hb dX12_seat_44 (by decide) ?_
        refine lv_icmp_ge (tgt := 84) hx hb dX12_seat_46 (by decide) (fun c_52 => absurd c_52 (by decide)) (fun _ => ?_)
        refine lv_iload_n hx hb dX12_seat_49 rfl (lv_at hl 4 rfl) ?_
        refine lv_if_lt (tgt := 78) hx hb dX12_seat_50 (by decide) (fun c_53 => absurd c_53 (c_6)) (fun _ => ?_)
        refine lv_aload_n hx hb dX12_seat_53 rfl (lv_at hl 2 rfl) ?_
        refine va_get (D := D) (ci := 10) (v := .ref mSa) (C := "WrongHoleModel") (T := TX12) (N := 33) hx hb hts (iq_RX12 _) hown hK hP 0 rfl rfl 20 (by decide) (hT _ qq_5_172) (fun _ h9 => h9) rfl dX12_seat_54 ?_
        refine lv_bipush (v := 92) hx hb dX12_seat_57 (by decide) ?_
        refine lv_iload hx hb dX12_seat_59 (lv_at hl 0 rfl) ?_
        refine lv_iadd hx hb dX12_seat_61 ?_
        refine tc_i 100 (by decide) ?_
        refine va_iald hx hb hK hP 1 0 rfl rfl (vi_c rfl) dX12_seat_62 ?_
        refine tc_i (-1) (by decide) ?_
        refine lv_iload_n hx hb dX12_seat_63 rfl (lv_at hl 4 rfl) ?_
        refine lv_icmp_ne (tgt := 78) hx hb dX12_seat_64 (by decide) (fun _ => ?_) (fun c_54 => absurd c_54 (ne_m1 c_6))
        refine lv_iinc (v := 9) (lv' := [(4, .int 9), (3, .int (-1)), (0, .ref m0), (1, .int a1), (2, .int a2)]) hx hb dX12_seat_78 hl (k := 0) rfl (by decide) (by decide) rfl (fun ls hl => ?_)
        refine lv_goto (tgt := 42) hx hb dX12_seat_81 (by decide) ?_
        refine lv_iload hx hb dX12_seat_42 (lv_at hl 0 rfl) ?_
        refine lv_bipush (v := 10) hx hb dX12_seat_44 (by decide) ?_
        refine lv_icmp_ge (tgt := 84) hx hb dX12_seat_46 (by decide) (fun c_55 => absurd c_55 (by decide)) (fun _ => ?_)
        refine lv_iload_n hx hb dX12_seat_49 rfl (lv_at hl 4 rfl) ?_
        refine lv_if_lt (tgt := 78) hx hb dX12_seat_50 (by decide) (fun c_56 => absurd c_56 (c_6)) (fun _ => ?_)
        refine lv_aload_n hx hb dX12_seat_53 rfl (lv_at hl 2 rfl) ?_
        refine va_get (D := D) (ci := 10) (v := .ref mSa) (C := "WrongHoleModel") (T := TX12) (N := 33) hx hb hts (iq_RX12 _) hown hK hP 0 rfl rfl 20 (by decide) (hT _ qq_5_172) (fun _ h9 => h9) rfl dX12_seat_54 ?_
        refine lv_bipush (v := 92) hx hb dX12_seat_57 (by decide) ?_
        refine lv_iload hx hb dX12_seat_59 (lv_at hl 0 rfl) ?_
        refine lv_iadd hx hb dX12_seat_61 ?_
        refine tc_i 101 (by decide) ?_
        refine va_iald hx hb hK hP 1 0 rfl rfl (vi_c rfl) dX12_seat_62 ?_
        refine tc_i (-1) (by decide) ?_
        refine lv_iload_n hx hb dX12_seat_63 rfl (lv_at hl 4 rfl) ?_
        refine lv_icmp_ne (tgt := 78) hx hb dX12_seat_64 (by decide) (fun _ => ?_) (fun c_57 => absurd c_57 (ne_m1 c_6))
        refine lv_iinc (v := 10) (lv' := [(4, .int 10), (3, .int (-1)), (0, .ref m0), (1, .int a1), (2, .int a2)]) hx hb dX12_seat_78 hl (k := 0) rfl (by decide) (by decide) rfl (fun ls hl => ?_)
        refine lv_goto (tgt := 42) hx hb dX12_seat_81 (by decide) ?_
        refine lv_iload hx hb dX12_seat_42 (lv_at hl 0 rfl) ?_
        refine lv_bipush (v := 10) hx hb dX12_seat_44 (by decide) ?_
        refine lv_icmp_ge (tgt := 84) hx hb dX12_seat_46 (by decide) (fun _ => ?_) (fun c_58 => absurd (by decide) c_58)
        refine lv_aload_n hx hb dX12_seat_84 rfl (lv_at hl 2 rfl) ?_
        refine va_get (D := D) (ci := 10) (v := .ref mSa) (C := "WrongHoleModel") (T := TX12) (N := 33) hx hb hts (iq_RX12 _) hown hK hP 0 rfl rfl 20 (by decide) (hT _ qq_5_172) (fun _ h9 => h9) rfl dX12_seat_85 ?_
        refine lv_bipush (v := 92) hx hb dX12_seat_88 (by decide) ?_
        refine lv_iload_n hx hb dX12_seat_90 rfl (lv_at hl 3 rfl) ?_
        refine lv_iadd hx hb dX12_seat_91 ?_
        refine lv_topi (fun x_59 e_60 => ?_)
        refine lv_iload_n hx hb dX12_seat_92 rfl (lv_at hl 4 rfl) ?_
        refine va_iast hx hb hK hP hD hS 1 0 rfl rfl (se_i e_60 c_1) dX12_seat_93 (fun H locs hP hD hS => ?_)
        have hP : va_P D vwCl [(m0, .inr (10, [.ref mTa, .int 0, .int 0, .ref mSi, .ref mLe, .ref mCl, .ref mCs, .ref mRe, .int 0, .int 0, .int 0, .int 0, .int 0, .int 0, .int 0, .ref mOp, .int 0, .ref mSt, .int 0, .ref mWo, .ref mSa, .int 0, .ref mWa, .int 0, .ref mFa, .ref mQu, .ref mIs, .int 0, .int 0, .long 0, .ref mIm, .ref mIx, .ref mMa])), (mSa, .inl (kmSa, 133, .inl (upd sd0 (Int32.toNatClampNeg x_59) a2)))] H := hP
        have hD : va_D A [(m0, .inr (10, [.ref mTa, .int 0, .int 0, .ref mSi, .ref mLe, .ref mCl, .ref mCs, .ref mRe, .int 0, .int 0, .int 0, .int 0, .int 0, .int 0, .int 0, .ref mOp, .int 0, .ref mSt, .int 0, .ref mWo, .ref mSa, .int 0, .ref mWa, .int 0, .ref mFa, .ref mQu, .ref mIs, .int 0, .int 0, .long 0, .ref mIm, .ref mIx, .ref mMa])), (mSa, .inl (kmSa, 133, .inl (upd sd0 (Int32.toNatClampNeg x_59) a2)))] := hD
        generalize upd sd0 (Int32.toNatClampNeg x_59) a2 = g_61 at hP hD
        refine lv_iload_n hx hb dX12_seat_94 rfl (lv_at hl 1 rfl) ?_
        refine W.widen (k := 0) (n := 0) (Nat.le_of_ble_eq_true rfl) (Nat.le_of_ble_eq_true rfl) ?_
        exact W.iret (v := (-1)) hx hb hr (fun t9 ht9 hW9 => ⟨⟨_, (), rfl, (seat_c c_1 c_2), trivial⟩, hS.F ht9⟩) hS.2.2 dX12_seat_95
    · refine lv_bipush (v := (-2)) hx hb dX12_seat_26 (by decide) ?_
      refine W.widen (k := 0) (n := 0) (Nat.le_of_ble_eq_true rfl) (Nat.le_of_ble_eq_true rfl) ?_
      exact W.iret (v := (-2)) hx hb hr (fun t9 ht9 hW9 => ⟨⟨_, (), rfl, (seat_b c_2), trivial⟩, hS.F ht9⟩) hS.2.2 dX12_seat_28
theorem dX12_moves_0 : decode cX12_moves 0 = .ok (.iload_n 1, 1) := by decide +kernel
theorem dX12_moves_1 : decode cX12_moves 1 = .ok (.i2l, 1) := by decide +kernel
theorem dX12_moves_2 : decode cX12_moves 2 = .ok (.lconst 1, 1) := by decide +kernel
theorem dX12_moves_3 : decode cX12_moves 3 = .ok (.ldc2_w 508, 3) := by decide +kernel
theorem qq_8_69 : Cond.constantLong "WrongHoleModel" 508 10 ∈ TB := mk_tb (ti_8 (List.mem_of_getElem? (i := 69) rfl)) rfl
theorem dX12_moves_6 : decode cX12_moves 6 = .ok (.invokestatic 104, 3) := by decide +kernel
theorem dX12_moves_9 : decode cX12_moves 9 = .ok (.ifCond .ne 5, 3) := by decide +kernel
theorem dX12_moves_14 : decode cX12_moves 14 = .ok (.iconst 0, 1) := by decide +kernel
theorem dX12_moves_15 : decode cX12_moves 15 = .ok (.istore_n 2, 1) := by decide +kernel
theorem dX12_moves_16 : decode cX12_moves 16 = .ok (.iconst 0, 1) := by decide +kernel
theorem dX12_moves_17 : decode cX12_moves 17 = .ok (.istore_n 3, 1) := by decide +kernel
theorem dX12_moves_18 : decode cX12_moves 18 = .ok (.iconst 0, 1) := by decide +kernel
theorem dX12_moves_19 : decode cX12_moves 19 = .ok (.istore 4, 2) := by decide +kernel
theorem dX12_moves_21 : decode cX12_moves 21 = .ok (.iconst 0, 1) := by decide +kernel
theorem dX12_moves_22 : decode cX12_moves 22 = .ok (.istore 5, 2) := by decide +kernel
theorem dX12_moves_24 : decode cX12_moves 24 = .ok (.iload 5, 2) := by decide +kernel
theorem dX12_moves_26 : decode cX12_moves 26 = .ok (.iload_n 1, 1) := by decide +kernel
theorem dX12_moves_27 : decode cX12_moves 27 = .ok (.if_icmp .ge 79, 3) := by decide +kernel
theorem dX12_moves_30 : decode cX12_moves 30 = .ok (.aload_n 0, 1) := by decide +kernel
theorem dX12_moves_31 : decode cX12_moves 31 = .ok (.getfield 39, 3) := by decide +kernel
theorem dX12_moves_34 : decode cX12_moves 34 = .ok (.bipush 92, 2) := by decide +kernel
theorem dX12_moves_36 : decode cX12_moves 36 = .ok (.iload 5, 2) := by decide +kernel
theorem dX12_moves_38 : decode cX12_moves 38 = .ok (.iadd, 1) := by decide +kernel
theorem dX12_moves_39 : decode cX12_moves 39 = .ok (.iaload, 1) := by decide +kernel
theorem dX12_moves_40 : decode cX12_moves 40 = .ok (.istore 6, 2) := by decide +kernel
theorem dX12_moves_42 : decode cX12_moves 42 = .ok (.iload 6, 2) := by decide +kernel
theorem dX12_moves_44 : decode cX12_moves 44 = .ok (.iload_n 1, 1) := by decide +kernel
theorem dX12_moves_45 : decode cX12_moves 45 = .ok (.if_icmp .lt 5, 3) := by decide +kernel
theorem dX12_moves_50 : decode cX12_moves 50 = .ok (.iload_n 3, 1) := by decide +kernel
theorem dX12_moves_51 : decode cX12_moves 51 = .ok (.iload 6, 2) := by decide +kernel
theorem dX12_moves_53 : decode cX12_moves 53 = .ok (.ifCond .ge 7, 3) := by decide +kernel
theorem dX12_moves_56 : decode cX12_moves 56 = .ok (.iconst 1, 1) := by decide +kernel
theorem dX12_moves_57 : decode cX12_moves 57 = .ok (.goto 4, 3) := by decide +kernel
theorem dX12_moves_61 : decode cX12_moves 61 = .ok (.iadd, 1) := by decide +kernel
theorem dX12_moves_62 : decode cX12_moves 62 = .ok (.istore_n 3, 1) := by decide +kernel
theorem dX12_moves_63 : decode cX12_moves 63 = .ok (.iload 6, 2) := by decide +kernel
theorem dX12_moves_65 : decode cX12_moves 65 = .ok (.ifCond .lt 35, 3) := by decide +kernel
theorem dX12_moves_100 : decode cX12_moves 100 = .ok (.iinc 5 1, 3) := by decide +kernel
theorem dX12_moves_103 : decode cX12_moves 103 = .ok (.goto (-79), 3) := by decide +kernel
theorem dX12_moves_106 : decode cX12_moves 106 = .ok (.iload_n 2, 1) := by decide +kernel
theorem dX12_moves_107 : decode cX12_moves 107 = .ok (.ifCond .ne 7, 3) := by decide +kernel
theorem dX12_moves_110 : decode cX12_moves 110 = .ok (.iconst 0, 1) := by decide +kernel
theorem dX12_moves_111 : decode cX12_moves 111 = .ok (.goto 16, 3) := by decide +kernel
theorem dX12_moves_127 : decode cX12_moves 127 = .ok (.ireturn, 1) := by decide +kernel
theorem dX12_moves_12 : decode cX12_moves 12 = .ok (.iconst (-1), 1) := by decide +kernel
theorem dX12_moves_13 : decode cX12_moves 13 = .ok (.ireturn, 1) := by decide +kernel
set_option maxHeartbeats 4000000 in
set_option maxRecDepth 100000 in
theorem c_m_moves (l : Launch) (D : va_G) (ad : Nat → Nat) (sz : Nat) (m0 : Nat) (mTa : Nat) (mSi : Nat) (mLe : Nat) (mCl : Nat) (mCs : Nat) (mRe : Nat) (mOp : Nat) (mSt : Nat) (mWo : Nat) (mSa : Nat) (mWa : Nat) (mFa : Nat) (mQu : Nat) (mIs : Nat) (mIm : Nat) (mIx : Nat) (mMa : Nat) (kmSa : ClassId) (a1 : Int32)  : Met l yX12_moves (Cond.code yX12_moves cX12_moves 7 (some .int) :: TB) (RM 1 0 0) (va_Pc [.ref m0, .int a1] (PRE D ad [(m0, .inr (10, [.ref mTa, .int 0, .int 0, .ref mSi, .ref mLe, .ref mCl, .ref mCs, .ref mRe, .int 0, .int 0, .int 0, .int 0, .int 0, .int 0, .int 0, .ref mOp, .int 0, .ref mSt, .int 0, .ref mWo, .ref mSa, .int 0, .ref mWa, .int 0, .ref mFa, .ref mQu, .ref mIs, .int 0, .int 0, .long 0, .ref mIm, .ref mIx, .ref mMa])), (mSa, .inl (kmSa, 133, .inl sd0))] [(kmSa, .int)] sz)) (k2_QcV (.int (r_moves a1))) 0 0 (fun _ => False) := by
  refine MET (y := yX12_moves) (cc := cX12_moves) (maxL := 7) (ret := (some .int)) (d := 1) (mc := 0) (ms := 0) (D := D) (ad := ad) (ws := [(m0, .inr (10, [.ref mTa, .int 0, .int 0, .ref mSi, .ref mLe, .ref mCl, .ref mCs, .ref mRe, .int 0, .int 0, .int 0, .int 0, .int 0, .int 0, .int 0, .ref mOp, .int 0, .ref mSt, .int 0, .ref mWo, .ref mSa, .int 0, .ref mWa, .int 0, .ref mFa, .ref mQu, .ref mIs, .int 0, .int 0, .long 0, .ref mIm, .ref mIx, .ref mMa])), (mSa, .inl (kmSa, 133, .inl sd0))]) (tys := [(kmSa, .int)]) (sz := sz) (av := [.ref m0, .int a1]) (Qc := fun A => k2_QcV (.int (r_moves a1))) (fr := fun A => (fun _ => False)) (by decide) (Nat.le_of_ble_eq_true rfl) ?_
  intro p e s m below meth c ls A H hHe hx hb hr hml hown hts hlocks hnm hP hK hD hA hS hN hl
  have hown : s.vm.findClass "WrongHoleModel" = some m.cls := hown
  have hT : ∀ w ∈ TB, w.before ([.ref m0, .int a1] : List Value).toArray s = true := fun w h => hts w (List.mem_cons_of_mem _ h)
  have hl : lv_has ls 7 [(0, .ref m0), (1, .int a1)] := hl
  have hP : va_P D vwCl [(m0, .inr (10, [.ref mTa, .int 0, .int 0, .ref mSi, .ref mLe, .ref mCl, .ref mCs, .ref mRe, .int 0, .int 0, .int 0, .int 0, .int 0, .int 0, .int 0, .ref mOp, .int 0, .ref mSt, .int 0, .ref mWo, .ref mSa, .int 0, .ref mWa, .int 0, .ref mFa, .ref mQu, .ref mIs, .int 0, .int 0, .long 0, .ref mIm, .ref mIx, .ref mMa])), (mSa, .inl (kmSa, 133, .inl sd0))] H := hP
  refine lv_iload_n hx hb dX12_moves_0 rfl (lv_at hl 1 rfl) ?_
  refine lv_i2l (v := a1.toInt64) hx hb dX12_moves_1 rfl ?_
  refine lv_lconst (v := 1) hx hb dX12_moves_2 (by decide) ?_
  refine lv_ldc2 (v := 10) hx hb hown (hT _ qq_8_69) dX12_moves_3 ?_
  have hPc := hP.sub (ws' := []) [] rfl
  have hDc := hD.sub (ws' := []) [] (by decide) rfl
  have hKc := hK.sub (tys' := []) [] rfl
  refine cl_V (W.runS (As := [.long a1.toInt64, .long 1, .long 10]) (rest := []) ⟨hx, hb, hml, hown, hts⟩ (c_in_1_10 l D ad H.size a1) ⟨callB_of 3 hts (gd_C qq_6_97) rfl rfl rfl (hT _ qq_1_9) (hT _ qq_6_95) (by decide +kernel) (rm_R rfl rfl), (hT _ qq_6_96)⟩ (pr_S hPc hKc hDc hN) rfl rfl hl.1 rfl (lv_room (Nat.le_of_ble_eq_true rfl)) dX12_moves_6 ⟨Nat.le_of_ble_eq_true rfl, Nat.le_of_ble_eq_true rfl⟩) ?_
  refine lv_if_ne (tgt := 14) hx hb dX12_moves_9 (by decide) (fun c_1 => ?_) (fun c_1 => ?_)
  · refine lv_iconst (v := 0) hx hb dX12_moves_14 (by decide) ?_
    refine lv_istore_n (lv' := [(2, .int 0), (0, .ref m0), (1, .int a1)]) hx hb dX12_moves_15 rfl hl (by decide) rfl (fun ls hl => ?_)
    refine lv_iconst (v := 0) hx hb dX12_moves_16 (by decide) ?_
    refine lv_istore_n (lv' := [(3, .int 0), (2, .int 0), (0, .ref m0), (1, .int a1)]) hx hb dX12_moves_17 rfl hl (by decide) rfl (fun ls hl => ?_)
    refine lv_iconst (v := 0) hx hb dX12_moves_18 (by decide) ?_
    refine lv_istore (lv' := [(4, .int 0), (3, .int 0), (2, .int 0), (0, .ref m0), (1, .int a1)]) hx hb dX12_moves_19 hl (by decide) rfl (fun ls hl => ?_)
    refine lv_iconst (v := 0) hx hb dX12_moves_21 (by decide) ?_
    refine lv_istore (lv' := [(5, .int 0), (4, .int 0), (3, .int 0), (2, .int 0), (0, .ref m0), (1, .int a1)]) hx hb dX12_moves_22 hl (by decide) rfl (fun ls hl => ?_)
    refine lv_iload hx hb dX12_moves_24 (lv_at hl 0 rfl) ?_
    refine lv_iload_n hx hb dX12_moves_26 rfl (lv_at hl 5 rfl) ?_
    refine lv_icmp_ge (tgt := 106) hx hb dX12_moves_27 (by decide) (fun c_2 => absurd c_2 (mo_0 (fun h9 => rng_1 c_1 (Or.inl h9)))) (fun _ => ?_)
    refine lv_aload_n hx hb dX12_moves_30 rfl (lv_at hl 4 rfl) ?_
    refine va_get (D := D) (ci := 10) (v := .ref mSa) (C := "WrongHoleModel") (T := TX12) (N := 33) hx hb hts (iq_RX12 _) hown hK hP 0 rfl rfl 20 (by decide) (hT _ qq_5_172) (fun _ h9 => h9) rfl dX12_moves_31 ?_
    refine lv_bipush (v := 92) hx hb dX12_moves_34 (by decide) ?_
    refine lv_iload hx hb dX12_moves_36 (lv_at hl 0 rfl) ?_
    refine lv_iadd hx hb dX12_moves_38 ?_
    refine tc_i 92 (by decide) ?_
    refine va_iald hx hb hK hP 1 0 rfl rfl (vi_c rfl) dX12_moves_39 ?_
    refine tc_i (-1) (by decide) ?_
    refine lv_istore (lv' := [(6, .int (-1)), (5, .int 0), (4, .int 0), (3, .int 0), (2, .int 0), (0, .ref m0), (1, .int a1)]) hx hb dX12_moves_40 hl (by decide) rfl (fun ls hl => ?_)
    refine lv_iload hx hb dX12_moves_42 (lv_at hl 0 rfl) ?_
    refine lv_iload_n hx hb dX12_moves_44 rfl (lv_at hl 6 rfl) ?_
    refine lv_icmp_lt (tgt := 50) hx hb dX12_moves_45 (by decide) (fun _ => ?_) (fun c_3 => absurd (mo_1 (fun h9 => rng_1 c_1 (Or.inl h9))) c_3)
    refine lv_iload_n hx hb dX12_moves_50 rfl (lv_at hl 3 rfl) ?_
    refine lv_iload hx hb dX12_moves_51 (lv_at hl 0 rfl) ?_
    refine lv_if_ge (tgt := 60) hx hb dX12_moves_53 (by decide) (fun c_4 => absurd c_4 (by decide)) (fun _ => ?_)
    refine lv_iconst (v := 1) hx hb dX12_moves_56 (by decide) ?_
    refine lv_goto (tgt := 61) hx hb dX12_moves_57 (by decide) ?_
    refine lv_iadd hx hb dX12_moves_61 ?_
    refine tc_i 1 (by decide) ?_
    refine lv_istore_n (lv' := [(3, .int 1), (6, .int (-1)), (5, .int 0), (4, .int 0), (2, .int 0), (0, .ref m0), (1, .int a1)]) hx hb dX12_moves_62 rfl hl (by decide) rfl (fun ls hl => ?_)
    refine lv_iload hx hb dX12_moves_63 (lv_at hl 1 rfl) ?_
    refine lv_if_lt (tgt := 100) hx hb dX12_moves_65 (by decide) (fun _ => ?_) (fun c_5 => absurd (by decide) c_5)
    refine lv_iinc (v := 1) (lv' := [(5, .int 1), (3, .int 1), (6, .int (-1)), (4, .int 0), (2, .int 0), (0, .ref m0), (1, .int a1)]) hx hb dX12_moves_100 hl (k := 2) rfl (by decide) (by decide) rfl (fun ls hl => ?_)
    refine lv_goto (tgt := 24) hx hb dX12_moves_103 (by decide) ?_
    refine lv_iload hx hb dX12_moves_24 (lv_at hl 0 rfl) ?_
    refine lv_iload_n hx hb dX12_moves_26 rfl (lv_at hl 6 rfl) ?_
    refine lv_icmp_ge (tgt := 106) hx hb dX12_moves_27 (by decide) (fun c_6 => ?_) (fun c_6 => ?_)
    · refine lv_iload_n hx hb dX12_moves_106 rfl (lv_at hl 4 rfl) ?_
      refine lv_if_ne (tgt := 114) hx hb dX12_moves_107 (by decide) (fun c_7 => absurd (by decide) c_7) (fun _ => ?_)
      refine lv_iconst (v := 0) hx hb dX12_moves_110 (by decide) ?_
      refine lv_goto (tgt := 127) hx hb dX12_moves_111 (by decide) ?_
      exact W.iret (v := 0) hx hb hr (fun t9 ht9 hW9 => ⟨by rw [show (.int (r_moves a1) : Value) = .int 0 from (congrArg Value.int (by have h9 := rng_1 c_1; simp [r_moves, h9]))], ht9.trans hHe⟩) (fun _ h9 => absurd h9 List.not_mem_nil) dX12_moves_127
    · refine lv_aload_n hx hb dX12_moves_30 rfl (lv_at hl 5 rfl) ?_
      refine va_get (D := D) (ci := 10) (v := .ref mSa) (C := "WrongHoleModel") (T := TX12) (N := 33) hx hb hts (iq_RX12 _) hown hK hP 0 rfl rfl 20 (by decide) (hT _ qq_5_172) (fun _ h9 => h9) rfl dX12_moves_31 ?_
      refine lv_bipush (v := 92) hx hb dX12_moves_34 (by decide) ?_
      refine lv_iload hx hb dX12_moves_36 (lv_at hl 0 rfl) ?_
      refine lv_iadd hx hb dX12_moves_38 ?_
      refine tc_i 93 (by decide) ?_
      refine va_iald hx hb hK hP 1 0 rfl rfl (vi_c rfl) dX12_moves_39 ?_
      refine tc_i (-1) (by decide) ?_
      refine lv_istore (lv' := [(6, .int (-1)), (5, .int 1), (3, .int 1), (4, .int 0), (2, .int 0), (0, .ref m0), (1, .int a1)]) hx hb dX12_moves_40 hl (by decide) rfl (fun ls hl => ?_)
      refine lv_iload hx hb dX12_moves_42 (lv_at hl 0 rfl) ?_
      refine lv_iload_n hx hb dX12_moves_44 rfl (lv_at hl 6 rfl) ?_
      refine lv_icmp_lt (tgt := 50) hx hb dX12_moves_45 (by decide) (fun _ => ?_) (fun c_8 => absurd (mo_1 (fun h9 => rng_1 c_1 (Or.inl h9))) c_8)
      refine lv_iload_n hx hb dX12_moves_50 rfl (lv_at hl 2 rfl) ?_
      refine lv_iload hx hb dX12_moves_51 (lv_at hl 0 rfl) ?_
      refine lv_if_ge (tgt := 60) hx hb dX12_moves_53 (by decide) (fun c_9 => absurd c_9 (by decide)) (fun _ => ?_)
      refine lv_iconst (v := 1) hx hb dX12_moves_56 (by decide) ?_
      refine lv_goto (tgt := 61) hx hb dX12_moves_57 (by decide) ?_
      refine lv_iadd hx hb dX12_moves_61 ?_
      refine tc_i 2 (by decide) ?_
      refine lv_istore_n (lv' := [(3, .int 2), (6, .int (-1)), (5, .int 1), (4, .int 0), (2, .int 0), (0, .ref m0), (1, .int a1)]) hx hb dX12_moves_62 rfl hl (by decide) rfl (fun ls hl => ?_)
      refine lv_iload hx hb dX12_moves_63 (lv_at hl 1 rfl) ?_
      refine lv_if_lt (tgt := 100) hx hb dX12_moves_65 (by decide) (fun _ => ?_) (fun c_10 => absurd (by decide) c_10)
      refine lv_iinc (v := 2) (lv' := [(5, .int 2), (3, .int 2), (6, .int (-1)), (4, .int 0), (2, .int 0), (0, .ref m0), (1, .int a1)]) hx hb dX12_moves_100 hl (k := 2) rfl (by decide) (by decide) rfl (fun ls hl => ?_)
      refine lv_goto (tgt := 24) hx hb dX12_moves_103 (by decide) ?_
      refine lv_iload hx hb dX12_moves_24 (lv_at hl 0 rfl) ?_
      refine lv_iload_n hx hb dX12_moves_26 rfl (lv_at hl 6 rfl) ?_
      refine lv_icmp_ge (tgt := 106) hx hb dX12_moves_27 (by decide) (fun c_11 => ?_) (fun c_11 => ?_)
      · refine lv_iload_n hx hb dX12_moves_106 rfl (lv_at hl 4 rfl) ?_
        refine lv_if_ne (tgt := 114) hx hb dX12_moves_107 (by decide) (fun c_12 => absurd (by decide) c_12) (fun _ => ?_)
        refine lv_iconst (v := 0) hx hb dX12_moves_110 (by decide) ?_
        refine lv_goto (tgt := 127) hx hb dX12_moves_111 (by decide) ?_
        exact W.iret (v := 0) hx hb hr (fun t9 ht9 hW9 => ⟨by rw [show (.int (r_moves a1) : Value) = .int 0 from (congrArg Value.int (by have h9 := rng_1 c_1; simp [r_moves, h9]))], ht9.trans hHe⟩) (fun _ h9 => absurd h9 List.not_mem_nil) dX12_moves_127
      · refine lv_aload_n hx hb dX12_moves_30 rfl (lv_at hl 5 rfl) ?_
        refine va_get (D := D) (ci := 10) (v := .ref mSa) (C := "WrongHoleModel") (T := TX12) (N := 33) hx hb hts (iq_RX12 _) hown hK hP 0 rfl rfl 20 (by decide) (hT _ qq_5_172) (fun _ h9 => h9) rfl dX12_moves_31 ?_
        refine lv_bipush (v := 92) hx hb dX12_moves_34 (by decide) ?_
        refine lv_iload hx hb dX12_moves_36 (lv_at hl 0 rfl) ?_
        refine lv_iadd hx hb dX12_moves_38 ?_
        refine tc_i 94 (by decide) ?_
        refine va_iald hx hb hK hP 1 0 rfl rfl (vi_c rfl) dX12_moves_39 ?_
        refine tc_i (-1) (by decide) ?_
        refine lv_istore (lv' := [(6, .int (-1)), (5, .int 2), (3, .int 2), (4, .int 0), (2, .int 0), (0, .ref m0), (1, .int a1)]) hx hb dX12_moves_40 hl (by decide) rfl (fun ls hl => ?_)
        refine lv_iload hx hb dX12_moves_42 (lv_at hl 0 rfl) ?_
        refine lv_iload_n hx hb dX12_moves_44 rfl (lv_at hl 6 rfl) ?_
        refine lv_icmp_lt (tgt := 50) hx hb dX12_moves_45 (by decide) (fun _ => ?_) (fun c_13 => absurd (mo_1 (fun h9 => rng_1 c_1 (Or.inl h9))) c_13)
        refine lv_iload_n hx hb dX12_moves_50 rfl (lv_at hl 2 rfl) ?_
        refine lv_iload hx hb dX12_moves_51 (lv_at hl 0 rfl) ?_
        refine lv_if_ge (tgt := 60) hx hb dX12_moves_53 (by decide) (fun c_14 => absurd c_14 (by decide)) (fun _ => ?_)
        refine lv_iconst (v := 1) hx hb dX12_moves_56 (by decide) ?_
        refine lv_goto (tgt := 61) hx hb dX12_moves_57 (by decide) ?_
        refine lv_iadd hx hb dX12_moves_61 ?_
        refine tc_i 3 (by decide) ?_
        refine lv_istore_n (lv' := [(3, .int 3), (6, .int (-1)), (5, .int 2), (4, .int 0), (2, .int 0), (0, .ref m0), (1, .int a1)]) hx hb dX12_moves_62 rfl hl (by decide) rfl (fun ls hl => ?_)
        refine lv_iload hx hb dX12_moves_63 (lv_at hl 1 rfl) ?_
        refine lv_if_lt (tgt := 100) hx hb dX12_moves_65 (by decide) (fun _ => ?_) (fun c_15 => absurd (by decide) c_15)
        refine lv_iinc (v := 3) (lv' := [(5, .int 3), (3, .int 3), (6, .int (-1)), (4, .int 0), (2, .int 0), (0, .ref m0), (1, .int a1)]) hx hb dX12_moves_100 hl (k := 2) rfl (by decide) (by decide) rfl (fun ls hl => ?_)
        refine lv_goto (tgt := 24) hx hb dX12_moves_103 (by decide) ?_
        refine lv_iload hx hb dX12_moves_24 (lv_at hl 0 rfl) ?_
        refine lv_iload_n hx hb dX12_moves_26 rfl (lv_at hl 6 rfl) ?_
        refine lv_icmp_ge (tgt := 106) hx hb dX12_moves_27 (by decide) (fun c_16 => ?_) (fun c_16 => ?_)
        · refine lv_iload_n hx hb dX12_moves_106 rfl (lv_at hl 4 rfl) ?_
          refine lv_if_ne (tgt := 114) hx hb dX12_moves_107 (by decide) (fun c_17 => absurd (by decide) c_17) (fun _ => ?_)
          refine lv_iconst (v := 0) hx hb dX12_moves_110 (by decide) ?_
          refine lv_goto (tgt := 127) hx hb dX12_moves_111 (by decide) ?_
          exact W.iret (v := 0) hx hb hr (fun t9 ht9 hW9 => ⟨by rw [show (.int (r_moves a1) : Value) = .int 0 from (congrArg Value.int (by have h9 := rng_1 c_1; simp [r_moves, h9]))], ht9.trans hHe⟩) (fun _ h9 => absurd h9 List.not_mem_nil) dX12_moves_127
        · refine lv_aload_n hx hb dX12_moves_30 rfl (lv_at hl 5 rfl) ?_
          refine va_get (D := D) (ci := 10) (v := .ref mSa) (C := "WrongHoleModel") (T := TX12) (N := 33) hx hb hts (iq_RX12 _) hown hK hP 0 rfl rfl 20 (by decide) (hT _ qq_5_172) (fun _ h9 => h9) rfl dX12_moves_31 ?_
          refine lv_bipush (v := 92) hx hb dX12_moves_34 (by decide) ?_
          refine lv_iload hx hb dX12_moves_36 (lv_at hl 0 rfl) ?_
          refine lv_iadd hx hb dX12_moves_38 ?_
          refine tc_i 95 (by decide) ?_
          refine va_iald hx hb hK hP 1 0 rfl rfl (vi_c rfl) dX12_moves_39 ?_
          refine tc_i (-1) (by decide) ?_
          refine lv_istore (lv' := [(6, .int (-1)), (5, .int 3), (3, .int 3), (4, .int 0), (2, .int 0), (0, .ref m0), (1, .int a1)]) hx hb dX12_moves_40 hl (by decide) rfl (fun ls hl => ?_)
          refine lv_iload hx hb dX12_moves_42 (lv_at hl 0 rfl) ?_
          refine lv_iload_n hx hb dX12_moves_44 rfl (lv_at hl 6 rfl) ?_
          refine lv_icmp_lt (tgt := 50) hx hb dX12_moves_45 (by decide) (fun _ => ?_) (fun c_18 => absurd (mo_1 (fun h9 => rng_1 c_1 (Or.inl h9))) c_18)
          refine lv_iload_n hx hb dX12_moves_50 rfl (lv_at hl 2 rfl) ?_
          refine lv_iload hx hb dX12_moves_51 (lv_at hl 0 rfl) ?_
          refine lv_if_ge (tgt := 60) hx hb dX12_moves_53 (by decide) (fun c_19 => absurd c_19 (by decide)) (fun _ => ?_)
          refine lv_iconst (v := 1) hx hb dX12_moves_56 (by decide) ?_
          refine lv_goto (tgt := 61) hx hb dX12_moves_57 (by decide) ?_
          refine lv_iadd hx hb dX12_moves_61 ?_
          refine tc_i 4 (by decide) ?_
          refine lv_istore_n (lv' := [(3, .int 4), (6, .int (-1)), (5, .int 3), (4, .int 0), (2, .int 0), (0, .ref m0), (1, .int a1)]) hx hb dX12_moves_62 rfl hl (by decide) rfl (fun ls hl => ?_)
          refine lv_iload hx hb dX12_moves_63 (lv_at hl 1 rfl) ?_
          refine lv_if_lt (tgt := 100) hx hb dX12_moves_65 (by decide) (fun _ => ?_) (fun c_20 => absurd (by decide) c_20)
          refine lv_iinc (v := 4) (lv' := [(5, .int 4), (3, .int 4), (6, .int (-1)), (4, .int 0), (2, .int 0), (0, .ref m0), (1, .int a1)]) hx hb dX12_moves_100 hl (k := 2) rfl (by decide) (by decide) rfl (fun ls hl => ?_)
          refine lv_goto (tgt := 24) hx hb dX12_moves_103 (by decide) ?_
          refine lv_iload hx hb dX12_moves_24 (lv_at hl 0 rfl) ?_
          refine lv_iload_n hx hb dX12_moves_26 rfl (lv_at hl 6 rfl) ?_
          refine lv_icmp_ge (tgt := 106) hx hb dX12_moves_27 (by decide) (fun c_21 => ?_) (fun c_21 => ?_)
          · refine lv_iload_n hx hb dX12_moves_106 rfl (lv_at hl 4 rfl) ?_
            refine lv_if_ne (tgt := 114) hx hb dX12_moves_107 (by decide) (fun c_22 => absurd (by decide) c_22) (fun _ => ?_)
            refine lv_iconst (v := 0) hx hb dX12_moves_110 (by decide) ?_
            refine lv_goto (tgt := 127) hx hb dX12_moves_111 (by decide) ?_
            exact W.iret (v := 0) hx hb hr (fun t9 ht9 hW9 => ⟨by rw [show (.int (r_moves a1) : Value) = .int 0 from (congrArg Value.int (by have h9 := rng_1 c_1; simp [r_moves, h9]))], ht9.trans hHe⟩) (fun _ h9 => absurd h9 List.not_mem_nil) dX12_moves_127
          · refine lv_aload_n hx hb dX12_moves_30 rfl (lv_at hl 5 rfl) ?_
            refine va_get (D := D) (ci := 10) (v := .ref mSa) (C := "WrongHoleModel") (T := TX12) (N := 33) hx hb hts (iq_RX12 _) hown hK hP 0 rfl rfl 20 (by decide) (hT _ qq_5_172) (fun _ h9 => h9) rfl dX12_moves_31 ?_
            refine lv_bipush (v := 92) hx hb dX12_moves_34 (by decide) ?_
            refine lv_iload hx hb dX12_moves_36 (lv_at hl 0 rfl) ?_
            refine lv_iadd hx hb dX12_moves_38 ?_
            refine tc_i 96 (by decide) ?_
            refine va_iald hx hb hK hP 1 0 rfl rfl (vi_c rfl) dX12_moves_39 ?_
            refine tc_i (-1) (by decide) ?_
            refine lv_istore (lv' := [(6, .int (-1)), (5, .int 4), (3, .int 4), (4, .int 0), (2, .int 0), (0, .ref m0), (1, .int a1)]) hx hb dX12_moves_40 hl (by decide) rfl (fun ls hl => ?_)
            refine lv_iload hx hb dX12_moves_42 (lv_at hl 0 rfl) ?_
            refine lv_iload_n hx hb dX12_moves_44 rfl (lv_at hl 6 rfl) ?_
            refine lv_icmp_lt (tgt := 50) hx hb dX12_moves_45 (by decide) (fun _ => ?_) (fun c_23 => absurd (mo_1 (fun h9 => rng_1 c_1 (Or.inl h9))) c_23)
            refine lv_iload_n hx hb dX12_moves_50 rfl (lv_at hl 2 rfl) ?_
            refine lv_iload hx hb dX12_moves_51 (lv_at hl 0 rfl) ?_
            refine lv_if_ge (tgt := 60) hx hb dX12_moves_53 (by decide) (fun c_24 => absurd c_24 (by decide)) (fun _ => ?_)
            refine lv_iconst (v := 1) hx hb dX12_moves_56 (by decide) ?_
            refine lv_goto (tgt := 61) hx hb dX12_moves_57 (by decide) ?_
            refine lv_iadd hx hb dX12_moves_61 ?_
            refine tc_i 5 (by decide) ?_
            refine lv_istore_n (lv' := [(3, .int 5), (6, .int (-1)), (5, .int 4), (4, .int 0), (2, .int 0), (0, .ref m0), (1, .int a1)]) hx hb dX12_moves_62 rfl hl (by decide) rfl (fun ls hl => ?_)
            refine lv_iload hx hb dX12_moves_63 (lv_at hl 1 rfl) ?_
            refine lv_if_lt (tgt := 100) hx hb dX12_moves_65 (by decide) (fun _ => ?_) (fun c_25 => absurd (by decide) c_25)
            refine lv_iinc (v := 5) (lv' := [(5, .int 5), (3, .int 5), (6, .int (-1)), (4, .int 0), (2, .int 0), (0, .ref m0), (1, .int a1)]) hx hb dX12_moves_100 hl (k := 2) rfl (by decide) (by decide) rfl (fun ls hl => ?_)
            refine lv_goto (tgt := 24) hx hb dX12_moves_103 (by decide) ?_
            refine lv_iload hx hb dX12_moves_24 (lv_at hl 0 rfl) ?_
            refine lv_iload_n hx hb dX12_moves_26 rfl (lv_at hl 6 rfl) ?_
            refine lv_icmp_ge (tgt := 106) hx hb dX12_moves_27 (by decide) (fun c_26 => ?_) (fun c_26 => ?_)
            · refine lv_iload_n hx hb dX12_moves_106 rfl (lv_at hl 4 rfl) ?_
              refine lv_if_ne (tgt := 114) hx hb dX12_moves_107 (by decide) (fun c_27 => absurd (by decide) c_27) (fun _ => ?_)
              refine lv_iconst (v := 0) hx hb dX12_moves_110 (by decide) ?_
              refine lv_goto (tgt := 127) hx hb dX12_moves_111 (by decide) ?_
              exact W.iret (v := 0) hx hb hr (fun t9 ht9 hW9 => ⟨by rw [show (.int (r_moves a1) : Value) = .int 0 from (congrArg Value.int (by have h9 := rng_1 c_1; simp [r_moves, h9]))], ht9.trans hHe⟩) (fun _ h9 => absurd h9 List.not_mem_nil) dX12_moves_127
            · refine lv_aload_n hx hb dX12_moves_30 rfl (lv_at hl 5 rfl) ?_
              refine va_get (D := D) (ci := 10) (v := .ref mSa) (C := "WrongHoleModel") (T := TX12) (N := 33) hx hb hts (iq_RX12 _) hown hK hP 0 rfl rfl 20 (by decide) (hT _ qq_5_172) (fun _ h9 => h9) rfl dX12_moves_31 ?_
              refine lv_bipush (v := 92) hx hb dX12_moves_34 (by decide) ?_
              refine lv_iload hx hb dX12_moves_36 (lv_at hl 0 rfl) ?_
              refine lv_iadd hx hb dX12_moves_38 ?_
              refine tc_i 97 (by decide) ?_
              refine va_iald hx hb hK hP 1 0 rfl rfl (vi_c rfl) dX12_moves_39 ?_
              refine tc_i (-1) (by decide) ?_
              refine lv_istore (lv' := [(6, .int (-1)), (5, .int 5), (3, .int 5), (4, .int 0), (2, .int 0), (0, .ref m0), (1, .int a1)]) hx hb dX12_moves_40 hl (by decide) rfl (fun ls hl => ?_)
              refine lv_iload hx hb dX12_moves_42 (lv_at hl 0 rfl) ?_
              refine lv_iload_n hx hb dX12_moves_44 rfl (lv_at hl 6 rfl) ?_
              refine lv_icmp_lt (tgt := 50) hx hb dX12_moves_45 (by decide) (fun _ => ?_) (fun c_28 => absurd (mo_1 (fun h9 => rng_1 c_1 (Or.inl h9))) c_28)
              refine lv_iload_n hx hb dX12_moves_50 rfl (lv_at hl 2 rfl) ?_
              refine lv_iload hx hb dX12_moves_51 (lv_at hl 0 rfl) ?_
              refine lv_if_ge (tgt := 60) hx hb dX12_moves_53 (by decide) (fun c_29 => absurd c_29 (by decide)) (fun _ => ?_)
              refine lv_iconst (v := 1) hx hb dX12_moves_56 (by decide) ?_
              refine lv_goto (tgt := 61) hx hb dX12_moves_57 (by decide) ?_
              refine lv_iadd hx hb dX12_moves_61 ?_
              refine tc_i 6 (by decide) ?_
              refine lv_istore_n (lv' := [(3, .int 6), (6, .int (-1)), (5, .int 5), (4, .int 0), (2, .int 0), (0, .ref m0), (1, .int a1)]) hx hb dX12_moves_62 rfl hl (by decide) rfl (fun ls hl => ?_)
              refine lv_iload hx hb dX12_moves_63 (lv_at hl 1 rfl) ?_
              refine lv_if_lt (tgt := 100) hx hb dX12_moves_65 (by decide) (fun _ => ?_) (fun c_30 => absurd (by decide) c_30)
              refine lv_iinc (v := 6) (lv' := [(5, .int 6), (3, .int 6), (6, .int (-1)), (4, .int 0), (2, .int 0), (0, .ref m0), (1, .int a1)]) hx hb dX12_moves_100 hl (k := 2) rfl (by decide) (by decide) rfl (fun ls hl => ?_)
              refine lv_goto (tgt := 24) hx hb dX12_moves_103 (by decide) ?_
              refine lv_iload hx hb dX12_moves_24 (lv_at hl 0 rfl) ?_
              refine lv_iload_n hx hb dX12_moves_26 rfl (lv_at hl 6 rfl) ?_
              refine lv_icmp_ge (tgt := 106) hx hb dX12_moves_27 (by decide) (fun c_31 => ?_) (fun c_31 => ?_)
              · refine lv_iload_n hx hb dX12_moves_106 rfl (lv_at hl 4 rfl) ?_
                refine lv_if_ne (tgt := 114) hx hb dX12_moves_107 (by decide) (fun c_32 => absurd (by decide) c_32) (fun _ => ?_)
                refine lv_iconst (v := 0) hx hb dX12_moves_110 (by decide) ?_
                refine lv_goto (tgt := 127) hx hb dX12_moves_111 (by decide) ?_
                exact W.iret (v := 0) hx hb hr (fun t9 ht9 hW9 => ⟨by rw [show (.int (r_moves a1) : Value) = .int 0 from (congrArg Value.int (by have h9 := rng_1 c_1; simp [r_moves, h9]))], ht9.trans hHe⟩) (fun _ h9 => absurd h9 List.not_mem_nil) dX12_moves_127
              · refine lv_aload_n hx hb dX12_moves_30 rfl (lv_at hl 5 rfl) ?_
                refine va_get (D := D) (ci := 10) (v := .ref mSa) (C := "WrongHoleModel") (T := TX12) (N := 33) hx hb hts (iq_RX12 _) hown hK hP 0 rfl rfl 20 (by decide) (hT _ qq_5_172) (fun _ h9 => h9) rfl dX12_moves_31 ?_
                refine lv_bipush (v := 92) hx hb dX12_moves_34 (by decide) ?_
                refine lv_iload hx hb dX12_moves_36 (lv_at hl 0 rfl) ?_
                refine lv_iadd hx hb dX12_moves_38 ?_
                refine tc_i 98 (by decide) ?_
                refine va_iald hx hb hK hP 1 0 rfl rfl (vi_c rfl) dX12_moves_39 ?_
                refine tc_i (-1) (by decide) ?_
                refine lv_istore (lv' := [(6, .int (-1)), (5, .int 6), (3, .int 6), (4, .int 0), (2, .int 0), (0, .ref m0), (1, .int a1)]) hx hb dX12_moves_40 hl (by decide) rfl (fun ls hl => ?_)
                refine lv_iload hx hb dX12_moves_42 (lv_at hl 0 rfl) ?_
                refine lv_iload_n hx hb dX12_moves_44 rfl (lv_at hl 6 rfl) ?_
                refine lv_icmp_lt (tgt := 50) hx hb dX12_moves_45 (by decide) (fun _ => ?_) (fun c_33 => absurd (mo_1 (fun h9 => rng_1 c_1 (Or.inl h9))) c_33)
                refine lv_iload_n hx hb dX12_moves_50 rfl (lv_at hl 2 rfl) ?_
                refine lv_iload hx hb dX12_moves_51 (lv_at hl 0 rfl) ?_
                refine lv_if_ge (tgt := 60) hx hb dX12_moves_53 (by decide) (fun c_34 => absurd c_34 (by decide)) (fun _ => ?_)
                refine lv_iconst (v := 1) hx hb dX12_moves_56 (by decide) ?_
                refine lv_goto (tgt := 61) hx hb dX12_moves_57 (by decide) ?_
                refine lv_iadd hx hb dX12_moves_61 ?_
                refine tc_i 7 (by decide) ?_
                refine lv_istore_n (lv' := [(3, .int 7), (6, .int (-1)), (5, .int 6), (4, .int 0), (2, .int 0), (0, .ref m0), (1, .int a1)]) hx hb dX12_moves_62 rfl hl (by decide) rfl (fun ls hl => ?_)
                refine lv_iload hx hb dX12_moves_63 (lv_at hl 1 rfl) ?_
                refine lv_if_lt (tgt := 100) hx hb dX12_moves_65 (by decide) (fun _ => ?_) (fun c_35 => absurd (by decide) c_35)
                refine lv_iinc (v := 7) (lv' := [(5, .int 7), (3, .int 7), (6, .int (-1)), (4, .int 0), (2, .int 0), (0, .ref m0), (1, .int a1)]) hx hb dX12_moves_100 hl (k := 2) rfl (by decide) (by decide) rfl (fun ls hl => ?_)
                refine lv_goto (tgt := 24) hx hb dX12_moves_103 (by decide) ?_
                refine lv_iload hx hb dX12_moves_24 (lv_at hl 0 rfl) ?_
                refine lv_iload_n hx hb dX12_moves_26 rfl (lv_at hl 6 rfl) ?_
                refine lv_icmp_ge (tgt := 106) hx hb dX12_moves_27 (by decide) (fun c_36 => ?_) (fun c_36 => ?_)
                · refine lv_iload_n hx hb dX12_moves_106 rfl (lv_at hl 4 rfl) ?_
                  refine lv_if_ne (tgt := 114) hx hb dX12_moves_107 (by decide) (fun c_37 => absurd (by decide) c_37) (fun _ => ?_)
                  refine lv_iconst (v := 0) hx hb dX12_moves_110 (by decide) ?_
                  refine lv_goto (tgt := 127) hx hb dX12_moves_111 (by decide) ?_
                  exact W.iret (v := 0) hx hb hr (fun t9 ht9 hW9 => ⟨by rw [show (.int (r_moves a1) : Value) = .int 0 from (congrArg Value.int (by have h9 := rng_1 c_1; simp [r_moves, h9]))], ht9.trans hHe⟩) (fun _ h9 => absurd h9 List.not_mem_nil) dX12_moves_127
                · refine lv_aload_n hx hb dX12_moves_30 rfl (lv_at hl 5 rfl) ?_
                  refine va_get (D := D) (ci := 10) (v := .ref mSa) (C := "WrongHoleModel") (T := TX12) (N := 33) hx hb hts (iq_RX12 _) hown hK hP 0 rfl rfl 20 (by decide) (hT _ qq_5_172) (fun _ h9 => h9) rfl dX12_moves_31 ?_
                  refine lv_bipush (v := 92) hx hb dX12_moves_34 (by decide) ?_
                  refine lv_iload hx hb dX12_moves_36 (lv_at hl 0 rfl) ?_
                  refine lv_iadd hx hb dX12_moves_38 ?_
                  refine tc_i 99 (by decide) ?_
                  refine va_iald hx hb hK hP 1 0 rfl rfl (vi_c rfl) dX12_moves_39 ?_
                  refine tc_i (-1) (by decide) ?_
                  refine lv_istore (lv' := [(6, .int (-1)), (5, .int 7), (3, .int 7), (4, .int 0), (2, .int 0), (0, .ref m0), (1, .int a1)]) hx hb dX12_moves_40 hl (by decide) rfl (fun ls hl => ?_)
                  refine lv_iload hx hb dX12_moves_42 (lv_at hl 0 rfl) ?_
                  refine lv_iload_n hx hb dX12_moves_44 rfl (lv_at hl 6 rfl) ?_
                  refine lv_icmp_lt (tgt := 50) hx hb dX12_moves_45 (by decide) (fun _ => ?_) (fun c_38 => absurd (mo_1 (fun h9 => rng_1 c_1 (Or.inl h9))) c_38)
                  refine lv_iload_n hx hb dX12_moves_50 rfl (lv_at hl 2 rfl) ?_
                  refine lv_iload hx hb dX12_moves_51 (lv_at hl 0 rfl) ?_
                  refine lv_if_ge (tgt := 60) hx hb dX12_moves_53 (by decide) (fun c_39 => absurd c_39 (by decide)) (fun _ => ?_)
                  refine lv_iconst (v := 1) hx hb dX12_moves_56 (by decide) ?_
                  refine lv_goto (tgt := 61) hx hb dX12_moves_57 (by decide) ?_
                  refine lv_iadd hx hb dX12_moves_61 ?_
                  refine tc_i 8 (by decide) ?_
                  refine lv_istore_n (lv' := [(3, .int 8), (6, .int (-1)), (5, .int 7), (4, .int 0), (2, .int 0), (0, .ref m0), (1, .int a1)]) hx hb dX12_moves_62 rfl hl (by decide) rfl (fun ls hl => ?_)
                  refine lv_iload hx hb dX12_moves_63 (lv_at hl 1 rfl) ?_
                  refine lv_if_lt (tgt := 100) hx hb dX12_moves_65 (by decide) (fun _ => ?_) (fun c_40 => absurd (by decide) c_40)
                  refine lv_iinc (v := 8) (lv' := [(5, .int 8), (3, .int 8), (6, .int (-1)), (4, .int 0), (2, .int 0), (0, .ref m0), (1, .int a1)]) hx hb dX12_moves_100 hl (k := 2) rfl (by decide) (by decide) rfl (fun ls hl => ?_)
                  refine lv_goto (tgt := 24) hx hb dX12_moves_103 (by decide) ?_
                  refine lv_iload hx hb dX12_moves_24 (lv_at hl 0 rfl) ?_
                  refine lv_iload_n hx hb dX12_moves_26 rfl (lv_at hl 6 rfl) ?_
                  refine lv_icmp_ge (tgt := 106) hx hb dX12_moves_27 (by decide) (fun c_41 => ?_) (fun c_41 => ?_)
                  · refine lv_iload_n hx hb dX12_moves_106 rfl (lv_at hl 4 rfl) ?_
                    refine lv_if_ne (tgt := 114) hx hb dX12_moves_107 (by decide) (fun c_42 => absurd (by decide) c_42) (fun _ => ?_)
                    refine lv_iconst (v := 0) hx hb dX12_moves_110 (by decide) ?_
                    refine lv_goto (tgt := 127) hx hb dX12_moves_111 (by decide) ?_
                    exact W.iret (v := 0) hx hb hr (fun t9 ht9 hW9 => ⟨by rw [show (.int (r_moves a1) : Value) = .int 0 from (congrArg Value.int (by have h9 := rng_1 c_1; simp [r_moves, h9]))], ht9.trans hHe⟩) (fun _ h9 => absurd h9 List.not_mem_nil) dX12_moves_127
                  · refine lv_aload_n hx hb dX12_moves_30 rfl (lv_at hl 5 rfl) ?_
                    refine va_get (D := D) (ci := 10) (v := .ref mSa) (C := "WrongHoleModel") (T := TX12) (N := 33) hx hb hts (iq_RX12 _) hown hK hP 0 rfl rfl 20 (by decide) (hT _ qq_5_172) (fun _ h9 => h9) rfl dX12_moves_31 ?_
                    refine lv_bipush (v := 92) hx hb dX12_moves_34 (by decide) ?_
                    refine lv_iload hx hb dX12_moves_36 (lv_at hl 0 rfl) ?_
                    refine lv_iadd hx hb dX12_moves_38 ?_
                    refine tc_i 100 (by decide) ?_
                    refine va_iald hx hb hK hP 1 0 rfl rfl (vi_c rfl) dX12_moves_39 ?_
                    refine tc_i (-1) (by decide) ?_
                    refine lv_istore (lv' := [(6, .int (-1)), (5, .int 8), (3, .int 8), (4, .int 0), (2, .int 0), (0, .ref m0), (1, .int a1)]) hx hb dX12_moves_40 hl (by decide) rfl (fun ls hl => ?_)
                    refine lv_iload hx hb dX12_moves_42 (lv_at hl 0 rfl) ?_
                    refine lv_iload_n hx hb dX12_moves_44 rfl (lv_at hl 6 rfl) ?_
                    refine lv_icmp_lt (tgt := 50) hx hb dX12_moves_45 (by decide) (fun _ => ?_) (fun c_43 => absurd (mo_1 (fun h9 => rng_1 c_1 (Or.inl h9))) c_43)
                    refine lv_iload_n hx hb dX12_moves_50 rfl (lv_at hl 2 rfl) ?_
                    refine lv_iload hx hb dX12_moves_51 (lv_at hl 0 rfl) ?_
                    refine lv_if_ge (tgt := 60) hx hb dX12_moves_53 (by decide) (fun c_44 => absurd c_44 (by decide)) (fun _ => ?_)
                    refine lv_iconst (v := 1) hx hb dX12_moves_56 (by decide) ?_
                    refine lv_goto (tgt := 61) hx hb dX12_moves_57 (by decide) ?_
                    refine lv_iadd hx hb dX12_moves_61 ?_
                    refine tc_i 9 (by decide) ?_
                    refine lv_istore_n (lv' := [(3, .int 9), (6, .int (-1)), (5, .int 8), (4, .int 0), (2, .int 0), (0, .ref m0), (1, .int a1)]) hx hb dX12_moves_62 rfl hl (by decide) rfl (fun ls hl => ?_)
                    refine lv_iload hx hb dX12_moves_63 (lv_at hl 1 rfl) ?_
                    refine lv_if_lt (tgt := 100) hx hb dX12_moves_65 (by decide) (fun _ => ?_) (fun c_45 => absurd (by decide) c_45)
                    refine lv_iinc (v := 9) (lv' := [(5, .int 9), (3, .int 9), (6, .int (-1)), (4, .int 0), (2, .int 0), (0, .ref m0), (1, .int a1)]) hx hb dX12_moves_100 hl (k := 2) rfl (by decide) (by decide) rfl (fun ls hl => ?_)
                    refine lv_goto (tgt := 24) hx hb dX12_moves_103 (by decide) ?_
                    refine lv_iload hx hb dX12_moves_24 (lv_at hl 0 rfl) ?_
                    refine lv_iload_n hx hb dX12_moves_26 rfl (lv_at hl 6 rfl) ?_
                    refine lv_icmp_ge (tgt := 106) hx hb dX12_moves_27 (by decide) (fun c_46 => ?_) (fun c_46 => ?_)
                    · refine lv_iload_n hx hb dX12_moves_106 rfl (lv_at hl 4 rfl) ?_
                      refine lv_if_ne (tgt := 114) hx hb dX12_moves_107 (by decide) (fun c_47 => absurd (by decide) c_47) (fun _ => ?_)
                      refine lv_iconst (v := 0) hx hb dX12_moves_110 (by decide) ?_
                      refine lv_goto (tgt := 127) hx hb dX12_moves_111 (by decide) ?_
                      exact W.iret (v := 0) hx hb hr (fun t9 ht9 hW9 => ⟨by rw [show (.int (r_moves a1) : Value) = .int 0 from (congrArg Value.int (by have h9 := rng_1 c_1; simp [r_moves, h9]))], ht9.trans hHe⟩) (fun _ h9 => absurd h9 List.not_mem_nil) dX12_moves_127
                    · refine lv_aload_n hx hb dX12_moves_30 rfl (lv_at hl 5 rfl) ?_
                      refine va_get (D := D) (ci := 10) (v := .ref mSa) (C := "WrongHoleModel") (T := TX12) (N := 33) hx hb hts (iq_RX12 _) hown hK hP 0 rfl rfl 20 (by decide) (hT _ qq_5_172) (fun _ h9 => h9) rfl dX12_moves_31 ?_
                      refine lv_bipush (v := 92) hx hb dX12_moves_34 (by decide) ?_
                      refine lv_iload hx hb dX12_moves_36 (lv_at hl 0 rfl) ?_
                      refine lv_iadd hx hb dX12_moves_38 ?_
                      refine tc_i 101 (by decide) ?_
                      refine va_iald hx hb hK hP 1 0 rfl rfl (vi_c rfl) dX12_moves_39 ?_
                      refine tc_i (-1) (by decide) ?_
                      refine lv_istore (lv' := [(6, .int (-1)), (5, .int 9), (3, .int 9), (4, .int 0), (2, .int 0), (0, .ref m0), (1, .int a1)]) hx hb dX12_moves_40 hl (by decide) rfl (fun ls hl => ?_)
                      refine lv_iload hx hb dX12_moves_42 (lv_at hl 0 rfl) ?_
                      refine lv_iload_n hx hb dX12_moves_44 rfl (lv_at hl 6 rfl) ?_
                      refine lv_icmp_lt (tgt := 50) hx hb dX12_moves_45 (by decide) (fun _ => ?_) (fun c_48 => absurd (mo_1 (fun h9 => rng_1 c_1 (Or.inl h9))) c_48)
                      refine lv_iload_n hx hb dX12_moves_50 rfl (lv_at hl 2 rfl) ?_
                      refine lv_iload hx hb dX12_moves_51 (lv_at hl 0 rfl) ?_
                      refine lv_if_ge (tgt := 60) hx hb dX12_moves_53 (by decide) (fun c_49 => absurd c_49 (by decide)) (fun _ => ?_)
                      refine lv_iconst (v := 1) hx hb dX12_moves_56 (by decide) ?_
                      refine lv_goto (tgt := 61) hx hb dX12_moves_57 (by decide) ?_
                      refine lv_iadd hx hb dX12_moves_61 ?_
                      refine tc_i 10 (by decide) ?_
                      refine lv_istore_n (lv' := [(3, .int 10), (6, .int (-1)), (5, .int 9), (4, .int 0), (2, .int 0), (0, .ref m0), (1, .int a1)]) hx hb dX12_moves_62 rfl hl (by decide) rfl (fun ls hl => ?_)
                      refine lv_iload hx hb dX12_moves_63 (lv_at hl 1 rfl) ?_
                      refine lv_if_lt (tgt := 100) hx hb dX12_moves_65 (by decide) (fun _ => ?_) (fun c_50 => absurd (by decide) c_50)
                      refine lv_iinc (v := 10) (lv' := [(5, .int 10), (3, .int 10), (6, .int (-1)), (4, .int 0), (2, .int 0), (0, .ref m0), (1, .int a1)]) hx hb dX12_moves_100 hl (k := 2) rfl (by decide) (by decide) rfl (fun ls hl => ?_)
                      refine lv_goto (tgt := 24) hx hb dX12_moves_103 (by decide) ?_
                      refine lv_iload hx hb dX12_moves_24 (lv_at hl 0 rfl) ?_
                      refine lv_iload_n hx hb dX12_moves_26 rfl (lv_at hl 6 rfl) ?_
                      refine lv_icmp_ge (tgt := 106) hx hb dX12_moves_27 (by decide) (fun _ => ?_) (fun c_51 => absurd (i_A (fun h9 => rng_1 c_1 (Or.inr h9))) c_51)
                      refine lv_iload_n hx hb dX12_moves_106 rfl (lv_at hl 4 rfl) ?_
                      refine lv_if_ne (tgt := 114) hx hb dX12_moves_107 (by decide) (fun c_52 => absurd (by decide) c_52) (fun _ => ?_)
                      refine lv_iconst (v := 0) hx hb dX12_moves_110 (by decide) ?_
                      refine lv_goto (tgt := 127) hx hb dX12_moves_111 (by decide) ?_
                      exact W.iret (v := 0) hx hb hr (fun t9 ht9 hW9 => ⟨by rw [show (.int (r_moves a1) : Value) = .int 0 from (congrArg Value.int (by have h9 := rng_1 c_1; simp [r_moves, h9]))], ht9.trans hHe⟩) (fun _ h9 => absurd h9 List.not_mem_nil) dX12_moves_127
  · refine lv_iconst (v := (-1)) hx hb dX12_moves_12 (by decide) ?_
    exact W.iret (v := (-1)) hx hb hr (fun t9 ht9 hW9 => ⟨by rw [show (.int (r_moves a1) : Value) = .int (-1) from (congrArg Value.int (by have h9 := rng_0 c_1; simp [r_moves, h9]))], ht9.trans hHe⟩) (fun _ h9 => absurd h9 List.not_mem_nil) dX12_moves_13
theorem dX12_seed_0 : decode cX12_seed 0 = .ok (.iload_n 1, 1) := by decide +kernel
theorem dX12_seed_1 : decode cX12_seed 1 = .ok (.ifCond .ge 5, 3) := by decide +kernel
theorem dX12_seed_6 : decode cX12_seed 6 = .ok (.aload_n 0, 1) := by decide +kernel
theorem dX12_seed_7 : decode cX12_seed 7 = .ok (.getfield 513, 3) := by decide +kernel
theorem qq_5_173 : Cond.fieldLink "WrongHoleModel" 513 "WrongHoleModel" "x" "I" ∈ TB := mk_tb (ti_5 (List.mem_of_getElem? (i := 173) rfl)) rfl
theorem dX12_seed_10 : decode cX12_seed 10 = .ok (.istore_n 2, 1) := by decide +kernel
theorem dX12_seed_11 : decode cX12_seed 11 = .ok (.aload_n 0, 1) := by decide +kernel
theorem dX12_seed_12 : decode cX12_seed 12 = .ok (.iload_n 1, 1) := by decide +kernel
theorem dX12_seed_13 : decode cX12_seed 13 = .ok (.putfield 513, 3) := by decide +kernel
theorem dX12_seed_16 : decode cX12_seed 16 = .ok (.iload_n 2, 1) := by decide +kernel
theorem dX12_seed_17 : decode cX12_seed 17 = .ok (.ireturn, 1) := by decide +kernel
theorem dX12_seed_4 : decode cX12_seed 4 = .ok (.iconst (-1), 1) := by decide +kernel
theorem dX12_seed_5 : decode cX12_seed 5 = .ok (.ireturn, 1) := by decide +kernel
set_option maxHeartbeats 4000000 in
set_option maxRecDepth 100000 in
theorem c_m_seed (l : Launch) (D : va_G) (ad : Nat → Nat) (sz : Nat) (m0 : Nat) (mTa : Nat) (mSi : Nat) (mLe : Nat) (mCl : Nat) (mCs : Nat) (mRe : Nat) (mOp : Nat) (mSt : Nat) (mWo : Nat) (mSa : Nat) (mWa : Nat) (mFa : Nat) (mQu : Nat) (mIs : Nat) (mIm : Nat) (mIx : Nat) (mMa : Nat) (a1 : Int32)  : Met l yX12_seed (Cond.code yX12_seed cX12_seed 3 (some .int) :: TB) (RM 0 0 0) (va_Pc [.ref m0, .int a1] (PRE D ad [(m0, .inr (10, [.ref mTa, .int 0, .int 0, .ref mSi, .ref mLe, .ref mCl, .ref mCs, .ref mRe, .int 0, .int 0, .int 0, .int 0, .int 0, .int 0, .int 0, .ref mOp, .int 0, .ref mSt, .int 0, .ref mWo, .ref mSa, .int 0, .ref mWa, .int 0, .ref mFa, .ref mQu, .ref mIs, .int 0, .int 0, .long 0, .ref mIm, .ref mIx, .ref mMa]))] [] sz)) (va_Qi (S := Unit) (fun r _ => r = (r_seed a1)) (fun _ t => True) (va_A [(m0, .inr (10, [.ref mTa, .int 0, .int 0, .ref mSi, .ref mLe, .ref mCl, .ref mCs, .ref mRe, .int 0, .int 0, .int 0, .int 0, .int 0, .int 0, .int 0, .ref mOp, .int 0, .ref mSt, .int 0, .ref mWo, .ref mSa, .int 0, .ref mWa, .int 0, .ref mFa, .ref mQu, .ref mIs, .int 0, .int 0, .long 0, .ref mIm, .ref mIx, .ref mMa]))] sz)) 0 0 (va_A [(m0, .inr (10, [.ref mTa, .int 0, .int 0, .ref mSi, .ref mLe, .ref mCl, .ref mCs, .ref mRe, .int 0, .int 0, .int 0, .int 0, .int 0, .int 0, .int 0, .ref mOp, .int 0, .ref mSt, .int 0, .ref mWo, .ref mSa, .int 0, .ref mWa, .int 0, .ref mFa, .ref mQu, .ref mIs, .int 0, .int 0, .long 0, .ref mIm, .ref mIx, .ref mMa]))] sz) := by
  refine MET (y := yX12_seed) (cc := cX12_seed) (maxL := 3) (ret := (some .int)) (d := 0) (mc := 0) (ms := 0) (D := D) (ad := ad) (ws := [(m0, .inr (10, [.ref mTa, .int 0, .int 0, .ref mSi, .ref mLe, .ref mCl, .ref mCs, .ref mRe, .int 0, .int 0, .int 0, .int 0, .int 0, .int 0, .int 0, .ref mOp, .int 0, .ref mSt, .int 0, .ref mWo, .ref mSa, .int 0, .ref mWa, .int 0, .ref mFa, .ref mQu, .ref mIs, .int 0, .int 0, .long 0, .ref mIm, .ref mIx, .ref mMa]))]) (tys := []) (sz := sz) (av := [.ref m0, .int a1]) (Qc := fun A => va_Qi (S := Unit) (fun r _ => r = (r_seed a1)) (fun _ t => True) A) (fr := fun A => A) (by decide) (Nat.le_of_ble_eq_true rfl) ?_
  intro p e s m below meth c ls A H hHe hx hb hr hml hown hts hlocks hnm hP hK hD hA hS hN hl
  have hown : s.vm.findClass "WrongHoleModel" = some m.cls := hown
  have hT : ∀ w ∈ TB, w.before ([.ref m0, .int a1] : List Value).toArray s = true := fun w h => hts w (List.mem_cons_of_mem _ h)
  have hl : lv_has ls 3 [(0, .ref m0), (1, .int a1)] := hl
  have hP : va_P D vwCl [(m0, .inr (10, [.ref mTa, .int 0, .int 0, .ref mSi, .ref mLe, .ref mCl, .ref mCs, .ref mRe, .int 0, .int 0, .int 0, .int 0, .int 0, .int 0, .int 0, .ref mOp, .int 0, .ref mSt, .int 0, .ref mWo, .ref mSa, .int 0, .ref mWa, .int 0, .ref mFa, .ref mQu, .ref mIs, .int 0, .int 0, .long 0, .ref mIm, .ref mIx, .ref mMa]))] H := hP
  refine lv_iload_n hx hb dX12_seed_0 rfl (lv_at hl 1 rfl) ?_
  refine lv_if_ge (tgt := 6) hx hb dX12_seed_1 (by decide) (fun c_1 => ?_) (fun c_1 => ?_)
  · refine lv_aload_n hx hb dX12_seed_6 rfl (lv_at hl 0 rfl) ?_
    refine va_get (D := D) (ci := 10) (v := .int 0) (C := "WrongHoleModel") (T := TX12) (N := 33) hx hb hts (iq_RX12 _) hown hK hP 0 rfl rfl 21 (by decide) (hT _ qq_5_173) (fun _ h9 => h9) rfl dX12_seed_7 ?_
    refine lv_istore_n (lv' := [(2, .int 0), (0, .ref m0), (1, .int a1)]) hx hb dX12_seed_10 rfl hl (by decide) rfl (fun ls hl => ?_)
    refine lv_aload_n hx hb dX12_seed_11 rfl (lv_at hl 1 rfl) ?_
    refine lv_iload_n hx hb dX12_seed_12 rfl (lv_at hl 2 rfl) ?_
    refine va_put (D := D) (ci := 10) (v := .int a1) (ty := .int) (C := "WrongHoleModel") (T := TX12) (N := 33) hx hb hts (iq_RX12 _) tyX12 tyX12_ok nmX12 hown hK hP hD hS 0 rfl rfl 21 (by decide) (hT _ qq_5_173) (fun _ h9 => h9) rfl (by decide +kernel) rfl rfl (Nat.le_of_ble_eq_true rfl) dX12_seed_13 (fun H locs hP hD hS => ?_)
    have hP : va_P D vwCl [(m0, .inr (10, [.ref mTa, .int 0, .int 0, .ref mSi, .ref mLe, .ref mCl, .ref mCs, .ref mRe, .int 0, .int 0, .int 0, .int 0, .int 0, .int 0, .int 0, .ref mOp, .int 0, .ref mSt, .int 0, .ref mWo, .ref mSa, .int a1, .ref mWa, .int 0, .ref mFa, .ref mQu, .ref mIs, .int 0, .int 0, .long 0, .ref mIm, .ref mIx, .ref mMa]))] H := hP
    have hD : va_D A [(m0, .inr (10, [.ref mTa, .int 0, .int 0, .ref mSi, .ref mLe, .ref mCl, .ref mCs, .ref mRe, .int 0, .int 0, .int 0, .int 0, .int 0, .int 0, .int 0, .ref mOp, .int 0, .ref mSt, .int 0, .ref mWo, .ref mSa, .int a1, .ref mWa, .int 0, .ref mFa, .ref mQu, .ref mIs, .int 0, .int 0, .long 0, .ref mIm, .ref mIx, .ref mMa]))] := hD
    refine lv_iload_n hx hb dX12_seed_16 rfl (lv_at hl 0 rfl) ?_
    refine W.widen (k := 0) (n := 0) (Nat.le_of_ble_eq_true rfl) (Nat.le_of_ble_eq_true rfl) ?_
    exact W.iret (v := 0) hx hb hr (fun t9 ht9 hW9 => ⟨⟨_, (), rfl, (by simp [r_seed, c_1]), trivial⟩, hS.F ht9⟩) hS.2.2 dX12_seed_17
  · refine lv_iconst (v := (-1)) hx hb dX12_seed_4 (by decide) ?_
    refine W.widen (k := 0) (n := 0) (Nat.le_of_ble_eq_true rfl) (Nat.le_of_ble_eq_true rfl) ?_
    exact W.iret (v := (-1)) hx hb hr (fun t9 ht9 hW9 => ⟨⟨_, (), rfl, (by simp [r_seed, c_1]), trivial⟩, hS.F ht9⟩) hS.2.2 dX12_seed_5
theorem dX12_count_0 : decode cX12_count 0 = .ok (.iconst 0, 1) := by decide +kernel
theorem dX12_count_1 : decode cX12_count 1 = .ok (.istore_n 2, 1) := by decide +kernel
theorem dX12_count_2 : decode cX12_count 2 = .ok (.iload_n 1, 1) := by decide +kernel
theorem dX12_count_3 : decode cX12_count 3 = .ok (.tableswitch 174 0 11 #[61, 61, 68, 73, 80, 87, 92, 111, 119, 128, 164, 169], 61) := by decide +kernel
theorem dX12_count_177 : decode cX12_count 177 = .ok (.iconst (-1), 1) := by decide +kernel
theorem dX12_count_178 : decode cX12_count 178 = .ok (.ireturn, 1) := by decide +kernel
theorem dX12_count_64 : decode cX12_count 64 = .ok (.aload_n 0, 1) := by decide +kernel
theorem dX12_count_65 : decode cX12_count 65 = .ok (.getfield 39, 3) := by decide +kernel
theorem dX12_count_68 : decode cX12_count 68 = .ok (.iload_n 1, 1) := by decide +kernel
theorem dX12_count_69 : decode cX12_count 69 = .ok (.iaload, 1) := by decide +kernel
theorem dX12_count_70 : decode cX12_count 70 = .ok (.ireturn, 1) := by decide +kernel
theorem dX12_count_71 : decode cX12_count 71 = .ok (.aload_n 0, 1) := by decide +kernel
theorem dX12_count_72 : decode cX12_count 72 = .ok (.getfield 295, 3) := by decide +kernel
theorem dX12_count_75 : decode cX12_count 75 = .ok (.ireturn, 1) := by decide +kernel
theorem dX12_count_76 : decode cX12_count 76 = .ok (.aload_n 0, 1) := by decide +kernel
theorem dX12_count_77 : decode cX12_count 77 = .ok (.getfield 39, 3) := by decide +kernel
theorem dX12_count_80 : decode cX12_count 80 = .ok (.iconst 2, 1) := by decide +kernel
theorem dX12_count_81 : decode cX12_count 81 = .ok (.iaload, 1) := by decide +kernel
theorem dX12_count_82 : decode cX12_count 82 = .ok (.ireturn, 1) := by decide +kernel
theorem dX12_count_83 : decode cX12_count 83 = .ok (.aload_n 0, 1) := by decide +kernel
theorem dX12_count_84 : decode cX12_count 84 = .ok (.getfield 39, 3) := by decide +kernel
theorem dX12_count_87 : decode cX12_count 87 = .ok (.iconst 3, 1) := by decide +kernel
theorem dX12_count_88 : decode cX12_count 88 = .ok (.iaload, 1) := by decide +kernel
theorem dX12_count_89 : decode cX12_count 89 = .ok (.ireturn, 1) := by decide +kernel
theorem dX12_count_90 : decode cX12_count 90 = .ok (.aload_n 0, 1) := by decide +kernel
theorem dX12_count_91 : decode cX12_count 91 = .ok (.getfield 301, 3) := by decide +kernel
theorem dX12_count_94 : decode cX12_count 94 = .ok (.ireturn, 1) := by decide +kernel
theorem dX12_count_95 : decode cX12_count 95 = .ok (.aload_n 0, 1) := by decide +kernel
theorem dX12_count_96 : decode cX12_count 96 = .ok (.invokevirtual 397, 3) := by decide +kernel
theorem dX12_count_99 : decode cX12_count 99 = .ok (.ifCond .eq 13, 3) := by decide +kernel
theorem dX12_count_112 : decode cX12_count 112 = .ok (.iconst (-1), 1) := by decide +kernel
theorem dX12_count_113 : decode cX12_count 113 = .ok (.ireturn, 1) := by decide +kernel
theorem dX12_count_114 : decode cX12_count 114 = .ok (.aload_n 0, 1) := by decide +kernel
theorem dX12_count_115 : decode cX12_count 115 = .ok (.getfield 39, 3) := by decide +kernel
theorem dX12_count_118 : decode cX12_count 118 = .ok (.bipush 7, 2) := by decide +kernel
theorem dX12_count_120 : decode cX12_count 120 = .ok (.iaload, 1) := by decide +kernel
theorem dX12_count_121 : decode cX12_count 121 = .ok (.ireturn, 1) := by decide +kernel
theorem dX12_count_122 : decode cX12_count 122 = .ok (.aload_n 0, 1) := by decide +kernel
theorem dX12_count_123 : decode cX12_count 123 = .ok (.getfield 39, 3) := by decide +kernel
theorem dX12_count_126 : decode cX12_count 126 = .ok (.sipush 132, 3) := by decide +kernel
theorem dX12_count_129 : decode cX12_count 129 = .ok (.iaload, 1) := by decide +kernel
theorem dX12_count_130 : decode cX12_count 130 = .ok (.ireturn, 1) := by decide +kernel
theorem dX12_count_131 : decode cX12_count 131 = .ok (.iconst 0, 1) := by decide +kernel
theorem dX12_count_132 : decode cX12_count 132 = .ok (.istore_n 3, 1) := by decide +kernel
theorem dX12_count_133 : decode cX12_count 133 = .ok (.iload_n 3, 1) := by decide +kernel
theorem dX12_count_134 : decode cX12_count 134 = .ok (.bipush 10, 2) := by decide +kernel
theorem dX12_count_136 : decode cX12_count 136 = .ok (.if_icmp .ge 29, 3) := by decide +kernel
theorem dX12_count_139 : decode cX12_count 139 = .ok (.iload_n 2, 1) := by decide +kernel
theorem dX12_count_140 : decode cX12_count 140 = .ok (.aload_n 0, 1) := by decide +kernel
theorem dX12_count_141 : decode cX12_count 141 = .ok (.getfield 39, 3) := by decide +kernel
theorem dX12_count_144 : decode cX12_count 144 = .ok (.bipush 92, 2) := by decide +kernel
theorem dX12_count_146 : decode cX12_count 146 = .ok (.iload_n 3, 1) := by decide +kernel
theorem dX12_count_147 : decode cX12_count 147 = .ok (.iadd, 1) := by decide +kernel
theorem dX12_count_148 : decode cX12_count 148 = .ok (.iaload, 1) := by decide +kernel
theorem dX12_count_149 : decode cX12_count 149 = .ok (.ifCond .ge 7, 3) := by decide +kernel
theorem dX12_count_152 : decode cX12_count 152 = .ok (.iconst 1, 1) := by decide +kernel
theorem dX12_count_153 : decode cX12_count 153 = .ok (.goto 4, 3) := by decide +kernel
theorem dX12_count_157 : decode cX12_count 157 = .ok (.iadd, 1) := by decide +kernel
theorem dX12_count_158 : decode cX12_count 158 = .ok (.istore_n 2, 1) := by decide +kernel
theorem dX12_count_159 : decode cX12_count 159 = .ok (.iinc 3 1, 3) := by decide +kernel
theorem dX12_count_162 : decode cX12_count 162 = .ok (.goto (-29), 3) := by decide +kernel
theorem dX12_count_165 : decode cX12_count 165 = .ok (.iload_n 2, 1) := by decide +kernel
theorem dX12_count_166 : decode cX12_count 166 = .ok (.ireturn, 1) := by decide +kernel
theorem dX12_count_167 : decode cX12_count 167 = .ok (.aload_n 0, 1) := by decide +kernel
theorem dX12_count_168 : decode cX12_count 168 = .ok (.getfield 513, 3) := by decide +kernel
theorem dX12_count_171 : decode cX12_count 171 = .ok (.ireturn, 1) := by decide +kernel
theorem dX12_count_172 : decode cX12_count 172 = .ok (.aload_n 0, 1) := by decide +kernel
theorem dX12_count_173 : decode cX12_count 173 = .ok (.getfield 65, 3) := by decide +kernel
theorem dX12_count_176 : decode cX12_count 176 = .ok (.ireturn, 1) := by decide +kernel
set_option maxHeartbeats 4000000 in
set_option maxRecDepth 100000 in
theorem c_m_count (l : Launch) (D : va_G) (ad : Nat → Nat) (sz : Nat) (m0 : Nat) (mTa : Nat) (mSi : Nat) (mLe : Nat) (mCl : Nat) (mCs : Nat) (mRe : Nat) (mOp : Nat) (mSt : Nat) (mWo : Nat) (mSa : Nat) (mWa : Nat) (mFa : Nat) (mQu : Nat) (mIs : Nat) (mIm : Nat) (mIx : Nat) (mMa : Nat) (kmSa : ClassId) (a1 : Int32)  : Met l yX12_count (Cond.code yX12_count cX12_count 4 (some .int) :: TB) (RM 1 0 0) (va_Pc [.ref m0, .int a1] (PRE D ad [(m0, .inr (10, [.ref mTa, .int 0, .int 0, .ref mSi, .ref mLe, .ref mCl, .ref mCs, .ref mRe, .int 0, .int 0, .int 0, .int 0, .int 0, .int 0, .int 0, .ref mOp, .int 0, .ref mSt, .int 0, .ref mWo, .ref mSa, .int 0, .ref mWa, .int 0, .ref mFa, .ref mQu, .ref mIs, .int 0, .int 0, .long 0, .ref mIm, .ref mIx, .ref mMa])), (mSa, .inl (kmSa, 133, .inl sd0))] [(kmSa, .int)] sz)) (k2_QcV (.int (r_count a1))) 0 0 (fun _ => False) := by
  refine MET (y := yX12_count) (cc := cX12_count) (maxL := 4) (ret := (some .int)) (d := 1) (mc := 0) (ms := 0) (D := D) (ad := ad) (ws := [(m0, .inr (10, [.ref mTa, .int 0, .int 0, .ref mSi, .ref mLe, .ref mCl, .ref mCs, .ref mRe, .int 0, .int 0, .int 0, .int 0, .int 0, .int 0, .int 0, .ref mOp, .int 0, .ref mSt, .int 0, .ref mWo, .ref mSa, .int 0, .ref mWa, .int 0, .ref mFa, .ref mQu, .ref mIs, .int 0, .int 0, .long 0, .ref mIm, .ref mIx, .ref mMa])), (mSa, .inl (kmSa, 133, .inl sd0))]) (tys := [(kmSa, .int)]) (sz := sz) (av := [.ref m0, .int a1]) (Qc := fun A => k2_QcV (.int (r_count a1))) (fr := fun A => (fun _ => False)) (by decide) (Nat.le_of_ble_eq_true rfl) ?_
  intro p e s m below meth c ls A H hHe hx hb hr hml hown hts hlocks hnm hP hK hD hA hS hN hl
  have hown : s.vm.findClass "WrongHoleModel" = some m.cls := hown
  have hT : ∀ w ∈ TB, w.before ([.ref m0, .int a1] : List Value).toArray s = true := fun w h => hts w (List.mem_cons_of_mem _ h)
  have hl : lv_has ls 4 [(0, .ref m0), (1, .int a1)] := hl
  have hP : va_P D vwCl [(m0, .inr (10, [.ref mTa, .int 0, .int 0, .ref mSi, .ref mLe, .ref mCl, .ref mCs, .ref mRe, .int 0, .int 0, .int 0, .int 0, .int 0, .int 0, .int 0, .ref mOp, .int 0, .ref mSt, .int 0, .ref mWo, .ref mSa, .int 0, .ref mWa, .int 0, .ref mFa, .ref mQu, .ref mIs, .int 0, .int 0, .long 0, .ref mIm, .ref mIx, .ref mMa])), (mSa, .inl (kmSa, 133, .inl sd0))] H := hP
  refine lv_iconst (v := 0) hx hb dX12_count_0 (by decide) ?_
  refine lv_istore_n (lv' := [(2, .int 0), (0, .ref m0), (1, .int a1)]) hx hb dX12_count_1 rfl hl (by decide) rfl (fun ls hl => ?_)
  refine lv_iload_n hx hb dX12_count_2 rfl (lv_at hl 2 rfl) ?_
  by_cases c_1 : Int32.toInt a1 < 0 ∨ 11 < Int32.toInt a1
  · refine lv_tableOut (tgt := 177) hx hb dX12_count_3 c_1 (by decide) ?_
    refine lv_iconst (v := (-1)) hx hb dX12_count_177 (by decide) ?_
    exact W.iret (v := (-1)) hx hb hr (fun t9 ht9 hW9 => ⟨by rw [show (.int (r_count a1) : Value) = .int (-1) from (congrArg Value.int (by unfold r_count; rw [if_pos c_1]))], ht9.trans hHe⟩) (fun _ h9 => absurd h9 List.not_mem_nil) dX12_count_178
  · have hsw : a1 = 0 ∨ a1 = 1 ∨ a1 = 2 ∨ a1 = 3 ∨ a1 = 4 ∨ a1 = 5 ∨ a1 = 6 ∨ a1 = 7 ∨ a1 = 8 ∨ a1 = 9 ∨ a1 = 10 ∨ a1 = 11 := by
      have h9 : ∀ v : Int32, ¬ (Int32.toInt v < 0 ∨ 11 < Int32.toInt v) → v = 0 ∨ v = 1 ∨ v = 2 ∨ v = 3 ∨ v = 4 ∨ v = 5 ∨ v = 6 ∨ v = 7 ∨ v = 8 ∨ v = 9 ∨ v = 10 ∨ v = 11 := fun v hv => by
        simp only [← Int32.toInt_inj]
        have h8 : ∀ n : Int32, True := fun _ => trivial
        simp (config := { decide := true }) only [show Int32.toInt 0 = 0 from rfl, show Int32.toInt 1 = 1 from rfl, show Int32.toInt 2 = 2 from rfl, show Int32.toInt 3 = 3 from rfl, show Int32.toInt 4 = 4 from rfl, show Int32.toInt 5 = 5 from rfl, show Int32.toInt 6 = 6 from rfl, show Int32.toInt 7 = 7 from rfl, show Int32.toInt 8 = 8 from rfl, show Int32.toInt 9 = 9 from rfl, show Int32.toInt 10 = 10 from rfl, show Int32.toInt 11 = 11 from rfl]
        omega
      exact h9 _ c_1
    rcases hsw with hsw | hsw | hsw | hsw | hsw | hsw | hsw | hsw | hsw | hsw | hsw | hsw
    · subst hsw
      refine lv_tableIn (tgt := 64) hx hb dX12_count_3 (by decide) (by decide) rfl (by decide) ?_
      refine lv_aload_n hx hb dX12_count_64 rfl (lv_at hl 1 rfl) ?_
      refine va_get (D := D) (ci := 10) (v := .ref mSa) (C := "WrongHoleModel") (T := TX12) (N := 33) hx hb hts (iq_RX12 _) hown hK hP 0 rfl rfl 20 (by decide) (hT _ qq_5_172) (fun _ h9 => h9) rfl dX12_count_65 ?_
      refine lv_iload_n hx hb dX12_count_68 rfl (lv_at hl 2 rfl) ?_
      refine va_iald hx hb hK hP 1 0 rfl rfl (vi_c rfl) dX12_count_69 ?_
      refine tc_i 0 (by decide) ?_
      exact W.iret (v := 0) hx hb hr (fun t9 ht9 hW9 => ⟨by rw [show (.int (r_count 0) : Value) = .int 0 from (congrArg Value.int (by decide))], ht9.trans hHe⟩) (fun _ h9 => absurd h9 List.not_mem_nil) dX12_count_70
    · subst hsw
      refine lv_tableIn (tgt := 64) hx hb dX12_count_3 (by decide) (by decide) rfl (by decide) ?_
      refine lv_aload_n hx hb dX12_count_64 rfl (lv_at hl 1 rfl) ?_
      refine va_get (D := D) (ci := 10) (v := .ref mSa) (C := "WrongHoleModel") (T := TX12) (N := 33) hx hb hts (iq_RX12 _) hown hK hP 0 rfl rfl 20 (by decide) (hT _ qq_5_172) (fun _ h9 => h9) rfl dX12_count_65 ?_
      refine lv_iload_n hx hb dX12_count_68 rfl (lv_at hl 2 rfl) ?_
      refine va_iald hx hb hK hP 1 0 rfl rfl (vi_c rfl) dX12_count_69 ?_
      refine tc_i 0 (by decide) ?_
      exact W.iret (v := 0) hx hb hr (fun t9 ht9 hW9 => ⟨by rw [show (.int (r_count 1) : Value) = .int 0 from (congrArg Value.int (by decide))], ht9.trans hHe⟩) (fun _ h9 => absurd h9 List.not_mem_nil) dX12_count_70
    · subst hsw
      refine lv_tableIn (tgt := 71) hx hb dX12_count_3 (by decide) (by decide) rfl (by decide) ?_
      refine lv_aload_n hx hb dX12_count_71 rfl (lv_at hl 1 rfl) ?_
      refine va_get (D := D) (ci := 10) (v := .int 0) (C := "WrongHoleModel") (T := TX12) (N := 33) hx hb hts (iq_RX12 _) hown hK hP 0 rfl rfl 2 (by decide) (hT _ qq_5_154) (fun _ h9 => h9) rfl dX12_count_72 ?_
      exact W.iret (v := 0) hx hb hr (fun t9 ht9 hW9 => ⟨by rw [show (.int (r_count 2) : Value) = .int 0 from (congrArg Value.int (by decide))], ht9.trans hHe⟩) (fun _ h9 => absurd h9 List.not_mem_nil) dX12_count_75
    · subst hsw
      refine lv_tableIn (tgt := 76) hx hb dX12_count_3 (by decide) (by decide) rfl (by decide) ?_
      refine lv_aload_n hx hb dX12_count_76 rfl (lv_at hl 1 rfl) ?_
      refine va_get (D := D) (ci := 10) (v := .ref mSa) (C := "WrongHoleModel") (T := TX12) (N := 33) hx hb hts (iq_RX12 _) hown hK hP 0 rfl rfl 20 (by decide) (hT _ qq_5_172) (fun _ h9 => h9) rfl dX12_count_77 ?_
      refine lv_iconst (v := 2) hx hb dX12_count_80 (by decide) ?_
      refine va_iald hx hb hK hP 1 0 rfl rfl (vi_c rfl) dX12_count_81 ?_
      refine tc_i 0 (by decide) ?_
      exact W.iret (v := 0) hx hb hr (fun t9 ht9 hW9 => ⟨by rw [show (.int (r_count 3) : Value) = .int 0 from (congrArg Value.int (by decide))], ht9.trans hHe⟩) (fun _ h9 => absurd h9 List.not_mem_nil) dX12_count_82
    · subst hsw
      refine lv_tableIn (tgt := 83) hx hb dX12_count_3 (by decide) (by decide) rfl (by decide) ?_
      refine lv_aload_n hx hb dX12_count_83 rfl (lv_at hl 1 rfl) ?_
      refine va_get (D := D) (ci := 10) (v := .ref mSa) (C := "WrongHoleModel") (T := TX12) (N := 33) hx hb hts (iq_RX12 _) hown hK hP 0 rfl rfl 20 (by decide) (hT _ qq_5_172) (fun _ h9 => h9) rfl dX12_count_84 ?_
      refine lv_iconst (v := 3) hx hb dX12_count_87 (by decide) ?_
      refine va_iald hx hb hK hP 1 0 rfl rfl (vi_c rfl) dX12_count_88 ?_
      refine tc_i 0 (by decide) ?_
      exact W.iret (v := 0) hx hb hr (fun t9 ht9 hW9 => ⟨by rw [show (.int (r_count 4) : Value) = .int 0 from (congrArg Value.int (by decide))], ht9.trans hHe⟩) (fun _ h9 => absurd h9 List.not_mem_nil) dX12_count_89
    · subst hsw
      refine lv_tableIn (tgt := 90) hx hb dX12_count_3 (by decide) (by decide) rfl (by decide) ?_
      refine lv_aload_n hx hb dX12_count_90 rfl (lv_at hl 1 rfl) ?_
      refine va_get (D := D) (ci := 10) (v := .int 0) (C := "WrongHoleModel") (T := TX12) (N := 33) hx hb hts (iq_RX12 _) hown hK hP 0 rfl rfl 23 (by decide) (hT _ qq_5_175) (fun _ h9 => h9) rfl dX12_count_91 ?_
      exact W.iret (v := 0) hx hb hr (fun t9 ht9 hW9 => ⟨by rw [show (.int (r_count 5) : Value) = .int 0 from (congrArg Value.int (by decide))], ht9.trans hHe⟩) (fun _ h9 => absurd h9 List.not_mem_nil) dX12_count_94
    · subst hsw
      refine lv_tableIn (tgt := 95) hx hb dX12_count_3 (by decide) (by decide) rfl (by decide) ?_
      refine lv_aload_n hx hb dX12_count_95 rfl (lv_at hl 1 rfl) ?_
      have hPc := hP.sub (ws' := [(m0, .inr (10, [.ref mTa, .int 0, .int 0, .ref mSi, .ref mLe, .ref mCl, .ref mCs, .ref mRe, .int 0, .int 0, .int 0, .int 0, .int 0, .int 0, .int 0, .ref mOp, .int 0, .ref mSt, .int 0, .ref mWo, .ref mSa, .int 0, .ref mWa, .int 0, .ref mFa, .ref mQu, .ref mIs, .int 0, .int 0, .long 0, .ref mIm, .ref mIx, .ref mMa])), (mSa, .inl (kmSa, 133, .inl sd0))]) [0, 1] rfl
      have hDc := hD.sub (ws' := [(m0, .inr (10, [.ref mTa, .int 0, .int 0, .ref mSi, .ref mLe, .ref mCl, .ref mCs, .ref mRe, .int 0, .int 0, .int 0, .int 0, .int 0, .int 0, .int 0, .ref mOp, .int 0, .ref mSt, .int 0, .ref mWo, .ref mSa, .int 0, .ref mWa, .int 0, .ref mFa, .ref mQu, .ref mIs, .int 0, .int 0, .long 0, .ref mIm, .ref mIx, .ref mMa])), (mSa, .inl (kmSa, 133, .inl sd0))]) [0, 1] (by decide) rfl
      have hKc := hK.sub (tys' := [(kmSa, .int)]) [0] rfl
      refine cl_V (W.runV (As := []) (rest := []) ⟨hx, hb, hml, hown, hts⟩ (c_isLift l D ad H.size m0 mTa mSi mLe mCl mCs mRe mOp mSt mWo mSa mWa mFa mQu mIs mIm mIx mMa kmSa) ⟨callB_of 0 hts (gd_C qq_7_46) rfl rfl rfl (hT _ qq_1_9) (hT _ qq_7_43) (by decide +kernel) (rm_R rfl rfl), (hT _ qq_7_45), (hT _ qs_5_2)⟩ (pr_V hPc hKc hDc hN (ci := 10) (q0 := 0) rfl rfl) rfl rfl hl.1 rfl (lv_room (Nat.le_of_ble_eq_true rfl)) dX12_count_96 ⟨Nat.le_of_ble_eq_true rfl, Nat.le_of_ble_eq_true rfl⟩) ?_
      refine lv_if_eq (tgt := 112) hx hb dX12_count_99 (by decide) (fun _ => ?_) (fun c_2 => absurd (by decide) c_2)
      refine lv_iconst (v := (-1)) hx hb dX12_count_112 (by decide) ?_
      exact W.iret (v := (-1)) hx hb hr (fun t9 ht9 hW9 => ⟨by rw [show (.int (r_count 6) : Value) = .int (-1) from (congrArg Value.int (by decide))], ht9.trans hHe⟩) (fun _ h9 => absurd h9 List.not_mem_nil) dX12_count_113
    · subst hsw
      refine lv_tableIn (tgt := 114) hx hb dX12_count_3 (by decide) (by decide) rfl (by decide) ?_
      refine lv_aload_n hx hb dX12_count_114 rfl (lv_at hl 1 rfl) ?_
      refine va_get (D := D) (ci := 10) (v := .ref mSa) (C := "WrongHoleModel") (T := TX12) (N := 33) hx hb hts (iq_RX12 _) hown hK hP 0 rfl rfl 20 (by decide) (hT _ qq_5_172) (fun _ h9 => h9) rfl dX12_count_115 ?_
      refine lv_bipush (v := 7) hx hb dX12_count_118 (by decide) ?_
      refine va_iald hx hb hK hP 1 0 rfl rfl (vi_c rfl) dX12_count_120 ?_
      refine tc_i 0 (by decide) ?_
      exact W.iret (v := 0) hx hb hr (fun t9 ht9 hW9 => ⟨by rw [show (.int (r_count 7) : Value) = .int 0 from (congrArg Value.int (by decide))], ht9.trans hHe⟩) (fun _ h9 => absurd h9 List.not_mem_nil) dX12_count_121
    · subst hsw
      refine lv_tableIn (tgt := 122) hx hb dX12_count_3 (by decide) (by decide) rfl (by decide) ?_
      refine lv_aload_n hx hb dX12_count_122 rfl (lv_at hl 1 rfl) ?_
      refine va_get (D := D) (ci := 10) (v := .ref mSa) (C := "WrongHoleModel") (T := TX12) (N := 33) hx hb hts (iq_RX12 _) hown hK hP 0 rfl rfl 20 (by decide) (hT _ qq_5_172) (fun _ h9 => h9) rfl dX12_count_123 ?_
      refine lv_sipush (v := 132) hx hb dX12_count_126 (by decide) ?_
      refine va_iald hx hb hK hP 1 0 rfl rfl (vi_c rfl) dX12_count_129 ?_
      refine tc_i 0 (by decide) ?_
      exact W.iret (v := 0) hx hb hr (fun t9 ht9 hW9 => ⟨by rw [show (.int (r_count 8) : Value) = .int 0 from (congrArg Value.int (by decide))], ht9.trans hHe⟩) (fun _ h9 => absurd h9 List.not_mem_nil) dX12_count_130
    · subst hsw
      refine lv_tableIn (tgt := 131) hx hb dX12_count_3 (by decide) (by decide) rfl (by decide) ?_
      refine lv_iconst (v := 0) hx hb dX12_count_131 (by decide) ?_
      refine lv_istore_n (lv' := [(3, .int 0), (2, .int 0), (0, .ref m0), (1, .int 9)]) hx hb dX12_count_132 rfl hl (by decide) rfl (fun ls hl => ?_)
      refine lv_iload_n hx hb dX12_count_133 rfl (lv_at hl 0 rfl) ?_
      refine lv_bipush (v := 10) hx hb dX12_count_134 (by decide) ?_
      refine lv_icmp_ge (tgt := 165) hx hb dX12_count_136 (by decide) (fun c_3 => absurd c_3 (by decide)) (fun _ => ?_)
      refine lv_iload_n hx hb dX12_count_139 rfl (lv_at hl 1 rfl) ?_
      refine lv_aload_n hx hb dX12_count_140 rfl (lv_at hl 2 rfl) ?_
      refine va_get (D := D) (ci := 10) (v := .ref mSa) (C := "WrongHoleModel") (T := TX12) (N := 33) hx hb hts (iq_RX12 _) hown hK hP 0 rfl rfl 20 (by decide) (hT _ qq_5_172) (fun _ h9 => h9) rfl dX12_count_141 ?_
      refine lv_bipush (v := 92) hx hb dX12_count_144 (by decide) ?_
      refine lv_iload_n hx hb dX12_count_146 rfl (lv_at hl 0 rfl) ?_
      refine lv_iadd hx hb dX12_count_147 ?_
      refine tc_i 92 (by decide) ?_
      refine va_iald hx hb hK hP 1 0 rfl rfl (vi_c rfl) dX12_count_148 ?_
      refine tc_i (-1) (by decide) ?_
      refine lv_if_ge (tgt := 156) hx hb dX12_count_149 (by decide) (fun c_4 => absurd c_4 (by decide)) (fun _ => ?_)
      refine lv_iconst (v := 1) hx hb dX12_count_152 (by decide) ?_
      refine lv_goto (tgt := 157) hx hb dX12_count_153 (by decide) ?_
      refine lv_iadd hx hb dX12_count_157 ?_
      refine tc_i 1 (by decide) ?_
      refine lv_istore_n (lv' := [(2, .int 1), (3, .int 0), (0, .ref m0), (1, .int 9)]) hx hb dX12_count_158 rfl hl (by decide) rfl (fun ls hl => ?_)
      refine lv_iinc (v := 1) (lv' := [(3, .int 1), (2, .int 1), (0, .ref m0), (1, .int 9)]) hx hb dX12_count_159 hl (k := 1) rfl (by decide) (by decide) rfl (fun ls hl => ?_)
      refine lv_goto (tgt := 133) hx hb dX12_count_162 (by decide) ?_
      refine lv_iload_n hx hb dX12_count_133 rfl (lv_at hl 0 rfl) ?_
      refine lv_bipush (v := 10) hx hb dX12_count_134 (by decide) ?_
      refine lv_icmp_ge (tgt := 165) hx hb dX12_count_136 (by decide) (fun c_5 => absurd c_5 (by decide)) (fun _ => ?_)
      refine lv_iload_n hx hb dX12_count_139 rfl (lv_at hl 1 rfl) ?_
      refine lv_aload_n hx hb dX12_count_140 rfl (lv_at hl 2 rfl) ?_
      refine va_get (D := D) (ci := 10) (v := .ref mSa) (C := "WrongHoleModel") (T := TX12) (N := 33) hx hb hts (iq_RX12 _) hown hK hP 0 rfl rfl 20 (by decide) (hT _ qq_5_172) (fun _ h9 => h9) rfl dX12_count_141 ?_
      refine lv_bipush (v := 92) hx hb dX12_count_144 (by decide) ?_
      refine lv_iload_n hx hb dX12_count_146 rfl (lv_at hl 0 rfl) ?_
      refine lv_iadd hx hb dX12_count_147 ?_
      refine tc_i 93 (by decide) ?_
      refine va_iald hx hb hK hP 1 0 rfl rfl (vi_c rfl) dX12_count_148 ?_
      refine tc_i (-1) (by decide) ?_
      refine lv_if_ge (tgt := 156) hx hb dX12_count_149 (by decide) (fun c_6 => absurd c_6 (by decide)) (fun _ => ?_)
      refine lv_iconst (v := 1) hx hb dX12_count_152 (by decide) ?_
      refine lv_goto (tgt := 157) hx hb dX12_count_153 (by decide) ?_
      refine lv_iadd hx hb dX12_count_157 ?_
      refine tc_i 2 (by decide) ?_
      refine lv_istore_n (lv' := [(2, .int 2), (3, .int 1), (0, .ref m0), (1, .int 9)]) hx hb dX12_count_158 rfl hl (by decide) rfl (fun ls hl => ?_)
      refine lv_iinc (v := 2) (lv' := [(3, .int 2), (2, .int 2), (0, .ref m0), (1, .int 9)]) hx hb dX12_count_159 hl (k := 1) rfl (by decide) (by decide) rfl (fun ls hl => ?_)
      refine lv_goto (tgt := 133) hx hb dX12_count_162 (by decide) ?_
      refine lv_iload_n hx hb dX12_count_133 rfl (lv_at hl 0 rfl) ?_
      refine lv_bipush (v := 10) hx hb dX12_count_134 (by decide) ?_
      refine lv_icmp_ge (tgt := 165) hx hb dX12_count_136 (by decide) (fun c_7 => absurd c_7 (by decide)) (fun _ => ?_)
      refine lv_iload_n hx hb dX12_count_139 rfl (lv_at hl 1 rfl) ?_
      refine lv_aload_n hx hb dX12_count_140 rfl (lv_at hl 2 rfl) ?_
      refine va_get (D := D) (ci := 10) (v := .ref mSa) (C := "WrongHoleModel") (T := TX12) (N := 33) hx hb hts (iq_RX12 _) hown hK hP 0 rfl rfl 20 (by decide) (hT _ qq_5_172) (fun _ h9 => h9) rfl dX12_count_141 ?_
      refine lv_bipush (v := 92) hx hb dX12_count_144 (by decide) ?_
      refine lv_iload_n hx hb dX12_count_146 rfl (lv_at hl 0 rfl) ?_
      refine lv_iadd hx hb dX12_count_147 ?_
      refine tc_i 94 (by decide) ?_
      refine va_iald hx hb hK hP 1 0 rfl rfl (vi_c rfl) dX12_count_148 ?_
      refine tc_i (-1) (by decide) ?_
      refine lv_if_ge (tgt := 156) hx hb dX12_count_149 (by decide) (fun c_8 => absurd c_8 (by decide)) (fun _ => ?_)
      refine lv_iconst (v := 1) hx hb dX12_count_152 (by decide) ?_
      refine lv_goto (tgt := 157) hx hb dX12_count_153 (by decide) ?_
      refine lv_iadd hx hb dX12_count_157 ?_
      refine tc_i 3 (by decide) ?_
      refine lv_istore_n (lv' := [(2, .int 3), (3, .int 2), (0, .ref m0), (1, .int 9)]) hx hb dX12_count_158 rfl hl (by decide) rfl (fun ls hl => ?_)
      refine lv_iinc (v := 3) (lv' := [(3, .int 3), (2, .int 3), (0, .ref m0), (1, .int 9)]) hx hb dX12_count_159 hl (k := 1) rfl (by decide) (by decide) rfl (fun ls hl => ?_)
      refine lv_goto (tgt := 133) hx hb dX12_count_162 (by decide) ?_
      refine lv_iload_n hx hb dX12_count_133 rfl (lv_at hl 0 rfl) ?_
      refine lv_bipush (v := 10) hx hb dX12_count_134 (by decide) ?_
      refine lv_icmp_ge (tgt := 165) hx hb dX12_count_136 (by decide) (fun c_9 => absurd c_9 (by decide)) (fun _ => ?_)
      refine lv_iload_n hx hb dX12_count_139 rfl (lv_at hl 1 rfl) ?_
      refine lv_aload_n hx hb dX12_count_140 rfl (lv_at hl 2 rfl) ?_
      refine va_get (D := D) (ci := 10) (v := .ref mSa) (C := "WrongHoleModel") (T := TX12) (N := 33) hx hb hts (iq_RX12 _) hown hK hP 0 rfl rfl 20 (by decide) (hT _ qq_5_172) (fun _ h9 => h9) rfl dX12_count_141 ?_
      refine lv_bipush (v := 92) hx hb dX12_count_144 (by decide) ?_
      refine lv_iload_n hx hb dX12_count_146 rfl (lv_at hl 0 rfl) ?_
      refine lv_iadd hx hb dX12_count_147 ?_
      refine tc_i 95 (by decide) ?_
      refine va_iald hx hb hK hP 1 0 rfl rfl (vi_c rfl) dX12_count_148 ?_
      refine tc_i (-1) (by decide) ?_
      refine lv_if_ge (tgt := 156) hx hb dX12_count_149 (by decide) (fun c_10 => absurd c_10 (by decide)) (fun _ => ?_)
      refine lv_iconst (v := 1) hx hb dX12_count_152 (by decide) ?_
      refine lv_goto (tgt := 157) hx hb dX12_count_153 (by decide) ?_
      refine lv_iadd hx hb dX12_count_157 ?_
      refine tc_i 4 (by decide) ?_
      refine lv_istore_n (lv' := [(2, .int 4), (3, .int 3), (0, .ref m0), (1, .int 9)]) hx hb dX12_count_158 rfl hl (by decide) rfl (fun ls hl => ?_)
      refine lv_iinc (v := 4) (lv' := [(3, .int 4), (2, .int 4), (0, .ref m0), (1, .int 9)]) hx hb dX12_count_159 hl (k := 1) rfl (by decide) (by decide) rfl (fun ls hl => ?_)
      refine lv_goto (tgt := 133) hx hb dX12_count_162 (by decide) ?_
      refine lv_iload_n hx hb dX12_count_133 rfl (lv_at hl 0 rfl) ?_
      refine lv_bipush (v := 10) hx hb dX12_count_134 (by decide) ?_
      refine lv_icmp_ge (tgt := 165) hx hb dX12_count_136 (by decide) (fun c_11 => absurd c_11 (by decide)) (fun _ => ?_)
      refine lv_iload_n hx hb dX12_count_139 rfl (lv_at hl 1 rfl) ?_
      refine lv_aload_n hx hb dX12_count_140 rfl (lv_at hl 2 rfl) ?_
      refine va_get (D := D) (ci := 10) (v := .ref mSa) (C := "WrongHoleModel") (T := TX12) (N := 33) hx hb hts (iq_RX12 _) hown hK hP 0 rfl rfl 20 (by decide) (hT _ qq_5_172) (fun _ h9 => h9) rfl dX12_count_141 ?_
      refine lv_bipush (v := 92) hx hb dX12_count_144 (by decide) ?_
      refine lv_iload_n hx hb dX12_count_146 rfl (lv_at hl 0 rfl) ?_
      refine lv_iadd hx hb dX12_count_147 ?_
      refine tc_i 96 (by decide) ?_
      refine va_iald hx hb hK hP 1 0 rfl rfl (vi_c rfl) dX12_count_148 ?_
      refine tc_i (-1) (by decide) ?_
      refine lv_if_ge (tgt := 156) hx hb dX12_count_149 (by decide) (fun c_12 => absurd c_12 (by decide)) (fun _ => ?_)
      refine lv_iconst (v := 1) hx hb dX12_count_152 (by decide) ?_
      refine lv_goto (tgt := 157) hx hb dX12_count_153 (by decide) ?_
      refine lv_iadd hx hb dX12_count_157 ?_
      refine tc_i 5 (by decide) ?_
      refine lv_istore_n (lv' := [(2, .int 5), (3, .int 4), (0, .ref m0), (1, .int 9)]) hx hb dX12_count_158 rfl hl (by decide) rfl (fun ls hl => ?_)
      refine lv_iinc (v := 5) (lv' := [(3, .int 5), (2, .int 5), (0, .ref m0), (1, .int 9)]) hx hb dX12_count_159 hl (k := 1) rfl (by decide) (by decide) rfl (fun ls hl => ?_)
      refine lv_goto (tgt := 133) hx hb dX12_count_162 (by decide) ?_
      refine lv_iload_n hx hb dX12_count_133 rfl (lv_at hl 0 rfl) ?_
      refine lv_bipush (v := 10) hx hb dX12_count_134 (by decide) ?_
      refine lv_icmp_ge (tgt := 165) hx hb dX12_count_136 (by decide) (fun c_13 => absurd c_13 (by decide)) (fun _ => ?_)
      refine lv_iload_n hx hb dX12_count_139 rfl (lv_at hl 1 rfl) ?_
      refine lv_aload_n hx hb dX12_count_140 rfl (lv_at hl 2 rfl) ?_
      refine va_get (D := D) (ci := 10) (v := .ref mSa) (C := "WrongHoleModel") (T := TX12) (N := 33) hx hb hts (iq_RX12 _) hown hK hP 0 rfl rfl 20 (by decide) (hT _ qq_5_172) (fun _ h9 => h9) rfl dX12_count_141 ?_
      refine lv_bipush (v := 92) hx hb dX12_count_144 (by decide) ?_
      refine lv_iload_n hx hb dX12_count_146 rfl (lv_at hl 0 rfl) ?_
      refine lv_iadd hx hb dX12_count_147 ?_
      refine tc_i 97 (by decide) ?_
      refine va_iald hx hb hK hP 1 0 rfl rfl (vi_c rfl) dX12_count_148 ?_
      refine tc_i (-1) (by decide) ?_
      refine lv_if_ge (tgt := 156) hx hb dX12_count_149 (by decide) (fun c_14 => absurd c_14 (by decide)) (fun _ => ?_)
      refine lv_iconst (v := 1) hx hb dX12_count_152 (by decide) ?_
      refine lv_goto (tgt := 157) hx hb dX12_count_153 (by decide) ?_
      refine lv_iadd hx hb dX12_count_157 ?_
      refine tc_i 6 (by decide) ?_
      refine lv_istore_n (lv' := [(2, .int 6), (3, .int 5), (0, .ref m0), (1, .int 9)]) hx hb dX12_count_158 rfl hl (by decide) rfl (fun ls hl => ?_)
      refine lv_iinc (v := 6) (lv' := [(3, .int 6), (2, .int 6), (0, .ref m0), (1, .int 9)]) hx hb dX12_count_159 hl (k := 1) rfl (by decide) (by decide) rfl (fun ls hl => ?_)
      refine lv_goto (tgt := 133) hx hb dX12_count_162 (by decide) ?_
      refine lv_iload_n hx hb dX12_count_133 rfl (lv_at hl 0 rfl) ?_
      refine lv_bipush (v := 10) hx hb dX12_count_134 (by decide) ?_
      refine lv_icmp_ge (tgt := 165) hx hb dX12_count_136 (by decide) (fun c_15 => absurd c_15 (by decide)) (fun _ => ?_)
      refine lv_iload_n hx hb dX12_count_139 rfl (lv_at hl 1 rfl) ?_
      refine lv_aload_n hx hb dX12_count_140 rfl (lv_at hl 2 rfl) ?_
      refine va_get (D := D) (ci := 10) (v := .ref mSa) (C := "WrongHoleModel") (T := TX12) (N := 33) hx hb hts (iq_RX12 _) hown hK hP 0 rfl rfl 20 (by decide) (hT _ qq_5_172) (fun _ h9 => h9) rfl dX12_count_141 ?_
      refine lv_bipush (v := 92) hx hb dX12_count_144 (by decide) ?_
      refine lv_iload_n hx hb dX12_count_146 rfl (lv_at hl 0 rfl) ?_
      refine lv_iadd hx hb dX12_count_147 ?_
      refine tc_i 98 (by decide) ?_
      refine va_iald hx hb hK hP 1 0 rfl rfl (vi_c rfl) dX12_count_148 ?_
      refine tc_i (-1) (by decide) ?_
      refine lv_if_ge (tgt := 156) hx hb dX12_count_149 (by decide) (fun c_16 => absurd c_16 (by decide)) (fun _ => ?_)
      refine lv_iconst (v := 1) hx hb dX12_count_152 (by decide) ?_
      refine lv_goto (tgt := 157) hx hb dX12_count_153 (by decide) ?_
      refine lv_iadd hx hb dX12_count_157 ?_
      refine tc_i 7 (by decide) ?_
      refine lv_istore_n (lv' := [(2, .int 7), (3, .int 6), (0, .ref m0), (1, .int 9)]) hx hb dX12_count_158 rfl hl (by decide) rfl (fun ls hl => ?_)
      refine lv_iinc (v := 7) (lv' := [(3, .int 7), (2, .int 7), (0, .ref m0), (1, .int 9)]) hx hb dX12_count_159 hl (k := 1) rfl (by decide) (by decide) rfl (fun ls hl => ?_)
      refine lv_goto (tgt := 133) hx hb dX12_count_162 (by decide) ?_
      refine lv_iload_n hx hb dX12_count_133 rfl (lv_at hl 0 rfl) ?_
      refine lv_bipush (v := 10) hx hb dX12_count_134 (by decide) ?_
      refine lv_icmp_ge (tgt := 165) hx hb dX12_count_136 (by decide) (fun c_17 => absurd c_17 (by decide)) (fun _ => ?_)
      refine lv_iload_n hx hb dX12_count_139 rfl (lv_at hl 1 rfl) ?_
      refine lv_aload_n hx hb dX12_count_140 rfl (lv_at hl 2 rfl) ?_
      refine va_get (D := D) (ci := 10) (v := .ref mSa) (C := "WrongHoleModel") (T := TX12) (N := 33) hx hb hts (iq_RX12 _) hown hK hP 0 rfl rfl 20 (by decide) (hT _ qq_5_172) (fun _ h9 => h9) rfl dX12_count_141 ?_
      refine lv_bipush (v := 92) hx hb dX12_count_144 (by decide) ?_
      refine lv_iload_n hx hb dX12_count_146 rfl (lv_at hl 0 rfl) ?_
      refine lv_iadd hx hb dX12_count_147 ?_
      refine tc_i 99 (by decide) ?_
      refine va_iald hx hb hK hP 1 0 rfl rfl (vi_c rfl) dX12_count_148 ?_
      refine tc_i (-1) (by decide) ?_
      refine lv_if_ge (tgt := 156) hx hb dX12_count_149 (by decide) (fun c_18 => absurd c_18 (by decide)) (fun _ => ?_)
      refine lv_iconst (v := 1) hx hb dX12_count_152 (by decide) ?_
      refine lv_goto (tgt := 157) hx hb dX12_count_153 (by decide) ?_
      refine lv_iadd hx hb dX12_count_157 ?_
      refine tc_i 8 (by decide) ?_
      refine lv_istore_n (lv' := [(2, .int 8), (3, .int 7), (0, .ref m0), (1, .int 9)]) hx hb dX12_count_158 rfl hl (by decide) rfl (fun ls hl => ?_)
      refine lv_iinc (v := 8) (lv' := [(3, .int 8), (2, .int 8), (0, .ref m0), (1, .int 9)]) hx hb dX12_count_159 hl (k := 1) rfl (by decide) (by decide) rfl (fun ls hl => ?_)
      refine lv_goto (tgt := 133) hx hb dX12_count_162 (by decide) ?_
      refine lv_iload_n hx hb dX12_count_133 rfl (lv_at hl 0 rfl) ?_
      refine lv_bipush (v := 10) hx hb dX12_count_134 (by decide) ?_
      refine lv_icmp_ge (tgt := 165) hx hb dX12_count_136 (by decide) (fun c_19 => absurd c_19 (by decide)) (fun _ => ?_)
      refine lv_iload_n hx hb dX12_count_139 rfl (lv_at hl 1 rfl) ?_
      refine lv_aload_n hx hb dX12_count_140 rfl (lv_at hl 2 rfl) ?_
      refine va_get (D := D) (ci := 10) (v := .ref mSa) (C := "WrongHoleModel") (T := TX12) (N := 33) hx hb hts (iq_RX12 _) hown hK hP 0 rfl rfl 20 (by decide) (hT _ qq_5_172) (fun _ h9 => h9) rfl dX12_count_141 ?_
      refine lv_bipush (v := 92) hx hb dX12_count_144 (by decide) ?_
      refine lv_iload_n hx hb dX12_count_146 rfl (lv_at hl 0 rfl) ?_
      refine lv_iadd hx hb dX12_count_147 ?_
      refine tc_i 100 (by decide) ?_
      refine va_iald hx hb hK hP 1 0 rfl rfl (vi_c rfl) dX12_count_148 ?_
      refine tc_i (-1) (by decide) ?_
      refine lv_if_ge (tgt := 156) hx hb dX12_count_149 (by decide) (fun c_20 => absurd c_20 (by decide)) (fun _ => ?_)
      refine lv_iconst (v := 1) hx hb dX12_count_152 (by decide) ?_
      refine lv_goto (tgt := 157) hx hb dX12_count_153 (by decide) ?_
      refine lv_iadd hx hb dX12_count_157 ?_
      refine tc_i 9 (by decide) ?_
      refine lv_istore_n (lv' := [(2, .int 9), (3, .int 8), (0, .ref m0), (1, .int 9)]) hx hb dX12_count_158 rfl hl (by decide) rfl (fun ls hl => ?_)
      refine lv_iinc (v := 9) (lv' := [(3, .int 9), (2, .int 9), (0, .ref m0), (1, .int 9)]) hx hb dX12_count_159 hl (k := 1) rfl (by decide) (by decide) rfl (fun ls hl => ?_)
      refine lv_goto (tgt := 133) hx hb dX12_count_162 (by decide) ?_
      refine lv_iload_n hx hb dX12_count_133 rfl (lv_at hl 0 rfl) ?_
      refine lv_bipush (v := 10) hx hb dX12_count_134 (by decide) ?_
      refine lv_icmp_ge (tgt := 165) hx hb dX12_count_136 (by decide) (fun c_21 => absurd c_21 (by decide)) (fun _ => ?_)
      refine lv_iload_n hx hb dX12_count_139 rfl (lv_at hl 1 rfl) ?_
      refine lv_aload_n hx hb dX12_count_140 rfl (lv_at hl 2 rfl) ?_
      refine va_get (D := D) (ci := 10) (v := .ref mSa) (C := "WrongHoleModel") (T := TX12) (N := 33) hx hb hts (iq_RX12 _) hown hK hP 0 rfl rfl 20 (by decide) (hT _ qq_5_172) (fun _ h9 => h9) rfl dX12_count_141 ?_
      refine lv_bipush (v := 92) hx hb dX12_count_144 (by decide) ?_
      refine lv_iload_n hx hb dX12_count_146 rfl (lv_at hl 0 rfl) ?_
      refine lv_iadd hx hb dX12_count_147 ?_
      refine tc_i 101 (by decide) ?_
      refine va_iald hx hb hK hP 1 0 rfl rfl (vi_c rfl) dX12_count_148 ?_
      refine tc_i (-1) (by decide) ?_
      refine lv_if_ge (tgt := 156) hx hb dX12_count_149 (by decide) (fun c_22 => absurd c_22 (by decide)) (fun _ => ?_)
      refine lv_iconst (v := 1) hx hb dX12_count_152 (by decide) ?_
      refine lv_goto (tgt := 157) hx hb dX12_count_153 (by decide) ?_
      refine lv_iadd hx hb dX12_count_157 ?_
      refine tc_i 10 (by decide) ?_
      refine lv_istore_n (lv' := [(2, .int 10), (3, .int 9), (0, .ref m0), (1, .int 9)]) hx hb dX12_count_158 rfl hl (by decide) rfl (fun ls hl => ?_)
      refine lv_iinc (v := 10) (lv' := [(3, .int 10), (2, .int 10), (0, .ref m0), (1, .int 9)]) hx hb dX12_count_159 hl (k := 1) rfl (by decide) (by decide) rfl (fun ls hl => ?_)
      refine lv_goto (tgt := 133) hx hb dX12_count_162 (by decide) ?_
      refine lv_iload_n hx hb dX12_count_133 rfl (lv_at hl 0 rfl) ?_
      refine lv_bipush (v := 10) hx hb dX12_count_134 (by decide) ?_
      refine lv_icmp_ge (tgt := 165) hx hb dX12_count_136 (by decide) (fun _ => ?_) (fun c_23 => absurd (by decide) c_23)
      refine lv_iload_n hx hb dX12_count_165 rfl (lv_at hl 1 rfl) ?_
      exact W.iret (v := 10) hx hb hr (fun t9 ht9 hW9 => ⟨by rw [show (.int (r_count 9) : Value) = .int 10 from (congrArg Value.int (by decide))], ht9.trans hHe⟩) (fun _ h9 => absurd h9 List.not_mem_nil) dX12_count_166
    · subst hsw
      refine lv_tableIn (tgt := 167) hx hb dX12_count_3 (by decide) (by decide) rfl (by decide) ?_
      refine lv_aload_n hx hb dX12_count_167 rfl (lv_at hl 1 rfl) ?_
      refine va_get (D := D) (ci := 10) (v := .int 0) (C := "WrongHoleModel") (T := TX12) (N := 33) hx hb hts (iq_RX12 _) hown hK hP 0 rfl rfl 21 (by decide) (hT _ qq_5_173) (fun _ h9 => h9) rfl dX12_count_168 ?_
      exact W.iret (v := 0) hx hb hr (fun t9 ht9 hW9 => ⟨by rw [show (.int (r_count 10) : Value) = .int 0 from (congrArg Value.int (by decide))], ht9.trans hHe⟩) (fun _ h9 => absurd h9 List.not_mem_nil) dX12_count_171
    · subst hsw
      refine lv_tableIn (tgt := 172) hx hb dX12_count_3 (by decide) (by decide) rfl (by decide) ?_
      refine lv_aload_n hx hb dX12_count_172 rfl (lv_at hl 1 rfl) ?_
      refine va_get (D := D) (ci := 10) (v := .int 0) (C := "WrongHoleModel") (T := TX12) (N := 33) hx hb hts (iq_RX12 _) hown hK hP 0 rfl rfl 1 (by decide) (hT _ qq_5_153) (fun _ h9 => h9) rfl dX12_count_173 ?_
      exact W.iret (v := 0) hx hb hr (fun t9 ht9 hW9 => ⟨by rw [show (.int (r_count 11) : Value) = .int 0 from (congrArg Value.int (by decide))], ht9.trans hHe⟩) (fun _ h9 => absurd h9 List.not_mem_nil) dX12_count_176
theorem dX12_image_0 : decode cX12_image 0 = .ok (.iload_n 1, 1) := by decide +kernel
theorem dX12_image_1 : decode cX12_image 1 = .ok (.i2l, 1) := by decide +kernel
theorem dX12_image_2 : decode cX12_image 2 = .ok (.lconst 0, 1) := by decide +kernel
theorem dX12_image_3 : decode cX12_image 3 = .ok (.ldc2_w 533, 3) := by decide +kernel
theorem qq_8_99 : Cond.constantLong "WrongHoleModel" 533 3 ∈ TB := mk_tb (ti_8 (List.mem_of_getElem? (i := 99) rfl)) rfl
theorem dX12_image_6 : decode cX12_image 6 = .ok (.invokestatic 104, 3) := by decide +kernel
theorem dX12_image_9 : decode cX12_image 9 = .ok (.ifCond .ne 5, 3) := by decide +kernel
theorem dX12_image_14 : decode cX12_image 14 = .ok (.aload_n 0, 1) := by decide +kernel
theorem dX12_image_15 : decode cX12_image 15 = .ok (.getfield 62, 3) := by decide +kernel
theorem qq_5_184 : Cond.fieldLink "WrongHoleModel" 62 "WrongHoleModel" "isMade" "[Z" ∈ TB := mk_tb (ti_5 (List.mem_of_getElem? (i := 184) rfl)) rfl
theorem dX12_image_18 : decode cX12_image 18 = .ok (.iload_n 1, 1) := by decide +kernel
theorem dX12_image_19 : decode cX12_image 19 = .ok (.iconst 1, 1) := by decide +kernel
theorem dX12_image_20 : decode cX12_image 20 = .ok (.bastore, 1) := by decide +kernel
theorem dX12_image_21 : decode cX12_image 21 = .ok (.aload_n 0, 1) := by decide +kernel
theorem dX12_image_22 : decode cX12_image 22 = .ok (.getfield 59, 3) := by decide +kernel
theorem qq_5_183 : Cond.fieldLink "WrongHoleModel" 59 "WrongHoleModel" "imageX" "[I" ∈ TB := mk_tb (ti_5 (List.mem_of_getElem? (i := 183) rfl)) rfl
theorem dX12_image_25 : decode cX12_image 25 = .ok (.iload_n 1, 1) := by decide +kernel
theorem dX12_image_26 : decode cX12_image 26 = .ok (.aload_n 0, 1) := by decide +kernel
theorem dX12_image_27 : decode cX12_image 27 = .ok (.getfield 513, 3) := by decide +kernel
theorem dX12_image_30 : decode cX12_image 30 = .ok (.iastore, 1) := by decide +kernel
theorem dX12_image_31 : decode cX12_image 31 = .ok (.iconst 0, 1) := by decide +kernel
theorem dX12_image_32 : decode cX12_image 32 = .ok (.istore_n 2, 1) := by decide +kernel
theorem dX12_image_33 : decode cX12_image 33 = .ok (.iload_n 2, 1) := by decide +kernel
theorem dX12_image_34 : decode cX12_image 34 = .ok (.sipush 133, 3) := by decide +kernel
theorem dX12_image_37 : decode cX12_image 37 = .ok (.if_icmp .ge 27, 3) := by decide +kernel
theorem dX12_image_64 : decode cX12_image 64 = .ok (.aload_n 0, 1) := by decide +kernel
theorem dX12_image_65 : decode cX12_image 65 = .ok (.getfield 39, 3) := by decide +kernel
theorem dX12_image_68 : decode cX12_image 68 = .ok (.iconst 3, 1) := by decide +kernel
theorem dX12_image_69 : decode cX12_image 69 = .ok (.iaload, 1) := by decide +kernel
theorem dX12_image_70 : decode cX12_image 70 = .ok (.ireturn, 1) := by decide +kernel
theorem dX12_image_40 : decode cX12_image 40 = .ok (.aload_n 0, 1) := by decide +kernel
theorem dX12_image_41 : decode cX12_image 41 = .ok (.getfield 56, 3) := by decide +kernel
theorem qq_5_182 : Cond.fieldLink "WrongHoleModel" 56 "WrongHoleModel" "images" "[I" ∈ TB := mk_tb (ti_5 (List.mem_of_getElem? (i := 182) rfl)) rfl
theorem dX12_image_44 : decode cX12_image 44 = .ok (.sipush 133, 3) := by decide +kernel
theorem dX12_image_47 : decode cX12_image 47 = .ok (.iload_n 1, 1) := by decide +kernel
theorem dX12_image_48 : decode cX12_image 48 = .ok (.imul, 1) := by decide +kernel
theorem dX12_image_49 : decode cX12_image 49 = .ok (.iload_n 2, 1) := by decide +kernel
theorem dX12_image_50 : decode cX12_image 50 = .ok (.iadd, 1) := by decide +kernel
theorem dX12_image_51 : decode cX12_image 51 = .ok (.aload_n 0, 1) := by decide +kernel
theorem dX12_image_52 : decode cX12_image 52 = .ok (.getfield 39, 3) := by decide +kernel
theorem dX12_image_55 : decode cX12_image 55 = .ok (.iload_n 2, 1) := by decide +kernel
theorem dX12_image_56 : decode cX12_image 56 = .ok (.iaload, 1) := by decide +kernel
theorem dX12_image_57 : decode cX12_image 57 = .ok (.iastore, 1) := by decide +kernel
theorem dX12_image_58 : decode cX12_image 58 = .ok (.iinc 2 1, 3) := by decide +kernel
theorem dX12_image_61 : decode cX12_image 61 = .ok (.goto (-28), 3) := by decide +kernel
theorem dX12_image_12 : decode cX12_image 12 = .ok (.iconst (-1), 1) := by decide +kernel
theorem dX12_image_13 : decode cX12_image 13 = .ok (.ireturn, 1) := by decide +kernel
set_option maxHeartbeats 4000000 in
set_option maxRecDepth 100000 in
theorem c_m_image (l : Launch) (D : va_G) (ad : Nat → Nat) (sz : Nat) (m0 : Nat) (mTa : Nat) (mSi : Nat) (mLe : Nat) (mCl : Nat) (mCs : Nat) (mRe : Nat) (mOp : Nat) (mSt : Nat) (mWo : Nat) (mSa : Nat) (mWa : Nat) (mFa : Nat) (mQu : Nat) (mIs : Nat) (mIm : Nat) (mIx : Nat) (mMa : Nat) (kmSa : ClassId) (kmIm : ClassId) (kmIx : ClassId) (kmMa : ClassId) (f : Nat → Int32) (f2 : Nat → Int32) (f3 : Nat → Int32) (a1 : Int32)  : Met l yX12_image (Cond.code yX12_image cX12_image 3 (some .int) :: TB) (RM 1 0 0) (va_Pc [.ref m0, .int a1] (PRE D ad [(m0, .inr (10, [.ref mTa, .int 0, .int 0, .ref mSi, .ref mLe, .ref mCl, .ref mCs, .ref mRe, .int 0, .int 0, .int 0, .int 0, .int 0, .int 0, .int 0, .ref mOp, .int 0, .ref mSt, .int 0, .ref mWo, .ref mSa, .int 0, .ref mWa, .int 0, .ref mFa, .ref mQu, .ref mIs, .int 0, .int 0, .long 0, .ref mIm, .ref mIx, .ref mMa])), (mSa, .inl (kmSa, 133, .inl sd0)), (mIm, .inl (kmIm, 532, .inl f)), (mIx, .inl (kmIx, 4, .inl f2)), (mMa, .inl (kmMa, 4, .inl f3))] [(kmSa, .int), (kmIm, .int), (kmIx, .int), (kmMa, .boolean)] sz)) (va_Qi (S := Unit) (fun r _ => r = (r_image a1)) (fun _ t => True) (va_A [(m0, .inr (10, [.ref mTa, .int 0, .int 0, .ref mSi, .ref mLe, .ref mCl, .ref mCs, .ref mRe, .int 0, .int 0, .int 0, .int 0, .int 0, .int 0, .int 0, .ref mOp, .int 0, .ref mSt, .int 0, .ref mWo, .ref mSa, .int 0, .ref mWa, .int 0, .ref mFa, .ref mQu, .ref mIs, .int 0, .int 0, .long 0, .ref mIm, .ref mIx, .ref mMa])), (mSa, .inl (kmSa, 133, .inl sd0)), (mIm, .inl (kmIm, 532, .inl f)), (mIx, .inl (kmIx, 4, .inl f2)), (mMa, .inl (kmMa, 4, .inl f3))] sz)) 0 0 (va_A [(m0, .inr (10, [.ref mTa, .int 0, .int 0, .ref mSi, .ref mLe, .ref mCl, .ref mCs, .ref mRe, .int 0, .int 0, .int 0, .int 0, .int 0, .int 0, .int 0, .ref mOp, .int 0, .ref mSt, .int 0, .ref mWo, .ref mSa, .int 0, .ref mWa, .int 0, .ref mFa, .ref mQu, .ref mIs, .int 0, .int 0, .long 0, .ref mIm, .ref mIx, .ref mMa])), (mSa, .inl (kmSa, 133, .inl sd0)), (mIm, .inl (kmIm, 532, .inl f)), (mIx, .inl (kmIx, 4, .inl f2)), (mMa, .inl (kmMa, 4, .inl f3))] sz) := by
  refine MET (y := yX12_image) (cc := cX12_image) (maxL := 3) (ret := (some .int)) (d := 1) (mc := 0) (ms := 0) (D := D) (ad := ad) (ws := [(m0, .inr (10, [.ref mTa, .int 0, .int 0, .ref mSi, .ref mLe, .ref mCl, .ref mCs, .ref mRe, .int 0, .int 0, .int 0, .int 0, .int 0, .int 0, .int 0, .ref mOp, .int 0, .ref mSt, .int 0, .ref mWo, .ref mSa, .int 0, .ref mWa, .int 0, .ref mFa, .ref mQu, .ref mIs, .int 0, .int 0, .long 0, .ref mIm, .ref mIx, .ref mMa])), (mSa, .inl (kmSa, 133, .inl sd0)), (mIm, .inl (kmIm, 532, .inl f)), (mIx, .inl (kmIx, 4, .inl f2)), (mMa, .inl (kmMa, 4, .inl f3))]) (tys := [(kmSa, .int), (kmIm, .int), (kmIx, .int), (kmMa, .boolean)]) (sz := sz) (av := [.ref m0, .int a1]) (Qc := fun A => va_Qi (S := Unit) (fun r _ => r = (r_image a1)) (fun _ t => True) A) (fr := fun A => A) (by decide) (Nat.le_of_ble_eq_true rfl) ?_
  intro p e s m below meth c ls A H hHe hx hb hr hml hown hts hlocks hnm hP hK hD hA hS hN hl
  have hown : s.vm.findClass "WrongHoleModel" = some m.cls := hown
  have hT : ∀ w ∈ TB, w.before ([.ref m0, .int a1] : List Value).toArray s = true := fun w h => hts w (List.mem_cons_of_mem _ h)
  have hl : lv_has ls 3 [(0, .ref m0), (1, .int a1)] := hl
  have hP : va_P D vwCl [(m0, .inr (10, [.ref mTa, .int 0, .int 0, .ref mSi, .ref mLe, .ref mCl, .ref mCs, .ref mRe, .int 0, .int 0, .int 0, .int 0, .int 0, .int 0, .int 0, .ref mOp, .int 0, .ref mSt, .int 0, .ref mWo, .ref mSa, .int 0, .ref mWa, .int 0, .ref mFa, .ref mQu, .ref mIs, .int 0, .int 0, .long 0, .ref mIm, .ref mIx, .ref mMa])), (mSa, .inl (kmSa, 133, .inl sd0)), (mIm, .inl (kmIm, 532, .inl f)), (mIx, .inl (kmIx, 4, .inl f2)), (mMa, .inl (kmMa, 4, .inl f3))] H := hP
  refine lv_iload_n hx hb dX12_image_0 rfl (lv_at hl 1 rfl) ?_
  refine lv_i2l (v := a1.toInt64) hx hb dX12_image_1 rfl ?_
  refine lv_lconst (v := 0) hx hb dX12_image_2 (by decide) ?_
  refine lv_ldc2 (v := 3) hx hb hown (hT _ qq_8_99) dX12_image_3 ?_
  have hPc := hP.sub (ws' := []) [] rfl
  have hDc := hD.sub (ws' := []) [] (by decide) rfl
  have hKc := hK.sub (tys' := []) [] rfl
  refine cl_V (W.runS (As := [.long a1.toInt64, .long 0, .long 3]) (rest := []) ⟨hx, hb, hml, hown, hts⟩ (c_in_0_3 l D ad H.size a1) ⟨callB_of 3 hts (gd_C qq_6_97) rfl rfl rfl (hT _ qq_1_9) (hT _ qq_6_95) (by decide +kernel) (rm_R rfl rfl), (hT _ qq_6_96)⟩ (pr_S hPc hKc hDc hN) rfl rfl hl.1 rfl (lv_room (Nat.le_of_ble_eq_true rfl)) dX12_image_6 ⟨Nat.le_of_ble_eq_true rfl, Nat.le_of_ble_eq_true rfl⟩) ?_
  refine lv_if_ne (tgt := 14) hx hb dX12_image_9 (by decide) (fun c_1 => ?_) (fun c_1 => ?_)
  · refine lv_aload_n hx hb dX12_image_14 rfl (lv_at hl 0 rfl) ?_
    refine va_get (D := D) (ci := 10) (v := .ref mMa) (C := "WrongHoleModel") (T := TX12) (N := 33) hx hb hts (iq_RX12 _) hown hK hP 0 rfl rfl 32 (by decide) (hT _ qq_5_184) (fun _ h9 => h9) rfl dX12_image_15 ?_
    refine lv_iload_n hx hb dX12_image_18 rfl (lv_at hl 1 rfl) ?_
    refine lv_iconst (v := 1) hx hb dX12_image_19 (by decide) ?_
    refine va_zast hx hb hK hP hD hS 4 3 rfl rfl (vi_r rfl (rng_1 c_1)) dX12_image_20 (fun H locs hP hD hS => ?_)
    have hP : va_P D vwCl [(m0, .inr (10, [.ref mTa, .int 0, .int 0, .ref mSi, .ref mLe, .ref mCl, .ref mCs, .ref mRe, .int 0, .int 0, .int 0, .int 0, .int 0, .int 0, .int 0, .ref mOp, .int 0, .ref mSt, .int 0, .ref mWo, .ref mSa, .int 0, .ref mWa, .int 0, .ref mFa, .ref mQu, .ref mIs, .int 0, .int 0, .long 0, .ref mIm, .ref mIx, .ref mMa])), (mSa, .inl (kmSa, 133, .inl sd0)), (mIm, .inl (kmIm, 532, .inl f)), (mIx, .inl (kmIx, 4, .inl f2)), (mMa, .inl (kmMa, 4, .inl (upd f3 (Int32.toNatClampNeg a1) (vp_nar .boolean 1))))] H := hP
    have hD : va_D A [(m0, .inr (10, [.ref mTa, .int 0, .int 0, .ref mSi, .ref mLe, .ref mCl, .ref mCs, .ref mRe, .int 0, .int 0, .int 0, .int 0, .int 0, .int 0, .int 0, .ref mOp, .int 0, .ref mSt, .int 0, .ref mWo, .ref mSa, .int 0, .ref mWa, .int 0, .ref mFa, .ref mQu, .ref mIs, .int 0, .int 0, .long 0, .ref mIm, .ref mIx, .ref mMa])), (mSa, .inl (kmSa, 133, .inl sd0)), (mIm, .inl (kmIm, 532, .inl f)), (mIx, .inl (kmIx, 4, .inl f2)), (mMa, .inl (kmMa, 4, .inl (upd f3 (Int32.toNatClampNeg a1) (vp_nar .boolean 1))))] := hD
    generalize upd f3 (Int32.toNatClampNeg a1) (vp_nar .boolean 1) = g_2 at hP hD
    refine lv_aload_n hx hb dX12_image_21 rfl (lv_at hl 0 rfl) ?_
    refine va_get (D := D) (ci := 10) (v := .ref mIx) (C := "WrongHoleModel") (T := TX12) (N := 33) hx hb hts (iq_RX12 _) hown hK hP 0 rfl rfl 31 (by decide) (hT _ qq_5_183) (fun _ h9 => h9) rfl dX12_image_22 ?_
    refine lv_iload_n hx hb dX12_image_25 rfl (lv_at hl 1 rfl) ?_
    refine lv_aload_n hx hb dX12_image_26 rfl (lv_at hl 0 rfl) ?_
    refine va_get (D := D) (ci := 10) (v := .int 0) (C := "WrongHoleModel") (T := TX12) (N := 33) hx hb hts (iq_RX12 _) hown hK hP 0 rfl rfl 21 (by decide) (hT _ qq_5_173) (fun _ h9 => h9) rfl dX12_image_27 ?_
    refine va_iast hx hb hK hP hD hS 3 2 rfl rfl (vi_r rfl (rng_1 c_1)) dX12_image_30 (fun H locs hP hD hS => ?_)
    have hP : va_P D vwCl [(m0, .inr (10, [.ref mTa, .int 0, .int 0, .ref mSi, .ref mLe, .ref mCl, .ref mCs, .ref mRe, .int 0, .int 0, .int 0, .int 0, .int 0, .int 0, .int 0, .ref mOp, .int 0, .ref mSt, .int 0, .ref mWo, .ref mSa, .int 0, .ref mWa, .int 0, .ref mFa, .ref mQu, .ref mIs, .int 0, .int 0, .long 0, .ref mIm, .ref mIx, .ref mMa])), (mSa, .inl (kmSa, 133, .inl sd0)), (mIm, .inl (kmIm, 532, .inl f)), (mIx, .inl (kmIx, 4, .inl (upd f2 (Int32.toNatClampNeg a1) 0))), (mMa, .inl (kmMa, 4, .inl g_2))] H := hP
    have hD : va_D A [(m0, .inr (10, [.ref mTa, .int 0, .int 0, .ref mSi, .ref mLe, .ref mCl, .ref mCs, .ref mRe, .int 0, .int 0, .int 0, .int 0, .int 0, .int 0, .int 0, .ref mOp, .int 0, .ref mSt, .int 0, .ref mWo, .ref mSa, .int 0, .ref mWa, .int 0, .ref mFa, .ref mQu, .ref mIs, .int 0, .int 0, .long 0, .ref mIm, .ref mIx, .ref mMa])), (mSa, .inl (kmSa, 133, .inl sd0)), (mIm, .inl (kmIm, 532, .inl f)), (mIx, .inl (kmIx, 4, .inl (upd f2 (Int32.toNatClampNeg a1) 0))), (mMa, .inl (kmMa, 4, .inl g_2))] := hD
    generalize upd f2 (Int32.toNatClampNeg a1) 0 = g_4 at hP hD
    refine lv_iconst (v := 0) hx hb dX12_image_31 (by decide) ?_
    refine lv_istore_n (lv' := [(2, .int 0), (0, .ref m0), (1, .int a1)]) hx hb dX12_image_32 rfl hl (by decide) rfl (fun ls hl => ?_)
    refine w_loop (I := fun i H locs ls => ∃ g : Nat → Int32, va_P D vwCl [(m0, .inr (10, [.ref mTa, .int 0, .int 0, .ref mSi, .ref mLe, .ref mCl, .ref mCs, .ref mRe, .int 0, .int 0, .int 0, .int 0, .int 0, .int 0, .int 0, .ref mOp, .int 0, .ref mSt, .int 0, .ref mWo, .ref mSa, .int 0, .ref mWa, .int 0, .ref mFa, .ref mQu, .ref mIs, .int 0, .int 0, .long 0, .ref mIm, .ref mIx, .ref mMa])), (mSa, .inl (kmSa, 133, .inl sd0)), (mIm, .inl (kmIm, 532, .inl g)), (mIx, .inl (kmIx, 4, .inl g_4)), (mMa, .inl (kmMa, 4, .inl g_2))] H ∧ va_D A [(m0, .inr (10, [.ref mTa, .int 0, .int 0, .ref mSi, .ref mLe, .ref mCl, .ref mCs, .ref mRe, .int 0, .int 0, .int 0, .int 0, .int 0, .int 0, .int 0, .ref mOp, .int 0, .ref mSt, .int 0, .ref mWo, .ref mSa, .int 0, .ref mWa, .int 0, .ref mFa, .ref mQu, .ref mIs, .int 0, .int 0, .long 0, .ref mIm, .ref mIx, .ref mMa])), (mSa, .inl (kmSa, 133, .inl sd0)), (mIm, .inl (kmIm, 532, .inl g)), (mIx, .inl (kmIx, 4, .inl g_4)), (mMa, .inl (kmMa, 4, .inl g_2))] ∧ va_S A s.heap H locs ∧ lv_has ls 3 [(2, .int (nI i)), (0, .ref m0), (1, .int a1)]) 33 133 ?_ ?_ H locs ls ⟨_, hP, hD, hS, lv_sub hl [0, 1, 2] rfl⟩
    · intro H locs ls hI
      obtain ⟨g, hP, hD, hS, hl⟩ := hI
      refine lv_iload_n hx hb dX12_image_33 rfl (lv_at hl 0 rfl) ?_
      refine lv_sipush (v := 133) hx hb dX12_image_34 (by decide) ?_
      refine lv_icmp_ge (tgt := 64) hx hb dX12_image_37 (by decide) (fun _ => ?_) (fun c_6 => absurd (by decide) c_6)
      refine lv_aload_n hx hb dX12_image_64 rfl (lv_at hl 1 rfl) ?_
      refine va_get (D := D) (ci := 10) (v := .ref mSa) (C := "WrongHoleModel") (T := TX12) (N := 33) hx hb hts (iq_RX12 _) hown hK hP 0 rfl rfl 20 (by decide) (hT _ qq_5_172) (fun _ h9 => h9) rfl dX12_image_65 ?_
      refine lv_iconst (v := 3) hx hb dX12_image_68 (by decide) ?_
      refine va_iald hx hb hK hP 1 0 rfl rfl (vi_c rfl) dX12_image_69 ?_
      refine tc_i 0 (by decide) ?_
      refine W.widen (k := 0) (n := 0) (Nat.le_of_ble_eq_true rfl) (Nat.le_of_ble_eq_true rfl) ?_
      exact W.iret (v := 0) hx hb hr (fun t9 ht9 hW9 => ⟨⟨_, (), rfl, (by have h9 := rng_1 c_1; simp [r_image, h9]), trivial⟩, hS.F ht9⟩) hS.2.2 dX12_image_70
    · intro i H locs ls hi hI ih
      obtain ⟨g, hP, hD, hS, hl⟩ := hI
      refine lv_iload_n hx hb dX12_image_33 rfl (lv_at hl 0 rfl) ?_
      refine lv_sipush (v := 133) hx hb dX12_image_34 (by decide) ?_
      refine lv_icmp_ge (tgt := 64) hx hb dX12_image_37 (by decide) (fun c_7 => absurd c_7 (nI_ge hi (by decide))) (fun _ => ?_)
      refine lv_aload_n hx hb dX12_image_40 rfl (lv_at hl 1 rfl) ?_
      refine va_get (D := D) (ci := 10) (v := .ref mIm) (C := "WrongHoleModel") (T := TX12) (N := 33) hx hb hts (iq_RX12 _) hown hK hP 0 rfl rfl 30 (by decide) (hT _ qq_5_182) (fun _ h9 => h9) rfl dX12_image_41 ?_
      refine lv_sipush (v := 133) hx hb dX12_image_44 (by decide) ?_
      refine lv_iload_n hx hb dX12_image_47 rfl (lv_at hl 2 rfl) ?_
      refine lv_imul hx hb dX12_image_48 ?_
      refine lv_topi (fun x_8 e_9 => ?_)
      refine lv_iload_n hx hb dX12_image_49 rfl (lv_at hl 0 rfl) ?_
      refine lv_iadd hx hb dX12_image_50 ?_
      refine lv_topi (fun x_10 e_11 => ?_)
      refine lv_aload_n hx hb dX12_image_51 rfl (lv_at hl 1 rfl) ?_
      refine va_get (D := D) (ci := 10) (v := .ref mSa) (C := "WrongHoleModel") (T := TX12) (N := 33) hx hb hts (iq_RX12 _) hown hK hP 0 rfl rfl 20 (by decide) (hT _ qq_5_172) (fun _ h9 => h9) rfl dX12_image_52 ?_
      refine lv_iload_n hx hb dX12_image_55 rfl (lv_at hl 0 rfl) ?_
      refine va_iald hx hb hK hP 1 0 rfl rfl (vp_in_nI hi (by decide)) dX12_image_56 ?_
      refine lv_topi (fun x_12 e_13 => ?_)
      refine va_iast hx hb hK hP hD hS 2 1 rfl rfl (im_i e_9 e_11 c_1 hi) dX12_image_57 (fun H locs hP hD hS => ?_)
      have hP : va_P D vwCl [(m0, .inr (10, [.ref mTa, .int 0, .int 0, .ref mSi, .ref mLe, .ref mCl, .ref mCs, .ref mRe, .int 0, .int 0, .int 0, .int 0, .int 0, .int 0, .int 0, .ref mOp, .int 0, .ref mSt, .int 0, .ref mWo, .ref mSa, .int 0, .ref mWa, .int 0, .ref mFa, .ref mQu, .ref mIs, .int 0, .int 0, .long 0, .ref mIm, .ref mIx, .ref mMa])), (mSa, .inl (kmSa, 133, .inl sd0)), (mIm, .inl (kmIm, 532, .inl (upd g (Int32.toNatClampNeg x_10) x_12))), (mIx, .inl (kmIx, 4, .inl g_4)), (mMa, .inl (kmMa, 4, .inl g_2))] H := hP
      have hD : va_D A [(m0, .inr (10, [.ref mTa, .int 0, .int 0, .ref mSi, .ref mLe, .ref mCl, .ref mCs, .ref mRe, .int 0, .int 0, .int 0, .int 0, .int 0, .int 0, .int 0, .ref mOp, .int 0, .ref mSt, .int 0, .ref mWo, .ref mSa, .int 0, .ref mWa, .int 0, .ref mFa, .ref mQu, .ref mIs, .int 0, .int 0, .long 0, .ref mIm, .ref mIx, .ref mMa])), (mSa, .inl (kmSa, 133, .inl sd0)), (mIm, .inl (kmIm, 532, .inl (upd g (Int32.toNatClampNeg x_10) x_12))), (mIx, .inl (kmIx, 4, .inl g_4)), (mMa, .inl (kmMa, 4, .inl g_2))] := hD
      generalize upd g (Int32.toNatClampNeg x_10) x_12 = g_14 at hP hD
      obtain ⟨x_16, e_17⟩ : ∃ z : Int32, z = (nI i) + Int32.ofInt 1 := ⟨_, rfl⟩
      refine lv_iinc (v := x_16) (lv' := [(2, .int x_16), (0, .ref m0), (1, .int a1)]) hx hb dX12_image_58 hl (k := 0) rfl (e_17.symm) (by decide) rfl (fun ls hl => ?_)
      refine lv_goto (tgt := 33) hx hb dX12_image_61 (by decide) ?_
      exact ih _ _ _ ⟨_, hP, hD, hS, by rw [nI_succ]; exact (show nI i + 1 = x_16 from e_17.symm) ▸ lv_sub hl [0, 1, 2] rfl⟩
  · refine lv_iconst (v := (-1)) hx hb dX12_image_12 (by decide) ?_
    refine W.widen (k := 0) (n := 0) (Nat.le_of_ble_eq_true rfl) (Nat.le_of_ble_eq_true rfl) ?_
    exact W.iret (v := (-1)) hx hb hr (fun t9 ht9 hW9 => ⟨⟨_, (), rfl, (by have h9 := rng_0 c_1; simp [r_image, h9]), trivial⟩, hS.F ht9⟩) hS.2.2 dX12_image_13
theorem dX12_back_0 : decode cX12_back 0 = .ok (.iload_n 1, 1) := by decide +kernel
theorem dX12_back_1 : decode cX12_back 1 = .ok (.i2l, 1) := by decide +kernel
theorem dX12_back_2 : decode cX12_back 2 = .ok (.lconst 0, 1) := by decide +kernel
theorem dX12_back_3 : decode cX12_back 3 = .ok (.ldc2_w 533, 3) := by decide +kernel
theorem dX12_back_6 : decode cX12_back 6 = .ok (.invokestatic 104, 3) := by decide +kernel
theorem dX12_back_9 : decode cX12_back 9 = .ok (.ifCond .eq 12, 3) := by decide +kernel
theorem dX12_back_21 : decode cX12_back 21 = .ok (.iconst (-1), 1) := by decide +kernel
theorem dX12_back_22 : decode cX12_back 22 = .ok (.ireturn, 1) := by decide +kernel
theorem dX12_back_12 : decode cX12_back 12 = .ok (.aload_n 0, 1) := by decide +kernel
theorem dX12_back_13 : decode cX12_back 13 = .ok (.getfield 62, 3) := by decide +kernel
theorem dX12_back_16 : decode cX12_back 16 = .ok (.iload_n 1, 1) := by decide +kernel
theorem dX12_back_17 : decode cX12_back 17 = .ok (.baload, 1) := by decide +kernel
theorem dX12_back_18 : decode cX12_back 18 = .ok (.ifCond .ne 5, 3) := by decide +kernel
set_option maxHeartbeats 4000000 in
set_option maxRecDepth 100000 in
theorem c_m_back (l : Launch) (D : va_G) (ad : Nat → Nat) (sz : Nat) (m0 : Nat) (mTa : Nat) (mSi : Nat) (mLe : Nat) (mCl : Nat) (mCs : Nat) (mRe : Nat) (mOp : Nat) (mSt : Nat) (mWo : Nat) (mSa : Nat) (mWa : Nat) (mFa : Nat) (mQu : Nat) (mIs : Nat) (mIm : Nat) (mIx : Nat) (mMa : Nat) (kmMa : ClassId) (a1 : Int32)  : Met l yX12_back (Cond.code yX12_back cX12_back 3 (some .int) :: TB) (RM 1 0 0) (va_Pc [.ref m0, .int a1] (PRE D ad [(m0, .inr (10, [.ref mTa, .int 0, .int 0, .ref mSi, .ref mLe, .ref mCl, .ref mCs, .ref mRe, .int 0, .int 0, .int 0, .int 0, .int 0, .int 0, .int 0, .ref mOp, .int 0, .ref mSt, .int 0, .ref mWo, .ref mSa, .int 0, .ref mWa, .int 0, .ref mFa, .ref mQu, .ref mIs, .int 0, .int 0, .long 0, .ref mIm, .ref mIx, .ref mMa])), (mMa, .inl (kmMa, 4, .inl (fun _ => 0)))] [(kmMa, .boolean)] sz)) (k2_QcV (.int (-1))) 0 0 (fun _ => False) := by
  refine MET (y := yX12_back) (cc := cX12_back) (maxL := 3) (ret := (some .int)) (d := 1) (mc := 0) (ms := 0) (D := D) (ad := ad) (ws := [(m0, .inr (10, [.ref mTa, .int 0, .int 0, .ref mSi, .ref mLe, .ref mCl, .ref mCs, .ref mRe, .int 0, .int 0, .int 0, .int 0, .int 0, .int 0, .int 0, .ref mOp, .int 0, .ref mSt, .int 0, .ref mWo, .ref mSa, .int 0, .ref mWa, .int 0, .ref mFa, .ref mQu, .ref mIs, .int 0, .int 0, .long 0, .ref mIm, .ref mIx, .ref mMa])), (mMa, .inl (kmMa, 4, .inl (fun _ => 0)))]) (tys := [(kmMa, .boolean)]) (sz := sz) (av := [.ref m0, .int a1]) (Qc := fun A => k2_QcV (.int (-1))) (fr := fun A => (fun _ => False)) (by decide) (Nat.le_of_ble_eq_true rfl) ?_
  intro p e s m below meth c ls A H hHe hx hb hr hml hown hts hlocks hnm hP hK hD hA hS hN hl
  have hown : s.vm.findClass "WrongHoleModel" = some m.cls := hown
  have hT : ∀ w ∈ TB, w.before ([.ref m0, .int a1] : List Value).toArray s = true := fun w h => hts w (List.mem_cons_of_mem _ h)
  have hl : lv_has ls 3 [(0, .ref m0), (1, .int a1)] := hl
  have hP : va_P D vwCl [(m0, .inr (10, [.ref mTa, .int 0, .int 0, .ref mSi, .ref mLe, .ref mCl, .ref mCs, .ref mRe, .int 0, .int 0, .int 0, .int 0, .int 0, .int 0, .int 0, .ref mOp, .int 0, .ref mSt, .int 0, .ref mWo, .ref mSa, .int 0, .ref mWa, .int 0, .ref mFa, .ref mQu, .ref mIs, .int 0, .int 0, .long 0, .ref mIm, .ref mIx, .ref mMa])), (mMa, .inl (kmMa, 4, .inl (fun _ => 0)))] H := hP
  refine lv_iload_n hx hb dX12_back_0 rfl (lv_at hl 1 rfl) ?_
  refine lv_i2l (v := a1.toInt64) hx hb dX12_back_1 rfl ?_
  refine lv_lconst (v := 0) hx hb dX12_back_2 (by decide) ?_
  refine lv_ldc2 (v := 3) hx hb hown (hT _ qq_8_99) dX12_back_3 ?_
  have hPc := hP.sub (ws' := []) [] rfl
  have hDc := hD.sub (ws' := []) [] (by decide) rfl
  have hKc := hK.sub (tys' := []) [] rfl
  refine cl_V (W.runS (As := [.long a1.toInt64, .long 0, .long 3]) (rest := []) ⟨hx, hb, hml, hown, hts⟩ (c_in_0_3 l D ad H.size a1) ⟨callB_of 3 hts (gd_C qq_6_97) rfl rfl rfl (hT _ qq_1_9) (hT _ qq_6_95) (by decide +kernel) (rm_R rfl rfl), (hT _ qq_6_96)⟩ (pr_S hPc hKc hDc hN) rfl rfl hl.1 rfl (lv_room (Nat.le_of_ble_eq_true rfl)) dX12_back_6 ⟨Nat.le_of_ble_eq_true rfl, Nat.le_of_ble_eq_true rfl⟩) ?_
  refine lv_if_eq (tgt := 21) hx hb dX12_back_9 (by decide) (fun c_1 => ?_) (fun c_1 => ?_)
  · refine lv_iconst (v := (-1)) hx hb dX12_back_21 (by decide) ?_
    exact W.iret (v := (-1)) hx hb hr (fun t9 ht9 hW9 => ⟨rfl, ht9.trans hHe⟩) (fun _ h9 => absurd h9 List.not_mem_nil) dX12_back_22
  · refine lv_aload_n hx hb dX12_back_12 rfl (lv_at hl 0 rfl) ?_
    refine va_get (D := D) (ci := 10) (v := .ref mMa) (C := "WrongHoleModel") (T := TX12) (N := 33) hx hb hts (iq_RX12 _) hown hK hP 0 rfl rfl 32 (by decide) (hT _ qq_5_184) (fun _ h9 => h9) rfl dX12_back_13 ?_
    refine lv_iload_n hx hb dX12_back_16 rfl (lv_at hl 1 rfl) ?_
    refine va_zald hx hb hK hP 1 0 rfl rfl (vi_r rfl (rng_1 c_1)) dX12_back_17 ?_
    refine tc_i 0 (rfl) ?_
    refine lv_if_ne (tgt := 23) hx hb dX12_back_18 (by decide) (fun c_2 => absurd (by decide) c_2) (fun _ => ?_)
    refine lv_iconst (v := (-1)) hx hb dX12_back_21 (by decide) ?_
    exact W.iret (v := (-1)) hx hb hr (fun t9 ht9 hW9 => ⟨rfl, ht9.trans hHe⟩) (fun _ h9 => absurd h9 List.not_mem_nil) dX12_back_22
