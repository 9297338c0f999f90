theorem dJ7_copyOf_59c91_0 : decode cJ7_copyOf_59c91 0 = .ok (.iload_n 1, 1) := by decide +kernel
theorem dJ7_copyOf_59c91_1 : decode cJ7_copyOf_59c91 1 = .ok (.aload_n 0, 1) := by decide +kernel
theorem dJ7_copyOf_59c91_2 : decode cJ7_copyOf_59c91 2 = .ok (.arraylength, 1) := by decide +kernel
theorem dJ7_copyOf_59c91_3 : decode cJ7_copyOf_59c91 3 = .ok (.if_icmp .ne 11, 3) := by decide +kernel
theorem dJ7_copyOf_59c91_6 : decode cJ7_copyOf_59c91 6 = .ok (.aload_n 0, 1) := by decide +kernel
theorem dJ7_copyOf_59c91_7 : decode cJ7_copyOf_59c91 7 = .ok (.invokevirtual 316, 3) := by decide +kernel
theorem dJ7_copyOf_59c91_10 : decode cJ7_copyOf_59c91 10 = .ok (.checkcast 317, 3) := by decide +kernel
theorem dJ7_copyOf_59c91_13 : decode cJ7_copyOf_59c91 13 = .ok (.areturn, 1) := by decide +kernel
theorem dJ7_copyOf_59c91_14 : decode cJ7_copyOf_59c91 14 = .ok (.iload_n 1, 1) := by decide +kernel
theorem dJ7_copyOf_59c91_15 : decode cJ7_copyOf_59c91 15 = .ok (.newarray .int, 2) := by decide +kernel
theorem dJ7_copyOf_59c91_17 : decode cJ7_copyOf_59c91 17 = .ok (.astore_n 2, 1) := by decide +kernel
theorem dJ7_copyOf_59c91_18 : decode cJ7_copyOf_59c91 18 = .ok (.aload_n 0, 1) := by decide +kernel
theorem dJ7_copyOf_59c91_19 : decode cJ7_copyOf_59c91 19 = .ok (.iconst 0, 1) := by decide +kernel
theorem dJ7_copyOf_59c91_20 : decode cJ7_copyOf_59c91 20 = .ok (.aload_n 2, 1) := by decide +kernel
theorem dJ7_copyOf_59c91_21 : decode cJ7_copyOf_59c91 21 = .ok (.iconst 0, 1) := by decide +kernel
theorem dJ7_copyOf_59c91_22 : decode cJ7_copyOf_59c91 22 = .ok (.aload_n 0, 1) := by decide +kernel
theorem dJ7_copyOf_59c91_23 : decode cJ7_copyOf_59c91 23 = .ok (.arraylength, 1) := by decide +kernel
theorem dJ7_copyOf_59c91_24 : decode cJ7_copyOf_59c91 24 = .ok (.iload_n 1, 1) := by decide +kernel
theorem dJ7_copyOf_59c91_25 : decode cJ7_copyOf_59c91 25 = .ok (.invokestatic 304, 3) := by decide +kernel
theorem dJ7_copyOf_59c91_28 : decode cJ7_copyOf_59c91 28 = .ok (.invokestatic 150, 3) := by decide +kernel
theorem dJ7_copyOf_59c91_31 : decode cJ7_copyOf_59c91 31 = .ok (.aload_n 2, 1) := by decide +kernel
theorem dJ7_copyOf_59c91_32 : decode cJ7_copyOf_59c91 32 = .ok (.areturn, 1) := by decide +kernel
theorem qq_3_136 : Cond.methodLink "java/util/Arrays" 304 yJ9_min_7cf53 ∈ TB := mk_tb (ti_3 (List.mem_of_getElem? (i := 136) rfl)) rfl
theorem qq_3_139 : Cond.methodLink "java/util/Arrays" 150 (⟨"java/lang/System", "arraycopy", "(Ljava/lang/Object;ILjava/lang/Object;II)V"⟩ : MethodName) ∈ TB := mk_tb (ti_3 (List.mem_of_getElem? (i := 139) rfl)) rfl
theorem qq_3_129 : Cond.methodLink "java/util/Arrays" 316 (⟨"[I", "clone", "()Ljava/lang/Object;"⟩ : MethodName) ∈ TB := mk_tb (ti_3 (List.mem_of_getElem? (i := 129) rfl)) rfl
theorem qq_3_130 : Cond.sameMethod "[I" "java/lang/Object" "clone" "()Ljava/lang/Object;" ∈ TB := mk_tb (ti_3 (List.mem_of_getElem? (i := 130) rfl)) rfl
theorem qq_3_131 : Cond.native (⟨"java/lang/Object", "clone", "()Ljava/lang/Object;"⟩ : MethodName) ∈ TB := mk_tb (ti_3 (List.mem_of_getElem? (i := 131) rfl)) rfl
theorem qq_3_132 : Cond.instanceMethod (⟨"java/lang/Object", "clone", "()Ljava/lang/Object;"⟩ : MethodName) ∈ TB := mk_tb (ti_3 (List.mem_of_getElem? (i := 132) rfl)) rfl
theorem qq_3_133 : Cond.selects "[I" (⟨"[I", "clone", "()Ljava/lang/Object;"⟩ : MethodName) (⟨"java/lang/Object", "clone", "()Ljava/lang/Object;"⟩ : MethodName) ∈ TB := mk_tb (ti_3 (List.mem_of_getElem? (i := 133) rfl)) rfl
theorem qq_3_135 : Cond.classLink "java/util/Arrays" 317 "[I" ∈ TB := mk_tb (ti_3 (List.mem_of_getElem? (i := 135) rfl)) rfl
set_option maxHeartbeats 4000000 in
set_option maxRecDepth 100000 in
theorem c_copyOf (l : Launch) (D : va_G) (cs : Nat → ClassId) (sa sv : Nat → Nat) (ks : List (ClassId × FieldType)) (sz : Nat) (ra n : Nat) (f : Nat → Int32) (v : Int32) (hn : n ≤ 400) (hv : Rg 0 400 v) (hvn : Int32.toNatClampNeg v ≤ n) : Met l yJ7_copyOf_59c91 (Cond.code yJ7_copyOf_59c91 cJ7_copyOf_59c91 3 (some (.array .int)) :: TB) (RM 1 1 400) (va_Pc [.ref ra, .int v] (PRE D cs (XC sa sv D ks) [(ra, .inl (cs 0, n, .inl f))] [] sz)) (va_Qr (S := Unit) (fun _ => True) (fun _ RA t => ∃ (m9 : Nat), (m9 = Int32.toNatClampNeg v) ∧ va_P D vwCl [(ra, .inl ((cs 0), n, .inl f)), (RA, .inl ((cs 0), m9, .inl f))] t.heap ∧ va_D (va_A [(ra, .inl (cs 0, n, .inl f))] sz) [(ra, .inl ((cs 0), n, .inl f)), (RA, .inl ((cs 0), m9, .inl f))]) (va_A [(ra, .inl (cs 0, n, .inl f))] sz)) 1 400 (va_A [(ra, .inl (cs 0, n, .inl f))] sz) := by
  refine MET (y := yJ7_copyOf_59c91) (cc := cJ7_copyOf_59c91) (maxL := 3) (ret := (some (.array .int))) (d := 1) (mc := 1) (ms := 400) (D := D) (cs := cs) (X := XC sa sv D ks) (ws := [(ra, .inl (cs 0, n, .inl f))]) (wo := []) (sz := sz) (av := [.ref ra, .int v]) (Qc := fun A => va_Qr (S := Unit) (fun _ => True) (fun _ RA t => ∃ (m9 : Nat), (m9 = Int32.toNatClampNeg v) ∧ va_P D vwCl [(ra, .inl ((cs 0), n, .inl f)), (RA, .inl ((cs 0), m9, .inl f))] t.heap ∧ va_D A [(ra, .inl ((cs 0), n, .inl f)), (RA, .inl ((cs 0), m9, .inl f))]) A) (by decide) (Nat.le_of_ble_eq_true rfl) ?_
  intro p e s m below meth c ls A H hHe hx hb hr hml hown hts hlocks hnm hP hK hD hA hS hN hR hX hXs hl
  have hown : s.vm.findClass "java/util/Arrays" = some m.cls := hown
  have hT : ∀ w ∈ TB, w.before ([.ref ra, .int v] : List Value).toArray s = true := fun w h => hts w (List.mem_cons_of_mem _ h)
  have hl : lv_has ls 3 [(0, .ref ra), (1, .int v)] := hl
  have hP : va_P D vwCl [(ra, .inl (cs 0, n, .inl f))] H := hP
  have hD : va_D A [(ra, .inl (cs 0, n, .inl f))] := hD
  have hcl := cl_le hv
  have hn0 := rg_n0 hv
  have hI : s.vm.findClass "[I" = some (cs 0) := va_nm_int (hK.2 0 (cs 0, .int) rfl).2
  refine lv_iload_n hx hb dJ7_copyOf_59c91_0 rfl (lv_at hl 1 rfl) ?_
  refine lv_aload_n hx hb dJ7_copyOf_59c91_1 rfl (lv_at hl 0 rfl) ?_
  refine va_alen (v := nI n) hx hb hK hP 0 0 rfl rfl rfl dJ7_copyOf_59c91_2 ?_
  refine lv_icmp_ne (tgt := 14) hx hb dJ7_copyOf_59c91_3 (by decide) (fun c1 => ?_) (fun c1 => ?_)
  · refine lv_iload_n hx hb dJ7_copyOf_59c91_14 rfl (lv_at hl 1 rfl) ?_
    refine va_newa (atype := .int) hx hb (hT _ qq_1_86) rfl hK hP hD hS hA (a0 := (Int32.toNatClampNeg v, .inl (fun _ => 0))) (fun _ => rfl) hn0 rfl (Nat.le_trans (Nat.mul_le_mul hcl (Nat.le_refl _)) (Nat.le_of_ble_eq_true rfl)) (Nat.le_of_ble_eq_true rfl) (Nat.le_trans (show 0 + Int32.toNatClampNeg v ≤ 400 by omega) (Nat.le_refl _)) dJ7_copyOf_59c91_15 (fun q1 k1 H hK9 hP hD hS => ?_)
    obtain rfl := ka_eq 0 rfl (fun _ => rfl) hK9
    have hP : va_P D vwCl [(ra, .inl (cs 0, n, .inl f)), (q1, .inl (cs 0, Int32.toNatClampNeg v, .inl (fun _ => 0)))] H := hP
    have hD : va_D A [(ra, .inl (cs 0, n, .inl f)), (q1, .inl (cs 0, Int32.toNatClampNeg v, .inl (fun _ => 0)))] := hD
    refine W.widen (k := 1) (n := 400) (Nat.le_of_ble_eq_true rfl) (show 0 + Int32.toNatClampNeg v ≤ 400 by omega) ?_
    refine lv_astore_n (lv' := [(2, .ref q1), (0, .ref ra), (1, .int v)]) hx hb dJ7_copyOf_59c91_17 rfl hl (by decide) rfl (fun ls hl => ?_)
    refine lv_aload_n hx hb dJ7_copyOf_59c91_18 rfl (lv_at hl 1 rfl) ?_
    refine lv_iconst (v := 0) hx hb dJ7_copyOf_59c91_19 (by decide) ?_
    refine lv_aload_n hx hb dJ7_copyOf_59c91_20 rfl (lv_at hl 0 rfl) ?_
    refine lv_iconst (v := 0) hx hb dJ7_copyOf_59c91_21 (by decide) ?_
    refine lv_aload_n hx hb dJ7_copyOf_59c91_22 rfl (lv_at hl 1 rfl) ?_
    refine va_alen (v := nI n) hx hb hK hP 0 0 rfl rfl rfl dJ7_copyOf_59c91_23 ?_
    refine lv_iload_n hx hb dJ7_copyOf_59c91_24 rfl (lv_at hl 2 rfl) ?_
    refine va_mmin hx hb (hml.trans hl.1.symm) hown (hT _ qq_3_136) (hT _ qq_3_137) (hT _ qq_1_19) (hT _ qq_3_138) (Nat.le_of_ble_eq_true rfl) (Nat.le_of_ble_eq_true rfl) (Nat.le_of_ble_eq_true rfl) (Nat.le_of_ble_eq_true rfl) dJ7_copyOf_59c91_25 ?_
    rw [mn_eq hvn hv hn]
    refine va_copyi (ty := .int) hx hb (hml.trans hl.1.symm) hown (hT _ qq_3_139) (hT _ qq_3_141) (hT _ qq_3_140) (hT _ qq_1_20) hK hP hD hS 0 1 0 0 rfl rfl rfl rfl rfl (by decide) (by decide) hn0 (show 0 + Int32.toNatClampNeg v ≤ n by omega) (show 0 + Int32.toNatClampNeg v ≤ Int32.toNatClampNeg v by omega) (fun _ _ => rfl) (Nat.le_of_ble_eq_true rfl) (Nat.le_of_ble_eq_true rfl) dJ7_copyOf_59c91_28 (fun H locs hP hD hS => ?_)
    have hP := ar_P hP 1 rfl (g := f) (fun j hj => cpy_all rfl hj)
    have hP : va_P D vwCl [(ra, .inl (cs 0, n, .inl f)), (q1, .inl (cs 0, Int32.toNatClampNeg v, .inl f))] H := hP
    have hD : va_D A [(ra, .inl (cs 0, n, .inl f)), (q1, .inl (cs 0, Int32.toNatClampNeg v, .inl f))] := hD.set (p := 1) rfl
    refine lv_aload_n hx hb dJ7_copyOf_59c91_31 rfl (lv_at hl 0 rfl) ?_
    exact W.aret (v := .ref q1) hx hb hr (Or.inr ⟨_, rfl⟩) (Or.inr ⟨_, rfl⟩) (fun t9 ht9 hW9 => ⟨⟨(), _, rfl, trivial, ⟨Int32.toNatClampNeg v, rfl, by rw [ht9]; exact hP, hD⟩⟩, hS.F ht9⟩) hS.2.2 dJ7_copyOf_59c91_32
  · have c2 : v = nI n := c1
    have e9 : n = Int32.toNatClampNeg v := by rw [c2, nI_clamp (by omega)]
    refine lv_aload_n hx hb dJ7_copyOf_59c91_6 rfl (lv_at hl 0 rfl) ?_
    refine va_clone (ad := "[I") (ty := .int) hx hb (hml.trans hl.1.symm) hown (hT _ qq_3_129) (hT _ qq_3_130) (hT _ qq_3_131) (hT _ qq_3_132) (hT _ qq_3_133) hXs.2.1 hK hP hD hS hA 0 0 rfl rfl hI (fun i v h => va_fit (fun _ _ => rfl) i v h) (Nat.le_of_ble_eq_true rfl) (Nat.le_of_ble_eq_true rfl) (Nat.le_of_ble_eq_true rfl) (Nat.le_trans (show 0 + n ≤ 400 by omega) (Nat.le_refl _)) dJ7_copyOf_59c91_7 (fun q1 H hK9 hP hD hS => ?_)
    have hP : va_P D vwCl [(ra, .inl (cs 0, n, .inl f)), (q1, .inl (cs 0, n, .inl f))] H := hP
    have hD : va_D A [(ra, .inl (cs 0, n, .inl f)), (q1, .inl (cs 0, n, .inl f))] := hD
    refine W.widen (k := 1) (n := 400) (Nat.le_of_ble_eq_true rfl) (show 0 + n ≤ 400 by omega) ?_
    refine va_castA hx hb hown (hT _ qq_3_135) hP 1 rfl hI dJ7_copyOf_59c91_10 ?_
    exact W.aret (v := .ref q1) hx hb hr (Or.inr ⟨_, rfl⟩) (Or.inr ⟨_, rfl⟩) (fun t9 ht9 hW9 => ⟨⟨(), _, rfl, trivial, ⟨n, e9, by rw [ht9]; exact hP, hD⟩⟩, hS.F ht9⟩) hS.2.2 dJ7_copyOf_59c91_13
