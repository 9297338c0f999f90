/-! THE CLAIM OUT OF ONE WALK OF THE LAW'S BODY. Your part is whole_start (and what it stands on); all else here is the same for every law, but numbers. -/
def R_law : String := "WrongHoleLaw"
def lw_P (b : Addr) (xs : List Int32) (args : Array Value) (s : State) : Prop := args = #[.ref b] ∧ s.IntsAt b xs ∧ xs.length ≤ 3072 ∧ (Jvm.Cond.and given_1 narrow_1).before args s = true
def lw_Q (_ : Array Value) (s : State) (o : Outcome) (t : State) : Prop := o = .returned (some (.int 1)) ∧ Framed s o t [] 600000 7302249
def lw_Z (below : List Frame) (a : Array Value) (s : State) : State → Prop := fun t => ∃ o, t.status = .running ∧ Ended t below o ∧ lw_Q a s o t
/-- the law's own end, with 1 on the stack, nothing written that was there before, its room as the claim has it -/
theorem lw_ret {p : Program} {l : Launch} {e : Env} {s : State} {m : MethodId} {below : List Frame} {meth : Method} {c : Code} {b : Nat} (hx : p.tables.exec = Jvm.exec) (hb : c.code = code) (hr : meth.sig.returnType = ret) (hlocks : meth.locks = false) {pc : Nat} {H : Heap} {ls : Array Slot} (hdg : decode code pc = .ok (.ireturn, 1)) : W p l e room_1 s m #[Value.ref b] below meth c H [] 600000 7302249 (lw_Z below #[Value.ref b] s) (F0 m pc ls [.int 1]) := by
  intro T hT X
  obtain ⟨fs, hret, hrun, hended, hW, hframe⟩ := X.leave (v := some (.int 1)) (hlocks := hlocks) (fun h => by rw [hr] at h; cases h)
  have hmeth' : T.vm.method? m = some meth := X.method'
  refine ⟨T.setFrames fs, ?_, .returned (some (.int 1)), hrun, hended, rfl, ⟨_, rfl⟩, hW, hframe⟩
  jvm_step X.here [X.here.top, hx, hb, hdg, hmeth', hr, ret, narrow_b1]
  (try refine ⟨rfl, ?_⟩); (try refine ⟨rfl, ?_⟩)
  first | (intro acts; rw [hret _ acts rfl rfl rfl]) | rw [hret _ _ rfl rfl rfl]
  exact Steps.refl _
/-- what holds at the law's entry: the machine, the code, the tables' words (any of lw_tbl by 'hts w (by decide +kernel)'), the script of L ints xs at the cell b, what the Statement gives of the start (any of its parts by flat_of_before) -/
def lw_At (p : Program) (s : State) (m : MethodId) (meth : Method) (c : Code) (b L : Nat) (xs : Nat → Int32) : Prop :=
  p.tables.exec = Jvm.exec ∧ c.code = code ∧ meth.sig.returnType = ret ∧ c.maxLocals = 4 ∧ s.vm.findClass R_law = some m.cls ∧ (∀ w ∈ lw_tbl, w.before #[Value.ref b] s = true) ∧ va_X b L xs s s.heap ∧ b < s.heap.size ∧ meth.locks = false ∧ (Jvm.Cond.and given_1 narrow_1).before #[Value.ref b] s = true

theorem sw_0_30 (v : Int32) : (Int32.toInt v < 0 ∨ 30 < Int32.toInt v) ∨ v = 0 ∨ v = 1 ∨ v = 2 ∨ v = 3 ∨ v = 4 ∨ v = 5 ∨ v = 6 ∨ v = 7 ∨ v = 8 ∨ v = 9 ∨ v = 10 ∨ v = 11 ∨ v = 12 ∨ v = 13 ∨ v = 14 ∨ v = 15 ∨ v = 16 ∨ v = 17 ∨ v = 18 ∨ v = 19 ∨ v = 20 ∨ v = 21 ∨ v = 22 ∨ v = 23 ∨ v = 24 ∨ v = 25 ∨ v = 26 ∨ v = 27 ∨ v = 28 ∨ v = 29 ∨ v = 30 := by
  simp only [← Int32.toInt_inj]
  simp (config := { decide := true }) only [show Int32.toInt 0 = 0 from rfl, show Int32.toInt 1 = 1 from rfl, show Int32.toInt 2 = 2 from rfl, show Int32.toInt 3 = 3 from rfl, show Int32.toInt 4 = 4 from rfl, show Int32.toInt 5 = 5 from rfl, show Int32.toInt 6 = 6 from rfl, show Int32.toInt 7 = 7 from rfl, show Int32.toInt 8 = 8 from rfl, show Int32.toInt 9 = 9 from rfl, show Int32.toInt 10 = 10 from rfl, show Int32.toInt 11 = 11 from rfl, show Int32.toInt 12 = 12 from rfl, show Int32.toInt 13 = 13 from rfl, show Int32.toInt 14 = 14 from rfl, show Int32.toInt 15 = 15 from rfl, show Int32.toInt 16 = 16 from rfl, show Int32.toInt 17 = 17 from rfl, show Int32.toInt 18 = 18 from rfl, show Int32.toInt 19 = 19 from rfl, show Int32.toInt 20 = 20 from rfl, show Int32.toInt 21 = 21 from rfl, show Int32.toInt 22 = 22 from rfl, show Int32.toInt 23 = 23 from rfl, show Int32.toInt 24 = 24 from rfl, show Int32.toInt 25 = 25 from rfl, show Int32.toInt 26 = 26 from rfl, show Int32.toInt 27 = 27 from rfl, show Int32.toInt 28 = 28 from rfl, show Int32.toInt 29 = 29 from rfl, show Int32.toInt 30 = 30 from rfl]
  omega
theorem dL_law_18 : decode cL_law 18 = .ok (.iload_n 3, 1) := by decide +kernel
theorem dL_law_19 : decode cL_law 19 = .ok (.aload_n 0, 1) := by decide +kernel
theorem dL_law_20 : decode cL_law 20 = .ok (.arraylength, 1) := by decide +kernel
theorem dL_law_21 : decode cL_law 21 = .ok (.bipush 6, 2) := by decide +kernel
theorem dL_law_23 : decode cL_law 23 = .ok (.isub, 1) := by decide +kernel
theorem dL_law_24 : decode cL_law 24 = .ok (.if_icmp .gt 1007, 3) := by decide +kernel
theorem dL_law_1031 : decode cL_law 1031 = .ok (.iconst 1, 1) := by decide +kernel
theorem dL_law_1032 : decode cL_law 1032 = .ok (.ireturn, 1) := by decide +kernel
theorem dL_law_1025 : decode cL_law 1025 = .ok (.iinc 3 6, 3) := by decide +kernel
theorem dL_law_1028 : decode cL_law 1028 = .ok (.goto (-1010), 3) := by decide +kernel
theorem dL_law_27 : decode cL_law 27 = .ok (.aload_n 0, 1) := by decide +kernel
theorem dL_law_28 : decode cL_law 28 = .ok (.iload_n 3, 1) := by decide +kernel
theorem dL_law_29 : decode cL_law 29 = .ok (.iaload, 1) := by decide +kernel
theorem dL_law_30 : decode cL_law 30 = .ok (.bipush 31, 2) := by decide +kernel
theorem dL_law_32 : decode cL_law 32 = .ok (.iand, 1) := by decide +kernel
theorem dL_law_33 : decode cL_law 33 = .ok (.tableswitch 992 0 30 #[139, 202, 225, 238, 251, 284, 317, 340, 363, 386, 419, 442, 455, 488, 501, 534, 557, 570, 603, 636, 659, 702, 735, 778, 801, 834, 857, 880, 923, 946, 969], 139) := by decide +kernel
theorem in_scr {n LL : Nat} {k : Int32} (h : 6 * n + 6 ≤ LL) (hL : LL ≤ 3072) (rk : Rg 0 5 k) : vp_in (nI (6 * n) + k) LL := by
  have ek := cN_nI rk (by decide)
  have hk : cN k ≤ 5 := cN_le rk (by decide)
  have e : nI (6 * n) + k = nI (6 * n + cN k) := by rw [ek, nI_add, ← ek]
  intro q
  rw [e] at q
  rcases q with q | q
  · exact nI_pos (by omega) q
  · have e3 : cN (nI (6 * n + cN k)) = 6 * n + cN k := cN_of rfl (by omega)
    have q3 : LL ≤ cN (nI (6 * n + cN k)) := q
    omega
theorem in_scr0 {n LL : Nat} (h : 6 * n + 6 ≤ LL) (hL : LL ≤ 3072) : vp_in (nI (6 * n)) LL := by
  have q := in_scr (k := 0) h hL ⟨by decide, by decide⟩
  rw [show nI (6 * n) + (0 : Int32) = nI (6 * n) from by rw [show (0 : Int32) = nI 0 from rfl, nI_add, Nat.add_zero]] at q
  exact q
theorem on_scr {n LL : Nat} (c1 : ¬ (Int32.ofNat LL - 6) < nI (6 * n)) (hL : LL ≤ 3072) (hn : n ≤ 513) : 6 * n + 6 ≤ LL := by
  have e0 : (nI LL).toInt = LL := nI_toInt (by omega)
  have e1 : (nI (6 * n)).toInt = ((6 * n : Nat) : Int) := nI_toInt (by omega)
  have r : Rg 0 3072 (nI LL) := ⟨by omega, by omega⟩
  have e2 := Rg.subE (x := nI LL - 6) (a := nI LL) (b := 6) rfl r (Rg.c (c := 6) (k := 6) rfl) (by decide)
  have e6 : Int32.toInt 6 = 6 := rfl
  rw [i_lt] at c1
  have c2 : ¬ (nI LL - 6).toInt < (nI (6 * n)).toInt := c1
  omega
set_option maxHeartbeats 4000000 in
set_option maxRecDepth 100000 in
theorem lw_step {p : Program} {l : Launch} {e : Env} {s : State} {m : MethodId} {below : List Frame} {meth : Method} {c : Code} {sb LL : Nat} {xs : Nat → Int32} {D : va_G} {cs : Nat → ClassId} {A : Nat → Prop} {sa sv : Nat → Nat} (G : LX p l s m meth c sb LL xs D cs A sa sv) (hLL : LL ≤ 3072) {ox m0 : Nat} (n : Nat) (hn : n ≤ 513) (hbody : 6 * n + 6 ≤ LL → ∀ (H : Heap) (locs : List Loc) (ls : Array Slot) (w F r3 wh wz v : va_W) (im : Nat → va_W) (xi : Nat → Option (Nat → Int32)) (wf3 gsd gim gmd : Nat → Int32) (pt : Nat), XI cs ox w F r3 wh wz im xi wf3 pt → MI cs m0 v gsd gim gmd → LNK wf3 gsd xi gim gmd → va_P D vwCl (w ++ TL F r3 im wh wz v) H → va_D A (w ++ TL F r3 im wh wz v) → va_S A s.heap H locs → lv_has ls 4 [(3, .int (nI (6 * (n + 1)))), (2, .ref m0), (1, .ref ox), (0, .ref sb)] → W p l e room_1 s m #[Value.ref sb] below meth c H locs (100 + 20 * (n + 1)) (220000 + 900 * (n + 1) + pt) (lw_Z below #[Value.ref sb] s) (F0 m 18 ls [])) : ∀ (H : Heap) (locs : List Loc) (ls : Array Slot) (w F r3 wh wz v : va_W) (im : Nat → va_W) (xi : Nat → Option (Nat → Int32)) (wf3 gsd gim gmd : Nat → Int32) (pt : Nat), XI cs ox w F r3 wh wz im xi wf3 pt → MI cs m0 v gsd gim gmd → LNK wf3 gsd xi gim gmd → va_P D vwCl (w ++ TL F r3 im wh wz v) H → va_D A (w ++ TL F r3 im wh wz v) → va_S A s.heap H locs → lv_has ls 4 [(3, .int (nI (6 * n))), (2, .ref m0), (1, .ref ox), (0, .ref sb)] → W p l e room_1 s m #[Value.ref sb] below meth c H locs (100 + 20 * n) (220000 + 900 * n + pt) (lw_Z below #[Value.ref sb] s) (F0 m 18 ls []) := by
  obtain ⟨hx, hb, hr, hml, hown, hts, hT, hX0, hbl, hlocks, hbA, hA, hA2, hK, hN, hSX, hXC⟩ := id G
  intro H locs ls w F r3 wh wz v im xi wf3 gsd gim gmd pt hI hM hLk hP hD hS hl
  have hpl := hI.pt_le
  refine lv_iload_n hx hb dL_law_18 rfl (lv_at hl 0 rfl) ?_
  refine lv_aload_n hx hb dL_law_19 rfl (lv_at hl 3 rfl) ?_
  refine va_slen hx hb hX0 hbl hbA hS dL_law_20 ?_
  refine lv_bipush (v := 6) hx hb dL_law_21 (by decide) ?_
  refine lv_isub hx hb dL_law_23 ?_
  refine lv_icmp_gt (tgt := 1031) hx hb dL_law_24 (by decide) (fun c1 => ?_) (fun c1 => ?_)
  · refine lv_iconst (v := 1) hx hb dL_law_1031 (by decide) ?_
    refine va_forget (fun q h => hA2 _ (hS.2.2 q h)) ?_
    refine W.widen (k := 600000) (n := 7302249) (by omega) (by omega) ?_
    exact lw_ret hx hb hr hlocks dL_law_1032
  · have h6 := on_scr c1 hLL hn
    have cont : ∀ (H : Heap) (locs : List Loc) (w F r3 wh wz v : va_W) (im : Nat → va_W) (xi : Nat → Option (Nat → Int32)) (wf3 gsd gim gmd : Nat → Int32) (pt : Nat), XI cs ox w F r3 wh wz im xi wf3 pt → MI cs m0 v gsd gim gmd → LNK wf3 gsd xi gim gmd → va_P D vwCl (w ++ TL F r3 im wh wz v) H → va_D A (w ++ TL F r3 im wh wz v) → va_S A s.heap H locs → W p l e room_1 s m #[Value.ref sb] below meth c H locs (100 + 20 * n + 20) (220000 + 900 * n + 900 + pt) (lw_Z below #[Value.ref sb] s) (F0 m 1025 ls []) := by
      intro H locs w F r3 wh wz v im xi wf3 gsd gim gmd pt hI hM hLk hP hD hS
      refine lv_iinc (v := nI (6 * (n + 1))) (lv' := [(3, .int (nI (6 * (n + 1)))), (2, .ref m0), (1, .ref ox), (0, .ref sb)]) (k := 0) hx hb dL_law_1025 hl rfl (by rw [show Int32.ofInt 6 = nI 6 from rfl, nI_add]; rfl) (by decide) rfl (fun ls hl => ?_)
      refine lv_goto (tgt := 18) hx hb dL_law_1028 (by decide) ?_
      refine W.widen (k := 100 + 20 * (n + 1)) (n := 220000 + 900 * (n + 1) + pt) (by omega) (by omega) ?_
      exact hbody h6 H locs ls w F r3 wh wz v im xi wf3 gsd gim gmd pt hI hM hLk hP hD hS hl
    refine lv_aload_n hx hb dL_law_27 rfl (lv_at hl 3 rfl) ?_
    refine lv_iload_n hx hb dL_law_28 rfl (lv_at hl 0 rfl) ?_
    refine va_sld hx hb hX0 hbl hbA hS (in_scr0 h6 hLL) dL_law_29 ?_
    refine lv_bipush (v := 31) hx hb dL_law_30 (by decide) ?_
    refine lv_iand hx hb dL_law_32 ?_
    generalize (xs (Int32.toNatClampNeg (nI (6 * n))) &&& 31) = y9
    have hin : ∀ k : Int32, Rg 0 5 k → vp_in (nI (6 * n) + k) LL := fun k rk => in_scr h6 hLL rk
    rcases sw_0_30 y9 with c9 | c9 | c9 | c9 | c9 | c9 | c9 | c9 | c9 | c9 | c9 | c9 | c9 | c9 | c9 | c9 | c9 | c9 | c9 | c9 | c9 | c9 | c9 | c9 | c9 | c9 | c9 | c9 | c9 | c9 | c9 | c9
    · refine lv_tableOut (tgt := 1025) hx hb dL_law_33 c9 (by decide) ?_
      refine W.widen (k := 100 + 20 * n + 20) (n := 220000 + 900 * n + 900 + pt) (by omega) (by omega) ?_
      exact cont H locs w F r3 wh wz v im xi wf3 gsd gim gmd pt hI hM hLk hP hD hS
    · refine tc_i 0 c9 ?_
      refine lv_tableIn (tgt := 172) hx hb dL_law_33 (by decide) (by decide) rfl (by decide) ?_
      exact cs_feed G hl hin hI hM hLk hP hD hS (by omega) (by omega) cont
    · refine tc_i 1 c9 ?_
      refine lv_tableIn (tgt := 235) hx hb dL_law_33 (by decide) (by decide) rfl (by decide) ?_
      exact cs_end G hl hin hI hM hLk hP hD hS (by omega) (by omega) cont
    · refine tc_i 2 c9 ?_
      refine lv_tableIn (tgt := 258) hx hb dL_law_33 (by decide) (by decide) rfl (by decide) ?_
      exact cs_lift G hl hin hI hM hLk hP hD hS (by omega) (by omega) cont
    · refine tc_i 3 c9 ?_
      refine lv_tableIn (tgt := 271) hx hb dL_law_33 (by decide) (by decide) rfl (by decide) ?_
      exact cs_rule G hl hin hI hM hLk hP hD hS (by omega) (by omega) cont
    · refine tc_i 4 c9 ?_
      refine lv_tableIn (tgt := 284) hx hb dL_law_33 (by decide) (by decide) rfl (by decide) ?_
      exact cs_button G hl hin hI hM hLk hP hD hS (by omega) (by omega) cont
    · refine tc_i 5 c9 ?_
      refine lv_tableIn (tgt := 317) hx hb dL_law_33 (by decide) (by decide) rfl (by decide) ?_
      exact cs_hole G hl hin hI hM hLk hP hD hS (by omega) (by omega) cont
    · refine tc_i 6 c9 ?_
      refine lv_tableIn (tgt := 350) hx hb dL_law_33 (by decide) (by decide) rfl (by decide) ?_
      exact cs_row G hl hin hI hM hLk hP hD hS (by omega) (by omega) cont
    · refine tc_i 7 c9 ?_
      refine lv_tableIn (tgt := 373) hx hb dL_law_33 (by decide) (by decide) rfl (by decide) ?_
      exact cs_shown G hl hin hI hM hLk hP hD hS (by omega) (by omega) cont
    · refine tc_i 8 c9 ?_
      refine lv_tableIn (tgt := 396) hx hb dL_law_33 (by decide) (by decide) rfl (by decide) ?_
      exact cs_unfasten G hl hin hI hM hLk hP hD hS (by omega) (by omega) cont
    · refine tc_i 9 c9 ?_
      refine lv_tableIn (tgt := 419) hx hb dL_law_33 (by decide) (by decide) rfl (by decide) ?_
      exact cs_fasten G hl hin hI hM hLk hP hD hS (by omega) (by omega) cont
    · refine tc_i 10 c9 ?_
      refine lv_tableIn (tgt := 452) hx hb dL_law_33 (by decide) (by decide) rfl (by decide) ?_
      exact cs_waits G hl hin hI hM hLk hP hD hS (by omega) (by omega) cont
    · refine tc_i 11 c9 ?_
      refine lv_tableIn (tgt := 475) hx hb dL_law_33 (by decide) (by decide) rfl (by decide) ?_
      exact cs_takeBack G hl hin hI hM hLk hP hD hS (by omega) (by omega) cont
    · refine tc_i 12 c9 ?_
      refine lv_tableIn (tgt := 488) hx hb dL_law_33 (by decide) (by decide) rfl (by decide) ?_
      exact cs_run G hl hin hI hM hLk hP hD hS (by omega) (by omega) cont
    · refine tc_i 13 c9 ?_
      refine lv_tableIn (tgt := 521) hx hb dL_law_33 (by decide) (by decide) rfl (by decide) ?_
      exact cs_may G hl hin hI hM hLk hP hD hS (by omega) (by omega) cont
    · refine tc_i 14 c9 ?_
      refine lv_tableIn (tgt := 534) hx hb dL_law_33 (by decide) (by decide) rfl (by decide) ?_
      exact cs_act G hl hin hI hM hLk hP hD hS (by omega) (by omega) cont
    · refine tc_i 15 c9 ?_
      refine lv_tableIn (tgt := 567) hx hb dL_law_33 (by decide) (by decide) rfl (by decide) ?_
      exact cs_fewest G hl hin hI hM hLk hP hD hS (by omega) (by omega) cont
    · refine tc_i 16 c9 ?_
      refine lv_tableIn (tgt := 590) hx hb dL_law_33 (by decide) (by decide) rfl (by decide) ?_
      exact cs_soonest G hl hin hI hM hLk hP hD hS (by omega) (by omega) cont
    · refine tc_i 17 c9 ?_
      refine lv_tableIn (tgt := 603) hx hb dL_law_33 (by decide) (by decide) rfl (by decide) ?_
      exact cs_step G hl hin hI hM hLk hP hD hS (by omega) (by omega) cont
    · refine tc_i 18 c9 ?_
      refine lv_tableIn (tgt := 636) hx hb dL_law_33 (by decide) (by decide) rfl (by decide) ?_
      exact cs_floor G hl hin hI hM hLk hP hD hS (by omega) (by omega) cont
    · refine tc_i 19 c9 ?_
      refine lv_tableIn (tgt := 669) hx hb dL_law_33 (by decide) (by decide) rfl (by decide) ?_
      exact cs_goes G hl hin hI hM hLk hP hD hS (by omega) (by omega) cont
    · refine tc_i 20 c9 ?_
      refine lv_tableIn (tgt := 692) hx hb dL_law_33 (by decide) (by decide) rfl (by decide) ?_
      exact cs_child G hl hin hI hM hLk hP hD hS (by omega) (by omega) cont
    · refine tc_i 21 c9 ?_
      refine lv_tableIn (tgt := 735) hx hb dL_law_33 (by decide) (by decide) rfl (by decide) ?_
      exact cs_spare G hl hin hI hM hLk hP hD hS (by omega) (by omega) cont
    · refine tc_i 22 c9 ?_
      refine lv_tableIn (tgt := 768) hx hb dL_law_33 (by decide) (by decide) rfl (by decide) ?_
      exact cs_crease G hl hin hI hM hLk hP hD hS (by omega) (by omega) cont
    · refine tc_i 23 c9 ?_
      refine lv_tableIn (tgt := 811) hx hb dL_law_33 (by decide) (by decide) rfl (by decide) ?_
      exact cs_ways G hl hin hI hM hLk hP hD hS (by omega) (by omega) cont
    · refine tc_i 24 c9 ?_
      refine lv_tableIn (tgt := 834) hx hb dL_law_33 (by decide) (by decide) rfl (by decide) ?_
      exact cs_seat G hl hin hI hM hLk hP hD hS (by omega) (by omega) cont
    · refine tc_i 25 c9 ?_
      refine lv_tableIn (tgt := 867) hx hb dL_law_33 (by decide) (by decide) rfl (by decide) ?_
      exact cs_moves G hl hin hI hM hLk hP hD hS (by omega) (by omega) cont
    · refine tc_i 26 c9 ?_
      refine lv_tableIn (tgt := 890) hx hb dL_law_33 (by decide) (by decide) rfl (by decide) ?_
      exact cs_seed G hl hin hI hM hLk hP hD hS (by omega) (by omega) cont
    · refine tc_i 27 c9 ?_
      refine lv_tableIn (tgt := 913) hx hb dL_law_33 (by decide) (by decide) rfl (by decide) ?_
      exact cs_dressed G hl hin hI hM hLk hP hD hS (by omega) (by omega) cont
    · refine tc_i 28 c9 ?_
      refine lv_tableIn (tgt := 956) hx hb dL_law_33 (by decide) (by decide) rfl (by decide) ?_
      exact cs_count G hl hin hI hM hLk hP hD hS (by omega) (by omega) cont
    · refine tc_i 29 c9 ?_
      refine lv_tableIn (tgt := 979) hx hb dL_law_33 (by decide) (by decide) rfl (by decide) ?_
      exact cs_image G hl hin hI hM hLk hP hD hS (by omega) (by omega) cont
    · refine tc_i 30 c9 ?_
      refine lv_tableIn (tgt := 1002) hx hb dL_law_33 (by decide) (by decide) rfl (by decide) ?_
      exact cs_back G hl hin hI hM hLk hP hD hS (by omega) (by omega) cont
theorem lw_loop {p : Program} {l : Launch} {e : Env} {s : State} {m : MethodId} {below : List Frame} {meth : Method} {c : Code} {sb LL : Nat} {xs : Nat → Int32} {D : va_G} {cs : Nat → ClassId} {A : Nat → Prop} {sa sv : Nat → Nat} (G : LX p l s m meth c sb LL xs D cs A sa sv) (hLL : LL ≤ 3072) {ox m0 : Nat} : ∀ (f n : Nat), n ≤ 513 → LL < 6 * n + 6 * f + 6 → ∀ (H : Heap) (locs : List Loc) (ls : Array Slot) (w F r3 wh wz v : va_W) (im : Nat → va_W) (xi : Nat → Option (Nat → Int32)) (wf3 gsd gim gmd : Nat → Int32) (pt : Nat), XI cs ox w F r3 wh wz im xi wf3 pt → MI cs m0 v gsd gim gmd → LNK wf3 gsd xi gim gmd → va_P D vwCl (w ++ TL F r3 im wh wz v) H → va_D A (w ++ TL F r3 im wh wz v) → va_S A s.heap H locs → lv_has ls 4 [(3, .int (nI (6 * n))), (2, .ref m0), (1, .ref ox), (0, .ref sb)] → W p l e room_1 s m #[Value.ref sb] below meth c H locs (100 + 20 * n) (220000 + 900 * n + pt) (lw_Z below #[Value.ref sb] s) (F0 m 18 ls []) := by
  intro f
  induction f with
  | zero => intro n hn hf; exact lw_step G hLL n hn (fun h => absurd h (by omega))
  | succ f ih => intro n hn hf; exact lw_step G hLL n hn (fun h => ih (n + 1) (by omega) (by omega))
