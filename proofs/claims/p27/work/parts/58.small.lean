set_option maxHeartbeats 4000000 in
set_option maxRecDepth 100000 in
theorem c_W_unfasten_0 (l : Launch) (D : va_G) (cs : Nat → ClassId) (ox : Nat) (ht : Nat) (hq : Nat) (og : Nat) (rc : Int32) (hw : Nat) (om : Nat) (hp : Nat) (ha : Nat) (hf : Nat) (hw0 : Nat) (qh : Option Nat) (qo : Option Nat) (wk : Int32) (wc : Int32) (wx : Int32) (wn : Int32) (wa0 : Nat) (wa1 : Nat) (wa2 : Nat) (wa3 : Nat) (b : Int32)  : Met l yX11_unfasten (Cond.code yX11_unfasten cX11_unfasten 3 (some .int) :: TB) (RM 3 0 0) (va_Pc [.ref ox, .int b] (PRR D cs [(ox, .inr (9, [.ref ht, .ref hq, .ref og, .int rc, .ref hw, .ref om, .ref hp, .ref ha, .ref hf, .ref hw0, va_rf qh, va_rf qo])), (hw, .inr (8, [.null, .int wk, .int wc, .int wx, .int wn, .ref wa0, .ref wa1, .ref wa2, .ref wa3]))])) (QP (fun v => ∃ x : Int32, v = .int x)) 0 0 (fun _ => False) := by
  refine MER (y := yX11_unfasten) (cc := cX11_unfasten) (maxL := 3) (ret := (some .int)) (d := 3) (D := D) (cs := cs) (ws := [(ox, .inr (9, [.ref ht, .ref hq, .ref og, .int rc, .ref hw, .ref om, .ref hp, .ref ha, .ref hf, .ref hw0, va_rf qh, va_rf qo])), (hw, .inr (8, [.null, .int wk, .int wc, .int wx, .int wn, .ref wa0, .ref wa1, .ref wa2, .ref wa3]))]) (av := [.ref ox, .int b]) (Qc := QP (fun v => ∃ x : Int32, v = .int x)) (by decide) (Nat.le_of_ble_eq_true rfl) ?_
  intro p e s m below meth c ls H hHe hx hb hr hml hown hts hlocks hP hK hN hl
  obtain ⟨locs, hlc⟩ : ∃ z : List Loc, z = [] := ⟨_, rfl⟩
  rw [← hlc]
  have hown : s.vm.findClass "WrongHole" = some m.cls := hown
  have hT : ∀ w ∈ TB, w.before ([.ref ox, .int b] : List Value).toArray s = true := fun w h => hts w (List.mem_cons_of_mem _ h)
  have hl : lv_has ls 3 [(0, .ref ox), (1, .int b)] := hl
  have hP : va_P D vwCl [(ox, .inr (9, [.ref ht, .ref hq, .ref og, .int rc, .ref hw, .ref om, .ref hp, .ref ha, .ref hf, .ref hw0, va_rf qh, va_rf qo])), (hw, .inr (8, [.null, .int wk, .int wc, .int wx, .int wn, .ref wa0, .ref wa1, .ref wa2, .ref wa3]))] H := hP
  refine lv_aload_n hx hb dX11_unfasten_0 rfl (lv_at hl 0 rfl) ?_
  refine va_get (D := D) (ci := 9) (v := .ref hw) (C := "WrongHole") (T := TX11) (N := 12) hx hb hts (iq_RX11 _) hown hK hP 0 rfl rfl 4 (by decide) (hT _ qq_1_206) (fun _ h9 => h9) rfl dX11_unfasten_1 ?_
  refine va_getN (D := D) (ci := 8) (v := .null) (C := "WrongHole$Worn") (T := TX10) (N := 9) hx hb hts (iq_RX10 _) hown hK hP 1 rfl rfl 0 (by decide) (NN.f hN nq_1_99) (fun _ h9 => h9) rfl dX11_unfasten_4 ?_
  refine lv_astore_nN (lv' := [(2, .null), (0, .ref ox), (1, .int b)]) hx hb dX11_unfasten_7 rfl hl (by decide) rfl (fun ls hl => ?_)
  refine lv_aload_nN hx hb dX11_unfasten_8 rfl (lv_at hl 0 rfl) ?_
  refine lv_ifnullN (tgt := 35) hx hb dX11_unfasten_9 (by decide) ?_
  refine lv_iconst (v := (-1)) hx hb dX11_unfasten_35 (by decide) ?_
  exact W.iret (v := (-1)) hx hb hr (fun t9 ht9 hW9 => ⟨⟨_, rfl, _, rfl⟩, ht9.trans hHe⟩) (fun _ h9 => by rw [hlc] at h9; exact absurd h9 List.not_mem_nil) dX11_unfasten_36
set_option maxHeartbeats 4000000 in
set_option maxRecDepth 100000 in
theorem c_W_fasten_0 (l : Launch) (D : va_G) (cs : Nat → ClassId) (ox : Nat) (ht : Nat) (hq : Nat) (og : Nat) (rc : Int32) (hw : Nat) (om : Nat) (hp : Nat) (ha : Nat) (hf : Nat) (hw0 : Nat) (qh : Option Nat) (qo : Option Nat) (wk : Int32) (wc : Int32) (wx : Int32) (wn : Int32) (wa0 : Nat) (wa1 : Nat) (wa2 : Nat) (wa3 : Nat) (b : Int32) (h : Int32)  : Met l yX11_fasten (Cond.code yX11_fasten cX11_fasten 4 (some .int) :: TB) (RM 4 0 0) (va_Pc [.ref ox, .int b, .int h] (PRR D cs [(ox, .inr (9, [.ref ht, .ref hq, .ref og, .int rc, .ref hw, .ref om, .ref hp, .ref ha, .ref hf, .ref hw0, va_rf qh, va_rf qo])), (hw, .inr (8, [.null, .int wk, .int wc, .int wx, .int wn, .ref wa0, .ref wa1, .ref wa2, .ref wa3]))])) (QP (fun v => ∃ x : Int32, v = .int x)) 0 0 (fun _ => False) := by
  refine MER (y := yX11_fasten) (cc := cX11_fasten) (maxL := 4) (ret := (some .int)) (d := 4) (D := D) (cs := cs) (ws := [(ox, .inr (9, [.ref ht, .ref hq, .ref og, .int rc, .ref hw, .ref om, .ref hp, .ref ha, .ref hf, .ref hw0, va_rf qh, va_rf qo])), (hw, .inr (8, [.null, .int wk, .int wc, .int wx, .int wn, .ref wa0, .ref wa1, .ref wa2, .ref wa3]))]) (av := [.ref ox, .int b, .int h]) (Qc := QP (fun v => ∃ x : Int32, v = .int x)) (by decide) (Nat.le_of_ble_eq_true rfl) ?_
  intro p e s m below meth c ls H hHe hx hb hr hml hown hts hlocks hP hK hN hl
  obtain ⟨locs, hlc⟩ : ∃ z : List Loc, z = [] := ⟨_, rfl⟩
  rw [← hlc]
  have hown : s.vm.findClass "WrongHole" = some m.cls := hown
  have hT : ∀ w ∈ TB, w.before ([.ref ox, .int b, .int h] : List Value).toArray s = true := fun w h => hts w (List.mem_cons_of_mem _ h)
  have hl : lv_has ls 4 [(0, .ref ox), (1, .int b), (2, .int h)] := hl
  have hP : va_P D vwCl [(ox, .inr (9, [.ref ht, .ref hq, .ref og, .int rc, .ref hw, .ref om, .ref hp, .ref ha, .ref hf, .ref hw0, va_rf qh, va_rf qo])), (hw, .inr (8, [.null, .int wk, .int wc, .int wx, .int wn, .ref wa0, .ref wa1, .ref wa2, .ref wa3]))] H := hP
  refine lv_aload_n hx hb dX11_fasten_0 rfl (lv_at hl 0 rfl) ?_
  refine va_get (D := D) (ci := 9) (v := .ref hw) (C := "WrongHole") (T := TX11) (N := 12) hx hb hts (iq_RX11 _) hown hK hP 0 rfl rfl 4 (by decide) (hT _ qq_1_206) (fun _ h9 => h9) rfl dX11_fasten_1 ?_
  refine va_getN (D := D) (ci := 8) (v := .null) (C := "WrongHole$Worn") (T := TX10) (N := 9) hx hb hts (iq_RX10 _) hown hK hP 1 rfl rfl 0 (by decide) (NN.f hN nq_1_99) (fun _ h9 => h9) rfl dX11_fasten_4 ?_
  refine lv_astore_nN (lv' := [(3, .null), (0, .ref ox), (1, .int b), (2, .int h)]) hx hb dX11_fasten_7 rfl hl (by decide) rfl (fun ls hl => ?_)
  refine lv_aload_nN hx hb dX11_fasten_8 rfl (lv_at hl 0 rfl) ?_
  refine lv_ifnullN (tgt := 44) hx hb dX11_fasten_9 (by decide) ?_
  refine lv_iconst (v := (-1)) hx hb dX11_fasten_44 (by decide) ?_
  exact W.iret (v := (-1)) hx hb hr (fun t9 ht9 hW9 => ⟨⟨_, rfl, _, rfl⟩, ht9.trans hHe⟩) (fun _ h9 => by rw [hlc] at h9; exact absurd h9 List.not_mem_nil) dX11_fasten_45
theorem dX11_soonest_10 : decode cX11_soonest 10 = .ok (.iconst (-1), 1) := by decide +kernel
theorem dX11_soonest_11 : decode cX11_soonest 11 = .ok (.ireturn, 1) := by decide +kernel
set_option maxHeartbeats 4000000 in
set_option maxRecDepth 100000 in
theorem c_W_soonest_0 (l : Launch) (D : va_G) (cs : Nat → ClassId) (ox : Nat) (ht : Nat) (hq : Nat) (og : Nat) (rc : Int32) (hw : Nat) (om : Nat) (hp : Nat) (ha : Nat) (hf : Nat) (hw0 : Nat) (qh : Option Nat) (qo : Option Nat) (wk : Int32) (wc : Int32) (wx : Int32) (wn : Int32) (wa0 : Nat) (wa1 : Nat) (wa2 : Nat) (wa3 : Nat)  : Met l yX11_soonest (Cond.code yX11_soonest cX11_soonest 2 (some .int) :: TB) (RM 7 0 0) (va_Pc [.ref ox] (PRR D cs [(ox, .inr (9, [.ref ht, .ref hq, .ref og, .int rc, .ref hw, .ref om, .ref hp, .ref ha, .ref hf, .ref hw0, va_rf qh, va_rf qo])), (hw, .inr (8, [.null, .int wk, .int wc, .int wx, .int wn, .ref wa0, .ref wa1, .ref wa2, .ref wa3]))])) (QP (fun v => ∃ x : Int32, v = .int x)) 0 0 (fun _ => False) := by
  refine MER (y := yX11_soonest) (cc := cX11_soonest) (maxL := 2) (ret := (some .int)) (d := 7) (D := D) (cs := cs) (ws := [(ox, .inr (9, [.ref ht, .ref hq, .ref og, .int rc, .ref hw, .ref om, .ref hp, .ref ha, .ref hf, .ref hw0, va_rf qh, va_rf qo])), (hw, .inr (8, [.null, .int wk, .int wc, .int wx, .int wn, .ref wa0, .ref wa1, .ref wa2, .ref wa3]))]) (av := [.ref ox]) (Qc := QP (fun v => ∃ x : Int32, v = .int x)) (by decide) (Nat.le_of_ble_eq_true rfl) ?_
  intro p e s m below meth c ls H hHe hx hb hr hml hown hts hlocks hP hK hN hl
  obtain ⟨locs, hlc⟩ : ∃ z : List Loc, z = [] := ⟨_, rfl⟩
  rw [← hlc]
  have hown : s.vm.findClass "WrongHole" = some m.cls := hown
  have hT : ∀ w ∈ TB, w.before ([.ref ox] : List Value).toArray s = true := fun w h => hts w (List.mem_cons_of_mem _ h)
  have hl : lv_has ls 2 [(0, .ref ox)] := hl
  have hP : va_P D vwCl [(ox, .inr (9, [.ref ht, .ref hq, .ref og, .int rc, .ref hw, .ref om, .ref hp, .ref ha, .ref hf, .ref hw0, va_rf qh, va_rf qo])), (hw, .inr (8, [.null, .int wk, .int wc, .int wx, .int wn, .ref wa0, .ref wa1, .ref wa2, .ref wa3]))] H := hP
  refine lv_aload_n hx hb dX11_soonest_0 rfl (lv_at hl 0 rfl) ?_
  refine va_get (D := D) (ci := 9) (v := .ref hw) (C := "WrongHole") (T := TX11) (N := 12) hx hb hts (iq_RX11 _) hown hK hP 0 rfl rfl 4 (by decide) (hT _ qq_1_206) (fun _ h9 => h9) rfl dX11_soonest_1 ?_
  refine va_getN (D := D) (ci := 8) (v := .null) (C := "WrongHole$Worn") (T := TX10) (N := 9) hx hb hts (iq_RX10 _) hown hK hP 1 rfl rfl 0 (by decide) (NN.f hN nq_1_99) (fun _ h9 => h9) rfl dX11_soonest_4 ?_
  refine lv_ifnonnullN hx hb dX11_soonest_7 ?_
  refine lv_iconst (v := (-1)) hx hb dX11_soonest_10 (by decide) ?_
  exact W.iret (v := (-1)) hx hb hr (fun t9 ht9 hW9 => ⟨⟨_, rfl, _, rfl⟩, ht9.trans hHe⟩) (fun _ h9 => by rw [hlc] at h9; exact absurd h9 List.not_mem_nil) dX11_soonest_11
theorem dX11_step_23 : decode cX11_step 23 = .ok (.iconst (-1), 1) := by decide +kernel
theorem dX11_step_24 : decode cX11_step 24 = .ok (.ireturn, 1) := by decide +kernel
set_option maxHeartbeats 4000000 in
set_option maxRecDepth 100000 in
theorem c_W_step_0 (l : Launch) (D : va_G) (cs : Nat → ClassId) (ox : Nat) (ht : Nat) (hq : Nat) (og : Nat) (rc : Int32) (hw : Nat) (om : Nat) (hp : Nat) (ha : Nat) (hf : Nat) (hw0 : Nat) (qh : Option Nat) (qo : Option Nat) (wk : Int32) (wc : Int32) (wx : Int32) (wn : Int32) (wa0 : Nat) (wa1 : Nat) (wa2 : Nat) (wa3 : Nat) (a : Int32) (b : Int32)  : Met l yX11_step (Cond.code yX11_step cX11_step 7 (some .int) :: TB) (RM 7 0 0) (va_Pc [.ref ox, .int a, .int b] (PRR D cs [(ox, .inr (9, [.ref ht, .ref hq, .ref og, .int rc, .ref hw, .ref om, .ref hp, .ref ha, .ref hf, .ref hw0, va_rf qh, va_rf qo])), (hw, .inr (8, [.null, .int wk, .int wc, .int wx, .int wn, .ref wa0, .ref wa1, .ref wa2, .ref wa3]))])) (QP (fun v => ∃ x : Int32, v = .int x)) 0 0 (fun _ => False) := by
  refine MER (y := yX11_step) (cc := cX11_step) (maxL := 7) (ret := (some .int)) (d := 7) (D := D) (cs := cs) (ws := [(ox, .inr (9, [.ref ht, .ref hq, .ref og, .int rc, .ref hw, .ref om, .ref hp, .ref ha, .ref hf, .ref hw0, va_rf qh, va_rf qo])), (hw, .inr (8, [.null, .int wk, .int wc, .int wx, .int wn, .ref wa0, .ref wa1, .ref wa2, .ref wa3]))]) (av := [.ref ox, .int a, .int b]) (Qc := QP (fun v => ∃ x : Int32, v = .int x)) (by decide) (Nat.le_of_ble_eq_true rfl) ?_
  intro p e s m below meth c ls H hHe hx hb hr hml hown hts hlocks hP hK hN hl
  obtain ⟨locs, hlc⟩ : ∃ z : List Loc, z = [] := ⟨_, rfl⟩
  rw [← hlc]
  have hown : s.vm.findClass "WrongHole" = some m.cls := hown
  have hT : ∀ w ∈ TB, w.before ([.ref ox, .int a, .int b] : List Value).toArray s = true := fun w h => hts w (List.mem_cons_of_mem _ h)
  have hl : lv_has ls 7 [(0, .ref ox), (1, .int a), (2, .int b)] := hl
  have hP : va_P D vwCl [(ox, .inr (9, [.ref ht, .ref hq, .ref og, .int rc, .ref hw, .ref om, .ref hp, .ref ha, .ref hf, .ref hw0, va_rf qh, va_rf qo])), (hw, .inr (8, [.null, .int wk, .int wc, .int wx, .int wn, .ref wa0, .ref wa1, .ref wa2, .ref wa3]))] H := hP
  refine lv_aload_n hx hb dX11_step_0 rfl (lv_at hl 0 rfl) ?_
  refine va_get (D := D) (ci := 9) (v := .ref hw) (C := "WrongHole") (T := TX11) (N := 12) hx hb hts (iq_RX11 _) hown hK hP 0 rfl rfl 4 (by decide) (hT _ qq_1_206) (fun _ h9 => h9) rfl dX11_step_1 ?_
  refine va_getN (D := D) (ci := 8) (v := .null) (C := "WrongHole$Worn") (T := TX10) (N := 9) hx hb hts (iq_RX10 _) hown hK hP 1 rfl rfl 0 (by decide) (NN.f hN nq_1_99) (fun _ h9 => h9) rfl dX11_step_4 ?_
  refine lv_ifnullN (tgt := 23) hx hb dX11_step_7 (by decide) ?_
  refine lv_iconst (v := (-1)) hx hb dX11_step_23 (by decide) ?_
  exact W.iret (v := (-1)) hx hb hr (fun t9 ht9 hW9 => ⟨⟨_, rfl, _, rfl⟩, ht9.trans hHe⟩) (fun _ h9 => by rw [hlc] at h9; exact absurd h9 List.not_mem_nil) dX11_step_24
theorem dX11_child_35 : decode cX11_child 35 = .ok (.iconst (-1), 1) := by decide +kernel
theorem dX11_child_36 : decode cX11_child 36 = .ok (.ireturn, 1) := by decide +kernel
set_option maxHeartbeats 4000000 in
set_option maxRecDepth 100000 in
theorem c_W_child_0 (l : Launch) (D : va_G) (cs : Nat → ClassId) (ox : Nat) (ht : Nat) (hq : Nat) (og : Nat) (rc : Int32) (hw : Nat) (om : Nat) (hp : Nat) (ha : Nat) (hf : Nat) (hw0 : Nat) (qh : Option Nat) (qo : Option Nat) (wk : Int32) (wc : Int32) (wx : Int32) (wn : Int32) (wa0 : Nat) (wa1 : Nat) (wa2 : Nat) (wa3 : Nat) (a : Int32) (b : Int32) (h : Int32)  : Met l yX11_child (Cond.code yX11_child cX11_child 10 (some .int) :: TB) (RM 7 0 0) (va_Pc [.ref ox, .int a, .int b, .int h] (PRR D cs [(ox, .inr (9, [.ref ht, .ref hq, .ref og, .int rc, .ref hw, .ref om, .ref hp, .ref ha, .ref hf, .ref hw0, va_rf qh, va_rf qo])), (hw, .inr (8, [.null, .int wk, .int wc, .int wx, .int wn, .ref wa0, .ref wa1, .ref wa2, .ref wa3]))])) (QP (fun v => ∃ x : Int32, v = .int x)) 0 0 (fun _ => False) := by
  refine MER (y := yX11_child) (cc := cX11_child) (maxL := 10) (ret := (some .int)) (d := 7) (D := D) (cs := cs) (ws := [(ox, .inr (9, [.ref ht, .ref hq, .ref og, .int rc, .ref hw, .ref om, .ref hp, .ref ha, .ref hf, .ref hw0, va_rf qh, va_rf qo])), (hw, .inr (8, [.null, .int wk, .int wc, .int wx, .int wn, .ref wa0, .ref wa1, .ref wa2, .ref wa3]))]) (av := [.ref ox, .int a, .int b, .int h]) (Qc := QP (fun v => ∃ x : Int32, v = .int x)) (by decide) (Nat.le_of_ble_eq_true rfl) ?_
  intro p e s m below meth c ls H hHe hx hb hr hml hown hts hlocks hP hK hN hl
  obtain ⟨locs, hlc⟩ : ∃ z : List Loc, z = [] := ⟨_, rfl⟩
  rw [← hlc]
  have hown : s.vm.findClass "WrongHole" = some m.cls := hown
  have hT : ∀ w ∈ TB, w.before ([.ref ox, .int a, .int b, .int h] : List Value).toArray s = true := fun w h => hts w (List.mem_cons_of_mem _ h)
  have hl : lv_has ls 10 [(0, .ref ox), (1, .int a), (2, .int b), (3, .int h)] := hl
  have hP : va_P D vwCl [(ox, .inr (9, [.ref ht, .ref hq, .ref og, .int rc, .ref hw, .ref om, .ref hp, .ref ha, .ref hf, .ref hw0, va_rf qh, va_rf qo])), (hw, .inr (8, [.null, .int wk, .int wc, .int wx, .int wn, .ref wa0, .ref wa1, .ref wa2, .ref wa3]))] H := hP
  refine lv_aload_n hx hb dX11_child_0 rfl (lv_at hl 0 rfl) ?_
  refine va_get (D := D) (ci := 9) (v := .ref hw) (C := "WrongHole") (T := TX11) (N := 12) hx hb hts (iq_RX11 _) hown hK hP 0 rfl rfl 4 (by decide) (hT _ qq_1_206) (fun _ h9 => h9) rfl dX11_child_1 ?_
  refine va_getN (D := D) (ci := 8) (v := .null) (C := "WrongHole$Worn") (T := TX10) (N := 9) hx hb hts (iq_RX10 _) hown hK hP 1 rfl rfl 0 (by decide) (NN.f hN nq_1_99) (fun _ h9 => h9) rfl dX11_child_4 ?_
  refine lv_ifnullN (tgt := 35) hx hb dX11_child_7 (by decide) ?_
  refine lv_iconst (v := (-1)) hx hb dX11_child_35 (by decide) ?_
  exact W.iret (v := (-1)) hx hb hr (fun t9 ht9 hW9 => ⟨⟨_, rfl, _, rfl⟩, ht9.trans hHe⟩) (fun _ h9 => by rw [hlc] at h9; exact absurd h9 List.not_mem_nil) dX11_child_36
theorem dX11_floor_30 : decode cX11_floor 30 = .ok (.iconst (-1), 1) := by decide +kernel
theorem dX11_floor_31 : decode cX11_floor 31 = .ok (.ireturn, 1) := by decide +kernel
set_option maxHeartbeats 4000000 in
set_option maxRecDepth 100000 in
theorem c_W_floor_0 (l : Launch) (D : va_G) (cs : Nat → ClassId) (ox : Nat) (ht : Nat) (hq : Nat) (og : Nat) (rc : Int32) (hw : Nat) (om : Nat) (hp : Nat) (ha : Nat) (hf : Nat) (hw0 : Nat) (qh : Option Nat) (qo : Option Nat) (wk : Int32) (wc : Int32) (wx : Int32) (wn : Int32) (wa0 : Nat) (wa1 : Nat) (wa2 : Nat) (wa3 : Nat) (a : Int32) (b : Int32)  : Met l yX11_floor (Cond.code yX11_floor cX11_floor 3 (some .int) :: TB) (RM 6 0 0) (va_Pc [.ref ox, .int a, .int b] (PRR D cs [(ox, .inr (9, [.ref ht, .ref hq, .ref og, .int rc, .ref hw, .ref om, .ref hp, .ref ha, .ref hf, .ref hw0, va_rf qh, va_rf qo])), (hw, .inr (8, [.null, .int wk, .int wc, .int wx, .int wn, .ref wa0, .ref wa1, .ref wa2, .ref wa3]))])) (QP (fun v => ∃ x : Int32, v = .int x)) 0 0 (fun _ => False) := by
  refine MER (y := yX11_floor) (cc := cX11_floor) (maxL := 3) (ret := (some .int)) (d := 6) (D := D) (cs := cs) (ws := [(ox, .inr (9, [.ref ht, .ref hq, .ref og, .int rc, .ref hw, .ref om, .ref hp, .ref ha, .ref hf, .ref hw0, va_rf qh, va_rf qo])), (hw, .inr (8, [.null, .int wk, .int wc, .int wx, .int wn, .ref wa0, .ref wa1, .ref wa2, .ref wa3]))]) (av := [.ref ox, .int a, .int b]) (Qc := QP (fun v => ∃ x : Int32, v = .int x)) (by decide) (Nat.le_of_ble_eq_true rfl) ?_
  intro p e s m below meth c ls H hHe hx hb hr hml hown hts hlocks hP hK hN hl
  obtain ⟨locs, hlc⟩ : ∃ z : List Loc, z = [] := ⟨_, rfl⟩
  rw [← hlc]
  have hown : s.vm.findClass "WrongHole" = some m.cls := hown
  have hT : ∀ w ∈ TB, w.before ([.ref ox, .int a, .int b] : List Value).toArray s = true := fun w h => hts w (List.mem_cons_of_mem _ h)
  have hl : lv_has ls 3 [(0, .ref ox), (1, .int a), (2, .int b)] := hl
  have hP : va_P D vwCl [(ox, .inr (9, [.ref ht, .ref hq, .ref og, .int rc, .ref hw, .ref om, .ref hp, .ref ha, .ref hf, .ref hw0, va_rf qh, va_rf qo])), (hw, .inr (8, [.null, .int wk, .int wc, .int wx, .int wn, .ref wa0, .ref wa1, .ref wa2, .ref wa3]))] H := hP
  refine lv_aload_n hx hb dX11_floor_0 rfl (lv_at hl 0 rfl) ?_
  refine va_get (D := D) (ci := 9) (v := .ref hw) (C := "WrongHole") (T := TX11) (N := 12) hx hb hts (iq_RX11 _) hown hK hP 0 rfl rfl 4 (by decide) (hT _ qq_1_206) (fun _ h9 => h9) rfl dX11_floor_1 ?_
  refine va_getN (D := D) (ci := 8) (v := .null) (C := "WrongHole$Worn") (T := TX10) (N := 9) hx hb hts (iq_RX10 _) hown hK hP 1 rfl rfl 0 (by decide) (NN.f hN nq_1_99) (fun _ h9 => h9) rfl dX11_floor_4 ?_
  refine lv_ifnullN (tgt := 30) hx hb dX11_floor_7 (by decide) ?_
  refine lv_iconst (v := (-1)) hx hb dX11_floor_30 (by decide) ?_
  exact W.iret (v := (-1)) hx hb hr (fun t9 ht9 hW9 => ⟨⟨_, rfl, _, rfl⟩, ht9.trans hHe⟩) (fun _ h9 => by rw [hlc] at h9; exact absurd h9 List.not_mem_nil) dX11_floor_31
set_option maxHeartbeats 4000000 in
set_option maxRecDepth 100000 in
theorem c_W_step_b (l : Launch) (D : va_G) (cs : Nat → ClassId) (ox : Nat) (ht : Nat) (hq : Nat) (og : Nat) (rc : Int32) (hw : Nat) (om : Nat) (hp : Nat) (ha : Nat) (hf : Nat) (hw0 : Nat) (qh : Option Nat) (qo : Option Nat) (wk : Int32) (wc : Int32) (wx : Int32) (wn : Int32) (wa0 : Nat) (wa1 : Nat) (wa2 : Nat) (wa3 : Nat) (hl8 : Nat) (a : Int32) (b : Int32) (hbx : ¬ a < 0 → ¬ b < 0 → b ≤ 2 → False) : Met l yX11_step (Cond.code yX11_step cX11_step 7 (some .int) :: TB) (RM 7 0 0) (va_Pc [.ref ox, .int a, .int b] (PRR D cs [(ox, .inr (9, [.ref ht, .ref hq, .ref og, .int rc, .ref hw, .ref om, .ref hp, .ref ha, .ref hf, .ref hw0, va_rf qh, va_rf qo])), (hw, .inr (8, [.ref hl8, .int wk, .int wc, .int wx, .int wn, .ref wa0, .ref wa1, .ref wa2, .ref wa3]))])) (QP (fun v => ∃ x : Int32, v = .int x)) 0 0 (fun _ => False) := by
  refine MER (y := yX11_step) (cc := cX11_step) (maxL := 7) (ret := (some .int)) (d := 7) (D := D) (cs := cs) (ws := [(ox, .inr (9, [.ref ht, .ref hq, .ref og, .int rc, .ref hw, .ref om, .ref hp, .ref ha, .ref hf, .ref hw0, va_rf qh, va_rf qo])), (hw, .inr (8, [.ref hl8, .int wk, .int wc, .int wx, .int wn, .ref wa0, .ref wa1, .ref wa2, .ref wa3]))]) (av := [.ref ox, .int a, .int b]) (Qc := QP (fun v => ∃ x : Int32, v = .int x)) (by decide) (Nat.le_of_ble_eq_true rfl) ?_
  intro p e s m below meth c ls H hHe hx hb hr hml hown hts hlocks hP hK hN hl
  obtain ⟨locs, hlc⟩ : ∃ z : List Loc, z = [] := ⟨_, rfl⟩
  rw [← hlc]
  have hown : s.vm.findClass "WrongHole" = some m.cls := hown
  have hT : ∀ w ∈ TB, w.before ([.ref ox, .int a, .int b] : List Value).toArray s = true := fun w h => hts w (List.mem_cons_of_mem _ h)
  have hl : lv_has ls 7 [(0, .ref ox), (1, .int a), (2, .int b)] := hl
  have hP : va_P D vwCl [(ox, .inr (9, [.ref ht, .ref hq, .ref og, .int rc, .ref hw, .ref om, .ref hp, .ref ha, .ref hf, .ref hw0, va_rf qh, va_rf qo])), (hw, .inr (8, [.ref hl8, .int wk, .int wc, .int wx, .int wn, .ref wa0, .ref wa1, .ref wa2, .ref wa3]))] H := hP
  refine lv_aload_n hx hb dX11_step_0 rfl (lv_at hl 0 rfl) ?_
  refine va_get (D := D) (ci := 9) (v := .ref hw) (C := "WrongHole") (T := TX11) (N := 12) hx hb hts (iq_RX11 _) hown hK hP 0 rfl rfl 4 (by decide) (hT _ qq_1_206) (fun _ h9 => h9) rfl dX11_step_1 ?_
  refine va_getN (D := D) (ci := 8) (v := .ref hl8) (C := "WrongHole$Worn") (T := TX10) (N := 9) hx hb hts (iq_RX10 _) hown hK hP 1 rfl rfl 0 (by decide) (NN.f hN nq_1_99) (fun _ h9 => h9) rfl dX11_step_4 ?_
  refine lv_ifnull hx hb dX11_step_7 ?_
  refine lv_iload_n hx hb dX11_step_10 rfl (lv_at hl 1 rfl) ?_
  refine lv_if_lt (tgt := 23) hx hb dX11_step_11 (by decide) (fun c_1 => ?_) (fun c_1 => ?_)
  · have r_2 : Rg (-2147483648) (-1) a := Rg.lt_l c_1 (Rg.top a) (Rg.c (c := 0) (k := 0) rfl) (by decide)
    refine lv_iconst (v := (-1)) hx hb dX11_step_23 (by decide) ?_
    exact W.iret (v := (-1)) hx hb hr (fun t9 ht9 hW9 => ⟨⟨_, rfl, _, rfl⟩, ht9.trans hHe⟩) (fun _ h9 => by rw [hlc] at h9; exact absurd h9 List.not_mem_nil) dX11_step_24
  · have r_3 : Rg 0 2147483647 a := Rg.le_r (nlt_le c_1) (Rg.c (c := 0) (k := 0) rfl) (Rg.top a) (by decide)
    refine lv_iload_n hx hb dX11_step_14 rfl (lv_at hl 2 rfl) ?_
    refine lv_if_lt (tgt := 23) hx hb dX11_step_15 (by decide) (fun c_4 => ?_) (fun c_4 => ?_)
    · have r_5 : Rg (-2147483648) (-1) b := Rg.lt_l c_4 (Rg.top b) (Rg.c (c := 0) (k := 0) rfl) (by decide)
      refine lv_iconst (v := (-1)) hx hb dX11_step_23 (by decide) ?_
      exact W.iret (v := (-1)) hx hb hr (fun t9 ht9 hW9 => ⟨⟨_, rfl, _, rfl⟩, ht9.trans hHe⟩) (fun _ h9 => by rw [hlc] at h9; exact absurd h9 List.not_mem_nil) dX11_step_24
    · have r_6 : Rg 0 2147483647 b := Rg.le_r (nlt_le c_4) (Rg.c (c := 0) (k := 0) rfl) (Rg.top b) (by decide)
      refine lv_iload_n hx hb dX11_step_18 rfl (lv_at hl 2 rfl) ?_
      refine lv_iconst (v := 2) hx hb dX11_step_19 (by decide) ?_
      refine lv_icmp_le (tgt := 25) hx hb dX11_step_20 (by decide) (fun c_7 => ?_) (fun c_7 => ?_)
      · have r_8 : Rg 0 2 b := Rg.le_l c_7 r_6 (Rg.c (c := 2) (k := 2) rfl) (by decide)
        exact (hbx c_1 c_4 c_7).elim
      · have r_9 : Rg 3 2147483647 b := Rg.lt_r (nle_lt c_7) (Rg.c (c := 2) (k := 2) rfl) r_6 (by decide)
        refine lv_iconst (v := (-1)) hx hb dX11_step_23 (by decide) ?_
        exact W.iret (v := (-1)) hx hb hr (fun t9 ht9 hW9 => ⟨⟨_, rfl, _, rfl⟩, ht9.trans hHe⟩) (fun _ h9 => by rw [hlc] at h9; exact absurd h9 List.not_mem_nil) dX11_step_24
set_option maxHeartbeats 4000000 in
set_option maxRecDepth 100000 in
theorem c_W_child_b (l : Launch) (D : va_G) (cs : Nat → ClassId) (ox : Nat) (ht : Nat) (hq : Nat) (og : Nat) (rc : Int32) (hw : Nat) (om : Nat) (hp : Nat) (ha : Nat) (hf : Nat) (hw0 : Nat) (qh : Option Nat) (qo : Option Nat) (wk : Int32) (wc : Int32) (wx : Int32) (wn : Int32) (wa0 : Nat) (wa1 : Nat) (wa2 : Nat) (wa3 : Nat) (hl8 : Nat) (a : Int32) (b : Int32) (h : Int32) (hbx : ¬ a < 1 → ¬ 9 < b → ¬ b < a → ¬ h < 0 → h ≤ 1 → False) : Met l yX11_child (Cond.code yX11_child cX11_child 10 (some .int) :: TB) (RM 7 0 0) (va_Pc [.ref ox, .int a, .int b, .int h] (PRR D cs [(ox, .inr (9, [.ref ht, .ref hq, .ref og, .int rc, .ref hw, .ref om, .ref hp, .ref ha, .ref hf, .ref hw0, va_rf qh, va_rf qo])), (hw, .inr (8, [.ref hl8, .int wk, .int wc, .int wx, .int wn, .ref wa0, .ref wa1, .ref wa2, .ref wa3]))])) (QP (fun v => ∃ x : Int32, v = .int x)) 0 0 (fun _ => False) := by
  refine MER (y := yX11_child) (cc := cX11_child) (maxL := 10) (ret := (some .int)) (d := 7) (D := D) (cs := cs) (ws := [(ox, .inr (9, [.ref ht, .ref hq, .ref og, .int rc, .ref hw, .ref om, .ref hp, .ref ha, .ref hf, .ref hw0, va_rf qh, va_rf qo])), (hw, .inr (8, [.ref hl8, .int wk, .int wc, .int wx, .int wn, .ref wa0, .ref wa1, .ref wa2, .ref wa3]))]) (av := [.ref ox, .int a, .int b, .int h]) (Qc := QP (fun v => ∃ x : Int32, v = .int x)) (by decide) (Nat.le_of_ble_eq_true rfl) ?_
  intro p e s m below meth c ls H hHe hx hb hr hml hown hts hlocks hP hK hN hl
  obtain ⟨locs, hlc⟩ : ∃ z : List Loc, z = [] := ⟨_, rfl⟩
  rw [← hlc]
  have hown : s.vm.findClass "WrongHole" = some m.cls := hown
  have hT : ∀ w ∈ TB, w.before ([.ref ox, .int a, .int b, .int h] : List Value).toArray s = true := fun w h => hts w (List.mem_cons_of_mem _ h)
  have hl : lv_has ls 10 [(0, .ref ox), (1, .int a), (2, .int b), (3, .int h)] := hl
  have hP : va_P D vwCl [(ox, .inr (9, [.ref ht, .ref hq, .ref og, .int rc, .ref hw, .ref om, .ref hp, .ref ha, .ref hf, .ref hw0, va_rf qh, va_rf qo])), (hw, .inr (8, [.ref hl8, .int wk, .int wc, .int wx, .int wn, .ref wa0, .ref wa1, .ref wa2, .ref wa3]))] H := hP
  refine lv_aload_n hx hb dX11_child_0 rfl (lv_at hl 0 rfl) ?_
  refine va_get (D := D) (ci := 9) (v := .ref hw) (C := "WrongHole") (T := TX11) (N := 12) hx hb hts (iq_RX11 _) hown hK hP 0 rfl rfl 4 (by decide) (hT _ qq_1_206) (fun _ h9 => h9) rfl dX11_child_1 ?_
  refine va_getN (D := D) (ci := 8) (v := .ref hl8) (C := "WrongHole$Worn") (T := TX10) (N := 9) hx hb hts (iq_RX10 _) hown hK hP 1 rfl rfl 0 (by decide) (NN.f hN nq_1_99) (fun _ h9 => h9) rfl dX11_child_4 ?_
  refine lv_ifnull hx hb dX11_child_7 ?_
  refine lv_iload_n hx hb dX11_child_10 rfl (lv_at hl 1 rfl) ?_
  refine lv_iconst (v := 1) hx hb dX11_child_11 (by decide) ?_
  refine lv_icmp_lt (tgt := 35) hx hb dX11_child_12 (by decide) (fun c_1 => ?_) (fun c_1 => ?_)
  · have r_2 : Rg (-2147483648) 0 a := Rg.lt_l c_1 (Rg.top a) (Rg.c (c := 1) (k := 1) rfl) (by decide)
    refine lv_iconst (v := (-1)) hx hb dX11_child_35 (by decide) ?_
    exact W.iret (v := (-1)) hx hb hr (fun t9 ht9 hW9 => ⟨⟨_, rfl, _, rfl⟩, ht9.trans hHe⟩) (fun _ h9 => by rw [hlc] at h9; exact absurd h9 List.not_mem_nil) dX11_child_36
  · have r_3 : Rg 1 2147483647 a := Rg.le_r (nlt_le c_1) (Rg.c (c := 1) (k := 1) rfl) (Rg.top a) (by decide)
    refine lv_iload_n hx hb dX11_child_15 rfl (lv_at hl 2 rfl) ?_
    refine lv_bipush (v := 9) hx hb dX11_child_16 (by decide) ?_
    refine lv_icmp_gt (tgt := 35) hx hb dX11_child_18 (by decide) (fun c_4 => ?_) (fun c_4 => ?_)
    · have r_5 : Rg 10 2147483647 b := Rg.lt_r c_4 (Rg.c (c := 9) (k := 9) rfl) (Rg.top b) (by decide)
      refine lv_iconst (v := (-1)) hx hb dX11_child_35 (by decide) ?_
      exact W.iret (v := (-1)) hx hb hr (fun t9 ht9 hW9 => ⟨⟨_, rfl, _, rfl⟩, ht9.trans hHe⟩) (fun _ h9 => by rw [hlc] at h9; exact absurd h9 List.not_mem_nil) dX11_child_36
    · have r_6 : Rg (-2147483648) 9 b := Rg.le_l (nlt_le c_4) (Rg.top b) (Rg.c (c := 9) (k := 9) rfl) (by decide)
      refine lv_iload_n hx hb dX11_child_21 rfl (lv_at hl 1 rfl) ?_
      refine lv_iload_n hx hb dX11_child_22 rfl (lv_at hl 2 rfl) ?_
      refine lv_icmp_gt (tgt := 35) hx hb dX11_child_23 (by decide) (fun c_7 => ?_) (fun c_7 => ?_)
      · refine lv_iconst (v := (-1)) hx hb dX11_child_35 (by decide) ?_
        exact W.iret (v := (-1)) hx hb hr (fun t9 ht9 hW9 => ⟨⟨_, rfl, _, rfl⟩, ht9.trans hHe⟩) (fun _ h9 => by rw [hlc] at h9; exact absurd h9 List.not_mem_nil) dX11_child_36
      · have r_8 : Rg 1 9 a := Rg.le_l (nlt_le c_7) r_3 r_6 (by decide)
        have r_9 : Rg 1 9 b := Rg.le_r (nlt_le c_7) r_3 r_6 (by decide)
        refine lv_iload_n hx hb dX11_child_26 rfl (lv_at hl 3 rfl) ?_
        refine lv_if_lt (tgt := 35) hx hb dX11_child_27 (by decide) (fun c_10 => ?_) (fun c_10 => ?_)
        · have r_11 : Rg (-2147483648) (-1) h := Rg.lt_l c_10 (Rg.top h) (Rg.c (c := 0) (k := 0) rfl) (by decide)
          refine lv_iconst (v := (-1)) hx hb dX11_child_35 (by decide) ?_
          exact W.iret (v := (-1)) hx hb hr (fun t9 ht9 hW9 => ⟨⟨_, rfl, _, rfl⟩, ht9.trans hHe⟩) (fun _ h9 => by rw [hlc] at h9; exact absurd h9 List.not_mem_nil) dX11_child_36
        · have r_12 : Rg 0 2147483647 h := Rg.le_r (nlt_le c_10) (Rg.c (c := 0) (k := 0) rfl) (Rg.top h) (by decide)
          refine lv_iload_n hx hb dX11_child_30 rfl (lv_at hl 3 rfl) ?_
          refine lv_iconst (v := 1) hx hb dX11_child_31 (by decide) ?_
          refine lv_icmp_le (tgt := 37) hx hb dX11_child_32 (by decide) (fun c_13 => ?_) (fun c_13 => ?_)
          · have r_14 : Rg 0 1 h := Rg.le_l c_13 r_12 (Rg.c (c := 1) (k := 1) rfl) (by decide)
            exact (hbx c_1 c_4 c_7 c_10 c_13).elim
          · have r_15 : Rg 2 2147483647 h := Rg.lt_r (nle_lt c_13) (Rg.c (c := 1) (k := 1) rfl) r_12 (by decide)
            refine lv_iconst (v := (-1)) hx hb dX11_child_35 (by decide) ?_
            exact W.iret (v := (-1)) hx hb hr (fun t9 ht9 hW9 => ⟨⟨_, rfl, _, rfl⟩, ht9.trans hHe⟩) (fun _ h9 => by rw [hlc] at h9; exact absurd h9 List.not_mem_nil) dX11_child_36
set_option maxHeartbeats 4000000 in
set_option maxRecDepth 100000 in
theorem c_W_floor_b (l : Launch) (D : va_G) (cs : Nat → ClassId) (ox : Nat) (ht : Nat) (hq : Nat) (og : Nat) (rc : Int32) (hw : Nat) (om : Nat) (hp : Nat) (ha : Nat) (hf : Nat) (hw0 : Nat) (qh : Option Nat) (qo : Option Nat) (wk : Int32) (wc : Int32) (wx : Int32) (wn : Int32) (wa0 : Nat) (wa1 : Nat) (wa2 : Nat) (wa3 : Nat) (hl8 : Nat) (a : Int32) (b : Int32) (hbx : ¬ a < 0 → ¬ 300 < a → ¬ b < 0 → b ≤ 2 → False) : Met l yX11_floor (Cond.code yX11_floor cX11_floor 3 (some .int) :: TB) (RM 6 0 0) (va_Pc [.ref ox, .int a, .int b] (PRR D cs [(ox, .inr (9, [.ref ht, .ref hq, .ref og, .int rc, .ref hw, .ref om, .ref hp, .ref ha, .ref hf, .ref hw0, va_rf qh, va_rf qo])), (hw, .inr (8, [.ref hl8, .int wk, .int wc, .int wx, .int wn, .ref wa0, .ref wa1, .ref wa2, .ref wa3]))])) (QP (fun v => ∃ x : Int32, v = .int x)) 0 0 (fun _ => False) := by
  refine MER (y := yX11_floor) (cc := cX11_floor) (maxL := 3) (ret := (some .int)) (d := 6) (D := D) (cs := cs) (ws := [(ox, .inr (9, [.ref ht, .ref hq, .ref og, .int rc, .ref hw, .ref om, .ref hp, .ref ha, .ref hf, .ref hw0, va_rf qh, va_rf qo])), (hw, .inr (8, [.ref hl8, .int wk, .int wc, .int wx, .int wn, .ref wa0, .ref wa1, .ref wa2, .ref wa3]))]) (av := [.ref ox, .int a, .int b]) (Qc := QP (fun v => ∃ x : Int32, v = .int x)) (by decide) (Nat.le_of_ble_eq_true rfl) ?_
  intro p e s m below meth c ls H hHe hx hb hr hml hown hts hlocks hP hK hN hl
  obtain ⟨locs, hlc⟩ : ∃ z : List Loc, z = [] := ⟨_, rfl⟩
  rw [← hlc]
  have hown : s.vm.findClass "WrongHole" = some m.cls := hown
  have hT : ∀ w ∈ TB, w.before ([.ref ox, .int a, .int b] : List Value).toArray s = true := fun w h => hts w (List.mem_cons_of_mem _ h)
  have hl : lv_has ls 3 [(0, .ref ox), (1, .int a), (2, .int b)] := hl
  have hP : va_P D vwCl [(ox, .inr (9, [.ref ht, .ref hq, .ref og, .int rc, .ref hw, .ref om, .ref hp, .ref ha, .ref hf, .ref hw0, va_rf qh, va_rf qo])), (hw, .inr (8, [.ref hl8, .int wk, .int wc, .int wx, .int wn, .ref wa0, .ref wa1, .ref wa2, .ref wa3]))] H := hP
  refine lv_aload_n hx hb dX11_floor_0 rfl (lv_at hl 0 rfl) ?_
  refine va_get (D := D) (ci := 9) (v := .ref hw) (C := "WrongHole") (T := TX11) (N := 12) hx hb hts (iq_RX11 _) hown hK hP 0 rfl rfl 4 (by decide) (hT _ qq_1_206) (fun _ h9 => h9) rfl dX11_floor_1 ?_
  refine va_getN (D := D) (ci := 8) (v := .ref hl8) (C := "WrongHole$Worn") (T := TX10) (N := 9) hx hb hts (iq_RX10 _) hown hK hP 1 rfl rfl 0 (by decide) (NN.f hN nq_1_99) (fun _ h9 => h9) rfl dX11_floor_4 ?_
  refine lv_ifnull hx hb dX11_floor_7 ?_
  refine lv_iload_n hx hb dX11_floor_10 rfl (lv_at hl 1 rfl) ?_
  refine lv_if_lt (tgt := 30) hx hb dX11_floor_11 (by decide) (fun c_1 => ?_) (fun c_1 => ?_)
  · have r_2 : Rg (-2147483648) (-1) a := Rg.lt_l c_1 (Rg.top a) (Rg.c (c := 0) (k := 0) rfl) (by decide)
    refine lv_iconst (v := (-1)) hx hb dX11_floor_30 (by decide) ?_
    exact W.iret (v := (-1)) hx hb hr (fun t9 ht9 hW9 => ⟨⟨_, rfl, _, rfl⟩, ht9.trans hHe⟩) (fun _ h9 => by rw [hlc] at h9; exact absurd h9 List.not_mem_nil) dX11_floor_31
  · have r_3 : Rg 0 2147483647 a := Rg.le_r (nlt_le c_1) (Rg.c (c := 0) (k := 0) rfl) (Rg.top a) (by decide)
    refine lv_iload_n hx hb dX11_floor_14 rfl (lv_at hl 1 rfl) ?_
    refine lv_sipush (v := 300) hx hb dX11_floor_15 (by decide) ?_
    refine lv_icmp_gt (tgt := 30) hx hb dX11_floor_18 (by decide) (fun c_4 => ?_) (fun c_4 => ?_)
    · have r_5 : Rg 301 2147483647 a := Rg.lt_r c_4 (Rg.c (c := 300) (k := 300) rfl) r_3 (by decide)
      refine lv_iconst (v := (-1)) hx hb dX11_floor_30 (by decide) ?_
      exact W.iret (v := (-1)) hx hb hr (fun t9 ht9 hW9 => ⟨⟨_, rfl, _, rfl⟩, ht9.trans hHe⟩) (fun _ h9 => by rw [hlc] at h9; exact absurd h9 List.not_mem_nil) dX11_floor_31
    · have r_6 : Rg 0 300 a := Rg.le_l (nlt_le c_4) r_3 (Rg.c (c := 300) (k := 300) rfl) (by decide)
      refine lv_iload_n hx hb dX11_floor_21 rfl (lv_at hl 2 rfl) ?_
      refine lv_if_lt (tgt := 30) hx hb dX11_floor_22 (by decide) (fun c_7 => ?_) (fun c_7 => ?_)
      · have r_8 : Rg (-2147483648) (-1) b := Rg.lt_l c_7 (Rg.top b) (Rg.c (c := 0) (k := 0) rfl) (by decide)
        refine lv_iconst (v := (-1)) hx hb dX11_floor_30 (by decide) ?_
        exact W.iret (v := (-1)) hx hb hr (fun t9 ht9 hW9 => ⟨⟨_, rfl, _, rfl⟩, ht9.trans hHe⟩) (fun _ h9 => by rw [hlc] at h9; exact absurd h9 List.not_mem_nil) dX11_floor_31
      · have r_9 : Rg 0 2147483647 b := Rg.le_r (nlt_le c_7) (Rg.c (c := 0) (k := 0) rfl) (Rg.top b) (by decide)
        refine lv_iload_n hx hb dX11_floor_25 rfl (lv_at hl 2 rfl) ?_
        refine lv_iconst (v := 2) hx hb dX11_floor_26 (by decide) ?_
        refine lv_icmp_le (tgt := 32) hx hb dX11_floor_27 (by decide) (fun c_10 => ?_) (fun c_10 => ?_)
        · have r_11 : Rg 0 2 b := Rg.le_l c_10 r_9 (Rg.c (c := 2) (k := 2) rfl) (by decide)
          exact (hbx c_1 c_4 c_7 c_10).elim
        · have r_12 : Rg 3 2147483647 b := Rg.lt_r (nle_lt c_10) (Rg.c (c := 2) (k := 2) rfl) r_9 (by decide)
          refine lv_iconst (v := (-1)) hx hb dX11_floor_30 (by decide) ?_
          exact W.iret (v := (-1)) hx hb hr (fun t9 ht9 hW9 => ⟨⟨_, rfl, _, rfl⟩, ht9.trans hHe⟩) (fun _ h9 => by rw [hlc] at h9; exact absurd h9 List.not_mem_nil) dX11_floor_31
set_option maxHeartbeats 4000000 in
set_option maxRecDepth 100000 in
theorem c_W_seed_x (l : Launch) (D : va_G) (cs : Nat → ClassId) (X : XX) (sz : Nat) (ox : Nat) (ht : Nat) (hq : Nat) (og : Nat) (rc : Int32) (hw : Nat) (om : Nat) (hp : Nat) (ha : Nat) (hf : Nat) (hw0 : Nat) (qh : Option Nat) (qo : Option Nat) (wk : Int32) (wc : Int32) (wx : Int32) (wn : Int32) (wa0 : Nat) (wa1 : Nat) (wa2 : Nat) (wa3 : Nat) (ql : Option Nat) (a : Int32)  : Met l yX11_seed (Cond.code yX11_seed cX11_seed 3 (some .int) :: TB) (RM 0 0 0) (va_Pc [.ref ox, .int a] (PRE D cs X [(ox, .inr (9, [.ref ht, .ref hq, .ref og, .int rc, .ref hw, .ref om, .ref hp, .ref ha, .ref hf, .ref hw0, va_rf qh, va_rf qo])), (hw, .inr (8, [va_rf ql, .int wk, .int wc, .int wx, .int wn, .ref wa0, .ref wa1, .ref wa2, .ref wa3]))] [] sz)) (va_Qi (S := Unit) (fun r _ => r = if a < 0 then -1 else wx) (fun _ t => ∃ (wx2 : Int32), (wx2 = if a < 0 then wx else a) ∧ va_P D vwCl [(ox, .inr (9, [.ref ht, .ref hq, .ref og, .int rc, .ref hw, .ref om, .ref hp, .ref ha, .ref hf, .ref hw0, va_rf qh, va_rf qo])), (hw, .inr (8, [va_rf ql, .int wk, .int wc, .int wx2, .int wn, .ref wa0, .ref wa1, .ref wa2, .ref wa3]))] t.heap ∧ va_D (va_A [(ox, .inr (9, [.ref ht, .ref hq, .ref og, .int rc, .ref hw, .ref om, .ref hp, .ref ha, .ref hf, .ref hw0, va_rf qh, va_rf qo])), (hw, .inr (8, [va_rf ql, .int wk, .int wc, .int wx, .int wn, .ref wa0, .ref wa1, .ref wa2, .ref wa3]))] sz) [(ox, .inr (9, [.ref ht, .ref hq, .ref og, .int rc, .ref hw, .ref om, .ref hp, .ref ha, .ref hf, .ref hw0, va_rf qh, va_rf qo])), (hw, .inr (8, [va_rf ql, .int wk, .int wc, .int wx2, .int wn, .ref wa0, .ref wa1, .ref wa2, .ref wa3]))]) (va_A [(ox, .inr (9, [.ref ht, .ref hq, .ref og, .int rc, .ref hw, .ref om, .ref hp, .ref ha, .ref hf, .ref hw0, va_rf qh, va_rf qo])), (hw, .inr (8, [va_rf ql, .int wk, .int wc, .int wx, .int wn, .ref wa0, .ref wa1, .ref wa2, .ref wa3]))] sz)) 0 0 (va_A [(ox, .inr (9, [.ref ht, .ref hq, .ref og, .int rc, .ref hw, .ref om, .ref hp, .ref ha, .ref hf, .ref hw0, va_rf qh, va_rf qo])), (hw, .inr (8, [va_rf ql, .int wk, .int wc, .int wx, .int wn, .ref wa0, .ref wa1, .ref wa2, .ref wa3]))] sz) := by
  refine MET (y := yX11_seed) (cc := cX11_seed) (maxL := 3) (ret := (some .int)) (d := 0) (mc := 0) (ms := 0) (D := D) (cs := cs) (X := X) (ws := [(ox, .inr (9, [.ref ht, .ref hq, .ref og, .int rc, .ref hw, .ref om, .ref hp, .ref ha, .ref hf, .ref hw0, va_rf qh, va_rf qo])), (hw, .inr (8, [va_rf ql, .int wk, .int wc, .int wx, .int wn, .ref wa0, .ref wa1, .ref wa2, .ref wa3]))]) (wo := []) (sz := sz) (av := [.ref ox, .int a]) (Qc := fun A => va_Qi (S := Unit) (fun r _ => r = if a < 0 then -1 else wx) (fun _ t => ∃ (wx2 : Int32), (wx2 = if a < 0 then wx else a) ∧ va_P D vwCl [(ox, .inr (9, [.ref ht, .ref hq, .ref og, .int rc, .ref hw, .ref om, .ref hp, .ref ha, .ref hf, .ref hw0, va_rf qh, va_rf qo])), (hw, .inr (8, [va_rf ql, .int wk, .int wc, .int wx2, .int wn, .ref wa0, .ref wa1, .ref wa2, .ref wa3]))] t.heap ∧ va_D A [(ox, .inr (9, [.ref ht, .ref hq, .ref og, .int rc, .ref hw, .ref om, .ref hp, .ref ha, .ref hf, .ref hw0, va_rf qh, va_rf qo])), (hw, .inr (8, [va_rf ql, .int wk, .int wc, .int wx2, .int wn, .ref wa0, .ref wa1, .ref wa2, .ref wa3]))]) A) (by decide) (Nat.le_of_ble_eq_true rfl) ?_
  intro p e s m below meth c ls A H hHe hx hb hr hml hown hts hlocks hnm hP hK hD hA hS hN hR hX hXs hl
  have hD : va_D A [(ox, .inr (9, [.ref ht, .ref hq, .ref og, .int rc, .ref hw, .ref om, .ref hp, .ref ha, .ref hf, .ref hw0, va_rf qh, va_rf qo])), (hw, .inr (8, [va_rf ql, .int wk, .int wc, .int wx, .int wn, .ref wa0, .ref wa1, .ref wa2, .ref wa3]))] := hD
  obtain ⟨locs, hlc⟩ : ∃ z : List Loc, z = [] := ⟨_, rfl⟩
  rw [← hlc] at hS ⊢
  have hown : s.vm.findClass "WrongHole" = some m.cls := hown
  have hT : ∀ w ∈ TB, w.before ([.ref ox, .int a] : List Value).toArray s = true := fun w h => hts w (List.mem_cons_of_mem _ h)
  have hl : lv_has ls 3 [(0, .ref ox), (1, .int a)] := hl
  have hP : va_P D vwCl [(ox, .inr (9, [.ref ht, .ref hq, .ref og, .int rc, .ref hw, .ref om, .ref hp, .ref ha, .ref hf, .ref hw0, va_rf qh, va_rf qo])), (hw, .inr (8, [va_rf ql, .int wk, .int wc, .int wx, .int wn, .ref wa0, .ref wa1, .ref wa2, .ref wa3]))] H := hP
  refine lv_iload_n hx hb dX11_seed_0 rfl (lv_at hl 1 rfl) ?_
  refine lv_if_ge (tgt := 6) hx hb dX11_seed_1 (by decide) (fun c_1 => ?_) (fun c_1 => ?_)
  · have r_2 : Rg 0 2147483647 a := Rg.le_r c_1 (Rg.c (c := 0) (k := 0) rfl) (Rg.top a) (by decide)
    refine lv_aload_n hx hb dX11_seed_6 rfl (lv_at hl 0 rfl) ?_
    refine va_get (D := D) (ci := 9) (v := .ref hw) (C := "WrongHole") (T := TX11) (N := 12) hx hb hts (iq_RX11 _) hown hK hP 0 rfl rfl 4 (by decide) (hT _ qq_1_206) (fun _ h9 => h9) rfl dX11_seed_7 ?_
    refine va_getN (D := D) (ci := 8) (v := .int wx) (C := "WrongHole$Worn") (T := TX10) (N := 9) hx hb hts (iq_RX10 _) hown hK hP 1 rfl rfl 3 (by decide) (NN.f hN nq_1_105) (fun _ h9 => h9) rfl dX11_seed_10 ?_
    refine lv_istore_n (lv' := [(2, .int wx), (0, .ref ox), (1, .int a)]) hx hb dX11_seed_13 rfl hl (by decide) rfl (fun ls hl => ?_)
    refine lv_aload_n hx hb dX11_seed_14 rfl (lv_at hl 1 rfl) ?_
    refine va_get (D := D) (ci := 9) (v := .ref hw) (C := "WrongHole") (T := TX11) (N := 12) hx hb hts (iq_RX11 _) hown hK hP 0 rfl rfl 4 (by decide) (hT _ qq_1_206) (fun _ h9 => h9) rfl dX11_seed_15 ?_
    refine lv_iload_n hx hb dX11_seed_18 rfl (lv_at hl 2 rfl) ?_
    refine va_putN (D := D) (ci := 8) (v := .int a) (ty := .int) (C := "WrongHole$Worn") (T := TX10) (N := 9) hx hb hts (iq_RX10 _) tyX10 tyX10_ok nmX10 hown hK hP hD hS 1 rfl rfl 3 (by decide) (NN.f hN nq_1_105) (fun _ h9 => h9) rfl (by decide +kernel) rfl rfl (Nat.le_of_ble_eq_true rfl) dX11_seed_19 (fun H locs hP hD hS => ?_)
    have hP : va_P D vwCl [(ox, .inr (9, [.ref ht, .ref hq, .ref og, .int rc, .ref hw, .ref om, .ref hp, .ref ha, .ref hf, .ref hw0, va_rf qh, va_rf qo])), (hw, .inr (8, [va_rf ql, .int wk, .int wc, .int a, .int wn, .ref wa0, .ref wa1, .ref wa2, .ref wa3]))] H := hP
    have hD : va_D A [(ox, .inr (9, [.ref ht, .ref hq, .ref og, .int rc, .ref hw, .ref om, .ref hp, .ref ha, .ref hf, .ref hw0, va_rf qh, va_rf qo])), (hw, .inr (8, [va_rf ql, .int wk, .int wc, .int a, .int wn, .ref wa0, .ref wa1, .ref wa2, .ref wa3]))] := hD
    refine lv_iload_n hx hb dX11_seed_22 rfl (lv_at hl 0 rfl) ?_
    refine W.widen (k := 0) (n := 0) (Nat.le_of_ble_eq_true rfl) (Nat.le_of_ble_eq_true rfl) ?_
    have hP9 := hP.sub (ws' := [(ox, .inr (9, [.ref ht, .ref hq, .ref og, .int rc, .ref hw, .ref om, .ref hp, .ref ha, .ref hf, .ref hw0, va_rf qh, va_rf qo])), (hw, .inr (8, [va_rf ql, .int wk, .int wc, .int a, .int wn, .ref wa0, .ref wa1, .ref wa2, .ref wa3]))]) [0, 1] rfl
    have hD9 := hD.sub (ws' := [(ox, .inr (9, [.ref ht, .ref hq, .ref og, .int rc, .ref hw, .ref om, .ref hp, .ref ha, .ref hf, .ref hw0, va_rf qh, va_rf qo])), (hw, .inr (8, [va_rf ql, .int wk, .int wc, .int a, .int wn, .ref wa0, .ref wa1, .ref wa2, .ref wa3]))]) [0, 1] (by decide) rfl
    exact W.iret (v := wx) hx hb hr (fun t9 ht9 hW9 => ⟨⟨_, (), rfl, (by rw [if_neg (i_C2 c_1)]), ⟨a, (by rw [if_neg (i_C2 c_1)]), by rw [ht9]; exact hP9, hD9⟩⟩, hS.F ht9⟩) hS.2.2 dX11_seed_23
  · have r_3 : Rg (-2147483648) (-1) a := Rg.lt_l (nle_lt c_1) (Rg.top a) (Rg.c (c := 0) (k := 0) rfl) (by decide)
    refine lv_iconst (v := (-1)) hx hb dX11_seed_4 (by decide) ?_
    refine W.widen (k := 0) (n := 0) (Nat.le_of_ble_eq_true rfl) (Nat.le_of_ble_eq_true rfl) ?_
    have hP9 := hP.sub (ws' := [(ox, .inr (9, [.ref ht, .ref hq, .ref og, .int rc, .ref hw, .ref om, .ref hp, .ref ha, .ref hf, .ref hw0, va_rf qh, va_rf qo])), (hw, .inr (8, [va_rf ql, .int wk, .int wc, .int wx, .int wn, .ref wa0, .ref wa1, .ref wa2, .ref wa3]))]) [0, 1] rfl
    have hD9 := hD.sub (ws' := [(ox, .inr (9, [.ref ht, .ref hq, .ref og, .int rc, .ref hw, .ref om, .ref hp, .ref ha, .ref hf, .ref hw0, va_rf qh, va_rf qo])), (hw, .inr (8, [va_rf ql, .int wk, .int wc, .int wx, .int wn, .ref wa0, .ref wa1, .ref wa2, .ref wa3]))]) [0, 1] (by decide) rfl
    exact W.iret (v := (-1)) hx hb hr (fun t9 ht9 hW9 => ⟨⟨_, (), rfl, (by rw [if_pos (nle_lt c_1)]), ⟨wx, (by rw [if_pos (nle_lt c_1)]), by rw [ht9]; exact hP9, hD9⟩⟩, hS.F ht9⟩) hS.2.2 dX11_seed_5
