def LOK (cs : Nat → ClassId) (F : va_W) (hl0 : Nat) (lb lh : Int32) : Prop := ∃ (lg : Int32) (lw : Int32) (lv : Int32) (lbs : Int32) (lti : Int32) (lts : Int32) (le : Int32) (lk : Int32) (la : Int32) (l0 : Nat) (l1 : Nat) (l2 : Nat) (l3 : Nat) (l4 : Nat) (l5 : Nat) (l6 : Nat) (l7 : Nat) (f0 : Nat → Int32) (f1 : Nat → Int32) (f2 : Nat → Int32) (f3 : Nat → Int32) (f4 : Nat → Int32) (f5 : Nat → Int32) (f6 : Nat → Int32) (f7 : Nat → Int32), Rg 0 8 lb ∧ Rg 0 8 lh ∧ Rg 0 6 le ∧ (hl0, .inr (2, [.int lb, .int lh, .int lg, .int lw, .int lv, .int lbs, .int lti, .int lts, .int le, .int lk, .int la, .ref l0, .ref l1, .ref l2, .ref l3, .ref l4, .ref l5, .ref l6, .ref l7])) ∈ F ∧ (l0, .inl ((cs 0), 8, .inl f0)) ∈ F ∧ (l1, .inl ((cs 0), 8, .inl f1)) ∈ F ∧ (l2, .inl ((cs 0), 8, .inl f2)) ∈ F ∧ (l3, .inl ((cs 0), 8, .inl f3)) ∈ F ∧ (l4, .inl ((cs 0), 8, .inl f4)) ∈ F ∧ (l5, .inl ((cs 0), 8, .inl f5)) ∈ F ∧ (l6, .inl ((cs 0), 6, .inl f6)) ∈ F ∧ (l7, .inl ((cs 0), 6, .inl f7)) ∈ F
def LQ (cs : Nat → ClassId) (F : va_W) (ql : Option Nat) : Prop := ∀ hl0, ql = some hl0 → ∃ lb lh, LOK cs F hl0 lb lh
def RUL1 (cs : Nat → ClassId) (F r3 : va_W) (q : Option Nat) : Prop := ∃ (hu : Nat) (ru1 : Nat) (ru2 : Nat) (ru3 : Nat) (n1 : Nat) (gc_ : Nat → Int32) (n2 : Nat) (gb_ : Nat → Int32) (gs_ : Nat → Int64), q = some hu ∧ n1 ≤ 400 ∧ n2 ≤ 25 ∧ (∀ j, j < n2 → Rg 0 400 (gb_ j)) ∧ (hu, .inr (5, [.ref ru1, .ref ru2, .ref ru3])) ∈ F ∧ (ru1, .inl ((cs 0), n1, .inl gc_)) ∈ F ∧ (ru2, .inl ((cs 0), n2, .inl gb_)) ∈ F ∧ (ru3, .inl ((cs 4), 64, .inr (.inl gs_))) ∈ r3
def RUL (cs : Nat → ClassId) (F r3 : va_W) (fg : Nat → Option Nat) (rc : Int32) : Prop := ∀ k, k < cN rc → RUL1 cs F r3 (fg k)
def IOK (cs : Nat → ClassId) (F : va_W) (q : Option Nat) (g : va_W) (xo : Option Int32) : Prop := (q = none ∧ g = [] ∧ xo = none) ∨ ∃ (hwo : Nat) (qlo : Option Nat) (wko : Int32) (wco : Int32) (wxo : Int32) (wno : Int32) (wa0o : Nat) (wa1o : Nat) (wa2o : Nat) (wa3o : Nat) (wf0o : Nat → Int32) (wf1o : Nat → Int32) (wf2o : Nat → Int32) (wf3o : Nat → Int32), q = some hwo ∧ g = [(hwo, .inr (8, [va_rf qlo, .int wko, .int wco, .int wxo, .int wno, .ref wa0o, .ref wa1o, .ref wa2o, .ref wa3o])), (wa0o, .inl ((cs 0), 10, .inl wf0o)), (wa1o, .inl ((cs 0), 10, .inl wf1o)), (wa2o, .inl ((cs 0), 10, .inl wf2o)), (wa3o, .inl ((cs 0), 10, .inl wf3o))] ∧ xo = some wxo ∧ LQ cs F qlo ∧ BK wko ∧ Rg 0 10 wno ∧ Rg 0 2147483647 wxo ∧ (∀ j, j < 10 → Rg 0 7 (wf1o j))
def rkL (n : Nat) : Nat := DV.countP (fun d => Nat.ble d n)
def POK (cs : Nat → ClassId) (F : va_W) (ha : Nat) (q : Option Nat) (g : va_W) (pt : Nat) : Prop := (q = none ∧ g = [] ∧ pt = 0) ∨ ∃ (hh : Nat) (po : Nat) (pr_ : Nat) (pa : Nat) (pf : Nat) (p5 : Nat) (p6 : Nat) (p7 : Nat) (p8 : Nat) (zs : Int32) (zw : Int32) (hl1 : Nat) (zo : Int32) (zr : Int32) (zc : Int32) (zl : Int32) (zm : Int32) (zn : Int32) (zf : Int32) (go : Nat → Int32) (gr : Nat → Int32) (gl : Nat → Int32) (gf : Nat → Int32) (L : Nat) (g5 : Nat → Int32) (g6 : Nat → Int32) (g7 : Nat → Int32) (g8 : Nat → Int32) (lb1 lh1 : Int32), q = some hh ∧ g = [(hh, .inr (4, [.ref ha, .ref po, .ref pr_, .ref pa, .ref pf, .ref p5, .ref p6, .ref p7, .ref p8, .int zs, .int zw, .ref hl1, .int zo, .int zr, .int zc, .int zl, .int zm, .int zn, .int zf])), (po, .inl ((cs 0), 256, .inl go)), (pr_, .inl ((cs 0), 256, .inl gr)), (pa, .inl ((cs 0), 9, .inl gl)), (pf, .inl ((cs 0), 64, .inl gf)), (p5, .inl ((cs 0), L, .inl g5)), (p6, .inl ((cs 0), L, .inl g6)), (p7, .inl ((cs 0), L, .inl g7)), (p8, .inl ((cs 0), L, .inl g8))] ∧ pt = 52084 + 51480 * rkL L ∧ LOK cs F hl1 lb1 lh1 ∧ L ≤ 65536 ∧ rowsOf (cN lb1) (cN lh1) ≤ L ∧ zs = nI (rowsOf (cN lb1) (cN lh1)) ∧ (∀ j, j < 256 → Rg 0 65536 (go j)) ∧ (∀ j, j < 256 → Rg 0 256 (gr j)) ∧ (∀ j, j < 64 → Rg (-1) ((L : Int) - 1) (gf j)) ∧ (∀ j, j < L → Rg (-1) ((L : Int) - 1) (g7 j)) ∧ (∀ j, j < L → Rg (-1) ((L : Int) - 1) (g8 j)) ∧ Rg 0 1 zo
def XI (cs : Nat → ClassId) (ox : Nat) (w F r3 wh wz : va_W) (im : Nat → va_W) (xi : Nat → Option Int32) (wx : Int32) (pt : Nat) : Prop := ∃ (ht : Nat) (hq : Nat) (og : Nat) (rc : Int32) (hw : Nat) (om : Nat) (hp : Nat) (ha : Nat) (hf : Nat) (hw0 : Nat) (qh : Option Nat) (qo : Option Nat) (hs : Nat) (tl : Int32) (tk : Int32) (tp : Int32) (tb : Int32) (tv : Int32) (tn : Int32) (tf : Int32) (gt : Nat → Int32) (qc : Nat) (qb : Nat) (qz : Int32) (qp : Int32) (ga : Nat → Int32) (gb : Nat → Int32) (fg : Nat → Option Nat) (ql : Option Nat) (wk : Int32) (wc : Int32) (wn : Int32) (wa0 : Nat) (wa1 : Nat) (wa2 : Nat) (wa3 : Nat) (wf0 : Nat → Int32) (wf1 : Nat → Int32) (wf2 : Nat → Int32) (wf3 : Nat → Int32) (fi : Nat → Option Nat) (pk : Nat) (pc_ : Nat) (pn : Int32) (ps : Int32) (gk : Nat → Int32) (gk2 : Nat → Int32) (as : Nat) (ad : Nat) (ac : Int32) (gs : Nat → Int32) (gc : Nat → Int32) (fp : Nat) (ft : Nat) (fb : Int32) (fh : Int32) (fm : Int32) (fd : Int32) (fpo : Nat → Int32) (fta : Nat → Int32) (gw : Nat → Int32) (pt1 pt2 : Nat), w = [(ox, .inr (9, [.ref ht, .ref hq, .ref og, .int rc, .ref hw, .ref om, .ref hp, .ref ha, .ref hf, .ref hw0, va_rf qh, va_rf qo])), (ht, .inr (7, [.ref hs, .int tl, .int tk, .int tp, .int tb, .int tv, .int tn, .int tf])), (hs, .inl ((cs 1), 400, .inl gt)), (hq, .inr (6, [.ref qc, .ref qb, .int qz, .int qp])), (qc, .inl ((cs 0), 400, .inl ga)), (qb, .inl ((cs 0), 25, .inl gb)), (og, .inl ((cs 5), 6, .inr (.inr (.inr (.inr fg))))), (hw, .inr (8, [va_rf ql, .int wk, .int wc, .int wx, .int wn, .ref wa0, .ref wa1, .ref wa2, .ref wa3])), (wa0, .inl ((cs 0), 10, .inl wf0)), (wa1, .inl ((cs 0), 10, .inl wf1)), (wa2, .inl ((cs 0), 10, .inl wf2)), (wa3, .inl ((cs 0), 10, .inl wf3)), (om, .inl ((cs 6), 4, .inr (.inr (.inr (.inr fi))))), (hp, .inr (3, [.ref pk, .ref pc_, .int pn, .int ps])), (pk, .inl ((cs 0), 20, .inl gk)), (pc_, .inl ((cs 0), 20, .inl gk2)), (ha, .inr (0, [.ref as, .ref ad, .int ac])), (as, .inl ((cs 0), 8, .inl gs)), (ad, .inl ((cs 0), 72, .inl gc)), (hf, .inr (1, [.ref fp, .ref ft, .int fb, .int fh, .int fm, .int fd])), (fp, .inl ((cs 0), 8, .inl fpo)), (ft, .inl ((cs 0), 81, .inl fta)), (hw0, .inl ((cs 0), 12, .inl gw))] ∧ (Rg 0 400 tl) ∧ (Rg 0 400 tp) ∧ (Rg 0 400 tb) ∧ (∀ j, j < 25 → Rg 0 400 (gb j)) ∧ (Rg 0 6 rc) ∧ (Rg 0 19 pn) ∧ (Rg 0 20 ps) ∧ (∀ j, j < 20 → BK (gk j)) ∧ (BK wk) ∧ (Rg 0 72 ac) ∧ (Rg 0 2147483647 wx) ∧ (Rg 0 10 wn) ∧ (∀ j, j < 10 → Rg 0 7 (wf1 j)) ∧ (Rg 0 8 fb) ∧ (Rg 0 8 fh) ∧ (LQ cs F ql) ∧ (RUL cs F r3 fg rc) ∧ (∀ k, k < 4 → IOK cs F (fi k) (im k) (xi k)) ∧ (POK cs F ha qh wh pt1) ∧ (POK cs F ha qo wz pt2) ∧ (pt = pt1 + pt2)
def MI (cs : Nat → ClassId) (m0 : Nat) (v : va_W) (sx_ : Int32) (gix gmd : Nat → Int32) : Prop := ∃ (mtp : Nat) (sta : Int32) (sru : Int32) (msg : Nat) (mln : Nat) (mcl : Nat) (mcs : Nat) (mrd : Nat) (snx : Int32) (swr : Int32) (snu : Int32) (ste : Int32) (sma : Int32) (sde : Int32) (sli : Int32) (mop : Nat) (sod : Int32) (mst : Nat) (sto : Int32) (mwd : Nat) (msd : Nat) (mws : Nat) (sun : Int32) (mfr : Nat) (mqu : Nat) (miw : Nat) (sfi : Int32) (swa : Int32) (sdx : Int64) (mim : Nat) (mix : Nat) (mmd : Nat) (gtp : Nat → Int32) (gsg : Nat → Int32) (gln : Nat → Int32) (gcl : Nat → Int32) (gcs : Nat → Int32) (grd : Nat → Int32) (gop : Nat → Int32) (gst : Nat → Int64) (gwd : Nat → Int64) (gsd : Nat → Int32) (gws : Nat → Int32) (gfr : Nat → Int32) (gqu : Nat → Int32) (giw : Nat → Int32) (gim : Nat → Int32), v = [(m0, .inr (10, (.ref mtp :: .int sta :: .int sru :: .ref msg :: .ref mln :: .ref mcl :: .ref mcs :: .ref mrd :: .int snx :: .int swr :: .int snu :: .int ste :: .int sma :: .int sde :: .int sli :: .ref mop :: .int sod :: .ref mst :: .int sto :: .ref mwd :: .ref msd :: .int sx_ :: .ref mws :: .int sun :: .ref mfr :: .ref mqu :: .ref miw :: .int sfi :: .int swa :: .long sdx :: .ref mim :: .ref mix :: .ref mmd :: []))), (mtp, .inl ((cs 2), 400, .inl gtp)), (msg, .inl ((cs 0), 2400, .inl gsg)), (mln, .inl ((cs 0), 7, .inl gln)), (mcl, .inl ((cs 0), 288, .inl gcl)), (mcs, .inl ((cs 0), 6, .inl gcs)), (mrd, .inl ((cs 0), 92, .inl grd)), (mop, .inl ((cs 0), 400, .inl gop)), (mst, .inl ((cs 4), 64, .inr (.inl gst))), (mwd, .inl ((cs 4), 12, .inr (.inl gwd))), (msd, .inl ((cs 0), 133, .inl gsd)), (mws, .inl ((cs 0), 180, .inl gws)), (mfr, .inl ((cs 0), 65536, .inl gfr)), (mqu, .inl ((cs 0), 65536, .inl gqu)), (miw, .inl ((cs 3), 65536, .inl giw)), (mim, .inl ((cs 0), 532, .inl gim)), (mix, .inl ((cs 0), 4, .inl gix)), (mmd, .inl ((cs 3), 4, .inl gmd))] ∧ (Rg 0 400 sta) ∧ (Rg 0 6 sru) ∧ (RV gsg gcl gcs (cN sru)) ∧ (SI gsd) ∧ (Rg 0 20 sun) ∧ (WSI gsd gws (cN sun)) ∧ (QBK gqu) ∧ (Rg 0 2147483647 sx_) ∧ (∀ k, k < 4 → ¬ gmd k = 0 → SI (fun i => gim (133 * k + i)) ∧ Rg 0 2147483647 (gix k))
def LX (p : Program) (l : Launch) (s : State) (m : MethodId) (meth : Method) (c : Code) (sb LL : Nat) (xs : Nat → Int32) (D : va_G) (cs : Nat → ClassId) (A : Nat → Prop) (sa sv : Nat → Nat) : Prop := p.tables.exec = Jvm.exec ∧ c.code = cL_law ∧ meth.sig.returnType = ret ∧ c.maxLocals = 4 ∧ s.vm.findClass "WrongHoleLaw" = some m.cls ∧ (∀ w ∈ Cond.initialized "WrongHoleLaw" :: TB, w.before #[Value.ref sb] s = true) ∧ (∀ w ∈ TB, w.before #[Value.ref sb] s = true) ∧ va_X sb LL xs s s.heap ∧ sb < s.heap.size ∧ meth.locks = false ∧ ¬ A sb ∧ (∀ q : Nat, s.heap.size ≤ q → A q) ∧ (∀ q : Nat, A q → s.heap.size ≤ q) ∧ va_K D vwCl (TY cs) s ∧ NN s ∧ SX sa sv A s s.heap ∧ XC sa sv D (KS cs) A s s.heap
theorem LOK.mono {cs : Nat → ClassId} {F F2 : va_W} {hl0 : Nat} {lb lh : Int32} (h : LOK cs F hl0 lb lh) (hF : ∀ q ∈ F, q ∈ F2) : LOK cs F2 hl0 lb lh := by
  obtain ⟨lg, lw, lv, lbs, lti, lts, le, lk, la, l0, l1, l2, l3, l4, l5, l6, l7, f0, f1, f2, f3, f4, f5, f6, f7, h1, h2, h3, q0, q1, q2, q3, q4, q5, q6, q7, q8⟩ := h
  exact ⟨lg, lw, lv, lbs, lti, lts, le, lk, la, l0, l1, l2, l3, l4, l5, l6, l7, f0, f1, f2, f3, f4, f5, f6, f7, h1, h2, h3, hF _ q0, hF _ q1, hF _ q2, hF _ q3, hF _ q4, hF _ q5, hF _ q6, hF _ q7, hF _ q8⟩
theorem LQ.mono {cs : Nat → ClassId} {F F2 : va_W} {ql : Option Nat} (h : LQ cs F ql) (hF : ∀ q ∈ F, q ∈ F2) : LQ cs F2 ql := fun hl0 e => by
  obtain ⟨lb, lh, q⟩ := h hl0 e
  exact ⟨lb, lh, q.mono hF⟩
theorem LQ.none {cs : Nat → ClassId} {F : va_W} : LQ cs F none := fun _ e => by cases e
theorem LQ.some {cs : Nat → ClassId} {F : va_W} {hl0 : Nat} {lb lh : Int32} (h : LOK cs F hl0 lb lh) : LQ cs F (some hl0) := fun _ e => by cases e; exact ⟨lb, lh, h⟩
theorem IOK.mono {cs : Nat → ClassId} {F F2 g : va_W} {q : Option Nat} {xo : Option Int32} (h : IOK cs F q g xo) (hF : ∀ q ∈ F, q ∈ F2) : IOK cs F2 q g xo := by
  rcases h with h | ⟨hwo, qlo, wko, wco, wxo, wno, wa0o, wa1o, wa2o, wa3o, wf0o, wf1o, wf2o, wf3o, h1, h2, h3, h4, h5⟩
  · exact Or.inl h
  · exact Or.inr ⟨hwo, qlo, wko, wco, wxo, wno, wa0o, wa1o, wa2o, wa3o, wf0o, wf1o, wf2o, wf3o, h1, h2, h3, h4.mono hF, h5⟩
theorem POK.mono {cs : Nat → ClassId} {F F2 g : va_W} {ha pt : Nat} {q : Option Nat} (h : POK cs F ha q g pt) (hF : ∀ q ∈ F, q ∈ F2) : POK cs F2 ha q g pt := by
  rcases h with h | ⟨hh, po, pr_, pa, pf, p5, p6, p7, p8, zs, zw, hl1, zo, zr, zc, zl, zm, zn, zf, go, gr, gl, gf, L, g5, g6, g7, g8, lb1, lh1, h1, h2, h3, h4, h5⟩
  · exact Or.inl h
  · exact Or.inr ⟨hh, po, pr_, pa, pf, p5, p6, p7, p8, zs, zw, hl1, zo, zr, zc, zl, zm, zn, zf, go, gr, gl, gf, L, g5, g6, g7, g8, lb1, lh1, h1, h2, h3, h4.mono hF, h5⟩
theorem RUL1.mono {cs : Nat → ClassId} {F F2 r3 r4 : va_W} {q : Option Nat} (h : RUL1 cs F r3 q) (hF : ∀ q ∈ F, q ∈ F2) (hR : ∀ q ∈ r3, q ∈ r4) : RUL1 cs F2 r4 q := by
  obtain ⟨hu, ru1, ru2, ru3, n1, gc_, n2, gb_, gs_, h1, h2, h3, h4, h5, h6, h7, h8⟩ := h
  exact ⟨hu, ru1, ru2, ru3, n1, gc_, n2, gb_, gs_, h1, h2, h3, h4, hF _ h5, hF _ h6, hF _ h7, hR _ h8⟩
theorem RUL.mono {cs : Nat → ClassId} {F F2 r3 r4 : va_W} {fg : Nat → Option Nat} {rc : Int32} (h : RUL cs F r3 fg rc) (hF : ∀ q ∈ F, q ∈ F2) (hR : ∀ q ∈ r3, q ∈ r4) : RUL cs F2 r4 fg rc := fun k hk => (h k hk).mono hF hR
theorem RUL.new {cs : Nat → ClassId} {F r3 : va_W} {fg fg2 : Nat → Option Nat} {rc rc2 : Int32} {hu : Nat} (h : RUL cs F r3 fg rc) (e : rc2 = rc + 1) (r : Rg 0 5 rc) (ef : fg2 = va_up fg (cN rc) (some hu)) (hn : RUL1 cs F r3 (some hu)) : RUL cs F r3 fg2 rc2 := by
  intro k hk
  rw [cN_add (k := 1) e r (Rg.c rfl) (by decide)] at hk
  rw [ef]
  unfold va_up
  by_cases q : k = cN rc
  · rw [if_pos q]; exact hn
  · rw [if_neg q]; exact h k (by omega)
theorem RUL1.rep {cs : Nat → ClassId} {F a b : va_W} {q : Option Nat} {ru3 : Nat} {gs_ gs3 : Nat → Int64} (h : RUL1 cs F (a ++ (ru3, .inl ((cs 4), 64, .inr (.inl gs_))) :: b) q) : RUL1 cs F (a ++ (ru3, .inl ((cs 4), 64, .inr (.inl gs3))) :: b) q := by
  obtain ⟨hu, ru1, ru2, ru3', n1, gc_, n2, gb_, gs_', h1, h2, h3, h4, h5, h6, h7, h8⟩ := h
  rcases List.mem_append.mp h8 with m | m
  · exact ⟨hu, ru1, ru2, ru3', n1, gc_, n2, gb_, gs_', h1, h2, h3, h4, h5, h6, h7, List.mem_append_left _ m⟩
  · rcases List.mem_cons.mp m with m2 | m2
    · exact ⟨hu, ru1, ru2, ru3', n1, gc_, n2, gb_, gs3, h1, h2, h3, h4, h5, h6, h7, List.mem_append_right _ (by rw [show ru3' = ru3 from congrArg Prod.fst m2]; exact List.mem_cons_self)⟩
    · exact ⟨hu, ru1, ru2, ru3', n1, gc_, n2, gb_, gs_', h1, h2, h3, h4, h5, h6, h7, List.mem_append_right _ (List.mem_cons_of_mem _ m2)⟩
theorem RUL.rep {cs : Nat → ClassId} {F a b : va_W} {fg : Nat → Option Nat} {rc : Int32} {ru3 : Nat} {gs_ gs3 : Nat → Int64} (h : RUL cs F (a ++ (ru3, .inl ((cs 4), 64, .inr (.inl gs_))) :: b) fg rc) : RUL cs F (a ++ (ru3, .inl ((cs 4), 64, .inr (.inl gs3))) :: b) fg rc := fun k hk => (h k hk).rep
theorem LOK.same {cs : Nat → ClassId} {F ws : va_W} {A : Nat → Prop} {hl0 : Nat} {lb lh lb1 lh1 : Int32} (hD : va_D A ws) (hF : ∀ q ∈ F, q ∈ ws) (h1 : LOK cs F hl0 lb lh) (h2 : LOK cs F hl0 lb1 lh1) : lb1 = lb ∧ lh1 = lh := by
  obtain ⟨lg, lw, lv, lbs, lti, lts, le, lk, la, l0, l1, l2, l3, l4, l5, l6, l7, f0, f1, f2, f3, f4, f5, f6, f7, _, _, _, a, _⟩ := h1
  obtain ⟨lg, lw, lv, lbs, lti, lts, le, lk, la, l0, l1, l2, l3, l4, l5, l6, l7, f0, f1, f2, f3, f4, f5, f6, f7, _, _, _, b, _⟩ := h2
  have e := vDe hD (hF _ a) (hF _ b)
  injection e with e
  injection e with _ e
  injection e with e1 e
  injection e with e2 _
  injection e1 with e1
  injection e2 with e2
  exact ⟨e1.symm, e2.symm⟩
def upX (xi : Nat → Option Int32) (k : Nat) (o : Option Int32) : Nat → Option Int32 := fun j => if j = k then o else xi j
theorem upX_s (xi : Nat → Option Int32) (k : Nat) (o : Option Int32) : upX xi k o k = o := if_pos rfl
theorem upX_n (xi : Nat → Option Int32) {k j : Nat} (o : Option Int32) (h : j ≠ k) : upX xi k o j = xi j := if_neg h
theorem rg03 {a : Int32} (h1 : ¬ a < 0) (h2 : a < 4) : Rg 0 3 a := by
  rw [i_lt] at h1 h2
  have e0 : Int32.toInt 0 = 0 := rfl
  have e4 : Int32.toInt 4 = 4 := rfl
  exact ⟨by omega, by omega⟩
theorem sd_rg {a wx w2 : Int32} (e : w2 = if a < 0 then wx else a) (r : Rg 0 2147483647 wx) : Rg 0 2147483647 w2 := by
  rw [e]
  split
  · exact r
  · rename_i h
    rw [i_lt] at h
    have e0 : Int32.toInt 0 = 0 := rfl
    exact ⟨by omega, (Rg.top a).2⟩
theorem tl_new (c1 c2 c3 c4 : Nat × va_E) (F r3 : va_W) (im : Nat → va_W) (ph po v : va_W) : ([c1, c2, c3, c4] ++ TL F r3 im ph po v).Perm (TL ([c1, c2, c3] ++ F) (c4 :: r3) im ph po v) := by
  show (c1 :: c2 :: c3 :: c4 :: (F ++ (r3 ++ (im 0 ++ (im 1 ++ (im 2 ++ (im 3 ++ (ph ++ (po ++ v))))))))).Perm (c1 :: c2 :: c3 :: (F ++ (c4 :: (r3 ++ (im 0 ++ (im 1 ++ (im 2 ++ (im 3 ++ (ph ++ (po ++ v))))))))))
  exact List.Perm.cons _ (List.Perm.cons _ (List.Perm.cons _ List.perm_middle.symm))
theorem tl_dn (F r3 : va_W) (im : Nat → va_W) (ph po v : va_W) (k : Nat) (hk : k < 4) {g : va_W} (e : im k = g) : (TL F r3 im ph po v).Perm (g ++ (F ++ (r3 ++ (imx im k ++ (ph ++ (po ++ v)))))) := by
  have h := tl_im F r3 im ph po v k hk
  rw [e] at h
  exact h
theorem tl_up (F r3 : va_W) (im : Nat → va_W) (ph po v : va_W) (k : Nat) (hk : k < 4) (g : va_W) : (g ++ (F ++ (r3 ++ (imx im k ++ (ph ++ (po ++ v)))))).Perm (TL F r3 (up4 im k g) ph po v) := by
  have h := (tl_im F r3 (up4 im k g) ph po v k hk).symm
  rw [up4_s, imx_up im k hk] at h
  exact h
theorem mFi {F r3 x : va_W} {q : Nat × va_E} (h : q ∈ F) : q ∈ F ++ (r3 ++ x) := List.mem_append_left _ h
theorem bad2 {a b : Int32} (h : ¬ (¬ a < 0 ∧ ¬ b < 0 ∧ b ≤ 2)) : ¬ a < 0 → ¬ b < 0 → b ≤ 2 → False := fun h1 h2 h3 => h ⟨h1, h2, h3⟩
theorem good2 {a b : Int32} (h : ¬ a < 0 ∧ ¬ b < 0 ∧ b ≤ 2) : Rg 0 2147483647 a ∧ Rg 0 2 b := by
  obtain ⟨h1, h2, h3⟩ := h
  rw [i_lt] at h1 h2; rw [i_le] at h3
  have e0 : Int32.toInt 0 = 0 := rfl
  have e2 : Int32.toInt 2 = 2 := rfl
  exact ⟨⟨by omega, (Rg.top a).2⟩, ⟨by omega, by omega⟩⟩
theorem goodF {a b : Int32} (h : ¬ a < 0 ∧ ¬ 300 < a ∧ ¬ b < 0 ∧ b ≤ 2) : Rg 0 300 a ∧ Rg 0 2 b := by
  obtain ⟨h1, h0, h2, h3⟩ := h
  rw [i_lt] at h0 h1 h2; rw [i_le] at h3
  have e0 : Int32.toInt 0 = 0 := rfl
  have e2 : Int32.toInt 2 = 2 := rfl
  have e3 : Int32.toInt 300 = 300 := rfl
  exact ⟨⟨by omega, by omega⟩, ⟨by omega, by omega⟩⟩
theorem goodC {a b h : Int32} (q : ¬ a < 1 ∧ ¬ 9 < b ∧ ¬ b < a ∧ ¬ h < 0 ∧ h ≤ 1) : Rg 1 9 a ∧ Rg 1 9 b ∧ a ≤ b ∧ Rg 0 1 h := by
  obtain ⟨h1, h0, h2, h3, h4⟩ := q
  rw [i_lt] at h0 h1 h2 h3; rw [i_le] at h4
  have e0 : Int32.toInt 0 = 0 := rfl
  have e1 : Int32.toInt 1 = 1 := rfl
  have e9 : Int32.toInt 9 = 9 := rfl
  exact ⟨⟨by omega, by omega⟩, ⟨by omega, by omega⟩, by rw [i_le]; omega, ⟨by omega, by omega⟩⟩
theorem rk_le (n : Nat) : rkL n ≤ 36 := List.countP_le_length
theorem rk_mono {n m : Nat} (h : n ≤ m) : rkL n ≤ rkL m := List.countP_mono_left (fun d _ q => by rw [Nat.ble_eq] at q ⊢; omega)
theorem rk_dv : ∀ d ∈ DV, rkL (d - 1) + 1 ≤ rkL d := by decide +kernel
theorem rk_lt {n m : Nat} (h : n < m) (hm : m ∈ DV) : rkL n + 1 ≤ rkL m := Nat.le_trans (Nat.succ_le_succ (rk_mono (by omega))) (rk_dv m hm)
theorem POK.le {cs : Nat → ClassId} {F g : va_W} {ha pt : Nat} {q : Option Nat} (h : POK cs F ha q g pt) : pt ≤ 1905364 := by
  rcases h with ⟨_, _, h⟩ | ⟨hh, po, pr_, pa, pf, p5, p6, p7, p8, zs, zw, hl1, zo, zr, zc, zl, zm, zn, zf, go, gr, gl, gf, L, g5, g6, g7, g8, lb1, lh1, h1, h2, h3, _⟩
  · omega
  · have := rk_le L
    omega
theorem in_l {X F : va_W} : ∀ q ∈ F, q ∈ X ++ F := fun _ h => List.mem_append_right _ h
theorem id_m {F : va_W} : ∀ q ∈ F, q ∈ F := fun _ h => h
