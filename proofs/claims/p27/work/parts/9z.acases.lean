def LNK (wf3 gsd : Nat → Int32) (xi : Nat → Option (Nat → Int32)) (gim gmd : Nat → Int32) : Prop := (∀ j, j < 10 → wf3 j = gsd (92 + j)) ∧ ∀ k, k < 4 → (xi k = none ∧ gmd k = 0) ∨ ∃ g, xi k = some g ∧ ¬ gmd k = 0 ∧ ∀ j, j < 10 → g j = gim (133 * k + (92 + j))
theorem LNK.sea {wf3 gsd gsd2 gim gmd : Nat → Int32} {xi : Nat → Option (Nat → Int32)} (h : LNK wf3 gsd xi gim gmd) (e : SEA gsd gsd2) : LNK wf3 gsd2 xi gim gmd := ⟨fun j hj => (h.1 j hj).trans (e j hj).symm, h.2⟩
theorem STF.eq {f g : Nat → Int32} {a j : Nat} {b : Int32} (h : f j = g j) : STF f a b j = STF g a b j := by unfold STF; rw [h]
theorem LNK.seat {wf3 wf32 gsd gsd2 gim gmd : Nat → Int32} {xi : Nat → Option (Nat → Int32)} {a b : Int32} (h : LNK wf3 gsd xi gim gmd) (h1 : (STG a b → ∀ j, j < 10 → wf32 j = STF wf3 (cN a) b j) ∧ (¬ STG a b → wf32 = wf3)) (h2 : (STG a b → ∀ j, j < 10 → gsd2 (92 + j) = STF (fun k => gsd (92 + k)) (cN a) b j) ∧ (¬ STG a b → gsd2 = gsd)) : LNK wf32 gsd2 xi gim gmd := by
  by_cases hg : STG a b
  · exact ⟨fun j hj => by rw [h1.1 hg j hj, h2.1 hg j hj]; exact STF.eq (h.1 j hj), h.2⟩
  · rw [h1.2 hg, h2.2 hg]; exact h
theorem LNK.sat {wf3 gsd gim gmd : Nat → Int32} {xi : Nat → Option (Nat → Int32)} {a b r r2 : Int32} (h : LNK wf3 gsd xi gim gmd) (h1 : (STG a b → r = wf3 (cN a)) ∧ (¬ STG a b → r = -2)) (h2 : (STG a b → r2 = gsd (92 + cN a)) ∧ (¬ STG a b → r2 = -2)) : r = r2 := by
  by_cases hg : STG a b
  · rw [h1.1 hg, h2.1 hg]; exact h.1 _ (cN_lt hg.1 (by decide))
  · rw [h1.2 hg, h2.2 hg]
theorem LNK.image {wf3 gsd gim gim2 gmd gmd2 : Nat → Int32} {xi xi2 : Nat → Option (Nat → Int32)} {a : Int32} (h : LNK wf3 gsd xi gim gmd) (h1 : (Rg 0 3 a → xi2 = upX xi (cN a) (some wf3)) ∧ (¬ Rg 0 3 a → xi2 = xi)) (h2 : (Rg 0 3 a → IMG gsd gim gim2 (cN a) 133 ∧ gmd2 = upd gmd (cN a) 1) ∧ (¬ Rg 0 3 a → gim2 = gim ∧ gmd2 = gmd)) : LNK wf3 gsd xi2 gim2 gmd2 := by
  refine ⟨h.1, ?_⟩
  by_cases hg : Rg 0 3 a
  · obtain ⟨hi, hm⟩ := h2.1 hg
    rw [h1.1 hg, hm]
    intro k hk
    by_cases q : k = cN a
    · rw [q, upX_s, pk_us]
      exact Or.inr ⟨wf3, rfl, by decide, fun j hj => (h.1 j hj).trans (hi.2 (92 + j) (by omega)).symm⟩
    · rw [upX_n _ _ q, up_n q]
      rcases h.2 k hk with e | ⟨g, e1, e2, e3⟩
      · exact Or.inl e
      · exact Or.inr ⟨g, e1, e2, fun j hj => (e3 j hj).trans (hi.1 k hk q (92 + j) (by omega)).symm⟩
  · rw [h1.2 hg, (h2.2 hg).1, (h2.2 hg).2]; exact h.2
theorem LNK.back {wf3 wf32 gsd gsd2 gim gmd : Nat → Int32} {xi : Nat → Option (Nat → Int32)} {a : Int32} (h : LNK wf3 gsd xi gim gmd) (h1 : (∀ o, Rg 0 3 a → xi (cN a) = some o → wf32 = o) ∧ ((Rg 0 3 a → xi (cN a) = none) → wf32 = wf3)) (h2 : (Rg 0 3 a → ¬ gmd (cN a) = 0 → BCK gsd gsd2 gim (cN a) 133) ∧ ((Rg 0 3 a → gmd (cN a) = 0) → gsd2 = gsd)) : LNK wf32 gsd2 xi gim gmd := by
  refine ⟨?_, h.2⟩
  by_cases hg : Rg 0 3 a
  · rcases h.2 (cN a) (cN_lt hg (by decide)) with ⟨e1, e2⟩ | ⟨g, e1, e2, e3⟩
    · rw [h1.2 (fun _ => e1), h2.2 (fun _ => e2)]; exact h.1
    · rw [h1.1 _ hg e1]
      exact fun j hj => (e3 j hj).trans (h2.1 hg e2 (92 + j) (by omega)).symm
  · rw [h1.2 (fun q => absurd q hg), h2.2 (fun q => absurd q hg)]; exact h.1
theorem LNK.stn {wf3 gsd gim gmd : Nat → Int32} {xi : Nat → Option (Nat → Int32)} (h : LNK wf3 gsd xi gim gmd) (hs : SI gsd) : STN (F10 wf3) 0 := by rw [f10_eq h.1]; exact hs.stn
theorem MI.si {cs : Nat → ClassId} {m0 : Nat} {v : va_W} {gsd gim gmd : Nat → Int32} (h : MI cs m0 v gsd gim gmd) : SI gsd := h.out (fun mtp sta sru msg mln mcl mcs mrd snx swr snu ste sma sde sli mop sod mst sto mwd msd sx_ mws sun mfr mqu miw sfi swa sdx mim mix mmd gtp gsg gln gcl gcs grd gop gst gwd gws gfr gqu giw gix hv_ r_sta r_sru hrv hsi r_sun hws hqb r_sx_ hmi => hsi)
theorem XI.pt_le {cs : Nat → ClassId} {ox : Nat} {w F r3 wh wz : va_W} {im : Nat → va_W} {xi : Nat → Option (Nat → Int32)} {wf3 : Nat → Int32} {pt : Nat} (h : XI cs ox w F r3 wh wz im xi wf3 pt) : pt ≤ 3810728 :=
  h.out (fun ht hq og rc hw om hp ha hf hw0 qh qo hs tl tk tp tb tv tn tf gt qc qb qz qp ga gb fg ql wk wc wx wn wa0 wa1 wa2 wa3 wf0 wf1 wf2 fi pk pc_ pn ps gk gk2 as ad ac gs gc fp ft fb fh fm fd fpo fta gw pt1 pt2 hw_ r_tl r_tp r_tb a_gb r_rc r_pn r_ps hbr hbw r_ac r_wx r_wn a_wf1 r_fb r_fh hlq hru him hph hpo hpt => by have h1 := hph.le; have h2 := hpo.le; omega)
theorem pm_mv (w F r3 : va_W) (im : Nat → va_W) (wh wz v : va_W) : (w ++ TL F r3 im wh wz v).Perm (v ++ (w ++ TL F r3 im wh wz [])) := by
  rw [tl_v, ← List.append_assoc]; exact List.perm_append_comm
theorem dL_law_172 : decode cL_law 172 = .ok (.aload_n 1, 1) := by decide +kernel
theorem dL_law_173 : decode cL_law 173 = .ok (.aload_n 0, 1) := by decide +kernel
theorem dL_law_174 : decode cL_law 174 = .ok (.iload_n 3, 1) := by decide +kernel
theorem dL_law_175 : decode cL_law 175 = .ok (.iconst 1, 1) := by decide +kernel
theorem dL_law_176 : decode cL_law 176 = .ok (.iadd, 1) := by decide +kernel
theorem dL_law_177 : decode cL_law 177 = .ok (.iaload, 1) := by decide +kernel
theorem dL_law_178 : decode cL_law 178 = .ok (.aload_n 0, 1) := by decide +kernel
theorem dL_law_179 : decode cL_law 179 = .ok (.iload_n 3, 1) := by decide +kernel
theorem dL_law_180 : decode cL_law 180 = .ok (.iconst 2, 1) := by decide +kernel
theorem dL_law_181 : decode cL_law 181 = .ok (.iadd, 1) := by decide +kernel
theorem dL_law_182 : decode cL_law 182 = .ok (.iaload, 1) := by decide +kernel
theorem dL_law_183 : decode cL_law 183 = .ok (.aload_n 0, 1) := by decide +kernel
theorem dL_law_184 : decode cL_law 184 = .ok (.iload_n 3, 1) := by decide +kernel
theorem dL_law_185 : decode cL_law 185 = .ok (.iconst 3, 1) := by decide +kernel
theorem dL_law_186 : decode cL_law 186 = .ok (.iadd, 1) := by decide +kernel
theorem dL_law_187 : decode cL_law 187 = .ok (.iaload, 1) := by decide +kernel
theorem dL_law_188 : decode cL_law 188 = .ok (.aload_n 0, 1) := by decide +kernel
theorem dL_law_189 : decode cL_law 189 = .ok (.iload_n 3, 1) := by decide +kernel
theorem dL_law_190 : decode cL_law 190 = .ok (.iconst 4, 1) := by decide +kernel
theorem dL_law_191 : decode cL_law 191 = .ok (.iadd, 1) := by decide +kernel
theorem dL_law_192 : decode cL_law 192 = .ok (.iaload, 1) := by decide +kernel
theorem dL_law_193 : decode cL_law 193 = .ok (.aload_n 0, 1) := by decide +kernel
theorem dL_law_194 : decode cL_law 194 = .ok (.iload_n 3, 1) := by decide +kernel
theorem dL_law_195 : decode cL_law 195 = .ok (.iconst 5, 1) := by decide +kernel
theorem dL_law_196 : decode cL_law 196 = .ok (.iadd, 1) := by decide +kernel
theorem dL_law_197 : decode cL_law 197 = .ok (.iaload, 1) := by decide +kernel
theorem dL_law_201 : decode cL_law 201 = .ok (.pop, 1) := by decide +kernel
theorem dL_law_202 : decode cL_law 202 = .ok (.aload_n 2, 1) := by decide +kernel
theorem dL_law_203 : decode cL_law 203 = .ok (.aload_n 0, 1) := by decide +kernel
theorem dL_law_204 : decode cL_law 204 = .ok (.iload_n 3, 1) := by decide +kernel
theorem dL_law_205 : decode cL_law 205 = .ok (.iconst 1, 1) := by decide +kernel
theorem dL_law_206 : decode cL_law 206 = .ok (.iadd, 1) := by decide +kernel
theorem dL_law_207 : decode cL_law 207 = .ok (.iaload, 1) := by decide +kernel
theorem dL_law_208 : decode cL_law 208 = .ok (.aload_n 0, 1) := by decide +kernel
theorem dL_law_209 : decode cL_law 209 = .ok (.iload_n 3, 1) := by decide +kernel
theorem dL_law_210 : decode cL_law 210 = .ok (.iconst 2, 1) := by decide +kernel
theorem dL_law_211 : decode cL_law 211 = .ok (.iadd, 1) := by decide +kernel
theorem dL_law_212 : decode cL_law 212 = .ok (.iaload, 1) := by decide +kernel
theorem dL_law_213 : decode cL_law 213 = .ok (.aload_n 0, 1) := by decide +kernel
theorem dL_law_214 : decode cL_law 214 = .ok (.iload_n 3, 1) := by decide +kernel
theorem dL_law_215 : decode cL_law 215 = .ok (.iconst 3, 1) := by decide +kernel
theorem dL_law_216 : decode cL_law 216 = .ok (.iadd, 1) := by decide +kernel
theorem dL_law_217 : decode cL_law 217 = .ok (.iaload, 1) := by decide +kernel
theorem dL_law_218 : decode cL_law 218 = .ok (.aload_n 0, 1) := by decide +kernel
theorem dL_law_219 : decode cL_law 219 = .ok (.iload_n 3, 1) := by decide +kernel
theorem dL_law_220 : decode cL_law 220 = .ok (.iconst 4, 1) := by decide +kernel
theorem dL_law_221 : decode cL_law 221 = .ok (.iadd, 1) := by decide +kernel
theorem dL_law_222 : decode cL_law 222 = .ok (.iaload, 1) := by decide +kernel
theorem dL_law_223 : decode cL_law 223 = .ok (.aload_n 0, 1) := by decide +kernel
theorem dL_law_224 : decode cL_law 224 = .ok (.iload_n 3, 1) := by decide +kernel
theorem dL_law_225 : decode cL_law 225 = .ok (.iconst 5, 1) := by decide +kernel
theorem dL_law_226 : decode cL_law 226 = .ok (.iadd, 1) := by decide +kernel
theorem dL_law_227 : decode cL_law 227 = .ok (.iaload, 1) := by decide +kernel
theorem dL_law_231 : decode cL_law 231 = .ok (.pop, 1) := by decide +kernel
theorem dL_law_232 : decode cL_law 232 = .ok (.goto 793, 3) := by decide +kernel
set_option maxHeartbeats 4000000 in
set_option maxRecDepth 100000 in
theorem cs_feed {p : Program} {l : Launch} {e : Env} {s : State} {m : MethodId} {below : List Frame} {meth : Method} {c : Code} {sb LL : Nat} {xs : Nat → Int32} {D : va_G} {cs : Nat → ClassId} {A : Nat → Prop} {sa sv : Nat → Nat} (G : LX p l s m meth c sb LL xs D cs A sa sv) {H : Heap} {locs : List Loc} {cells sl : Nat} {Q : State → Prop} {ls : Array Slot} {ox m0 : Nat} {i : Int32} (hl : lv_has ls 4 [(3, .int i), (2, .ref m0), (1, .ref ox), (0, .ref sb)]) (hin : ∀ k : Int32, Rg 0 5 k → vp_in (i + k) LL) {w F r3 wh wz v : va_W} {im : Nat → va_W} {xi : Nat → Option (Nat → Int32)} {wf3 gsd gim gmd : Nat → Int32} {pt : Nat} (hI : XI cs ox w F r3 wh wz im xi wf3 pt) (hM : MI cs m0 v gsd gim gmd) (hLk : LNK wf3 gsd xi gim gmd) (hP : va_P D vwCl (w ++ TL F r3 im wh wz v) H) (hD : va_D A (w ++ TL F r3 im wh wz v)) (hS : va_S A s.heap H locs) (hce : cells + 20 ≤ 600000) (hsl : sl + 3900900 ≤ 7302249) (kk : ∀ (H : Heap) (locs : List Loc) (w F r3 wh wz v : va_W) (im : Nat → va_W) (xi : Nat → Option (Nat → Int32)) (wf3 gsd gim gmd : Nat → Int32) (pt : Nat), XI cs ox w F r3 wh wz im xi wf3 pt → MI cs m0 v gsd gim gmd → LNK wf3 gsd xi gim gmd → va_P D vwCl (w ++ TL F r3 im wh wz v) H → va_D A (w ++ TL F r3 im wh wz v) → va_S A s.heap H locs → W p l e room_1 s m #[Value.ref sb] below meth c H locs (cells + 20) (sl + 900 + pt) Q (F0 m 1025 ls [])) : W p l e room_1 s m #[Value.ref sb] below meth c H locs cells (sl + pt) Q (F0 m 172 ls []) := by
  obtain ⟨hx, hb, hr, hml, hown, hts, hT, hX0, hbl, hlocks, hbA, hA, hA2, hK, hN, hSX, hXC⟩ := id G
  refine lv_aload_n hx hb dL_law_172 rfl (lv_at hl 2 rfl) ?_
  refine lv_aload_n hx hb dL_law_173 rfl (lv_at hl 3 rfl) ?_
  refine lv_iload_n hx hb dL_law_174 rfl (lv_at hl 0 rfl) ?_
  refine lv_iconst (v := 1) hx hb dL_law_175 (by decide) ?_
  refine lv_iadd hx hb dL_law_176 ?_
  refine va_sld hx hb hX0 hbl hbA hS (hin 1 ⟨by decide, by decide⟩) dL_law_177 ?_
  refine lv_aload_n hx hb dL_law_178 rfl (lv_at hl 3 rfl) ?_
  refine lv_iload_n hx hb dL_law_179 rfl (lv_at hl 0 rfl) ?_
  refine lv_iconst (v := 2) hx hb dL_law_180 (by decide) ?_
  refine lv_iadd hx hb dL_law_181 ?_
  refine va_sld hx hb hX0 hbl hbA hS (hin 2 ⟨by decide, by decide⟩) dL_law_182 ?_
  refine lv_aload_n hx hb dL_law_183 rfl (lv_at hl 3 rfl) ?_
  refine lv_iload_n hx hb dL_law_184 rfl (lv_at hl 0 rfl) ?_
  refine lv_iconst (v := 3) hx hb dL_law_185 (by decide) ?_
  refine lv_iadd hx hb dL_law_186 ?_
  refine va_sld hx hb hX0 hbl hbA hS (hin 3 ⟨by decide, by decide⟩) dL_law_187 ?_
  refine lv_aload_n hx hb dL_law_188 rfl (lv_at hl 3 rfl) ?_
  refine lv_iload_n hx hb dL_law_189 rfl (lv_at hl 0 rfl) ?_
  refine lv_iconst (v := 4) hx hb dL_law_190 (by decide) ?_
  refine lv_iadd hx hb dL_law_191 ?_
  refine va_sld hx hb hX0 hbl hbA hS (hin 4 ⟨by decide, by decide⟩) dL_law_192 ?_
  refine lv_aload_n hx hb dL_law_193 rfl (lv_at hl 3 rfl) ?_
  refine lv_iload_n hx hb dL_law_194 rfl (lv_at hl 0 rfl) ?_
  refine lv_iconst (v := 5) hx hb dL_law_195 (by decide) ?_
  refine lv_iadd hx hb dL_law_196 ?_
  refine va_sld hx hb hX0 hbl hbA hS (hin 5 ⟨by decide, by decide⟩) dL_law_197 ?_
  refine xc_feed G hl hI hP hD hS hce hsl (xs (Int32.toNatClampNeg (i + 1))) (xs (Int32.toNatClampNeg (i + 2))) (xs (Int32.toNatClampNeg (i + 3))) (xs (Int32.toNatClampNeg (i + 4))) (xs (Int32.toNatClampNeg (i + 5))) (fun r H locs w F r3 wh wz im xi2 wf32 pt2 hpo hI hP hD hS => ?_)
  refine lv_pop hx hb dL_law_201 rfl ?_
  have hpl := hI.pt_le
  have hq9 := pm_mv w F r3 im wh wz v
  have hP := vPp hq9 hP
  have hD := vDp hq9 hD
  refine lv_aload_n hx hb dL_law_202 rfl (lv_at hl 1 rfl) ?_
  refine lv_aload_n hx hb dL_law_203 rfl (lv_at hl 3 rfl) ?_
  refine lv_iload_n hx hb dL_law_204 rfl (lv_at hl 0 rfl) ?_
  refine lv_iconst (v := 1) hx hb dL_law_205 (by decide) ?_
  refine lv_iadd hx hb dL_law_206 ?_
  refine va_sld hx hb hX0 hbl hbA hS (hin 1 ⟨by decide, by decide⟩) dL_law_207 ?_
  refine lv_aload_n hx hb dL_law_208 rfl (lv_at hl 3 rfl) ?_
  refine lv_iload_n hx hb dL_law_209 rfl (lv_at hl 0 rfl) ?_
  refine lv_iconst (v := 2) hx hb dL_law_210 (by decide) ?_
  refine lv_iadd hx hb dL_law_211 ?_
  refine va_sld hx hb hX0 hbl hbA hS (hin 2 ⟨by decide, by decide⟩) dL_law_212 ?_
  refine lv_aload_n hx hb dL_law_213 rfl (lv_at hl 3 rfl) ?_
  refine lv_iload_n hx hb dL_law_214 rfl (lv_at hl 0 rfl) ?_
  refine lv_iconst (v := 3) hx hb dL_law_215 (by decide) ?_
  refine lv_iadd hx hb dL_law_216 ?_
  refine va_sld hx hb hX0 hbl hbA hS (hin 3 ⟨by decide, by decide⟩) dL_law_217 ?_
  refine lv_aload_n hx hb dL_law_218 rfl (lv_at hl 3 rfl) ?_
  refine lv_iload_n hx hb dL_law_219 rfl (lv_at hl 0 rfl) ?_
  refine lv_iconst (v := 4) hx hb dL_law_220 (by decide) ?_
  refine lv_iadd hx hb dL_law_221 ?_
  refine va_sld hx hb hX0 hbl hbA hS (hin 4 ⟨by decide, by decide⟩) dL_law_222 ?_
  refine lv_aload_n hx hb dL_law_223 rfl (lv_at hl 3 rfl) ?_
  refine lv_iload_n hx hb dL_law_224 rfl (lv_at hl 0 rfl) ?_
  refine lv_iconst (v := 5) hx hb dL_law_225 (by decide) ?_
  refine lv_iadd hx hb dL_law_226 ?_
  refine va_sld hx hb hX0 hbl hbA hS (hin 5 ⟨by decide, by decide⟩) dL_law_227 ?_
  refine mc_feed G hl hM hP hD hS (by omega) (by omega) (xs (Int32.toNatClampNeg (i + 1))) (xs (Int32.toNatClampNeg (i + 2))) (xs (Int32.toNatClampNeg (i + 3))) (xs (Int32.toNatClampNeg (i + 4))) (xs (Int32.toNatClampNeg (i + 5))) (fun r2 H locs v gsd2 gim2 gmd2 hpm hM hP hD hS => ?_)
  refine lv_pop hx hb dL_law_231 rfl ?_
  refine lv_goto (tgt := 1025) hx hb dL_law_232 (by decide) ?_
  have hq8 := (pm_mv w F r3 im wh wz v).symm
  have hP := vPp hq8 hP
  have hD := vDp hq8 hD
  obtain ⟨e1, e2⟩ := hpo
  obtain ⟨e3, e4, e5⟩ := hpm
  rw [e1, e2] at hI
  rw [e4, e5] at hM
  have hLk := hLk.sea e3
  exact kk H locs w F r3 wh wz v im xi wf3 gsd2 gim gmd pt2 hI hM hLk hP hD hS
theorem dL_law_235 : decode cL_law 235 = .ok (.aload_n 1, 1) := by decide +kernel
theorem dL_law_236 : decode cL_law 236 = .ok (.aload_n 0, 1) := by decide +kernel
theorem dL_law_237 : decode cL_law 237 = .ok (.iload_n 3, 1) := by decide +kernel
theorem dL_law_238 : decode cL_law 238 = .ok (.iconst 1, 1) := by decide +kernel
theorem dL_law_239 : decode cL_law 239 = .ok (.iadd, 1) := by decide +kernel
theorem dL_law_240 : decode cL_law 240 = .ok (.iaload, 1) := by decide +kernel
theorem dL_law_244 : decode cL_law 244 = .ok (.pop, 1) := by decide +kernel
theorem dL_law_245 : decode cL_law 245 = .ok (.aload_n 2, 1) := by decide +kernel
theorem dL_law_246 : decode cL_law 246 = .ok (.aload_n 0, 1) := by decide +kernel
theorem dL_law_247 : decode cL_law 247 = .ok (.iload_n 3, 1) := by decide +kernel
theorem dL_law_248 : decode cL_law 248 = .ok (.iconst 1, 1) := by decide +kernel
theorem dL_law_249 : decode cL_law 249 = .ok (.iadd, 1) := by decide +kernel
theorem dL_law_250 : decode cL_law 250 = .ok (.iaload, 1) := by decide +kernel
theorem dL_law_254 : decode cL_law 254 = .ok (.pop, 1) := by decide +kernel
theorem dL_law_255 : decode cL_law 255 = .ok (.goto 770, 3) := by decide +kernel
set_option maxHeartbeats 4000000 in
set_option maxRecDepth 100000 in
theorem cs_end {p : Program} {l : Launch} {e : Env} {s : State} {m : MethodId} {below : List Frame} {meth : Method} {c : Code} {sb LL : Nat} {xs : Nat → Int32} {D : va_G} {cs : Nat → ClassId} {A : Nat → Prop} {sa sv : Nat → Nat} (G : LX p l s m meth c sb LL xs D cs A sa sv) {H : Heap} {locs : List Loc} {cells sl : Nat} {Q : State → Prop} {ls : Array Slot} {ox m0 : Nat} {i : Int32} (hl : lv_has ls 4 [(3, .int i), (2, .ref m0), (1, .ref ox), (0, .ref sb)]) (hin : ∀ k : Int32, Rg 0 5 k → vp_in (i + k) LL) {w F r3 wh wz v : va_W} {im : Nat → va_W} {xi : Nat → Option (Nat → Int32)} {wf3 gsd gim gmd : Nat → Int32} {pt : Nat} (hI : XI cs ox w F r3 wh wz im xi wf3 pt) (hM : MI cs m0 v gsd gim gmd) (hLk : LNK wf3 gsd xi gim gmd) (hP : va_P D vwCl (w ++ TL F r3 im wh wz v) H) (hD : va_D A (w ++ TL F r3 im wh wz v)) (hS : va_S A s.heap H locs) (hce : cells + 20 ≤ 600000) (hsl : sl + 3900900 ≤ 7302249) (kk : ∀ (H : Heap) (locs : List Loc) (w F r3 wh wz v : va_W) (im : Nat → va_W) (xi : Nat → Option (Nat → Int32)) (wf3 gsd gim gmd : Nat → Int32) (pt : Nat), XI cs ox w F r3 wh wz im xi wf3 pt → MI cs m0 v gsd gim gmd → LNK wf3 gsd xi gim gmd → va_P D vwCl (w ++ TL F r3 im wh wz v) H → va_D A (w ++ TL F r3 im wh wz v) → va_S A s.heap H locs → W p l e room_1 s m #[Value.ref sb] below meth c H locs (cells + 20) (sl + 900 + pt) Q (F0 m 1025 ls [])) : W p l e room_1 s m #[Value.ref sb] below meth c H locs cells (sl + pt) Q (F0 m 235 ls []) := by
  obtain ⟨hx, hb, hr, hml, hown, hts, hT, hX0, hbl, hlocks, hbA, hA, hA2, hK, hN, hSX, hXC⟩ := id G
  refine lv_aload_n hx hb dL_law_235 rfl (lv_at hl 2 rfl) ?_
  refine lv_aload_n hx hb dL_law_236 rfl (lv_at hl 3 rfl) ?_
  refine lv_iload_n hx hb dL_law_237 rfl (lv_at hl 0 rfl) ?_
  refine lv_iconst (v := 1) hx hb dL_law_238 (by decide) ?_
  refine lv_iadd hx hb dL_law_239 ?_
  refine va_sld hx hb hX0 hbl hbA hS (hin 1 ⟨by decide, by decide⟩) dL_law_240 ?_
  refine xc_end G hl hI hP hD hS hce hsl (xs (Int32.toNatClampNeg (i + 1))) (fun r H locs w F r3 wh wz im xi2 wf32 pt2 hpo hI hP hD hS => ?_)
  refine lv_pop hx hb dL_law_244 rfl ?_
  have hpl := hI.pt_le
  have hq9 := pm_mv w F r3 im wh wz v
  have hP := vPp hq9 hP
  have hD := vDp hq9 hD
  refine lv_aload_n hx hb dL_law_245 rfl (lv_at hl 1 rfl) ?_
  refine lv_aload_n hx hb dL_law_246 rfl (lv_at hl 3 rfl) ?_
  refine lv_iload_n hx hb dL_law_247 rfl (lv_at hl 0 rfl) ?_
  refine lv_iconst (v := 1) hx hb dL_law_248 (by decide) ?_
  refine lv_iadd hx hb dL_law_249 ?_
  refine va_sld hx hb hX0 hbl hbA hS (hin 1 ⟨by decide, by decide⟩) dL_law_250 ?_
  refine mc_end G hl hM hP hD hS (by omega) (by omega) (xs (Int32.toNatClampNeg (i + 1))) (fun r2 H locs v gsd2 gim2 gmd2 hpm hM hP hD hS => ?_)
  refine lv_pop hx hb dL_law_254 rfl ?_
  refine lv_goto (tgt := 1025) hx hb dL_law_255 (by decide) ?_
  have hq8 := (pm_mv w F r3 im wh wz v).symm
  have hP := vPp hq8 hP
  have hD := vDp hq8 hD
  obtain ⟨e1, e2⟩ := hpo
  obtain ⟨e3, e4, e5⟩ := hpm
  rw [e1, e2] at hI
  rw [e4, e5] at hM
  have hLk := hLk.sea e3
  exact kk H locs w F r3 wh wz v im xi wf3 gsd2 gim gmd pt2 hI hM hLk hP hD hS
theorem dL_law_258 : decode cL_law 258 = .ok (.aload_n 1, 1) := by decide +kernel
theorem dL_law_262 : decode cL_law 262 = .ok (.pop, 1) := by decide +kernel
theorem dL_law_263 : decode cL_law 263 = .ok (.aload_n 2, 1) := by decide +kernel
theorem dL_law_267 : decode cL_law 267 = .ok (.pop, 1) := by decide +kernel
theorem dL_law_268 : decode cL_law 268 = .ok (.goto 757, 3) := by decide +kernel
set_option maxHeartbeats 4000000 in
set_option maxRecDepth 100000 in
theorem cs_lift {p : Program} {l : Launch} {e : Env} {s : State} {m : MethodId} {below : List Frame} {meth : Method} {c : Code} {sb LL : Nat} {xs : Nat → Int32} {D : va_G} {cs : Nat → ClassId} {A : Nat → Prop} {sa sv : Nat → Nat} (G : LX p l s m meth c sb LL xs D cs A sa sv) {H : Heap} {locs : List Loc} {cells sl : Nat} {Q : State → Prop} {ls : Array Slot} {ox m0 : Nat} {i : Int32} (hl : lv_has ls 4 [(3, .int i), (2, .ref m0), (1, .ref ox), (0, .ref sb)]) (hin : ∀ k : Int32, Rg 0 5 k → vp_in (i + k) LL) {w F r3 wh wz v : va_W} {im : Nat → va_W} {xi : Nat → Option (Nat → Int32)} {wf3 gsd gim gmd : Nat → Int32} {pt : Nat} (hI : XI cs ox w F r3 wh wz im xi wf3 pt) (hM : MI cs m0 v gsd gim gmd) (hLk : LNK wf3 gsd xi gim gmd) (hP : va_P D vwCl (w ++ TL F r3 im wh wz v) H) (hD : va_D A (w ++ TL F r3 im wh wz v)) (hS : va_S A s.heap H locs) (hce : cells + 20 ≤ 600000) (hsl : sl + 3900900 ≤ 7302249) (kk : ∀ (H : Heap) (locs : List Loc) (w F r3 wh wz v : va_W) (im : Nat → va_W) (xi : Nat → Option (Nat → Int32)) (wf3 gsd gim gmd : Nat → Int32) (pt : Nat), XI cs ox w F r3 wh wz im xi wf3 pt → MI cs m0 v gsd gim gmd → LNK wf3 gsd xi gim gmd → va_P D vwCl (w ++ TL F r3 im wh wz v) H → va_D A (w ++ TL F r3 im wh wz v) → va_S A s.heap H locs → W p l e room_1 s m #[Value.ref sb] below meth c H locs (cells + 20) (sl + 900 + pt) Q (F0 m 1025 ls [])) : W p l e room_1 s m #[Value.ref sb] below meth c H locs cells (sl + pt) Q (F0 m 258 ls []) := by
  obtain ⟨hx, hb, hr, hml, hown, hts, hT, hX0, hbl, hlocks, hbA, hA, hA2, hK, hN, hSX, hXC⟩ := id G
  refine lv_aload_n hx hb dL_law_258 rfl (lv_at hl 2 rfl) ?_
  refine xc_lift G hl hI hP hD hS hce hsl (fun r H locs w F r3 wh wz im xi2 wf32 pt2 hpo hI hP hD hS => ?_)
  refine lv_pop hx hb dL_law_262 rfl ?_
  have hpl := hI.pt_le
  have hq9 := pm_mv w F r3 im wh wz v
  have hP := vPp hq9 hP
  have hD := vDp hq9 hD
  refine lv_aload_n hx hb dL_law_263 rfl (lv_at hl 1 rfl) ?_
  refine mc_lift G hl hM hP hD hS (by omega) (by omega) (fun r2 H locs v gsd2 gim2 gmd2 hpm hM hP hD hS => ?_)
  refine lv_pop hx hb dL_law_267 rfl ?_
  refine lv_goto (tgt := 1025) hx hb dL_law_268 (by decide) ?_
  have hq8 := (pm_mv w F r3 im wh wz v).symm
  have hP := vPp hq8 hP
  have hD := vDp hq8 hD
  obtain ⟨e1, e2⟩ := hpo
  obtain ⟨e3, e4, e5⟩ := hpm
  rw [e1, e2] at hI
  rw [e4, e5] at hM
  have hLk := hLk.sea e3
  exact kk H locs w F r3 wh wz v im xi wf3 gsd2 gim gmd pt2 hI hM hLk hP hD hS
theorem dL_law_271 : decode cL_law 271 = .ok (.aload_n 1, 1) := by decide +kernel
theorem dL_law_275 : decode cL_law 275 = .ok (.pop, 1) := by decide +kernel
theorem dL_law_276 : decode cL_law 276 = .ok (.aload_n 2, 1) := by decide +kernel
theorem dL_law_280 : decode cL_law 280 = .ok (.pop, 1) := by decide +kernel
theorem dL_law_281 : decode cL_law 281 = .ok (.goto 744, 3) := by decide +kernel
set_option maxHeartbeats 4000000 in
set_option maxRecDepth 100000 in
theorem cs_rule {p : Program} {l : Launch} {e : Env} {s : State} {m : MethodId} {below : List Frame} {meth : Method} {c : Code} {sb LL : Nat} {xs : Nat → Int32} {D : va_G} {cs : Nat → ClassId} {A : Nat → Prop} {sa sv : Nat → Nat} (G : LX p l s m meth c sb LL xs D cs A sa sv) {H : Heap} {locs : List Loc} {cells sl : Nat} {Q : State → Prop} {ls : Array Slot} {ox m0 : Nat} {i : Int32} (hl : lv_has ls 4 [(3, .int i), (2, .ref m0), (1, .ref ox), (0, .ref sb)]) (hin : ∀ k : Int32, Rg 0 5 k → vp_in (i + k) LL) {w F r3 wh wz v : va_W} {im : Nat → va_W} {xi : Nat → Option (Nat → Int32)} {wf3 gsd gim gmd : Nat → Int32} {pt : Nat} (hI : XI cs ox w F r3 wh wz im xi wf3 pt) (hM : MI cs m0 v gsd gim gmd) (hLk : LNK wf3 gsd xi gim gmd) (hP : va_P D vwCl (w ++ TL F r3 im wh wz v) H) (hD : va_D A (w ++ TL F r3 im wh wz v)) (hS : va_S A s.heap H locs) (hce : cells + 20 ≤ 600000) (hsl : sl + 3900900 ≤ 7302249) (kk : ∀ (H : Heap) (locs : List Loc) (w F r3 wh wz v : va_W) (im : Nat → va_W) (xi : Nat → Option (Nat → Int32)) (wf3 gsd gim gmd : Nat → Int32) (pt : Nat), XI cs ox w F r3 wh wz im xi wf3 pt → MI cs m0 v gsd gim gmd → LNK wf3 gsd xi gim gmd → va_P D vwCl (w ++ TL F r3 im wh wz v) H → va_D A (w ++ TL F r3 im wh wz v) → va_S A s.heap H locs → W p l e room_1 s m #[Value.ref sb] below meth c H locs (cells + 20) (sl + 900 + pt) Q (F0 m 1025 ls [])) : W p l e room_1 s m #[Value.ref sb] below meth c H locs cells (sl + pt) Q (F0 m 271 ls []) := by
  obtain ⟨hx, hb, hr, hml, hown, hts, hT, hX0, hbl, hlocks, hbA, hA, hA2, hK, hN, hSX, hXC⟩ := id G
  refine lv_aload_n hx hb dL_law_271 rfl (lv_at hl 2 rfl) ?_
  refine xc_rule G hl hI hP hD hS hce hsl (fun r H locs w F r3 wh wz im xi2 wf32 pt2 hpo hI hP hD hS => ?_)
  refine lv_pop hx hb dL_law_275 rfl ?_
  have hpl := hI.pt_le
  have hq9 := pm_mv w F r3 im wh wz v
  have hP := vPp hq9 hP
  have hD := vDp hq9 hD
  refine lv_aload_n hx hb dL_law_276 rfl (lv_at hl 1 rfl) ?_
  refine mc_rule G hl hM hP hD hS (by omega) (by omega) (fun r2 H locs v gsd2 gim2 gmd2 hpm hM hP hD hS => ?_)
  refine lv_pop hx hb dL_law_280 rfl ?_
  refine lv_goto (tgt := 1025) hx hb dL_law_281 (by decide) ?_
  have hq8 := (pm_mv w F r3 im wh wz v).symm
  have hP := vPp hq8 hP
  have hD := vDp hq8 hD
  obtain ⟨e1, e2⟩ := hpo
  obtain ⟨e3, e4, e5⟩ := hpm
  rw [e1, e2] at hI
  rw [e4, e5] at hM
  have hLk := hLk.sea e3
  exact kk H locs w F r3 wh wz v im xi wf3 gsd2 gim gmd pt2 hI hM hLk hP hD hS
theorem dL_law_284 : decode cL_law 284 = .ok (.aload_n 1, 1) := by decide +kernel
theorem dL_law_285 : decode cL_law 285 = .ok (.aload_n 0, 1) := by decide +kernel
theorem dL_law_286 : decode cL_law 286 = .ok (.iload_n 3, 1) := by decide +kernel
theorem dL_law_287 : decode cL_law 287 = .ok (.iconst 1, 1) := by decide +kernel
theorem dL_law_288 : decode cL_law 288 = .ok (.iadd, 1) := by decide +kernel
theorem dL_law_289 : decode cL_law 289 = .ok (.iaload, 1) := by decide +kernel
theorem dL_law_290 : decode cL_law 290 = .ok (.aload_n 0, 1) := by decide +kernel
theorem dL_law_291 : decode cL_law 291 = .ok (.iload_n 3, 1) := by decide +kernel
theorem dL_law_292 : decode cL_law 292 = .ok (.iconst 2, 1) := by decide +kernel
theorem dL_law_293 : decode cL_law 293 = .ok (.iadd, 1) := by decide +kernel
theorem dL_law_294 : decode cL_law 294 = .ok (.iaload, 1) := by decide +kernel
theorem dL_law_298 : decode cL_law 298 = .ok (.pop, 1) := by decide +kernel
theorem dL_law_299 : decode cL_law 299 = .ok (.aload_n 2, 1) := by decide +kernel
theorem dL_law_300 : decode cL_law 300 = .ok (.aload_n 0, 1) := by decide +kernel
theorem dL_law_301 : decode cL_law 301 = .ok (.iload_n 3, 1) := by decide +kernel
theorem dL_law_302 : decode cL_law 302 = .ok (.iconst 1, 1) := by decide +kernel
theorem dL_law_303 : decode cL_law 303 = .ok (.iadd, 1) := by decide +kernel
theorem dL_law_304 : decode cL_law 304 = .ok (.iaload, 1) := by decide +kernel
theorem dL_law_305 : decode cL_law 305 = .ok (.aload_n 0, 1) := by decide +kernel
theorem dL_law_306 : decode cL_law 306 = .ok (.iload_n 3, 1) := by decide +kernel
theorem dL_law_307 : decode cL_law 307 = .ok (.iconst 2, 1) := by decide +kernel
theorem dL_law_308 : decode cL_law 308 = .ok (.iadd, 1) := by decide +kernel
theorem dL_law_309 : decode cL_law 309 = .ok (.iaload, 1) := by decide +kernel
theorem dL_law_313 : decode cL_law 313 = .ok (.pop, 1) := by decide +kernel
theorem dL_law_314 : decode cL_law 314 = .ok (.goto 711, 3) := by decide +kernel
set_option maxHeartbeats 4000000 in
set_option maxRecDepth 100000 in
theorem cs_button {p : Program} {l : Launch} {e : Env} {s : State} {m : MethodId} {below : List Frame} {meth : Method} {c : Code} {sb LL : Nat} {xs : Nat → Int32} {D : va_G} {cs : Nat → ClassId} {A : Nat → Prop} {sa sv : Nat → Nat} (G : LX p l s m meth c sb LL xs D cs A sa sv) {H : Heap} {locs : List Loc} {cells sl : Nat} {Q : State → Prop} {ls : Array Slot} {ox m0 : Nat} {i : Int32} (hl : lv_has ls 4 [(3, .int i), (2, .ref m0), (1, .ref ox), (0, .ref sb)]) (hin : ∀ k : Int32, Rg 0 5 k → vp_in (i + k) LL) {w F r3 wh wz v : va_W} {im : Nat → va_W} {xi : Nat → Option (Nat → Int32)} {wf3 gsd gim gmd : Nat → Int32} {pt : Nat} (hI : XI cs ox w F r3 wh wz im xi wf3 pt) (hM : MI cs m0 v gsd gim gmd) (hLk : LNK wf3 gsd xi gim gmd) (hP : va_P D vwCl (w ++ TL F r3 im wh wz v) H) (hD : va_D A (w ++ TL F r3 im wh wz v)) (hS : va_S A s.heap H locs) (hce : cells + 20 ≤ 600000) (hsl : sl + 3900900 ≤ 7302249) (kk : ∀ (H : Heap) (locs : List Loc) (w F r3 wh wz v : va_W) (im : Nat → va_W) (xi : Nat → Option (Nat → Int32)) (wf3 gsd gim gmd : Nat → Int32) (pt : Nat), XI cs ox w F r3 wh wz im xi wf3 pt → MI cs m0 v gsd gim gmd → LNK wf3 gsd xi gim gmd → va_P D vwCl (w ++ TL F r3 im wh wz v) H → va_D A (w ++ TL F r3 im wh wz v) → va_S A s.heap H locs → W p l e room_1 s m #[Value.ref sb] below meth c H locs (cells + 20) (sl + 900 + pt) Q (F0 m 1025 ls [])) : W p l e room_1 s m #[Value.ref sb] below meth c H locs cells (sl + pt) Q (F0 m 284 ls []) := by
  obtain ⟨hx, hb, hr, hml, hown, hts, hT, hX0, hbl, hlocks, hbA, hA, hA2, hK, hN, hSX, hXC⟩ := id G
  refine lv_aload_n hx hb dL_law_284 rfl (lv_at hl 2 rfl) ?_
  refine lv_aload_n hx hb dL_law_285 rfl (lv_at hl 3 rfl) ?_
  refine lv_iload_n hx hb dL_law_286 rfl (lv_at hl 0 rfl) ?_
  refine lv_iconst (v := 1) hx hb dL_law_287 (by decide) ?_
  refine lv_iadd hx hb dL_law_288 ?_
  refine va_sld hx hb hX0 hbl hbA hS (hin 1 ⟨by decide, by decide⟩) dL_law_289 ?_
  refine lv_aload_n hx hb dL_law_290 rfl (lv_at hl 3 rfl) ?_
  refine lv_iload_n hx hb dL_law_291 rfl (lv_at hl 0 rfl) ?_
  refine lv_iconst (v := 2) hx hb dL_law_292 (by decide) ?_
  refine lv_iadd hx hb dL_law_293 ?_
  refine va_sld hx hb hX0 hbl hbA hS (hin 2 ⟨by decide, by decide⟩) dL_law_294 ?_
  refine xc_button G hl hI hP hD hS hce hsl (xs (Int32.toNatClampNeg (i + 1))) (xs (Int32.toNatClampNeg (i + 2))) (fun r H locs w F r3 wh wz im xi2 wf32 pt2 hpo hI hP hD hS => ?_)
  refine lv_pop hx hb dL_law_298 rfl ?_
  have hpl := hI.pt_le
  have hq9 := pm_mv w F r3 im wh wz v
  have hP := vPp hq9 hP
  have hD := vDp hq9 hD
  refine lv_aload_n hx hb dL_law_299 rfl (lv_at hl 1 rfl) ?_
  refine lv_aload_n hx hb dL_law_300 rfl (lv_at hl 3 rfl) ?_
  refine lv_iload_n hx hb dL_law_301 rfl (lv_at hl 0 rfl) ?_
  refine lv_iconst (v := 1) hx hb dL_law_302 (by decide) ?_
  refine lv_iadd hx hb dL_law_303 ?_
  refine va_sld hx hb hX0 hbl hbA hS (hin 1 ⟨by decide, by decide⟩) dL_law_304 ?_
  refine lv_aload_n hx hb dL_law_305 rfl (lv_at hl 3 rfl) ?_
  refine lv_iload_n hx hb dL_law_306 rfl (lv_at hl 0 rfl) ?_
  refine lv_iconst (v := 2) hx hb dL_law_307 (by decide) ?_
  refine lv_iadd hx hb dL_law_308 ?_
  refine va_sld hx hb hX0 hbl hbA hS (hin 2 ⟨by decide, by decide⟩) dL_law_309 ?_
  refine mc_button G hl hM hP hD hS (by omega) (by omega) (xs (Int32.toNatClampNeg (i + 1))) (xs (Int32.toNatClampNeg (i + 2))) (fun r2 H locs v gsd2 gim2 gmd2 hpm hM hP hD hS => ?_)
  refine lv_pop hx hb dL_law_313 rfl ?_
  refine lv_goto (tgt := 1025) hx hb dL_law_314 (by decide) ?_
  have hq8 := (pm_mv w F r3 im wh wz v).symm
  have hP := vPp hq8 hP
  have hD := vDp hq8 hD
  obtain ⟨e1, e2⟩ := hpo
  obtain ⟨e3, e4, e5⟩ := hpm
  rw [e1, e2] at hI
  rw [e4, e5] at hM
  have hLk := hLk.sea e3
  exact kk H locs w F r3 wh wz v im xi wf3 gsd2 gim gmd pt2 hI hM hLk hP hD hS
theorem dL_law_317 : decode cL_law 317 = .ok (.aload_n 1, 1) := by decide +kernel
theorem dL_law_318 : decode cL_law 318 = .ok (.aload_n 0, 1) := by decide +kernel
theorem dL_law_319 : decode cL_law 319 = .ok (.iload_n 3, 1) := by decide +kernel
theorem dL_law_320 : decode cL_law 320 = .ok (.iconst 1, 1) := by decide +kernel
theorem dL_law_321 : decode cL_law 321 = .ok (.iadd, 1) := by decide +kernel
theorem dL_law_322 : decode cL_law 322 = .ok (.iaload, 1) := by decide +kernel
theorem dL_law_323 : decode cL_law 323 = .ok (.aload_n 0, 1) := by decide +kernel
theorem dL_law_324 : decode cL_law 324 = .ok (.iload_n 3, 1) := by decide +kernel
theorem dL_law_325 : decode cL_law 325 = .ok (.iconst 2, 1) := by decide +kernel
theorem dL_law_326 : decode cL_law 326 = .ok (.iadd, 1) := by decide +kernel
theorem dL_law_327 : decode cL_law 327 = .ok (.iaload, 1) := by decide +kernel
theorem dL_law_331 : decode cL_law 331 = .ok (.pop, 1) := by decide +kernel
theorem dL_law_332 : decode cL_law 332 = .ok (.aload_n 2, 1) := by decide +kernel
theorem dL_law_333 : decode cL_law 333 = .ok (.aload_n 0, 1) := by decide +kernel
theorem dL_law_334 : decode cL_law 334 = .ok (.iload_n 3, 1) := by decide +kernel
theorem dL_law_335 : decode cL_law 335 = .ok (.iconst 1, 1) := by decide +kernel
theorem dL_law_336 : decode cL_law 336 = .ok (.iadd, 1) := by decide +kernel
theorem dL_law_337 : decode cL_law 337 = .ok (.iaload, 1) := by decide +kernel
theorem dL_law_338 : decode cL_law 338 = .ok (.aload_n 0, 1) := by decide +kernel
theorem dL_law_339 : decode cL_law 339 = .ok (.iload_n 3, 1) := by decide +kernel
theorem dL_law_340 : decode cL_law 340 = .ok (.iconst 2, 1) := by decide +kernel
theorem dL_law_341 : decode cL_law 341 = .ok (.iadd, 1) := by decide +kernel
theorem dL_law_342 : decode cL_law 342 = .ok (.iaload, 1) := by decide +kernel
theorem dL_law_346 : decode cL_law 346 = .ok (.pop, 1) := by decide +kernel
theorem dL_law_347 : decode cL_law 347 = .ok (.goto 678, 3) := by decide +kernel
set_option maxHeartbeats 4000000 in
set_option maxRecDepth 100000 in
theorem cs_hole {p : Program} {l : Launch} {e : Env} {s : State} {m : MethodId} {below : List Frame} {meth : Method} {c : Code} {sb LL : Nat} {xs : Nat → Int32} {D : va_G} {cs : Nat → ClassId} {A : Nat → Prop} {sa sv : Nat → Nat} (G : LX p l s m meth c sb LL xs D cs A sa sv) {H : Heap} {locs : List Loc} {cells sl : Nat} {Q : State → Prop} {ls : Array Slot} {ox m0 : Nat} {i : Int32} (hl : lv_has ls 4 [(3, .int i), (2, .ref m0), (1, .ref ox), (0, .ref sb)]) (hin : ∀ k : Int32, Rg 0 5 k → vp_in (i + k) LL) {w F r3 wh wz v : va_W} {im : Nat → va_W} {xi : Nat → Option (Nat → Int32)} {wf3 gsd gim gmd : Nat → Int32} {pt : Nat} (hI : XI cs ox w F r3 wh wz im xi wf3 pt) (hM : MI cs m0 v gsd gim gmd) (hLk : LNK wf3 gsd xi gim gmd) (hP : va_P D vwCl (w ++ TL F r3 im wh wz v) H) (hD : va_D A (w ++ TL F r3 im wh wz v)) (hS : va_S A s.heap H locs) (hce : cells + 20 ≤ 600000) (hsl : sl + 3900900 ≤ 7302249) (kk : ∀ (H : Heap) (locs : List Loc) (w F r3 wh wz v : va_W) (im : Nat → va_W) (xi : Nat → Option (Nat → Int32)) (wf3 gsd gim gmd : Nat → Int32) (pt : Nat), XI cs ox w F r3 wh wz im xi wf3 pt → MI cs m0 v gsd gim gmd → LNK wf3 gsd xi gim gmd → va_P D vwCl (w ++ TL F r3 im wh wz v) H → va_D A (w ++ TL F r3 im wh wz v) → va_S A s.heap H locs → W p l e room_1 s m #[Value.ref sb] below meth c H locs (cells + 20) (sl + 900 + pt) Q (F0 m 1025 ls [])) : W p l e room_1 s m #[Value.ref sb] below meth c H locs cells (sl + pt) Q (F0 m 317 ls []) := by
  obtain ⟨hx, hb, hr, hml, hown, hts, hT, hX0, hbl, hlocks, hbA, hA, hA2, hK, hN, hSX, hXC⟩ := id G
  refine lv_aload_n hx hb dL_law_317 rfl (lv_at hl 2 rfl) ?_
  refine lv_aload_n hx hb dL_law_318 rfl (lv_at hl 3 rfl) ?_
  refine lv_iload_n hx hb dL_law_319 rfl (lv_at hl 0 rfl) ?_
  refine lv_iconst (v := 1) hx hb dL_law_320 (by decide) ?_
  refine lv_iadd hx hb dL_law_321 ?_
  refine va_sld hx hb hX0 hbl hbA hS (hin 1 ⟨by decide, by decide⟩) dL_law_322 ?_
  refine lv_aload_n hx hb dL_law_323 rfl (lv_at hl 3 rfl) ?_
  refine lv_iload_n hx hb dL_law_324 rfl (lv_at hl 0 rfl) ?_
  refine lv_iconst (v := 2) hx hb dL_law_325 (by decide) ?_
  refine lv_iadd hx hb dL_law_326 ?_
  refine va_sld hx hb hX0 hbl hbA hS (hin 2 ⟨by decide, by decide⟩) dL_law_327 ?_
  refine xc_hole G hl hI hP hD hS hce hsl (xs (Int32.toNatClampNeg (i + 1))) (xs (Int32.toNatClampNeg (i + 2))) (fun r H locs w F r3 wh wz im xi2 wf32 pt2 hpo hI hP hD hS => ?_)
  refine lv_pop hx hb dL_law_331 rfl ?_
  have hpl := hI.pt_le
  have hq9 := pm_mv w F r3 im wh wz v
  have hP := vPp hq9 hP
  have hD := vDp hq9 hD
  refine lv_aload_n hx hb dL_law_332 rfl (lv_at hl 1 rfl) ?_
  refine lv_aload_n hx hb dL_law_333 rfl (lv_at hl 3 rfl) ?_
  refine lv_iload_n hx hb dL_law_334 rfl (lv_at hl 0 rfl) ?_
  refine lv_iconst (v := 1) hx hb dL_law_335 (by decide) ?_
  refine lv_iadd hx hb dL_law_336 ?_
  refine va_sld hx hb hX0 hbl hbA hS (hin 1 ⟨by decide, by decide⟩) dL_law_337 ?_
  refine lv_aload_n hx hb dL_law_338 rfl (lv_at hl 3 rfl) ?_
  refine lv_iload_n hx hb dL_law_339 rfl (lv_at hl 0 rfl) ?_
  refine lv_iconst (v := 2) hx hb dL_law_340 (by decide) ?_
  refine lv_iadd hx hb dL_law_341 ?_
  refine va_sld hx hb hX0 hbl hbA hS (hin 2 ⟨by decide, by decide⟩) dL_law_342 ?_
  refine mc_hole G hl hM hP hD hS (by omega) (by omega) (xs (Int32.toNatClampNeg (i + 1))) (xs (Int32.toNatClampNeg (i + 2))) (fun r2 H locs v gsd2 gim2 gmd2 hpm hM hP hD hS => ?_)
  refine lv_pop hx hb dL_law_346 rfl ?_
  refine lv_goto (tgt := 1025) hx hb dL_law_347 (by decide) ?_
  have hq8 := (pm_mv w F r3 im wh wz v).symm
  have hP := vPp hq8 hP
  have hD := vDp hq8 hD
  obtain ⟨e1, e2⟩ := hpo
  obtain ⟨e3, e4, e5⟩ := hpm
  rw [e1, e2] at hI
  rw [e4, e5] at hM
  have hLk := hLk.sea e3
  exact kk H locs w F r3 wh wz v im xi wf3 gsd2 gim gmd pt2 hI hM hLk hP hD hS
theorem dL_law_350 : decode cL_law 350 = .ok (.aload_n 1, 1) := by decide +kernel
theorem dL_law_351 : decode cL_law 351 = .ok (.aload_n 0, 1) := by decide +kernel
theorem dL_law_352 : decode cL_law 352 = .ok (.iload_n 3, 1) := by decide +kernel
theorem dL_law_353 : decode cL_law 353 = .ok (.iconst 1, 1) := by decide +kernel
theorem dL_law_354 : decode cL_law 354 = .ok (.iadd, 1) := by decide +kernel
theorem dL_law_355 : decode cL_law 355 = .ok (.iaload, 1) := by decide +kernel
theorem dL_law_359 : decode cL_law 359 = .ok (.pop, 1) := by decide +kernel
theorem dL_law_360 : decode cL_law 360 = .ok (.aload_n 2, 1) := by decide +kernel
theorem dL_law_361 : decode cL_law 361 = .ok (.aload_n 0, 1) := by decide +kernel
theorem dL_law_362 : decode cL_law 362 = .ok (.iload_n 3, 1) := by decide +kernel
theorem dL_law_363 : decode cL_law 363 = .ok (.iconst 1, 1) := by decide +kernel
theorem dL_law_364 : decode cL_law 364 = .ok (.iadd, 1) := by decide +kernel
theorem dL_law_365 : decode cL_law 365 = .ok (.iaload, 1) := by decide +kernel
theorem dL_law_369 : decode cL_law 369 = .ok (.pop, 1) := by decide +kernel
theorem dL_law_370 : decode cL_law 370 = .ok (.goto 655, 3) := by decide +kernel
set_option maxHeartbeats 4000000 in
set_option maxRecDepth 100000 in
theorem cs_row {p : Program} {l : Launch} {e : Env} {s : State} {m : MethodId} {below : List Frame} {meth : Method} {c : Code} {sb LL : Nat} {xs : Nat → Int32} {D : va_G} {cs : Nat → ClassId} {A : Nat → Prop} {sa sv : Nat → Nat} (G : LX p l s m meth c sb LL xs D cs A sa sv) {H : Heap} {locs : List Loc} {cells sl : Nat} {Q : State → Prop} {ls : Array Slot} {ox m0 : Nat} {i : Int32} (hl : lv_has ls 4 [(3, .int i), (2, .ref m0), (1, .ref ox), (0, .ref sb)]) (hin : ∀ k : Int32, Rg 0 5 k → vp_in (i + k) LL) {w F r3 wh wz v : va_W} {im : Nat → va_W} {xi : Nat → Option (Nat → Int32)} {wf3 gsd gim gmd : Nat → Int32} {pt : Nat} (hI : XI cs ox w F r3 wh wz im xi wf3 pt) (hM : MI cs m0 v gsd gim gmd) (hLk : LNK wf3 gsd xi gim gmd) (hP : va_P D vwCl (w ++ TL F r3 im wh wz v) H) (hD : va_D A (w ++ TL F r3 im wh wz v)) (hS : va_S A s.heap H locs) (hce : cells + 20 ≤ 600000) (hsl : sl + 3900900 ≤ 7302249) (kk : ∀ (H : Heap) (locs : List Loc) (w F r3 wh wz v : va_W) (im : Nat → va_W) (xi : Nat → Option (Nat → Int32)) (wf3 gsd gim gmd : Nat → Int32) (pt : Nat), XI cs ox w F r3 wh wz im xi wf3 pt → MI cs m0 v gsd gim gmd → LNK wf3 gsd xi gim gmd → va_P D vwCl (w ++ TL F r3 im wh wz v) H → va_D A (w ++ TL F r3 im wh wz v) → va_S A s.heap H locs → W p l e room_1 s m #[Value.ref sb] below meth c H locs (cells + 20) (sl + 900 + pt) Q (F0 m 1025 ls [])) : W p l e room_1 s m #[Value.ref sb] below meth c H locs cells (sl + pt) Q (F0 m 350 ls []) := by
  obtain ⟨hx, hb, hr, hml, hown, hts, hT, hX0, hbl, hlocks, hbA, hA, hA2, hK, hN, hSX, hXC⟩ := id G
  refine lv_aload_n hx hb dL_law_350 rfl (lv_at hl 2 rfl) ?_
  refine lv_aload_n hx hb dL_law_351 rfl (lv_at hl 3 rfl) ?_
  refine lv_iload_n hx hb dL_law_352 rfl (lv_at hl 0 rfl) ?_
  refine lv_iconst (v := 1) hx hb dL_law_353 (by decide) ?_
  refine lv_iadd hx hb dL_law_354 ?_
  refine va_sld hx hb hX0 hbl hbA hS (hin 1 ⟨by decide, by decide⟩) dL_law_355 ?_
  refine xc_row G hl hI hP hD hS hce hsl (xs (Int32.toNatClampNeg (i + 1))) (fun r H locs w F r3 wh wz im xi2 wf32 pt2 hpo hI hP hD hS => ?_)
  refine lv_pop hx hb dL_law_359 rfl ?_
  have hpl := hI.pt_le
  have hq9 := pm_mv w F r3 im wh wz v
  have hP := vPp hq9 hP
  have hD := vDp hq9 hD
  refine lv_aload_n hx hb dL_law_360 rfl (lv_at hl 1 rfl) ?_
  refine lv_aload_n hx hb dL_law_361 rfl (lv_at hl 3 rfl) ?_
  refine lv_iload_n hx hb dL_law_362 rfl (lv_at hl 0 rfl) ?_
  refine lv_iconst (v := 1) hx hb dL_law_363 (by decide) ?_
  refine lv_iadd hx hb dL_law_364 ?_
  refine va_sld hx hb hX0 hbl hbA hS (hin 1 ⟨by decide, by decide⟩) dL_law_365 ?_
  refine mc_row G hl hM hP hD hS (by omega) (by omega) (xs (Int32.toNatClampNeg (i + 1))) (fun r2 H locs v gsd2 gim2 gmd2 hpm hM hP hD hS => ?_)
  refine lv_pop hx hb dL_law_369 rfl ?_
  refine lv_goto (tgt := 1025) hx hb dL_law_370 (by decide) ?_
  have hq8 := (pm_mv w F r3 im wh wz v).symm
  have hP := vPp hq8 hP
  have hD := vDp hq8 hD
  obtain ⟨e1, e2⟩ := hpo
  obtain ⟨e3, e4, e5⟩ := hpm
  rw [e1, e2] at hI
  rw [e4, e5] at hM
  have hLk := hLk.sea e3
  exact kk H locs w F r3 wh wz v im xi wf3 gsd2 gim gmd pt2 hI hM hLk hP hD hS
theorem dL_law_373 : decode cL_law 373 = .ok (.aload_n 1, 1) := by decide +kernel
theorem dL_law_374 : decode cL_law 374 = .ok (.aload_n 0, 1) := by decide +kernel
theorem dL_law_375 : decode cL_law 375 = .ok (.iload_n 3, 1) := by decide +kernel
theorem dL_law_376 : decode cL_law 376 = .ok (.iconst 1, 1) := by decide +kernel
theorem dL_law_377 : decode cL_law 377 = .ok (.iadd, 1) := by decide +kernel
theorem dL_law_378 : decode cL_law 378 = .ok (.iaload, 1) := by decide +kernel
theorem dL_law_382 : decode cL_law 382 = .ok (.pop, 1) := by decide +kernel
theorem dL_law_383 : decode cL_law 383 = .ok (.aload_n 2, 1) := by decide +kernel
theorem dL_law_384 : decode cL_law 384 = .ok (.aload_n 0, 1) := by decide +kernel
theorem dL_law_385 : decode cL_law 385 = .ok (.iload_n 3, 1) := by decide +kernel
theorem dL_law_386 : decode cL_law 386 = .ok (.iconst 1, 1) := by decide +kernel
theorem dL_law_387 : decode cL_law 387 = .ok (.iadd, 1) := by decide +kernel
theorem dL_law_388 : decode cL_law 388 = .ok (.iaload, 1) := by decide +kernel
theorem dL_law_392 : decode cL_law 392 = .ok (.pop, 1) := by decide +kernel
theorem dL_law_393 : decode cL_law 393 = .ok (.goto 632, 3) := by decide +kernel
set_option maxHeartbeats 4000000 in
set_option maxRecDepth 100000 in
theorem cs_shown {p : Program} {l : Launch} {e : Env} {s : State} {m : MethodId} {below : List Frame} {meth : Method} {c : Code} {sb LL : Nat} {xs : Nat → Int32} {D : va_G} {cs : Nat → ClassId} {A : Nat → Prop} {sa sv : Nat → Nat} (G : LX p l s m meth c sb LL xs D cs A sa sv) {H : Heap} {locs : List Loc} {cells sl : Nat} {Q : State → Prop} {ls : Array Slot} {ox m0 : Nat} {i : Int32} (hl : lv_has ls 4 [(3, .int i), (2, .ref m0), (1, .ref ox), (0, .ref sb)]) (hin : ∀ k : Int32, Rg 0 5 k → vp_in (i + k) LL) {w F r3 wh wz v : va_W} {im : Nat → va_W} {xi : Nat → Option (Nat → Int32)} {wf3 gsd gim gmd : Nat → Int32} {pt : Nat} (hI : XI cs ox w F r3 wh wz im xi wf3 pt) (hM : MI cs m0 v gsd gim gmd) (hLk : LNK wf3 gsd xi gim gmd) (hP : va_P D vwCl (w ++ TL F r3 im wh wz v) H) (hD : va_D A (w ++ TL F r3 im wh wz v)) (hS : va_S A s.heap H locs) (hce : cells + 20 ≤ 600000) (hsl : sl + 3900900 ≤ 7302249) (kk : ∀ (H : Heap) (locs : List Loc) (w F r3 wh wz v : va_W) (im : Nat → va_W) (xi : Nat → Option (Nat → Int32)) (wf3 gsd gim gmd : Nat → Int32) (pt : Nat), XI cs ox w F r3 wh wz im xi wf3 pt → MI cs m0 v gsd gim gmd → LNK wf3 gsd xi gim gmd → va_P D vwCl (w ++ TL F r3 im wh wz v) H → va_D A (w ++ TL F r3 im wh wz v) → va_S A s.heap H locs → W p l e room_1 s m #[Value.ref sb] below meth c H locs (cells + 20) (sl + 900 + pt) Q (F0 m 1025 ls [])) : W p l e room_1 s m #[Value.ref sb] below meth c H locs cells (sl + pt) Q (F0 m 373 ls []) := by
  obtain ⟨hx, hb, hr, hml, hown, hts, hT, hX0, hbl, hlocks, hbA, hA, hA2, hK, hN, hSX, hXC⟩ := id G
  refine lv_aload_n hx hb dL_law_373 rfl (lv_at hl 2 rfl) ?_
  refine lv_aload_n hx hb dL_law_374 rfl (lv_at hl 3 rfl) ?_
  refine lv_iload_n hx hb dL_law_375 rfl (lv_at hl 0 rfl) ?_
  refine lv_iconst (v := 1) hx hb dL_law_376 (by decide) ?_
  refine lv_iadd hx hb dL_law_377 ?_
  refine va_sld hx hb hX0 hbl hbA hS (hin 1 ⟨by decide, by decide⟩) dL_law_378 ?_
  refine xc_shown G hl hI hP hD hS hce hsl (xs (Int32.toNatClampNeg (i + 1))) (fun r H locs w F r3 wh wz im xi2 wf32 pt2 hpo hI hP hD hS => ?_)
  refine lv_pop hx hb dL_law_382 rfl ?_
  have hpl := hI.pt_le
  have hq9 := pm_mv w F r3 im wh wz v
  have hP := vPp hq9 hP
  have hD := vDp hq9 hD
  refine lv_aload_n hx hb dL_law_383 rfl (lv_at hl 1 rfl) ?_
  refine lv_aload_n hx hb dL_law_384 rfl (lv_at hl 3 rfl) ?_
  refine lv_iload_n hx hb dL_law_385 rfl (lv_at hl 0 rfl) ?_
  refine lv_iconst (v := 1) hx hb dL_law_386 (by decide) ?_
  refine lv_iadd hx hb dL_law_387 ?_
  refine va_sld hx hb hX0 hbl hbA hS (hin 1 ⟨by decide, by decide⟩) dL_law_388 ?_
  refine mc_shown G hl hM hP hD hS (by omega) (by omega) (xs (Int32.toNatClampNeg (i + 1))) (fun r2 H locs v gsd2 gim2 gmd2 hpm hM hP hD hS => ?_)
  refine lv_pop hx hb dL_law_392 rfl ?_
  refine lv_goto (tgt := 1025) hx hb dL_law_393 (by decide) ?_
  have hq8 := (pm_mv w F r3 im wh wz v).symm
  have hP := vPp hq8 hP
  have hD := vDp hq8 hD
  obtain ⟨e1, e2⟩ := hpo
  obtain ⟨e3, e4, e5⟩ := hpm
  rw [e1, e2] at hI
  rw [e4, e5] at hM
  have hLk := hLk.sea e3
  exact kk H locs w F r3 wh wz v im xi wf3 gsd2 gim gmd pt2 hI hM hLk hP hD hS
theorem dL_law_396 : decode cL_law 396 = .ok (.aload_n 1, 1) := by decide +kernel
theorem dL_law_397 : decode cL_law 397 = .ok (.aload_n 0, 1) := by decide +kernel
theorem dL_law_398 : decode cL_law 398 = .ok (.iload_n 3, 1) := by decide +kernel
theorem dL_law_399 : decode cL_law 399 = .ok (.iconst 1, 1) := by decide +kernel
theorem dL_law_400 : decode cL_law 400 = .ok (.iadd, 1) := by decide +kernel
theorem dL_law_401 : decode cL_law 401 = .ok (.iaload, 1) := by decide +kernel
theorem dL_law_405 : decode cL_law 405 = .ok (.pop, 1) := by decide +kernel
theorem dL_law_406 : decode cL_law 406 = .ok (.aload_n 2, 1) := by decide +kernel
theorem dL_law_407 : decode cL_law 407 = .ok (.aload_n 0, 1) := by decide +kernel
theorem dL_law_408 : decode cL_law 408 = .ok (.iload_n 3, 1) := by decide +kernel
theorem dL_law_409 : decode cL_law 409 = .ok (.iconst 1, 1) := by decide +kernel
theorem dL_law_410 : decode cL_law 410 = .ok (.iadd, 1) := by decide +kernel
theorem dL_law_411 : decode cL_law 411 = .ok (.iaload, 1) := by decide +kernel
theorem dL_law_415 : decode cL_law 415 = .ok (.pop, 1) := by decide +kernel
theorem dL_law_416 : decode cL_law 416 = .ok (.goto 609, 3) := by decide +kernel
set_option maxHeartbeats 4000000 in
set_option maxRecDepth 100000 in
theorem cs_unfasten {p : Program} {l : Launch} {e : Env} {s : State} {m : MethodId} {below : List Frame} {meth : Method} {c : Code} {sb LL : Nat} {xs : Nat → Int32} {D : va_G} {cs : Nat → ClassId} {A : Nat → Prop} {sa sv : Nat → Nat} (G : LX p l s m meth c sb LL xs D cs A sa sv) {H : Heap} {locs : List Loc} {cells sl : Nat} {Q : State → Prop} {ls : Array Slot} {ox m0 : Nat} {i : Int32} (hl : lv_has ls 4 [(3, .int i), (2, .ref m0), (1, .ref ox), (0, .ref sb)]) (hin : ∀ k : Int32, Rg 0 5 k → vp_in (i + k) LL) {w F r3 wh wz v : va_W} {im : Nat → va_W} {xi : Nat → Option (Nat → Int32)} {wf3 gsd gim gmd : Nat → Int32} {pt : Nat} (hI : XI cs ox w F r3 wh wz im xi wf3 pt) (hM : MI cs m0 v gsd gim gmd) (hLk : LNK wf3 gsd xi gim gmd) (hP : va_P D vwCl (w ++ TL F r3 im wh wz v) H) (hD : va_D A (w ++ TL F r3 im wh wz v)) (hS : va_S A s.heap H locs) (hce : cells + 20 ≤ 600000) (hsl : sl + 3900900 ≤ 7302249) (kk : ∀ (H : Heap) (locs : List Loc) (w F r3 wh wz v : va_W) (im : Nat → va_W) (xi : Nat → Option (Nat → Int32)) (wf3 gsd gim gmd : Nat → Int32) (pt : Nat), XI cs ox w F r3 wh wz im xi wf3 pt → MI cs m0 v gsd gim gmd → LNK wf3 gsd xi gim gmd → va_P D vwCl (w ++ TL F r3 im wh wz v) H → va_D A (w ++ TL F r3 im wh wz v) → va_S A s.heap H locs → W p l e room_1 s m #[Value.ref sb] below meth c H locs (cells + 20) (sl + 900 + pt) Q (F0 m 1025 ls [])) : W p l e room_1 s m #[Value.ref sb] below meth c H locs cells (sl + pt) Q (F0 m 396 ls []) := by
  obtain ⟨hx, hb, hr, hml, hown, hts, hT, hX0, hbl, hlocks, hbA, hA, hA2, hK, hN, hSX, hXC⟩ := id G
  refine lv_aload_n hx hb dL_law_396 rfl (lv_at hl 2 rfl) ?_
  refine lv_aload_n hx hb dL_law_397 rfl (lv_at hl 3 rfl) ?_
  refine lv_iload_n hx hb dL_law_398 rfl (lv_at hl 0 rfl) ?_
  refine lv_iconst (v := 1) hx hb dL_law_399 (by decide) ?_
  refine lv_iadd hx hb dL_law_400 ?_
  refine va_sld hx hb hX0 hbl hbA hS (hin 1 ⟨by decide, by decide⟩) dL_law_401 ?_
  refine xc_unfasten G hl hI hP hD hS hce hsl (xs (Int32.toNatClampNeg (i + 1))) (fun r H locs w F r3 wh wz im xi2 wf32 pt2 hpo hI hP hD hS => ?_)
  refine lv_pop hx hb dL_law_405 rfl ?_
  have hpl := hI.pt_le
  have hq9 := pm_mv w F r3 im wh wz v
  have hP := vPp hq9 hP
  have hD := vDp hq9 hD
  refine lv_aload_n hx hb dL_law_406 rfl (lv_at hl 1 rfl) ?_
  refine lv_aload_n hx hb dL_law_407 rfl (lv_at hl 3 rfl) ?_
  refine lv_iload_n hx hb dL_law_408 rfl (lv_at hl 0 rfl) ?_
  refine lv_iconst (v := 1) hx hb dL_law_409 (by decide) ?_
  refine lv_iadd hx hb dL_law_410 ?_
  refine va_sld hx hb hX0 hbl hbA hS (hin 1 ⟨by decide, by decide⟩) dL_law_411 ?_
  refine mc_unfasten G hl hM hP hD hS (by omega) (by omega) (xs (Int32.toNatClampNeg (i + 1))) (fun r2 H locs v gsd2 gim2 gmd2 hpm hM hP hD hS => ?_)
  refine lv_pop hx hb dL_law_415 rfl ?_
  refine lv_goto (tgt := 1025) hx hb dL_law_416 (by decide) ?_
  have hq8 := (pm_mv w F r3 im wh wz v).symm
  have hP := vPp hq8 hP
  have hD := vDp hq8 hD
  obtain ⟨e1, e2⟩ := hpo
  obtain ⟨e3, e4, e5⟩ := hpm
  rw [e1, e2] at hI
  rw [e4, e5] at hM
  have hLk := hLk.sea e3
  exact kk H locs w F r3 wh wz v im xi wf3 gsd2 gim gmd pt2 hI hM hLk hP hD hS
theorem dL_law_419 : decode cL_law 419 = .ok (.aload_n 1, 1) := by decide +kernel
theorem dL_law_420 : decode cL_law 420 = .ok (.aload_n 0, 1) := by decide +kernel
theorem dL_law_421 : decode cL_law 421 = .ok (.iload_n 3, 1) := by decide +kernel
theorem dL_law_422 : decode cL_law 422 = .ok (.iconst 1, 1) := by decide +kernel
theorem dL_law_423 : decode cL_law 423 = .ok (.iadd, 1) := by decide +kernel
theorem dL_law_424 : decode cL_law 424 = .ok (.iaload, 1) := by decide +kernel
theorem dL_law_425 : decode cL_law 425 = .ok (.aload_n 0, 1) := by decide +kernel
theorem dL_law_426 : decode cL_law 426 = .ok (.iload_n 3, 1) := by decide +kernel
theorem dL_law_427 : decode cL_law 427 = .ok (.iconst 2, 1) := by decide +kernel
theorem dL_law_428 : decode cL_law 428 = .ok (.iadd, 1) := by decide +kernel
theorem dL_law_429 : decode cL_law 429 = .ok (.iaload, 1) := by decide +kernel
theorem dL_law_433 : decode cL_law 433 = .ok (.pop, 1) := by decide +kernel
theorem dL_law_434 : decode cL_law 434 = .ok (.aload_n 2, 1) := by decide +kernel
theorem dL_law_435 : decode cL_law 435 = .ok (.aload_n 0, 1) := by decide +kernel
theorem dL_law_436 : decode cL_law 436 = .ok (.iload_n 3, 1) := by decide +kernel
theorem dL_law_437 : decode cL_law 437 = .ok (.iconst 1, 1) := by decide +kernel
theorem dL_law_438 : decode cL_law 438 = .ok (.iadd, 1) := by decide +kernel
theorem dL_law_439 : decode cL_law 439 = .ok (.iaload, 1) := by decide +kernel
theorem dL_law_440 : decode cL_law 440 = .ok (.aload_n 0, 1) := by decide +kernel
theorem dL_law_441 : decode cL_law 441 = .ok (.iload_n 3, 1) := by decide +kernel
theorem dL_law_442 : decode cL_law 442 = .ok (.iconst 2, 1) := by decide +kernel
theorem dL_law_443 : decode cL_law 443 = .ok (.iadd, 1) := by decide +kernel
theorem dL_law_444 : decode cL_law 444 = .ok (.iaload, 1) := by decide +kernel
theorem dL_law_448 : decode cL_law 448 = .ok (.pop, 1) := by decide +kernel
theorem dL_law_449 : decode cL_law 449 = .ok (.goto 576, 3) := by decide +kernel
set_option maxHeartbeats 4000000 in
set_option maxRecDepth 100000 in
theorem cs_fasten {p : Program} {l : Launch} {e : Env} {s : State} {m : MethodId} {below : List Frame} {meth : Method} {c : Code} {sb LL : Nat} {xs : Nat → Int32} {D : va_G} {cs : Nat → ClassId} {A : Nat → Prop} {sa sv : Nat → Nat} (G : LX p l s m meth c sb LL xs D cs A sa sv) {H : Heap} {locs : List Loc} {cells sl : Nat} {Q : State → Prop} {ls : Array Slot} {ox m0 : Nat} {i : Int32} (hl : lv_has ls 4 [(3, .int i), (2, .ref m0), (1, .ref ox), (0, .ref sb)]) (hin : ∀ k : Int32, Rg 0 5 k → vp_in (i + k) LL) {w F r3 wh wz v : va_W} {im : Nat → va_W} {xi : Nat → Option (Nat → Int32)} {wf3 gsd gim gmd : Nat → Int32} {pt : Nat} (hI : XI cs ox w F r3 wh wz im xi wf3 pt) (hM : MI cs m0 v gsd gim gmd) (hLk : LNK wf3 gsd xi gim gmd) (hP : va_P D vwCl (w ++ TL F r3 im wh wz v) H) (hD : va_D A (w ++ TL F r3 im wh wz v)) (hS : va_S A s.heap H locs) (hce : cells + 20 ≤ 600000) (hsl : sl + 3900900 ≤ 7302249) (kk : ∀ (H : Heap) (locs : List Loc) (w F r3 wh wz v : va_W) (im : Nat → va_W) (xi : Nat → Option (Nat → Int32)) (wf3 gsd gim gmd : Nat → Int32) (pt : Nat), XI cs ox w F r3 wh wz im xi wf3 pt → MI cs m0 v gsd gim gmd → LNK wf3 gsd xi gim gmd → va_P D vwCl (w ++ TL F r3 im wh wz v) H → va_D A (w ++ TL F r3 im wh wz v) → va_S A s.heap H locs → W p l e room_1 s m #[Value.ref sb] below meth c H locs (cells + 20) (sl + 900 + pt) Q (F0 m 1025 ls [])) : W p l e room_1 s m #[Value.ref sb] below meth c H locs cells (sl + pt) Q (F0 m 419 ls []) := by
  obtain ⟨hx, hb, hr, hml, hown, hts, hT, hX0, hbl, hlocks, hbA, hA, hA2, hK, hN, hSX, hXC⟩ := id G
  refine lv_aload_n hx hb dL_law_419 rfl (lv_at hl 2 rfl) ?_
  refine lv_aload_n hx hb dL_law_420 rfl (lv_at hl 3 rfl) ?_
  refine lv_iload_n hx hb dL_law_421 rfl (lv_at hl 0 rfl) ?_
  refine lv_iconst (v := 1) hx hb dL_law_422 (by decide) ?_
  refine lv_iadd hx hb dL_law_423 ?_
  refine va_sld hx hb hX0 hbl hbA hS (hin 1 ⟨by decide, by decide⟩) dL_law_424 ?_
  refine lv_aload_n hx hb dL_law_425 rfl (lv_at hl 3 rfl) ?_
  refine lv_iload_n hx hb dL_law_426 rfl (lv_at hl 0 rfl) ?_
  refine lv_iconst (v := 2) hx hb dL_law_427 (by decide) ?_
  refine lv_iadd hx hb dL_law_428 ?_
  refine va_sld hx hb hX0 hbl hbA hS (hin 2 ⟨by decide, by decide⟩) dL_law_429 ?_
  refine xc_fasten G hl hI hP hD hS hce hsl (xs (Int32.toNatClampNeg (i + 1))) (xs (Int32.toNatClampNeg (i + 2))) (fun r H locs w F r3 wh wz im xi2 wf32 pt2 hpo hI hP hD hS => ?_)
  refine lv_pop hx hb dL_law_433 rfl ?_
  have hpl := hI.pt_le
  have hq9 := pm_mv w F r3 im wh wz v
  have hP := vPp hq9 hP
  have hD := vDp hq9 hD
  refine lv_aload_n hx hb dL_law_434 rfl (lv_at hl 1 rfl) ?_
  refine lv_aload_n hx hb dL_law_435 rfl (lv_at hl 3 rfl) ?_
  refine lv_iload_n hx hb dL_law_436 rfl (lv_at hl 0 rfl) ?_
  refine lv_iconst (v := 1) hx hb dL_law_437 (by decide) ?_
  refine lv_iadd hx hb dL_law_438 ?_
  refine va_sld hx hb hX0 hbl hbA hS (hin 1 ⟨by decide, by decide⟩) dL_law_439 ?_
  refine lv_aload_n hx hb dL_law_440 rfl (lv_at hl 3 rfl) ?_
  refine lv_iload_n hx hb dL_law_441 rfl (lv_at hl 0 rfl) ?_
  refine lv_iconst (v := 2) hx hb dL_law_442 (by decide) ?_
  refine lv_iadd hx hb dL_law_443 ?_
  refine va_sld hx hb hX0 hbl hbA hS (hin 2 ⟨by decide, by decide⟩) dL_law_444 ?_
  refine mc_fasten G hl hM hP hD hS (by omega) (by omega) (xs (Int32.toNatClampNeg (i + 1))) (xs (Int32.toNatClampNeg (i + 2))) (fun r2 H locs v gsd2 gim2 gmd2 hpm hM hP hD hS => ?_)
  refine lv_pop hx hb dL_law_448 rfl ?_
  refine lv_goto (tgt := 1025) hx hb dL_law_449 (by decide) ?_
  have hq8 := (pm_mv w F r3 im wh wz v).symm
  have hP := vPp hq8 hP
  have hD := vDp hq8 hD
  obtain ⟨e1, e2⟩ := hpo
  obtain ⟨e3, e4, e5⟩ := hpm
  rw [e1, e2] at hI
  rw [e4, e5] at hM
  have hLk := hLk.sea e3
  exact kk H locs w F r3 wh wz v im xi wf3 gsd2 gim gmd pt2 hI hM hLk hP hD hS
theorem dL_law_452 : decode cL_law 452 = .ok (.aload_n 1, 1) := by decide +kernel
theorem dL_law_453 : decode cL_law 453 = .ok (.aload_n 0, 1) := by decide +kernel
theorem dL_law_454 : decode cL_law 454 = .ok (.iload_n 3, 1) := by decide +kernel
theorem dL_law_455 : decode cL_law 455 = .ok (.iconst 1, 1) := by decide +kernel
theorem dL_law_456 : decode cL_law 456 = .ok (.iadd, 1) := by decide +kernel
theorem dL_law_457 : decode cL_law 457 = .ok (.iaload, 1) := by decide +kernel
theorem dL_law_461 : decode cL_law 461 = .ok (.pop, 1) := by decide +kernel
theorem dL_law_462 : decode cL_law 462 = .ok (.aload_n 2, 1) := by decide +kernel
theorem dL_law_463 : decode cL_law 463 = .ok (.aload_n 0, 1) := by decide +kernel
theorem dL_law_464 : decode cL_law 464 = .ok (.iload_n 3, 1) := by decide +kernel
theorem dL_law_465 : decode cL_law 465 = .ok (.iconst 1, 1) := by decide +kernel
theorem dL_law_466 : decode cL_law 466 = .ok (.iadd, 1) := by decide +kernel
theorem dL_law_467 : decode cL_law 467 = .ok (.iaload, 1) := by decide +kernel
theorem dL_law_471 : decode cL_law 471 = .ok (.pop, 1) := by decide +kernel
theorem dL_law_472 : decode cL_law 472 = .ok (.goto 553, 3) := by decide +kernel
set_option maxHeartbeats 4000000 in
set_option maxRecDepth 100000 in
theorem cs_waits {p : Program} {l : Launch} {e : Env} {s : State} {m : MethodId} {below : List Frame} {meth : Method} {c : Code} {sb LL : Nat} {xs : Nat → Int32} {D : va_G} {cs : Nat → ClassId} {A : Nat → Prop} {sa sv : Nat → Nat} (G : LX p l s m meth c sb LL xs D cs A sa sv) {H : Heap} {locs : List Loc} {cells sl : Nat} {Q : State → Prop} {ls : Array Slot} {ox m0 : Nat} {i : Int32} (hl : lv_has ls 4 [(3, .int i), (2, .ref m0), (1, .ref ox), (0, .ref sb)]) (hin : ∀ k : Int32, Rg 0 5 k → vp_in (i + k) LL) {w F r3 wh wz v : va_W} {im : Nat → va_W} {xi : Nat → Option (Nat → Int32)} {wf3 gsd gim gmd : Nat → Int32} {pt : Nat} (hI : XI cs ox w F r3 wh wz im xi wf3 pt) (hM : MI cs m0 v gsd gim gmd) (hLk : LNK wf3 gsd xi gim gmd) (hP : va_P D vwCl (w ++ TL F r3 im wh wz v) H) (hD : va_D A (w ++ TL F r3 im wh wz v)) (hS : va_S A s.heap H locs) (hce : cells + 20 ≤ 600000) (hsl : sl + 3900900 ≤ 7302249) (kk : ∀ (H : Heap) (locs : List Loc) (w F r3 wh wz v : va_W) (im : Nat → va_W) (xi : Nat → Option (Nat → Int32)) (wf3 gsd gim gmd : Nat → Int32) (pt : Nat), XI cs ox w F r3 wh wz im xi wf3 pt → MI cs m0 v gsd gim gmd → LNK wf3 gsd xi gim gmd → va_P D vwCl (w ++ TL F r3 im wh wz v) H → va_D A (w ++ TL F r3 im wh wz v) → va_S A s.heap H locs → W p l e room_1 s m #[Value.ref sb] below meth c H locs (cells + 20) (sl + 900 + pt) Q (F0 m 1025 ls [])) : W p l e room_1 s m #[Value.ref sb] below meth c H locs cells (sl + pt) Q (F0 m 452 ls []) := by
  obtain ⟨hx, hb, hr, hml, hown, hts, hT, hX0, hbl, hlocks, hbA, hA, hA2, hK, hN, hSX, hXC⟩ := id G
  refine lv_aload_n hx hb dL_law_452 rfl (lv_at hl 2 rfl) ?_
  refine lv_aload_n hx hb dL_law_453 rfl (lv_at hl 3 rfl) ?_
  refine lv_iload_n hx hb dL_law_454 rfl (lv_at hl 0 rfl) ?_
  refine lv_iconst (v := 1) hx hb dL_law_455 (by decide) ?_
  refine lv_iadd hx hb dL_law_456 ?_
  refine va_sld hx hb hX0 hbl hbA hS (hin 1 ⟨by decide, by decide⟩) dL_law_457 ?_
  refine xc_waits G hl hI hP hD hS hce hsl (xs (Int32.toNatClampNeg (i + 1))) (fun r H locs w F r3 wh wz im xi2 wf32 pt2 hpo hI hP hD hS => ?_)
  refine lv_pop hx hb dL_law_461 rfl ?_
  have hpl := hI.pt_le
  have hq9 := pm_mv w F r3 im wh wz v
  have hP := vPp hq9 hP
  have hD := vDp hq9 hD
  refine lv_aload_n hx hb dL_law_462 rfl (lv_at hl 1 rfl) ?_
  refine lv_aload_n hx hb dL_law_463 rfl (lv_at hl 3 rfl) ?_
  refine lv_iload_n hx hb dL_law_464 rfl (lv_at hl 0 rfl) ?_
  refine lv_iconst (v := 1) hx hb dL_law_465 (by decide) ?_
  refine lv_iadd hx hb dL_law_466 ?_
  refine va_sld hx hb hX0 hbl hbA hS (hin 1 ⟨by decide, by decide⟩) dL_law_467 ?_
  refine mc_waits G hl hM hP hD hS (by omega) (by omega) (xs (Int32.toNatClampNeg (i + 1))) (fun r2 H locs v gsd2 gim2 gmd2 hpm hM hP hD hS => ?_)
  refine lv_pop hx hb dL_law_471 rfl ?_
  refine lv_goto (tgt := 1025) hx hb dL_law_472 (by decide) ?_
  have hq8 := (pm_mv w F r3 im wh wz v).symm
  have hP := vPp hq8 hP
  have hD := vDp hq8 hD
  obtain ⟨e1, e2⟩ := hpo
  obtain ⟨e3, e4, e5⟩ := hpm
  rw [e1, e2] at hI
  rw [e4, e5] at hM
  have hLk := hLk.sea e3
  exact kk H locs w F r3 wh wz v im xi wf3 gsd2 gim gmd pt2 hI hM hLk hP hD hS
theorem dL_law_475 : decode cL_law 475 = .ok (.aload_n 1, 1) := by decide +kernel
theorem dL_law_479 : decode cL_law 479 = .ok (.pop, 1) := by decide +kernel
theorem dL_law_480 : decode cL_law 480 = .ok (.aload_n 2, 1) := by decide +kernel
theorem dL_law_484 : decode cL_law 484 = .ok (.pop, 1) := by decide +kernel
theorem dL_law_485 : decode cL_law 485 = .ok (.goto 540, 3) := by decide +kernel
set_option maxHeartbeats 4000000 in
set_option maxRecDepth 100000 in
theorem cs_takeBack {p : Program} {l : Launch} {e : Env} {s : State} {m : MethodId} {below : List Frame} {meth : Method} {c : Code} {sb LL : Nat} {xs : Nat → Int32} {D : va_G} {cs : Nat → ClassId} {A : Nat → Prop} {sa sv : Nat → Nat} (G : LX p l s m meth c sb LL xs D cs A sa sv) {H : Heap} {locs : List Loc} {cells sl : Nat} {Q : State → Prop} {ls : Array Slot} {ox m0 : Nat} {i : Int32} (hl : lv_has ls 4 [(3, .int i), (2, .ref m0), (1, .ref ox), (0, .ref sb)]) (hin : ∀ k : Int32, Rg 0 5 k → vp_in (i + k) LL) {w F r3 wh wz v : va_W} {im : Nat → va_W} {xi : Nat → Option (Nat → Int32)} {wf3 gsd gim gmd : Nat → Int32} {pt : Nat} (hI : XI cs ox w F r3 wh wz im xi wf3 pt) (hM : MI cs m0 v gsd gim gmd) (hLk : LNK wf3 gsd xi gim gmd) (hP : va_P D vwCl (w ++ TL F r3 im wh wz v) H) (hD : va_D A (w ++ TL F r3 im wh wz v)) (hS : va_S A s.heap H locs) (hce : cells + 20 ≤ 600000) (hsl : sl + 3900900 ≤ 7302249) (kk : ∀ (H : Heap) (locs : List Loc) (w F r3 wh wz v : va_W) (im : Nat → va_W) (xi : Nat → Option (Nat → Int32)) (wf3 gsd gim gmd : Nat → Int32) (pt : Nat), XI cs ox w F r3 wh wz im xi wf3 pt → MI cs m0 v gsd gim gmd → LNK wf3 gsd xi gim gmd → va_P D vwCl (w ++ TL F r3 im wh wz v) H → va_D A (w ++ TL F r3 im wh wz v) → va_S A s.heap H locs → W p l e room_1 s m #[Value.ref sb] below meth c H locs (cells + 20) (sl + 900 + pt) Q (F0 m 1025 ls [])) : W p l e room_1 s m #[Value.ref sb] below meth c H locs cells (sl + pt) Q (F0 m 475 ls []) := by
  obtain ⟨hx, hb, hr, hml, hown, hts, hT, hX0, hbl, hlocks, hbA, hA, hA2, hK, hN, hSX, hXC⟩ := id G
  refine lv_aload_n hx hb dL_law_475 rfl (lv_at hl 2 rfl) ?_
  refine xc_takeBack G hl hI hP hD hS hce hsl (fun r H locs w F r3 wh wz im xi2 wf32 pt2 hpo hI hP hD hS => ?_)
  refine lv_pop hx hb dL_law_479 rfl ?_
  have hpl := hI.pt_le
  have hq9 := pm_mv w F r3 im wh wz v
  have hP := vPp hq9 hP
  have hD := vDp hq9 hD
  refine lv_aload_n hx hb dL_law_480 rfl (lv_at hl 1 rfl) ?_
  refine mc_takeBack G hl hM hP hD hS (by omega) (by omega) (fun r2 H locs v gsd2 gim2 gmd2 hpm hM hP hD hS => ?_)
  refine lv_pop hx hb dL_law_484 rfl ?_
  refine lv_goto (tgt := 1025) hx hb dL_law_485 (by decide) ?_
  have hq8 := (pm_mv w F r3 im wh wz v).symm
  have hP := vPp hq8 hP
  have hD := vDp hq8 hD
  obtain ⟨e1, e2⟩ := hpo
  obtain ⟨e3, e4, e5⟩ := hpm
  rw [e1, e2] at hI
  rw [e4, e5] at hM
  have hLk := hLk.sea e3
  exact kk H locs w F r3 wh wz v im xi wf3 gsd2 gim gmd pt2 hI hM hLk hP hD hS
theorem dL_law_488 : decode cL_law 488 = .ok (.aload_n 1, 1) := by decide +kernel
theorem dL_law_489 : decode cL_law 489 = .ok (.aload_n 0, 1) := by decide +kernel
theorem dL_law_490 : decode cL_law 490 = .ok (.iload_n 3, 1) := by decide +kernel
theorem dL_law_491 : decode cL_law 491 = .ok (.iconst 1, 1) := by decide +kernel
theorem dL_law_492 : decode cL_law 492 = .ok (.iadd, 1) := by decide +kernel
theorem dL_law_493 : decode cL_law 493 = .ok (.iaload, 1) := by decide +kernel
theorem dL_law_494 : decode cL_law 494 = .ok (.aload_n 0, 1) := by decide +kernel
theorem dL_law_495 : decode cL_law 495 = .ok (.iload_n 3, 1) := by decide +kernel
theorem dL_law_496 : decode cL_law 496 = .ok (.iconst 2, 1) := by decide +kernel
theorem dL_law_497 : decode cL_law 497 = .ok (.iadd, 1) := by decide +kernel
theorem dL_law_498 : decode cL_law 498 = .ok (.iaload, 1) := by decide +kernel
theorem dL_law_502 : decode cL_law 502 = .ok (.pop, 1) := by decide +kernel
theorem dL_law_503 : decode cL_law 503 = .ok (.aload_n 2, 1) := by decide +kernel
theorem dL_law_504 : decode cL_law 504 = .ok (.aload_n 0, 1) := by decide +kernel
theorem dL_law_505 : decode cL_law 505 = .ok (.iload_n 3, 1) := by decide +kernel
theorem dL_law_506 : decode cL_law 506 = .ok (.iconst 1, 1) := by decide +kernel
theorem dL_law_507 : decode cL_law 507 = .ok (.iadd, 1) := by decide +kernel
theorem dL_law_508 : decode cL_law 508 = .ok (.iaload, 1) := by decide +kernel
theorem dL_law_509 : decode cL_law 509 = .ok (.aload_n 0, 1) := by decide +kernel
theorem dL_law_510 : decode cL_law 510 = .ok (.iload_n 3, 1) := by decide +kernel
theorem dL_law_511 : decode cL_law 511 = .ok (.iconst 2, 1) := by decide +kernel
theorem dL_law_512 : decode cL_law 512 = .ok (.iadd, 1) := by decide +kernel
theorem dL_law_513 : decode cL_law 513 = .ok (.iaload, 1) := by decide +kernel
theorem dL_law_517 : decode cL_law 517 = .ok (.pop, 1) := by decide +kernel
theorem dL_law_518 : decode cL_law 518 = .ok (.goto 507, 3) := by decide +kernel
set_option maxHeartbeats 4000000 in
set_option maxRecDepth 100000 in
theorem cs_run {p : Program} {l : Launch} {e : Env} {s : State} {m : MethodId} {below : List Frame} {meth : Method} {c : Code} {sb LL : Nat} {xs : Nat → Int32} {D : va_G} {cs : Nat → ClassId} {A : Nat → Prop} {sa sv : Nat → Nat} (G : LX p l s m meth c sb LL xs D cs A sa sv) {H : Heap} {locs : List Loc} {cells sl : Nat} {Q : State → Prop} {ls : Array Slot} {ox m0 : Nat} {i : Int32} (hl : lv_has ls 4 [(3, .int i), (2, .ref m0), (1, .ref ox), (0, .ref sb)]) (hin : ∀ k : Int32, Rg 0 5 k → vp_in (i + k) LL) {w F r3 wh wz v : va_W} {im : Nat → va_W} {xi : Nat → Option (Nat → Int32)} {wf3 gsd gim gmd : Nat → Int32} {pt : Nat} (hI : XI cs ox w F r3 wh wz im xi wf3 pt) (hM : MI cs m0 v gsd gim gmd) (hLk : LNK wf3 gsd xi gim gmd) (hP : va_P D vwCl (w ++ TL F r3 im wh wz v) H) (hD : va_D A (w ++ TL F r3 im wh wz v)) (hS : va_S A s.heap H locs) (hce : cells + 20 ≤ 600000) (hsl : sl + 3900900 ≤ 7302249) (kk : ∀ (H : Heap) (locs : List Loc) (w F r3 wh wz v : va_W) (im : Nat → va_W) (xi : Nat → Option (Nat → Int32)) (wf3 gsd gim gmd : Nat → Int32) (pt : Nat), XI cs ox w F r3 wh wz im xi wf3 pt → MI cs m0 v gsd gim gmd → LNK wf3 gsd xi gim gmd → va_P D vwCl (w ++ TL F r3 im wh wz v) H → va_D A (w ++ TL F r3 im wh wz v) → va_S A s.heap H locs → W p l e room_1 s m #[Value.ref sb] below meth c H locs (cells + 20) (sl + 900 + pt) Q (F0 m 1025 ls [])) : W p l e room_1 s m #[Value.ref sb] below meth c H locs cells (sl + pt) Q (F0 m 488 ls []) := by
  obtain ⟨hx, hb, hr, hml, hown, hts, hT, hX0, hbl, hlocks, hbA, hA, hA2, hK, hN, hSX, hXC⟩ := id G
  refine lv_aload_n hx hb dL_law_488 rfl (lv_at hl 2 rfl) ?_
  refine lv_aload_n hx hb dL_law_489 rfl (lv_at hl 3 rfl) ?_
  refine lv_iload_n hx hb dL_law_490 rfl (lv_at hl 0 rfl) ?_
  refine lv_iconst (v := 1) hx hb dL_law_491 (by decide) ?_
  refine lv_iadd hx hb dL_law_492 ?_
  refine va_sld hx hb hX0 hbl hbA hS (hin 1 ⟨by decide, by decide⟩) dL_law_493 ?_
  refine lv_aload_n hx hb dL_law_494 rfl (lv_at hl 3 rfl) ?_
  refine lv_iload_n hx hb dL_law_495 rfl (lv_at hl 0 rfl) ?_
  refine lv_iconst (v := 2) hx hb dL_law_496 (by decide) ?_
  refine lv_iadd hx hb dL_law_497 ?_
  refine va_sld hx hb hX0 hbl hbA hS (hin 2 ⟨by decide, by decide⟩) dL_law_498 ?_
  refine xc_run G hl hI hP hD hS hce hsl (xs (Int32.toNatClampNeg (i + 1))) (xs (Int32.toNatClampNeg (i + 2))) (fun r H locs w F r3 wh wz im xi2 wf32 pt2 hpo hI hP hD hS => ?_)
  refine lv_pop hx hb dL_law_502 rfl ?_
  have hpl := hI.pt_le
  have hq9 := pm_mv w F r3 im wh wz v
  have hP := vPp hq9 hP
  have hD := vDp hq9 hD
  refine lv_aload_n hx hb dL_law_503 rfl (lv_at hl 1 rfl) ?_
  refine lv_aload_n hx hb dL_law_504 rfl (lv_at hl 3 rfl) ?_
  refine lv_iload_n hx hb dL_law_505 rfl (lv_at hl 0 rfl) ?_
  refine lv_iconst (v := 1) hx hb dL_law_506 (by decide) ?_
  refine lv_iadd hx hb dL_law_507 ?_
  refine va_sld hx hb hX0 hbl hbA hS (hin 1 ⟨by decide, by decide⟩) dL_law_508 ?_
  refine lv_aload_n hx hb dL_law_509 rfl (lv_at hl 3 rfl) ?_
  refine lv_iload_n hx hb dL_law_510 rfl (lv_at hl 0 rfl) ?_
  refine lv_iconst (v := 2) hx hb dL_law_511 (by decide) ?_
  refine lv_iadd hx hb dL_law_512 ?_
  refine va_sld hx hb hX0 hbl hbA hS (hin 2 ⟨by decide, by decide⟩) dL_law_513 ?_
  refine mc_run G hl hM hP hD hS (by omega) (by omega) (xs (Int32.toNatClampNeg (i + 1))) (xs (Int32.toNatClampNeg (i + 2))) (fun r2 H locs v gsd2 gim2 gmd2 hpm hM hP hD hS => ?_)
  refine lv_pop hx hb dL_law_517 rfl ?_
  refine lv_goto (tgt := 1025) hx hb dL_law_518 (by decide) ?_
  have hq8 := (pm_mv w F r3 im wh wz v).symm
  have hP := vPp hq8 hP
  have hD := vDp hq8 hD
  obtain ⟨e1, e2⟩ := hpo
  obtain ⟨e3, e4, e5⟩ := hpm
  rw [e1, e2] at hI
  rw [e4, e5] at hM
  have hLk := hLk.sea e3
  exact kk H locs w F r3 wh wz v im xi wf3 gsd2 gim gmd pt2 hI hM hLk hP hD hS
theorem dL_law_521 : decode cL_law 521 = .ok (.aload_n 1, 1) := by decide +kernel
theorem dL_law_525 : decode cL_law 525 = .ok (.pop, 1) := by decide +kernel
theorem dL_law_526 : decode cL_law 526 = .ok (.aload_n 2, 1) := by decide +kernel
theorem dL_law_530 : decode cL_law 530 = .ok (.pop, 1) := by decide +kernel
theorem dL_law_531 : decode cL_law 531 = .ok (.goto 494, 3) := by decide +kernel
set_option maxHeartbeats 4000000 in
set_option maxRecDepth 100000 in
theorem cs_may {p : Program} {l : Launch} {e : Env} {s : State} {m : MethodId} {below : List Frame} {meth : Method} {c : Code} {sb LL : Nat} {xs : Nat → Int32} {D : va_G} {cs : Nat → ClassId} {A : Nat → Prop} {sa sv : Nat → Nat} (G : LX p l s m meth c sb LL xs D cs A sa sv) {H : Heap} {locs : List Loc} {cells sl : Nat} {Q : State → Prop} {ls : Array Slot} {ox m0 : Nat} {i : Int32} (hl : lv_has ls 4 [(3, .int i), (2, .ref m0), (1, .ref ox), (0, .ref sb)]) (hin : ∀ k : Int32, Rg 0 5 k → vp_in (i + k) LL) {w F r3 wh wz v : va_W} {im : Nat → va_W} {xi : Nat → Option (Nat → Int32)} {wf3 gsd gim gmd : Nat → Int32} {pt : Nat} (hI : XI cs ox w F r3 wh wz im xi wf3 pt) (hM : MI cs m0 v gsd gim gmd) (hLk : LNK wf3 gsd xi gim gmd) (hP : va_P D vwCl (w ++ TL F r3 im wh wz v) H) (hD : va_D A (w ++ TL F r3 im wh wz v)) (hS : va_S A s.heap H locs) (hce : cells + 20 ≤ 600000) (hsl : sl + 3900900 ≤ 7302249) (kk : ∀ (H : Heap) (locs : List Loc) (w F r3 wh wz v : va_W) (im : Nat → va_W) (xi : Nat → Option (Nat → Int32)) (wf3 gsd gim gmd : Nat → Int32) (pt : Nat), XI cs ox w F r3 wh wz im xi wf3 pt → MI cs m0 v gsd gim gmd → LNK wf3 gsd xi gim gmd → va_P D vwCl (w ++ TL F r3 im wh wz v) H → va_D A (w ++ TL F r3 im wh wz v) → va_S A s.heap H locs → W p l e room_1 s m #[Value.ref sb] below meth c H locs (cells + 20) (sl + 900 + pt) Q (F0 m 1025 ls [])) : W p l e room_1 s m #[Value.ref sb] below meth c H locs cells (sl + pt) Q (F0 m 521 ls []) := by
  obtain ⟨hx, hb, hr, hml, hown, hts, hT, hX0, hbl, hlocks, hbA, hA, hA2, hK, hN, hSX, hXC⟩ := id G
  refine lv_aload_n hx hb dL_law_521 rfl (lv_at hl 2 rfl) ?_
  refine xc_may G hl hI hP hD hS hce hsl (fun r H locs w F r3 wh wz im xi2 wf32 pt2 hpo hI hP hD hS => ?_)
  refine lv_pop hx hb dL_law_525 rfl ?_
  have hpl := hI.pt_le
  have hq9 := pm_mv w F r3 im wh wz v
  have hP := vPp hq9 hP
  have hD := vDp hq9 hD
  refine lv_aload_n hx hb dL_law_526 rfl (lv_at hl 1 rfl) ?_
  refine mc_may G hl hM hP hD hS (by omega) (by omega) (fun r2 H locs v gsd2 gim2 gmd2 hpm hM hP hD hS => ?_)
  refine lv_pop hx hb dL_law_530 rfl ?_
  refine lv_goto (tgt := 1025) hx hb dL_law_531 (by decide) ?_
  have hq8 := (pm_mv w F r3 im wh wz v).symm
  have hP := vPp hq8 hP
  have hD := vDp hq8 hD
  obtain ⟨e1, e2⟩ := hpo
  obtain ⟨e3, e4, e5⟩ := hpm
  rw [e1, e2] at hI
  rw [e4, e5] at hM
  have hLk := hLk.sea e3
  exact kk H locs w F r3 wh wz v im xi wf3 gsd2 gim gmd pt2 hI hM hLk hP hD hS
theorem dL_law_534 : decode cL_law 534 = .ok (.aload_n 1, 1) := by decide +kernel
theorem dL_law_535 : decode cL_law 535 = .ok (.aload_n 0, 1) := by decide +kernel
theorem dL_law_536 : decode cL_law 536 = .ok (.iload_n 3, 1) := by decide +kernel
theorem dL_law_537 : decode cL_law 537 = .ok (.iconst 1, 1) := by decide +kernel
theorem dL_law_538 : decode cL_law 538 = .ok (.iadd, 1) := by decide +kernel
theorem dL_law_539 : decode cL_law 539 = .ok (.iaload, 1) := by decide +kernel
theorem dL_law_540 : decode cL_law 540 = .ok (.aload_n 0, 1) := by decide +kernel
theorem dL_law_541 : decode cL_law 541 = .ok (.iload_n 3, 1) := by decide +kernel
theorem dL_law_542 : decode cL_law 542 = .ok (.iconst 2, 1) := by decide +kernel
theorem dL_law_543 : decode cL_law 543 = .ok (.iadd, 1) := by decide +kernel
theorem dL_law_544 : decode cL_law 544 = .ok (.iaload, 1) := by decide +kernel
theorem dL_law_548 : decode cL_law 548 = .ok (.pop, 1) := by decide +kernel
theorem dL_law_549 : decode cL_law 549 = .ok (.aload_n 2, 1) := by decide +kernel
theorem dL_law_550 : decode cL_law 550 = .ok (.aload_n 0, 1) := by decide +kernel
theorem dL_law_551 : decode cL_law 551 = .ok (.iload_n 3, 1) := by decide +kernel
theorem dL_law_552 : decode cL_law 552 = .ok (.iconst 1, 1) := by decide +kernel
theorem dL_law_553 : decode cL_law 553 = .ok (.iadd, 1) := by decide +kernel
theorem dL_law_554 : decode cL_law 554 = .ok (.iaload, 1) := by decide +kernel
theorem dL_law_555 : decode cL_law 555 = .ok (.aload_n 0, 1) := by decide +kernel
theorem dL_law_556 : decode cL_law 556 = .ok (.iload_n 3, 1) := by decide +kernel
theorem dL_law_557 : decode cL_law 557 = .ok (.iconst 2, 1) := by decide +kernel
theorem dL_law_558 : decode cL_law 558 = .ok (.iadd, 1) := by decide +kernel
theorem dL_law_559 : decode cL_law 559 = .ok (.iaload, 1) := by decide +kernel
theorem dL_law_563 : decode cL_law 563 = .ok (.pop, 1) := by decide +kernel
theorem dL_law_564 : decode cL_law 564 = .ok (.goto 461, 3) := by decide +kernel
set_option maxHeartbeats 4000000 in
set_option maxRecDepth 100000 in
theorem cs_act {p : Program} {l : Launch} {e : Env} {s : State} {m : MethodId} {below : List Frame} {meth : Method} {c : Code} {sb LL : Nat} {xs : Nat → Int32} {D : va_G} {cs : Nat → ClassId} {A : Nat → Prop} {sa sv : Nat → Nat} (G : LX p l s m meth c sb LL xs D cs A sa sv) {H : Heap} {locs : List Loc} {cells sl : Nat} {Q : State → Prop} {ls : Array Slot} {ox m0 : Nat} {i : Int32} (hl : lv_has ls 4 [(3, .int i), (2, .ref m0), (1, .ref ox), (0, .ref sb)]) (hin : ∀ k : Int32, Rg 0 5 k → vp_in (i + k) LL) {w F r3 wh wz v : va_W} {im : Nat → va_W} {xi : Nat → Option (Nat → Int32)} {wf3 gsd gim gmd : Nat → Int32} {pt : Nat} (hI : XI cs ox w F r3 wh wz im xi wf3 pt) (hM : MI cs m0 v gsd gim gmd) (hLk : LNK wf3 gsd xi gim gmd) (hP : va_P D vwCl (w ++ TL F r3 im wh wz v) H) (hD : va_D A (w ++ TL F r3 im wh wz v)) (hS : va_S A s.heap H locs) (hce : cells + 20 ≤ 600000) (hsl : sl + 3900900 ≤ 7302249) (kk : ∀ (H : Heap) (locs : List Loc) (w F r3 wh wz v : va_W) (im : Nat → va_W) (xi : Nat → Option (Nat → Int32)) (wf3 gsd gim gmd : Nat → Int32) (pt : Nat), XI cs ox w F r3 wh wz im xi wf3 pt → MI cs m0 v gsd gim gmd → LNK wf3 gsd xi gim gmd → va_P D vwCl (w ++ TL F r3 im wh wz v) H → va_D A (w ++ TL F r3 im wh wz v) → va_S A s.heap H locs → W p l e room_1 s m #[Value.ref sb] below meth c H locs (cells + 20) (sl + 900 + pt) Q (F0 m 1025 ls [])) : W p l e room_1 s m #[Value.ref sb] below meth c H locs cells (sl + pt) Q (F0 m 534 ls []) := by
  obtain ⟨hx, hb, hr, hml, hown, hts, hT, hX0, hbl, hlocks, hbA, hA, hA2, hK, hN, hSX, hXC⟩ := id G
  refine lv_aload_n hx hb dL_law_534 rfl (lv_at hl 2 rfl) ?_
  refine lv_aload_n hx hb dL_law_535 rfl (lv_at hl 3 rfl) ?_
  refine lv_iload_n hx hb dL_law_536 rfl (lv_at hl 0 rfl) ?_
  refine lv_iconst (v := 1) hx hb dL_law_537 (by decide) ?_
  refine lv_iadd hx hb dL_law_538 ?_
  refine va_sld hx hb hX0 hbl hbA hS (hin 1 ⟨by decide, by decide⟩) dL_law_539 ?_
  refine lv_aload_n hx hb dL_law_540 rfl (lv_at hl 3 rfl) ?_
  refine lv_iload_n hx hb dL_law_541 rfl (lv_at hl 0 rfl) ?_
  refine lv_iconst (v := 2) hx hb dL_law_542 (by decide) ?_
  refine lv_iadd hx hb dL_law_543 ?_
  refine va_sld hx hb hX0 hbl hbA hS (hin 2 ⟨by decide, by decide⟩) dL_law_544 ?_
  refine xc_act G hl hI hP hD hS hce hsl (xs (Int32.toNatClampNeg (i + 1))) (xs (Int32.toNatClampNeg (i + 2))) (fun r H locs w F r3 wh wz im xi2 wf32 pt2 hpo hI hP hD hS => ?_)
  refine lv_pop hx hb dL_law_548 rfl ?_
  have hpl := hI.pt_le
  have hq9 := pm_mv w F r3 im wh wz v
  have hP := vPp hq9 hP
  have hD := vDp hq9 hD
  refine lv_aload_n hx hb dL_law_549 rfl (lv_at hl 1 rfl) ?_
  refine lv_aload_n hx hb dL_law_550 rfl (lv_at hl 3 rfl) ?_
  refine lv_iload_n hx hb dL_law_551 rfl (lv_at hl 0 rfl) ?_
  refine lv_iconst (v := 1) hx hb dL_law_552 (by decide) ?_
  refine lv_iadd hx hb dL_law_553 ?_
  refine va_sld hx hb hX0 hbl hbA hS (hin 1 ⟨by decide, by decide⟩) dL_law_554 ?_
  refine lv_aload_n hx hb dL_law_555 rfl (lv_at hl 3 rfl) ?_
  refine lv_iload_n hx hb dL_law_556 rfl (lv_at hl 0 rfl) ?_
  refine lv_iconst (v := 2) hx hb dL_law_557 (by decide) ?_
  refine lv_iadd hx hb dL_law_558 ?_
  refine va_sld hx hb hX0 hbl hbA hS (hin 2 ⟨by decide, by decide⟩) dL_law_559 ?_
  refine mc_act G hl hM hP hD hS (by omega) (by omega) (xs (Int32.toNatClampNeg (i + 1))) (xs (Int32.toNatClampNeg (i + 2))) (fun r2 H locs v gsd2 gim2 gmd2 hpm hM hP hD hS => ?_)
  refine lv_pop hx hb dL_law_563 rfl ?_
  refine lv_goto (tgt := 1025) hx hb dL_law_564 (by decide) ?_
  have hq8 := (pm_mv w F r3 im wh wz v).symm
  have hP := vPp hq8 hP
  have hD := vDp hq8 hD
  obtain ⟨e1, e2⟩ := hpo
  obtain ⟨e3, e4, e5⟩ := hpm
  rw [e1, e2] at hI
  rw [e4, e5] at hM
  have hLk := hLk.sea e3
  exact kk H locs w F r3 wh wz v im xi wf3 gsd2 gim gmd pt2 hI hM hLk hP hD hS
theorem dL_law_567 : decode cL_law 567 = .ok (.aload_n 1, 1) := by decide +kernel
theorem dL_law_568 : decode cL_law 568 = .ok (.aload_n 0, 1) := by decide +kernel
theorem dL_law_569 : decode cL_law 569 = .ok (.iload_n 3, 1) := by decide +kernel
theorem dL_law_570 : decode cL_law 570 = .ok (.iconst 1, 1) := by decide +kernel
theorem dL_law_571 : decode cL_law 571 = .ok (.iadd, 1) := by decide +kernel
theorem dL_law_572 : decode cL_law 572 = .ok (.iaload, 1) := by decide +kernel
theorem dL_law_576 : decode cL_law 576 = .ok (.pop, 1) := by decide +kernel
theorem dL_law_577 : decode cL_law 577 = .ok (.aload_n 2, 1) := by decide +kernel
theorem dL_law_578 : decode cL_law 578 = .ok (.aload_n 0, 1) := by decide +kernel
theorem dL_law_579 : decode cL_law 579 = .ok (.iload_n 3, 1) := by decide +kernel
theorem dL_law_580 : decode cL_law 580 = .ok (.iconst 1, 1) := by decide +kernel
theorem dL_law_581 : decode cL_law 581 = .ok (.iadd, 1) := by decide +kernel
theorem dL_law_582 : decode cL_law 582 = .ok (.iaload, 1) := by decide +kernel
theorem dL_law_586 : decode cL_law 586 = .ok (.pop, 1) := by decide +kernel
theorem dL_law_587 : decode cL_law 587 = .ok (.goto 438, 3) := by decide +kernel
set_option maxHeartbeats 4000000 in
set_option maxRecDepth 100000 in
theorem cs_fewest {p : Program} {l : Launch} {e : Env} {s : State} {m : MethodId} {below : List Frame} {meth : Method} {c : Code} {sb LL : Nat} {xs : Nat → Int32} {D : va_G} {cs : Nat → ClassId} {A : Nat → Prop} {sa sv : Nat → Nat} (G : LX p l s m meth c sb LL xs D cs A sa sv) {H : Heap} {locs : List Loc} {cells sl : Nat} {Q : State → Prop} {ls : Array Slot} {ox m0 : Nat} {i : Int32} (hl : lv_has ls 4 [(3, .int i), (2, .ref m0), (1, .ref ox), (0, .ref sb)]) (hin : ∀ k : Int32, Rg 0 5 k → vp_in (i + k) LL) {w F r3 wh wz v : va_W} {im : Nat → va_W} {xi : Nat → Option (Nat → Int32)} {wf3 gsd gim gmd : Nat → Int32} {pt : Nat} (hI : XI cs ox w F r3 wh wz im xi wf3 pt) (hM : MI cs m0 v gsd gim gmd) (hLk : LNK wf3 gsd xi gim gmd) (hP : va_P D vwCl (w ++ TL F r3 im wh wz v) H) (hD : va_D A (w ++ TL F r3 im wh wz v)) (hS : va_S A s.heap H locs) (hce : cells + 20 ≤ 600000) (hsl : sl + 3900900 ≤ 7302249) (kk : ∀ (H : Heap) (locs : List Loc) (w F r3 wh wz v : va_W) (im : Nat → va_W) (xi : Nat → Option (Nat → Int32)) (wf3 gsd gim gmd : Nat → Int32) (pt : Nat), XI cs ox w F r3 wh wz im xi wf3 pt → MI cs m0 v gsd gim gmd → LNK wf3 gsd xi gim gmd → va_P D vwCl (w ++ TL F r3 im wh wz v) H → va_D A (w ++ TL F r3 im wh wz v) → va_S A s.heap H locs → W p l e room_1 s m #[Value.ref sb] below meth c H locs (cells + 20) (sl + 900 + pt) Q (F0 m 1025 ls [])) : W p l e room_1 s m #[Value.ref sb] below meth c H locs cells (sl + pt) Q (F0 m 567 ls []) := by
  obtain ⟨hx, hb, hr, hml, hown, hts, hT, hX0, hbl, hlocks, hbA, hA, hA2, hK, hN, hSX, hXC⟩ := id G
  refine lv_aload_n hx hb dL_law_567 rfl (lv_at hl 2 rfl) ?_
  refine lv_aload_n hx hb dL_law_568 rfl (lv_at hl 3 rfl) ?_
  refine lv_iload_n hx hb dL_law_569 rfl (lv_at hl 0 rfl) ?_
  refine lv_iconst (v := 1) hx hb dL_law_570 (by decide) ?_
  refine lv_iadd hx hb dL_law_571 ?_
  refine va_sld hx hb hX0 hbl hbA hS (hin 1 ⟨by decide, by decide⟩) dL_law_572 ?_
  refine xc_fewest G hl hI hP hD hS hce hsl (xs (Int32.toNatClampNeg (i + 1))) (fun r H locs w F r3 wh wz im xi2 wf32 pt2 hpo hI hP hD hS => ?_)
  refine lv_pop hx hb dL_law_576 rfl ?_
  have hpl := hI.pt_le
  have hq9 := pm_mv w F r3 im wh wz v
  have hP := vPp hq9 hP
  have hD := vDp hq9 hD
  refine lv_aload_n hx hb dL_law_577 rfl (lv_at hl 1 rfl) ?_
  refine lv_aload_n hx hb dL_law_578 rfl (lv_at hl 3 rfl) ?_
  refine lv_iload_n hx hb dL_law_579 rfl (lv_at hl 0 rfl) ?_
  refine lv_iconst (v := 1) hx hb dL_law_580 (by decide) ?_
  refine lv_iadd hx hb dL_law_581 ?_
  refine va_sld hx hb hX0 hbl hbA hS (hin 1 ⟨by decide, by decide⟩) dL_law_582 ?_
  refine mc_fewest G hl hM hP hD hS (by omega) (by omega) (xs (Int32.toNatClampNeg (i + 1))) (fun r2 H locs v gsd2 gim2 gmd2 hpm hM hP hD hS => ?_)
  refine lv_pop hx hb dL_law_586 rfl ?_
  refine lv_goto (tgt := 1025) hx hb dL_law_587 (by decide) ?_
  have hq8 := (pm_mv w F r3 im wh wz v).symm
  have hP := vPp hq8 hP
  have hD := vDp hq8 hD
  obtain ⟨e1, e2⟩ := hpo
  obtain ⟨e3, e4, e5⟩ := hpm
  rw [e1, e2] at hI
  rw [e4, e5] at hM
  have hLk := hLk.sea e3
  exact kk H locs w F r3 wh wz v im xi wf3 gsd2 gim gmd pt2 hI hM hLk hP hD hS
theorem dL_law_590 : decode cL_law 590 = .ok (.aload_n 1, 1) := by decide +kernel
theorem dL_law_594 : decode cL_law 594 = .ok (.pop, 1) := by decide +kernel
theorem dL_law_595 : decode cL_law 595 = .ok (.aload_n 2, 1) := by decide +kernel
theorem dL_law_599 : decode cL_law 599 = .ok (.pop, 1) := by decide +kernel
theorem dL_law_600 : decode cL_law 600 = .ok (.goto 425, 3) := by decide +kernel
set_option maxHeartbeats 4000000 in
set_option maxRecDepth 100000 in
theorem cs_soonest {p : Program} {l : Launch} {e : Env} {s : State} {m : MethodId} {below : List Frame} {meth : Method} {c : Code} {sb LL : Nat} {xs : Nat → Int32} {D : va_G} {cs : Nat → ClassId} {A : Nat → Prop} {sa sv : Nat → Nat} (G : LX p l s m meth c sb LL xs D cs A sa sv) {H : Heap} {locs : List Loc} {cells sl : Nat} {Q : State → Prop} {ls : Array Slot} {ox m0 : Nat} {i : Int32} (hl : lv_has ls 4 [(3, .int i), (2, .ref m0), (1, .ref ox), (0, .ref sb)]) (hin : ∀ k : Int32, Rg 0 5 k → vp_in (i + k) LL) {w F r3 wh wz v : va_W} {im : Nat → va_W} {xi : Nat → Option (Nat → Int32)} {wf3 gsd gim gmd : Nat → Int32} {pt : Nat} (hI : XI cs ox w F r3 wh wz im xi wf3 pt) (hM : MI cs m0 v gsd gim gmd) (hLk : LNK wf3 gsd xi gim gmd) (hP : va_P D vwCl (w ++ TL F r3 im wh wz v) H) (hD : va_D A (w ++ TL F r3 im wh wz v)) (hS : va_S A s.heap H locs) (hce : cells + 20 ≤ 600000) (hsl : sl + 3900900 ≤ 7302249) (kk : ∀ (H : Heap) (locs : List Loc) (w F r3 wh wz v : va_W) (im : Nat → va_W) (xi : Nat → Option (Nat → Int32)) (wf3 gsd gim gmd : Nat → Int32) (pt : Nat), XI cs ox w F r3 wh wz im xi wf3 pt → MI cs m0 v gsd gim gmd → LNK wf3 gsd xi gim gmd → va_P D vwCl (w ++ TL F r3 im wh wz v) H → va_D A (w ++ TL F r3 im wh wz v) → va_S A s.heap H locs → W p l e room_1 s m #[Value.ref sb] below meth c H locs (cells + 20) (sl + 900 + pt) Q (F0 m 1025 ls [])) : W p l e room_1 s m #[Value.ref sb] below meth c H locs cells (sl + pt) Q (F0 m 590 ls []) := by
  obtain ⟨hx, hb, hr, hml, hown, hts, hT, hX0, hbl, hlocks, hbA, hA, hA2, hK, hN, hSX, hXC⟩ := id G
  refine lv_aload_n hx hb dL_law_590 rfl (lv_at hl 2 rfl) ?_
  refine xc_soonest G hl hI hP hD hS hce hsl (fun r H locs w F r3 wh wz im xi2 wf32 pt2 hpo hI hP hD hS => ?_)
  refine lv_pop hx hb dL_law_594 rfl ?_
  have hpl := hI.pt_le
  have hq9 := pm_mv w F r3 im wh wz v
  have hP := vPp hq9 hP
  have hD := vDp hq9 hD
  refine lv_aload_n hx hb dL_law_595 rfl (lv_at hl 1 rfl) ?_
  refine mc_soonest G hl hM hP hD hS (by omega) (by omega) (fun r2 H locs v gsd2 gim2 gmd2 hpm hM hP hD hS => ?_)
  refine lv_pop hx hb dL_law_599 rfl ?_
  refine lv_goto (tgt := 1025) hx hb dL_law_600 (by decide) ?_
  have hq8 := (pm_mv w F r3 im wh wz v).symm
  have hP := vPp hq8 hP
  have hD := vDp hq8 hD
  obtain ⟨e1, e2⟩ := hpo
  obtain ⟨e3, e4, e5⟩ := hpm
  rw [e1, e2] at hI
  rw [e4, e5] at hM
  have hLk := hLk.sea e3
  exact kk H locs w F r3 wh wz v im xi wf3 gsd2 gim gmd pt2 hI hM hLk hP hD hS
theorem dL_law_603 : decode cL_law 603 = .ok (.aload_n 1, 1) := by decide +kernel
theorem dL_law_604 : decode cL_law 604 = .ok (.aload_n 0, 1) := by decide +kernel
theorem dL_law_605 : decode cL_law 605 = .ok (.iload_n 3, 1) := by decide +kernel
theorem dL_law_606 : decode cL_law 606 = .ok (.iconst 1, 1) := by decide +kernel
theorem dL_law_607 : decode cL_law 607 = .ok (.iadd, 1) := by decide +kernel
theorem dL_law_608 : decode cL_law 608 = .ok (.iaload, 1) := by decide +kernel
theorem dL_law_609 : decode cL_law 609 = .ok (.aload_n 0, 1) := by decide +kernel
theorem dL_law_610 : decode cL_law 610 = .ok (.iload_n 3, 1) := by decide +kernel
theorem dL_law_611 : decode cL_law 611 = .ok (.iconst 2, 1) := by decide +kernel
theorem dL_law_612 : decode cL_law 612 = .ok (.iadd, 1) := by decide +kernel
theorem dL_law_613 : decode cL_law 613 = .ok (.iaload, 1) := by decide +kernel
theorem dL_law_617 : decode cL_law 617 = .ok (.pop, 1) := by decide +kernel
theorem dL_law_618 : decode cL_law 618 = .ok (.aload_n 2, 1) := by decide +kernel
theorem dL_law_619 : decode cL_law 619 = .ok (.aload_n 0, 1) := by decide +kernel
theorem dL_law_620 : decode cL_law 620 = .ok (.iload_n 3, 1) := by decide +kernel
theorem dL_law_621 : decode cL_law 621 = .ok (.iconst 1, 1) := by decide +kernel
theorem dL_law_622 : decode cL_law 622 = .ok (.iadd, 1) := by decide +kernel
theorem dL_law_623 : decode cL_law 623 = .ok (.iaload, 1) := by decide +kernel
theorem dL_law_624 : decode cL_law 624 = .ok (.aload_n 0, 1) := by decide +kernel
theorem dL_law_625 : decode cL_law 625 = .ok (.iload_n 3, 1) := by decide +kernel
theorem dL_law_626 : decode cL_law 626 = .ok (.iconst 2, 1) := by decide +kernel
theorem dL_law_627 : decode cL_law 627 = .ok (.iadd, 1) := by decide +kernel
theorem dL_law_628 : decode cL_law 628 = .ok (.iaload, 1) := by decide +kernel
theorem dL_law_632 : decode cL_law 632 = .ok (.pop, 1) := by decide +kernel
theorem dL_law_633 : decode cL_law 633 = .ok (.goto 392, 3) := by decide +kernel
set_option maxHeartbeats 4000000 in
set_option maxRecDepth 100000 in
theorem cs_step {p : Program} {l : Launch} {e : Env} {s : State} {m : MethodId} {below : List Frame} {meth : Method} {c : Code} {sb LL : Nat} {xs : Nat → Int32} {D : va_G} {cs : Nat → ClassId} {A : Nat → Prop} {sa sv : Nat → Nat} (G : LX p l s m meth c sb LL xs D cs A sa sv) {H : Heap} {locs : List Loc} {cells sl : Nat} {Q : State → Prop} {ls : Array Slot} {ox m0 : Nat} {i : Int32} (hl : lv_has ls 4 [(3, .int i), (2, .ref m0), (1, .ref ox), (0, .ref sb)]) (hin : ∀ k : Int32, Rg 0 5 k → vp_in (i + k) LL) {w F r3 wh wz v : va_W} {im : Nat → va_W} {xi : Nat → Option (Nat → Int32)} {wf3 gsd gim gmd : Nat → Int32} {pt : Nat} (hI : XI cs ox w F r3 wh wz im xi wf3 pt) (hM : MI cs m0 v gsd gim gmd) (hLk : LNK wf3 gsd xi gim gmd) (hP : va_P D vwCl (w ++ TL F r3 im wh wz v) H) (hD : va_D A (w ++ TL F r3 im wh wz v)) (hS : va_S A s.heap H locs) (hce : cells + 20 ≤ 600000) (hsl : sl + 3900900 ≤ 7302249) (kk : ∀ (H : Heap) (locs : List Loc) (w F r3 wh wz v : va_W) (im : Nat → va_W) (xi : Nat → Option (Nat → Int32)) (wf3 gsd gim gmd : Nat → Int32) (pt : Nat), XI cs ox w F r3 wh wz im xi wf3 pt → MI cs m0 v gsd gim gmd → LNK wf3 gsd xi gim gmd → va_P D vwCl (w ++ TL F r3 im wh wz v) H → va_D A (w ++ TL F r3 im wh wz v) → va_S A s.heap H locs → W p l e room_1 s m #[Value.ref sb] below meth c H locs (cells + 20) (sl + 900 + pt) Q (F0 m 1025 ls [])) : W p l e room_1 s m #[Value.ref sb] below meth c H locs cells (sl + pt) Q (F0 m 603 ls []) := by
  obtain ⟨hx, hb, hr, hml, hown, hts, hT, hX0, hbl, hlocks, hbA, hA, hA2, hK, hN, hSX, hXC⟩ := id G
  refine lv_aload_n hx hb dL_law_603 rfl (lv_at hl 2 rfl) ?_
  refine lv_aload_n hx hb dL_law_604 rfl (lv_at hl 3 rfl) ?_
  refine lv_iload_n hx hb dL_law_605 rfl (lv_at hl 0 rfl) ?_
  refine lv_iconst (v := 1) hx hb dL_law_606 (by decide) ?_
  refine lv_iadd hx hb dL_law_607 ?_
  refine va_sld hx hb hX0 hbl hbA hS (hin 1 ⟨by decide, by decide⟩) dL_law_608 ?_
  refine lv_aload_n hx hb dL_law_609 rfl (lv_at hl 3 rfl) ?_
  refine lv_iload_n hx hb dL_law_610 rfl (lv_at hl 0 rfl) ?_
  refine lv_iconst (v := 2) hx hb dL_law_611 (by decide) ?_
  refine lv_iadd hx hb dL_law_612 ?_
  refine va_sld hx hb hX0 hbl hbA hS (hin 2 ⟨by decide, by decide⟩) dL_law_613 ?_
  refine xc_step G hl hI hP hD hS hce hsl (xs (Int32.toNatClampNeg (i + 1))) (xs (Int32.toNatClampNeg (i + 2))) (fun r H locs w F r3 wh wz im xi2 wf32 pt2 hpo hI hP hD hS => ?_)
  refine lv_pop hx hb dL_law_617 rfl ?_
  have hpl := hI.pt_le
  have hq9 := pm_mv w F r3 im wh wz v
  have hP := vPp hq9 hP
  have hD := vDp hq9 hD
  refine lv_aload_n hx hb dL_law_618 rfl (lv_at hl 1 rfl) ?_
  refine lv_aload_n hx hb dL_law_619 rfl (lv_at hl 3 rfl) ?_
  refine lv_iload_n hx hb dL_law_620 rfl (lv_at hl 0 rfl) ?_
  refine lv_iconst (v := 1) hx hb dL_law_621 (by decide) ?_
  refine lv_iadd hx hb dL_law_622 ?_
  refine va_sld hx hb hX0 hbl hbA hS (hin 1 ⟨by decide, by decide⟩) dL_law_623 ?_
  refine lv_aload_n hx hb dL_law_624 rfl (lv_at hl 3 rfl) ?_
  refine lv_iload_n hx hb dL_law_625 rfl (lv_at hl 0 rfl) ?_
  refine lv_iconst (v := 2) hx hb dL_law_626 (by decide) ?_
  refine lv_iadd hx hb dL_law_627 ?_
  refine va_sld hx hb hX0 hbl hbA hS (hin 2 ⟨by decide, by decide⟩) dL_law_628 ?_
  refine mc_step G hl hM hP hD hS (by omega) (by omega) (xs (Int32.toNatClampNeg (i + 1))) (xs (Int32.toNatClampNeg (i + 2))) (fun r2 H locs v gsd2 gim2 gmd2 hpm hM hP hD hS => ?_)
  refine lv_pop hx hb dL_law_632 rfl ?_
  refine lv_goto (tgt := 1025) hx hb dL_law_633 (by decide) ?_
  have hq8 := (pm_mv w F r3 im wh wz v).symm
  have hP := vPp hq8 hP
  have hD := vDp hq8 hD
  obtain ⟨e1, e2⟩ := hpo
  obtain ⟨e3, e4, e5⟩ := hpm
  rw [e1, e2] at hI
  rw [e4, e5] at hM
  have hLk := hLk.sea e3
  exact kk H locs w F r3 wh wz v im xi wf3 gsd2 gim gmd pt2 hI hM hLk hP hD hS
theorem dL_law_636 : decode cL_law 636 = .ok (.aload_n 1, 1) := by decide +kernel
theorem dL_law_637 : decode cL_law 637 = .ok (.aload_n 0, 1) := by decide +kernel
theorem dL_law_638 : decode cL_law 638 = .ok (.iload_n 3, 1) := by decide +kernel
theorem dL_law_639 : decode cL_law 639 = .ok (.iconst 1, 1) := by decide +kernel
theorem dL_law_640 : decode cL_law 640 = .ok (.iadd, 1) := by decide +kernel
theorem dL_law_641 : decode cL_law 641 = .ok (.iaload, 1) := by decide +kernel
theorem dL_law_642 : decode cL_law 642 = .ok (.aload_n 0, 1) := by decide +kernel
theorem dL_law_643 : decode cL_law 643 = .ok (.iload_n 3, 1) := by decide +kernel
theorem dL_law_644 : decode cL_law 644 = .ok (.iconst 2, 1) := by decide +kernel
theorem dL_law_645 : decode cL_law 645 = .ok (.iadd, 1) := by decide +kernel
theorem dL_law_646 : decode cL_law 646 = .ok (.iaload, 1) := by decide +kernel
theorem dL_law_650 : decode cL_law 650 = .ok (.pop, 1) := by decide +kernel
theorem dL_law_651 : decode cL_law 651 = .ok (.aload_n 2, 1) := by decide +kernel
theorem dL_law_652 : decode cL_law 652 = .ok (.aload_n 0, 1) := by decide +kernel
theorem dL_law_653 : decode cL_law 653 = .ok (.iload_n 3, 1) := by decide +kernel
theorem dL_law_654 : decode cL_law 654 = .ok (.iconst 1, 1) := by decide +kernel
theorem dL_law_655 : decode cL_law 655 = .ok (.iadd, 1) := by decide +kernel
theorem dL_law_656 : decode cL_law 656 = .ok (.iaload, 1) := by decide +kernel
theorem dL_law_657 : decode cL_law 657 = .ok (.aload_n 0, 1) := by decide +kernel
theorem dL_law_658 : decode cL_law 658 = .ok (.iload_n 3, 1) := by decide +kernel
theorem dL_law_659 : decode cL_law 659 = .ok (.iconst 2, 1) := by decide +kernel
theorem dL_law_660 : decode cL_law 660 = .ok (.iadd, 1) := by decide +kernel
theorem dL_law_661 : decode cL_law 661 = .ok (.iaload, 1) := by decide +kernel
theorem dL_law_665 : decode cL_law 665 = .ok (.pop, 1) := by decide +kernel
theorem dL_law_666 : decode cL_law 666 = .ok (.goto 359, 3) := by decide +kernel
set_option maxHeartbeats 4000000 in
set_option maxRecDepth 100000 in
theorem cs_floor {p : Program} {l : Launch} {e : Env} {s : State} {m : MethodId} {below : List Frame} {meth : Method} {c : Code} {sb LL : Nat} {xs : Nat → Int32} {D : va_G} {cs : Nat → ClassId} {A : Nat → Prop} {sa sv : Nat → Nat} (G : LX p l s m meth c sb LL xs D cs A sa sv) {H : Heap} {locs : List Loc} {cells sl : Nat} {Q : State → Prop} {ls : Array Slot} {ox m0 : Nat} {i : Int32} (hl : lv_has ls 4 [(3, .int i), (2, .ref m0), (1, .ref ox), (0, .ref sb)]) (hin : ∀ k : Int32, Rg 0 5 k → vp_in (i + k) LL) {w F r3 wh wz v : va_W} {im : Nat → va_W} {xi : Nat → Option (Nat → Int32)} {wf3 gsd gim gmd : Nat → Int32} {pt : Nat} (hI : XI cs ox w F r3 wh wz im xi wf3 pt) (hM : MI cs m0 v gsd gim gmd) (hLk : LNK wf3 gsd xi gim gmd) (hP : va_P D vwCl (w ++ TL F r3 im wh wz v) H) (hD : va_D A (w ++ TL F r3 im wh wz v)) (hS : va_S A s.heap H locs) (hce : cells + 20 ≤ 600000) (hsl : sl + 3900900 ≤ 7302249) (kk : ∀ (H : Heap) (locs : List Loc) (w F r3 wh wz v : va_W) (im : Nat → va_W) (xi : Nat → Option (Nat → Int32)) (wf3 gsd gim gmd : Nat → Int32) (pt : Nat), XI cs ox w F r3 wh wz im xi wf3 pt → MI cs m0 v gsd gim gmd → LNK wf3 gsd xi gim gmd → va_P D vwCl (w ++ TL F r3 im wh wz v) H → va_D A (w ++ TL F r3 im wh wz v) → va_S A s.heap H locs → W p l e room_1 s m #[Value.ref sb] below meth c H locs (cells + 20) (sl + 900 + pt) Q (F0 m 1025 ls [])) : W p l e room_1 s m #[Value.ref sb] below meth c H locs cells (sl + pt) Q (F0 m 636 ls []) := by
  obtain ⟨hx, hb, hr, hml, hown, hts, hT, hX0, hbl, hlocks, hbA, hA, hA2, hK, hN, hSX, hXC⟩ := id G
  refine lv_aload_n hx hb dL_law_636 rfl (lv_at hl 2 rfl) ?_
  refine lv_aload_n hx hb dL_law_637 rfl (lv_at hl 3 rfl) ?_
  refine lv_iload_n hx hb dL_law_638 rfl (lv_at hl 0 rfl) ?_
  refine lv_iconst (v := 1) hx hb dL_law_639 (by decide) ?_
  refine lv_iadd hx hb dL_law_640 ?_
  refine va_sld hx hb hX0 hbl hbA hS (hin 1 ⟨by decide, by decide⟩) dL_law_641 ?_
  refine lv_aload_n hx hb dL_law_642 rfl (lv_at hl 3 rfl) ?_
  refine lv_iload_n hx hb dL_law_643 rfl (lv_at hl 0 rfl) ?_
  refine lv_iconst (v := 2) hx hb dL_law_644 (by decide) ?_
  refine lv_iadd hx hb dL_law_645 ?_
  refine va_sld hx hb hX0 hbl hbA hS (hin 2 ⟨by decide, by decide⟩) dL_law_646 ?_
  refine xc_floor G hl hI hP hD hS hce hsl (xs (Int32.toNatClampNeg (i + 1))) (xs (Int32.toNatClampNeg (i + 2))) (fun r H locs w F r3 wh wz im xi2 wf32 pt2 hpo hI hP hD hS => ?_)
  refine lv_pop hx hb dL_law_650 rfl ?_
  have hpl := hI.pt_le
  have hq9 := pm_mv w F r3 im wh wz v
  have hP := vPp hq9 hP
  have hD := vDp hq9 hD
  refine lv_aload_n hx hb dL_law_651 rfl (lv_at hl 1 rfl) ?_
  refine lv_aload_n hx hb dL_law_652 rfl (lv_at hl 3 rfl) ?_
  refine lv_iload_n hx hb dL_law_653 rfl (lv_at hl 0 rfl) ?_
  refine lv_iconst (v := 1) hx hb dL_law_654 (by decide) ?_
  refine lv_iadd hx hb dL_law_655 ?_
  refine va_sld hx hb hX0 hbl hbA hS (hin 1 ⟨by decide, by decide⟩) dL_law_656 ?_
  refine lv_aload_n hx hb dL_law_657 rfl (lv_at hl 3 rfl) ?_
  refine lv_iload_n hx hb dL_law_658 rfl (lv_at hl 0 rfl) ?_
  refine lv_iconst (v := 2) hx hb dL_law_659 (by decide) ?_
  refine lv_iadd hx hb dL_law_660 ?_
  refine va_sld hx hb hX0 hbl hbA hS (hin 2 ⟨by decide, by decide⟩) dL_law_661 ?_
  refine mc_floor G hl hM hP hD hS (by omega) (by omega) (xs (Int32.toNatClampNeg (i + 1))) (xs (Int32.toNatClampNeg (i + 2))) (fun r2 H locs v gsd2 gim2 gmd2 hpm hM hP hD hS => ?_)
  refine lv_pop hx hb dL_law_665 rfl ?_
  refine lv_goto (tgt := 1025) hx hb dL_law_666 (by decide) ?_
  have hq8 := (pm_mv w F r3 im wh wz v).symm
  have hP := vPp hq8 hP
  have hD := vDp hq8 hD
  obtain ⟨e1, e2⟩ := hpo
  obtain ⟨e3, e4, e5⟩ := hpm
  rw [e1, e2] at hI
  rw [e4, e5] at hM
  have hLk := hLk.sea e3
  exact kk H locs w F r3 wh wz v im xi wf3 gsd2 gim gmd pt2 hI hM hLk hP hD hS
theorem dL_law_669 : decode cL_law 669 = .ok (.aload_n 1, 1) := by decide +kernel
theorem dL_law_670 : decode cL_law 670 = .ok (.aload_n 0, 1) := by decide +kernel
theorem dL_law_671 : decode cL_law 671 = .ok (.iload_n 3, 1) := by decide +kernel
theorem dL_law_672 : decode cL_law 672 = .ok (.iconst 1, 1) := by decide +kernel
theorem dL_law_673 : decode cL_law 673 = .ok (.iadd, 1) := by decide +kernel
theorem dL_law_674 : decode cL_law 674 = .ok (.iaload, 1) := by decide +kernel
theorem dL_law_678 : decode cL_law 678 = .ok (.pop, 1) := by decide +kernel
theorem dL_law_679 : decode cL_law 679 = .ok (.aload_n 2, 1) := by decide +kernel
theorem dL_law_680 : decode cL_law 680 = .ok (.aload_n 0, 1) := by decide +kernel
theorem dL_law_681 : decode cL_law 681 = .ok (.iload_n 3, 1) := by decide +kernel
theorem dL_law_682 : decode cL_law 682 = .ok (.iconst 1, 1) := by decide +kernel
theorem dL_law_683 : decode cL_law 683 = .ok (.iadd, 1) := by decide +kernel
theorem dL_law_684 : decode cL_law 684 = .ok (.iaload, 1) := by decide +kernel
theorem dL_law_688 : decode cL_law 688 = .ok (.pop, 1) := by decide +kernel
theorem dL_law_689 : decode cL_law 689 = .ok (.goto 336, 3) := by decide +kernel
set_option maxHeartbeats 4000000 in
set_option maxRecDepth 100000 in
theorem cs_goes {p : Program} {l : Launch} {e : Env} {s : State} {m : MethodId} {below : List Frame} {meth : Method} {c : Code} {sb LL : Nat} {xs : Nat → Int32} {D : va_G} {cs : Nat → ClassId} {A : Nat → Prop} {sa sv : Nat → Nat} (G : LX p l s m meth c sb LL xs D cs A sa sv) {H : Heap} {locs : List Loc} {cells sl : Nat} {Q : State → Prop} {ls : Array Slot} {ox m0 : Nat} {i : Int32} (hl : lv_has ls 4 [(3, .int i), (2, .ref m0), (1, .ref ox), (0, .ref sb)]) (hin : ∀ k : Int32, Rg 0 5 k → vp_in (i + k) LL) {w F r3 wh wz v : va_W} {im : Nat → va_W} {xi : Nat → Option (Nat → Int32)} {wf3 gsd gim gmd : Nat → Int32} {pt : Nat} (hI : XI cs ox w F r3 wh wz im xi wf3 pt) (hM : MI cs m0 v gsd gim gmd) (hLk : LNK wf3 gsd xi gim gmd) (hP : va_P D vwCl (w ++ TL F r3 im wh wz v) H) (hD : va_D A (w ++ TL F r3 im wh wz v)) (hS : va_S A s.heap H locs) (hce : cells + 20 ≤ 600000) (hsl : sl + 3900900 ≤ 7302249) (kk : ∀ (H : Heap) (locs : List Loc) (w F r3 wh wz v : va_W) (im : Nat → va_W) (xi : Nat → Option (Nat → Int32)) (wf3 gsd gim gmd : Nat → Int32) (pt : Nat), XI cs ox w F r3 wh wz im xi wf3 pt → MI cs m0 v gsd gim gmd → LNK wf3 gsd xi gim gmd → va_P D vwCl (w ++ TL F r3 im wh wz v) H → va_D A (w ++ TL F r3 im wh wz v) → va_S A s.heap H locs → W p l e room_1 s m #[Value.ref sb] below meth c H locs (cells + 20) (sl + 900 + pt) Q (F0 m 1025 ls [])) : W p l e room_1 s m #[Value.ref sb] below meth c H locs cells (sl + pt) Q (F0 m 669 ls []) := by
  obtain ⟨hx, hb, hr, hml, hown, hts, hT, hX0, hbl, hlocks, hbA, hA, hA2, hK, hN, hSX, hXC⟩ := id G
  refine lv_aload_n hx hb dL_law_669 rfl (lv_at hl 2 rfl) ?_
  refine lv_aload_n hx hb dL_law_670 rfl (lv_at hl 3 rfl) ?_
  refine lv_iload_n hx hb dL_law_671 rfl (lv_at hl 0 rfl) ?_
  refine lv_iconst (v := 1) hx hb dL_law_672 (by decide) ?_
  refine lv_iadd hx hb dL_law_673 ?_
  refine va_sld hx hb hX0 hbl hbA hS (hin 1 ⟨by decide, by decide⟩) dL_law_674 ?_
  refine xc_goes G hl hI hP hD hS hce hsl (xs (Int32.toNatClampNeg (i + 1))) (fun r H locs w F r3 wh wz im xi2 wf32 pt2 hpo hI hP hD hS => ?_)
  refine lv_pop hx hb dL_law_678 rfl ?_
  have hpl := hI.pt_le
  have hq9 := pm_mv w F r3 im wh wz v
  have hP := vPp hq9 hP
  have hD := vDp hq9 hD
  refine lv_aload_n hx hb dL_law_679 rfl (lv_at hl 1 rfl) ?_
  refine lv_aload_n hx hb dL_law_680 rfl (lv_at hl 3 rfl) ?_
  refine lv_iload_n hx hb dL_law_681 rfl (lv_at hl 0 rfl) ?_
  refine lv_iconst (v := 1) hx hb dL_law_682 (by decide) ?_
  refine lv_iadd hx hb dL_law_683 ?_
  refine va_sld hx hb hX0 hbl hbA hS (hin 1 ⟨by decide, by decide⟩) dL_law_684 ?_
  refine mc_goes G hl hM hP hD hS (by omega) (by omega) (xs (Int32.toNatClampNeg (i + 1))) (fun r2 H locs v gsd2 gim2 gmd2 hpm hM hP hD hS => ?_)
  refine lv_pop hx hb dL_law_688 rfl ?_
  refine lv_goto (tgt := 1025) hx hb dL_law_689 (by decide) ?_
  have hq8 := (pm_mv w F r3 im wh wz v).symm
  have hP := vPp hq8 hP
  have hD := vDp hq8 hD
  obtain ⟨e1, e2⟩ := hpo
  obtain ⟨e3, e4, e5⟩ := hpm
  rw [e1, e2] at hI
  rw [e4, e5] at hM
  have hLk := hLk.sea e3
  exact kk H locs w F r3 wh wz v im xi wf3 gsd2 gim gmd pt2 hI hM hLk hP hD hS
theorem dL_law_692 : decode cL_law 692 = .ok (.aload_n 1, 1) := by decide +kernel
theorem dL_law_693 : decode cL_law 693 = .ok (.aload_n 0, 1) := by decide +kernel
theorem dL_law_694 : decode cL_law 694 = .ok (.iload_n 3, 1) := by decide +kernel
theorem dL_law_695 : decode cL_law 695 = .ok (.iconst 1, 1) := by decide +kernel
theorem dL_law_696 : decode cL_law 696 = .ok (.iadd, 1) := by decide +kernel
theorem dL_law_697 : decode cL_law 697 = .ok (.iaload, 1) := by decide +kernel
theorem dL_law_698 : decode cL_law 698 = .ok (.aload_n 0, 1) := by decide +kernel
theorem dL_law_699 : decode cL_law 699 = .ok (.iload_n 3, 1) := by decide +kernel
theorem dL_law_700 : decode cL_law 700 = .ok (.iconst 2, 1) := by decide +kernel
theorem dL_law_701 : decode cL_law 701 = .ok (.iadd, 1) := by decide +kernel
theorem dL_law_702 : decode cL_law 702 = .ok (.iaload, 1) := by decide +kernel
theorem dL_law_703 : decode cL_law 703 = .ok (.aload_n 0, 1) := by decide +kernel
theorem dL_law_704 : decode cL_law 704 = .ok (.iload_n 3, 1) := by decide +kernel
theorem dL_law_705 : decode cL_law 705 = .ok (.iconst 3, 1) := by decide +kernel
theorem dL_law_706 : decode cL_law 706 = .ok (.iadd, 1) := by decide +kernel
theorem dL_law_707 : decode cL_law 707 = .ok (.iaload, 1) := by decide +kernel
theorem dL_law_711 : decode cL_law 711 = .ok (.pop, 1) := by decide +kernel
theorem dL_law_712 : decode cL_law 712 = .ok (.aload_n 2, 1) := by decide +kernel
theorem dL_law_713 : decode cL_law 713 = .ok (.aload_n 0, 1) := by decide +kernel
theorem dL_law_714 : decode cL_law 714 = .ok (.iload_n 3, 1) := by decide +kernel
theorem dL_law_715 : decode cL_law 715 = .ok (.iconst 1, 1) := by decide +kernel
theorem dL_law_716 : decode cL_law 716 = .ok (.iadd, 1) := by decide +kernel
theorem dL_law_717 : decode cL_law 717 = .ok (.iaload, 1) := by decide +kernel
theorem dL_law_718 : decode cL_law 718 = .ok (.aload_n 0, 1) := by decide +kernel
theorem dL_law_719 : decode cL_law 719 = .ok (.iload_n 3, 1) := by decide +kernel
theorem dL_law_720 : decode cL_law 720 = .ok (.iconst 2, 1) := by decide +kernel
theorem dL_law_721 : decode cL_law 721 = .ok (.iadd, 1) := by decide +kernel
theorem dL_law_722 : decode cL_law 722 = .ok (.iaload, 1) := by decide +kernel
theorem dL_law_723 : decode cL_law 723 = .ok (.aload_n 0, 1) := by decide +kernel
theorem dL_law_724 : decode cL_law 724 = .ok (.iload_n 3, 1) := by decide +kernel
theorem dL_law_725 : decode cL_law 725 = .ok (.iconst 3, 1) := by decide +kernel
theorem dL_law_726 : decode cL_law 726 = .ok (.iadd, 1) := by decide +kernel
theorem dL_law_727 : decode cL_law 727 = .ok (.iaload, 1) := by decide +kernel
theorem dL_law_731 : decode cL_law 731 = .ok (.pop, 1) := by decide +kernel
theorem dL_law_732 : decode cL_law 732 = .ok (.goto 293, 3) := by decide +kernel
set_option maxHeartbeats 4000000 in
set_option maxRecDepth 100000 in
theorem cs_child {p : Program} {l : Launch} {e : Env} {s : State} {m : MethodId} {below : List Frame} {meth : Method} {c : Code} {sb LL : Nat} {xs : Nat → Int32} {D : va_G} {cs : Nat → ClassId} {A : Nat → Prop} {sa sv : Nat → Nat} (G : LX p l s m meth c sb LL xs D cs A sa sv) {H : Heap} {locs : List Loc} {cells sl : Nat} {Q : State → Prop} {ls : Array Slot} {ox m0 : Nat} {i : Int32} (hl : lv_has ls 4 [(3, .int i), (2, .ref m0), (1, .ref ox), (0, .ref sb)]) (hin : ∀ k : Int32, Rg 0 5 k → vp_in (i + k) LL) {w F r3 wh wz v : va_W} {im : Nat → va_W} {xi : Nat → Option (Nat → Int32)} {wf3 gsd gim gmd : Nat → Int32} {pt : Nat} (hI : XI cs ox w F r3 wh wz im xi wf3 pt) (hM : MI cs m0 v gsd gim gmd) (hLk : LNK wf3 gsd xi gim gmd) (hP : va_P D vwCl (w ++ TL F r3 im wh wz v) H) (hD : va_D A (w ++ TL F r3 im wh wz v)) (hS : va_S A s.heap H locs) (hce : cells + 20 ≤ 600000) (hsl : sl + 3900900 ≤ 7302249) (kk : ∀ (H : Heap) (locs : List Loc) (w F r3 wh wz v : va_W) (im : Nat → va_W) (xi : Nat → Option (Nat → Int32)) (wf3 gsd gim gmd : Nat → Int32) (pt : Nat), XI cs ox w F r3 wh wz im xi wf3 pt → MI cs m0 v gsd gim gmd → LNK wf3 gsd xi gim gmd → va_P D vwCl (w ++ TL F r3 im wh wz v) H → va_D A (w ++ TL F r3 im wh wz v) → va_S A s.heap H locs → W p l e room_1 s m #[Value.ref sb] below meth c H locs (cells + 20) (sl + 900 + pt) Q (F0 m 1025 ls [])) : W p l e room_1 s m #[Value.ref sb] below meth c H locs cells (sl + pt) Q (F0 m 692 ls []) := by
  obtain ⟨hx, hb, hr, hml, hown, hts, hT, hX0, hbl, hlocks, hbA, hA, hA2, hK, hN, hSX, hXC⟩ := id G
  refine lv_aload_n hx hb dL_law_692 rfl (lv_at hl 2 rfl) ?_
  refine lv_aload_n hx hb dL_law_693 rfl (lv_at hl 3 rfl) ?_
  refine lv_iload_n hx hb dL_law_694 rfl (lv_at hl 0 rfl) ?_
  refine lv_iconst (v := 1) hx hb dL_law_695 (by decide) ?_
  refine lv_iadd hx hb dL_law_696 ?_
  refine va_sld hx hb hX0 hbl hbA hS (hin 1 ⟨by decide, by decide⟩) dL_law_697 ?_
  refine lv_aload_n hx hb dL_law_698 rfl (lv_at hl 3 rfl) ?_
  refine lv_iload_n hx hb dL_law_699 rfl (lv_at hl 0 rfl) ?_
  refine lv_iconst (v := 2) hx hb dL_law_700 (by decide) ?_
  refine lv_iadd hx hb dL_law_701 ?_
  refine va_sld hx hb hX0 hbl hbA hS (hin 2 ⟨by decide, by decide⟩) dL_law_702 ?_
  refine lv_aload_n hx hb dL_law_703 rfl (lv_at hl 3 rfl) ?_
  refine lv_iload_n hx hb dL_law_704 rfl (lv_at hl 0 rfl) ?_
  refine lv_iconst (v := 3) hx hb dL_law_705 (by decide) ?_
  refine lv_iadd hx hb dL_law_706 ?_
  refine va_sld hx hb hX0 hbl hbA hS (hin 3 ⟨by decide, by decide⟩) dL_law_707 ?_
  refine xc_child G hl hI hP hD hS hce hsl (xs (Int32.toNatClampNeg (i + 1))) (xs (Int32.toNatClampNeg (i + 2))) (xs (Int32.toNatClampNeg (i + 3))) (fun r H locs w F r3 wh wz im xi2 wf32 pt2 hpo hI hP hD hS => ?_)
  refine lv_pop hx hb dL_law_711 rfl ?_
  have hpl := hI.pt_le
  have hq9 := pm_mv w F r3 im wh wz v
  have hP := vPp hq9 hP
  have hD := vDp hq9 hD
  refine lv_aload_n hx hb dL_law_712 rfl (lv_at hl 1 rfl) ?_
  refine lv_aload_n hx hb dL_law_713 rfl (lv_at hl 3 rfl) ?_
  refine lv_iload_n hx hb dL_law_714 rfl (lv_at hl 0 rfl) ?_
  refine lv_iconst (v := 1) hx hb dL_law_715 (by decide) ?_
  refine lv_iadd hx hb dL_law_716 ?_
  refine va_sld hx hb hX0 hbl hbA hS (hin 1 ⟨by decide, by decide⟩) dL_law_717 ?_
  refine lv_aload_n hx hb dL_law_718 rfl (lv_at hl 3 rfl) ?_
  refine lv_iload_n hx hb dL_law_719 rfl (lv_at hl 0 rfl) ?_
  refine lv_iconst (v := 2) hx hb dL_law_720 (by decide) ?_
  refine lv_iadd hx hb dL_law_721 ?_
  refine va_sld hx hb hX0 hbl hbA hS (hin 2 ⟨by decide, by decide⟩) dL_law_722 ?_
  refine lv_aload_n hx hb dL_law_723 rfl (lv_at hl 3 rfl) ?_
  refine lv_iload_n hx hb dL_law_724 rfl (lv_at hl 0 rfl) ?_
  refine lv_iconst (v := 3) hx hb dL_law_725 (by decide) ?_
  refine lv_iadd hx hb dL_law_726 ?_
  refine va_sld hx hb hX0 hbl hbA hS (hin 3 ⟨by decide, by decide⟩) dL_law_727 ?_
  refine mc_child G hl hM hP hD hS (by omega) (by omega) (xs (Int32.toNatClampNeg (i + 1))) (xs (Int32.toNatClampNeg (i + 2))) (xs (Int32.toNatClampNeg (i + 3))) (fun r2 H locs v gsd2 gim2 gmd2 hpm hM hP hD hS => ?_)
  refine lv_pop hx hb dL_law_731 rfl ?_
  refine lv_goto (tgt := 1025) hx hb dL_law_732 (by decide) ?_
  have hq8 := (pm_mv w F r3 im wh wz v).symm
  have hP := vPp hq8 hP
  have hD := vDp hq8 hD
  obtain ⟨e1, e2⟩ := hpo
  obtain ⟨e3, e4, e5⟩ := hpm
  rw [e1, e2] at hI
  rw [e4, e5] at hM
  have hLk := hLk.sea e3
  exact kk H locs w F r3 wh wz v im xi wf3 gsd2 gim gmd pt2 hI hM hLk hP hD hS
theorem dL_law_735 : decode cL_law 735 = .ok (.aload_n 1, 1) := by decide +kernel
theorem dL_law_736 : decode cL_law 736 = .ok (.aload_n 0, 1) := by decide +kernel
theorem dL_law_737 : decode cL_law 737 = .ok (.iload_n 3, 1) := by decide +kernel
theorem dL_law_738 : decode cL_law 738 = .ok (.iconst 1, 1) := by decide +kernel
theorem dL_law_739 : decode cL_law 739 = .ok (.iadd, 1) := by decide +kernel
theorem dL_law_740 : decode cL_law 740 = .ok (.iaload, 1) := by decide +kernel
theorem dL_law_741 : decode cL_law 741 = .ok (.aload_n 0, 1) := by decide +kernel
theorem dL_law_742 : decode cL_law 742 = .ok (.iload_n 3, 1) := by decide +kernel
theorem dL_law_743 : decode cL_law 743 = .ok (.iconst 2, 1) := by decide +kernel
theorem dL_law_744 : decode cL_law 744 = .ok (.iadd, 1) := by decide +kernel
theorem dL_law_745 : decode cL_law 745 = .ok (.iaload, 1) := by decide +kernel
theorem dL_law_749 : decode cL_law 749 = .ok (.pop, 1) := by decide +kernel
theorem dL_law_750 : decode cL_law 750 = .ok (.aload_n 2, 1) := by decide +kernel
theorem dL_law_751 : decode cL_law 751 = .ok (.aload_n 0, 1) := by decide +kernel
theorem dL_law_752 : decode cL_law 752 = .ok (.iload_n 3, 1) := by decide +kernel
theorem dL_law_753 : decode cL_law 753 = .ok (.iconst 1, 1) := by decide +kernel
theorem dL_law_754 : decode cL_law 754 = .ok (.iadd, 1) := by decide +kernel
theorem dL_law_755 : decode cL_law 755 = .ok (.iaload, 1) := by decide +kernel
theorem dL_law_756 : decode cL_law 756 = .ok (.aload_n 0, 1) := by decide +kernel
theorem dL_law_757 : decode cL_law 757 = .ok (.iload_n 3, 1) := by decide +kernel
theorem dL_law_758 : decode cL_law 758 = .ok (.iconst 2, 1) := by decide +kernel
theorem dL_law_759 : decode cL_law 759 = .ok (.iadd, 1) := by decide +kernel
theorem dL_law_760 : decode cL_law 760 = .ok (.iaload, 1) := by decide +kernel
theorem dL_law_764 : decode cL_law 764 = .ok (.pop, 1) := by decide +kernel
theorem dL_law_765 : decode cL_law 765 = .ok (.goto 260, 3) := by decide +kernel
set_option maxHeartbeats 4000000 in
set_option maxRecDepth 100000 in
theorem cs_spare {p : Program} {l : Launch} {e : Env} {s : State} {m : MethodId} {below : List Frame} {meth : Method} {c : Code} {sb LL : Nat} {xs : Nat → Int32} {D : va_G} {cs : Nat → ClassId} {A : Nat → Prop} {sa sv : Nat → Nat} (G : LX p l s m meth c sb LL xs D cs A sa sv) {H : Heap} {locs : List Loc} {cells sl : Nat} {Q : State → Prop} {ls : Array Slot} {ox m0 : Nat} {i : Int32} (hl : lv_has ls 4 [(3, .int i), (2, .ref m0), (1, .ref ox), (0, .ref sb)]) (hin : ∀ k : Int32, Rg 0 5 k → vp_in (i + k) LL) {w F r3 wh wz v : va_W} {im : Nat → va_W} {xi : Nat → Option (Nat → Int32)} {wf3 gsd gim gmd : Nat → Int32} {pt : Nat} (hI : XI cs ox w F r3 wh wz im xi wf3 pt) (hM : MI cs m0 v gsd gim gmd) (hLk : LNK wf3 gsd xi gim gmd) (hP : va_P D vwCl (w ++ TL F r3 im wh wz v) H) (hD : va_D A (w ++ TL F r3 im wh wz v)) (hS : va_S A s.heap H locs) (hce : cells + 20 ≤ 600000) (hsl : sl + 3900900 ≤ 7302249) (kk : ∀ (H : Heap) (locs : List Loc) (w F r3 wh wz v : va_W) (im : Nat → va_W) (xi : Nat → Option (Nat → Int32)) (wf3 gsd gim gmd : Nat → Int32) (pt : Nat), XI cs ox w F r3 wh wz im xi wf3 pt → MI cs m0 v gsd gim gmd → LNK wf3 gsd xi gim gmd → va_P D vwCl (w ++ TL F r3 im wh wz v) H → va_D A (w ++ TL F r3 im wh wz v) → va_S A s.heap H locs → W p l e room_1 s m #[Value.ref sb] below meth c H locs (cells + 20) (sl + 900 + pt) Q (F0 m 1025 ls [])) : W p l e room_1 s m #[Value.ref sb] below meth c H locs cells (sl + pt) Q (F0 m 735 ls []) := by
  obtain ⟨hx, hb, hr, hml, hown, hts, hT, hX0, hbl, hlocks, hbA, hA, hA2, hK, hN, hSX, hXC⟩ := id G
  refine lv_aload_n hx hb dL_law_735 rfl (lv_at hl 2 rfl) ?_
  refine lv_aload_n hx hb dL_law_736 rfl (lv_at hl 3 rfl) ?_
  refine lv_iload_n hx hb dL_law_737 rfl (lv_at hl 0 rfl) ?_
  refine lv_iconst (v := 1) hx hb dL_law_738 (by decide) ?_
  refine lv_iadd hx hb dL_law_739 ?_
  refine va_sld hx hb hX0 hbl hbA hS (hin 1 ⟨by decide, by decide⟩) dL_law_740 ?_
  refine lv_aload_n hx hb dL_law_741 rfl (lv_at hl 3 rfl) ?_
  refine lv_iload_n hx hb dL_law_742 rfl (lv_at hl 0 rfl) ?_
  refine lv_iconst (v := 2) hx hb dL_law_743 (by decide) ?_
  refine lv_iadd hx hb dL_law_744 ?_
  refine va_sld hx hb hX0 hbl hbA hS (hin 2 ⟨by decide, by decide⟩) dL_law_745 ?_
  refine xc_spare G hl hI hP hD hS hce hsl (xs (Int32.toNatClampNeg (i + 1))) (xs (Int32.toNatClampNeg (i + 2))) (fun r H locs w F r3 wh wz im xi2 wf32 pt2 hpo hI hP hD hS => ?_)
  refine lv_pop hx hb dL_law_749 rfl ?_
  have hpl := hI.pt_le
  have hq9 := pm_mv w F r3 im wh wz v
  have hP := vPp hq9 hP
  have hD := vDp hq9 hD
  refine lv_aload_n hx hb dL_law_750 rfl (lv_at hl 1 rfl) ?_
  refine lv_aload_n hx hb dL_law_751 rfl (lv_at hl 3 rfl) ?_
  refine lv_iload_n hx hb dL_law_752 rfl (lv_at hl 0 rfl) ?_
  refine lv_iconst (v := 1) hx hb dL_law_753 (by decide) ?_
  refine lv_iadd hx hb dL_law_754 ?_
  refine va_sld hx hb hX0 hbl hbA hS (hin 1 ⟨by decide, by decide⟩) dL_law_755 ?_
  refine lv_aload_n hx hb dL_law_756 rfl (lv_at hl 3 rfl) ?_
  refine lv_iload_n hx hb dL_law_757 rfl (lv_at hl 0 rfl) ?_
  refine lv_iconst (v := 2) hx hb dL_law_758 (by decide) ?_
  refine lv_iadd hx hb dL_law_759 ?_
  refine va_sld hx hb hX0 hbl hbA hS (hin 2 ⟨by decide, by decide⟩) dL_law_760 ?_
  refine mc_spare G hl hM hP hD hS (by omega) (by omega) (xs (Int32.toNatClampNeg (i + 1))) (xs (Int32.toNatClampNeg (i + 2))) (fun r2 H locs v gsd2 gim2 gmd2 hpm hM hP hD hS => ?_)
  refine lv_pop hx hb dL_law_764 rfl ?_
  refine lv_goto (tgt := 1025) hx hb dL_law_765 (by decide) ?_
  have hq8 := (pm_mv w F r3 im wh wz v).symm
  have hP := vPp hq8 hP
  have hD := vDp hq8 hD
  obtain ⟨e1, e2⟩ := hpo
  obtain ⟨e3, e4, e5⟩ := hpm
  rw [e1, e2] at hI
  rw [e4, e5] at hM
  have hLk := hLk.sea e3
  exact kk H locs w F r3 wh wz v im xi wf3 gsd2 gim gmd pt2 hI hM hLk hP hD hS
theorem dL_law_768 : decode cL_law 768 = .ok (.aload_n 1, 1) := by decide +kernel
theorem dL_law_769 : decode cL_law 769 = .ok (.aload_n 0, 1) := by decide +kernel
theorem dL_law_770 : decode cL_law 770 = .ok (.iload_n 3, 1) := by decide +kernel
theorem dL_law_771 : decode cL_law 771 = .ok (.iconst 1, 1) := by decide +kernel
theorem dL_law_772 : decode cL_law 772 = .ok (.iadd, 1) := by decide +kernel
theorem dL_law_773 : decode cL_law 773 = .ok (.iaload, 1) := by decide +kernel
theorem dL_law_774 : decode cL_law 774 = .ok (.aload_n 0, 1) := by decide +kernel
theorem dL_law_775 : decode cL_law 775 = .ok (.iload_n 3, 1) := by decide +kernel
theorem dL_law_776 : decode cL_law 776 = .ok (.iconst 2, 1) := by decide +kernel
theorem dL_law_777 : decode cL_law 777 = .ok (.iadd, 1) := by decide +kernel
theorem dL_law_778 : decode cL_law 778 = .ok (.iaload, 1) := by decide +kernel
theorem dL_law_779 : decode cL_law 779 = .ok (.aload_n 0, 1) := by decide +kernel
theorem dL_law_780 : decode cL_law 780 = .ok (.iload_n 3, 1) := by decide +kernel
theorem dL_law_781 : decode cL_law 781 = .ok (.iconst 3, 1) := by decide +kernel
theorem dL_law_782 : decode cL_law 782 = .ok (.iadd, 1) := by decide +kernel
theorem dL_law_783 : decode cL_law 783 = .ok (.iaload, 1) := by decide +kernel
theorem dL_law_787 : decode cL_law 787 = .ok (.pop, 1) := by decide +kernel
theorem dL_law_788 : decode cL_law 788 = .ok (.aload_n 2, 1) := by decide +kernel
theorem dL_law_789 : decode cL_law 789 = .ok (.aload_n 0, 1) := by decide +kernel
theorem dL_law_790 : decode cL_law 790 = .ok (.iload_n 3, 1) := by decide +kernel
theorem dL_law_791 : decode cL_law 791 = .ok (.iconst 1, 1) := by decide +kernel
theorem dL_law_792 : decode cL_law 792 = .ok (.iadd, 1) := by decide +kernel
theorem dL_law_793 : decode cL_law 793 = .ok (.iaload, 1) := by decide +kernel
theorem dL_law_794 : decode cL_law 794 = .ok (.aload_n 0, 1) := by decide +kernel
theorem dL_law_795 : decode cL_law 795 = .ok (.iload_n 3, 1) := by decide +kernel
theorem dL_law_796 : decode cL_law 796 = .ok (.iconst 2, 1) := by decide +kernel
theorem dL_law_797 : decode cL_law 797 = .ok (.iadd, 1) := by decide +kernel
theorem dL_law_798 : decode cL_law 798 = .ok (.iaload, 1) := by decide +kernel
theorem dL_law_799 : decode cL_law 799 = .ok (.aload_n 0, 1) := by decide +kernel
theorem dL_law_800 : decode cL_law 800 = .ok (.iload_n 3, 1) := by decide +kernel
theorem dL_law_801 : decode cL_law 801 = .ok (.iconst 3, 1) := by decide +kernel
theorem dL_law_802 : decode cL_law 802 = .ok (.iadd, 1) := by decide +kernel
theorem dL_law_803 : decode cL_law 803 = .ok (.iaload, 1) := by decide +kernel
theorem dL_law_807 : decode cL_law 807 = .ok (.pop, 1) := by decide +kernel
theorem dL_law_808 : decode cL_law 808 = .ok (.goto 217, 3) := by decide +kernel
set_option maxHeartbeats 4000000 in
set_option maxRecDepth 100000 in
theorem cs_crease {p : Program} {l : Launch} {e : Env} {s : State} {m : MethodId} {below : List Frame} {meth : Method} {c : Code} {sb LL : Nat} {xs : Nat → Int32} {D : va_G} {cs : Nat → ClassId} {A : Nat → Prop} {sa sv : Nat → Nat} (G : LX p l s m meth c sb LL xs D cs A sa sv) {H : Heap} {locs : List Loc} {cells sl : Nat} {Q : State → Prop} {ls : Array Slot} {ox m0 : Nat} {i : Int32} (hl : lv_has ls 4 [(3, .int i), (2, .ref m0), (1, .ref ox), (0, .ref sb)]) (hin : ∀ k : Int32, Rg 0 5 k → vp_in (i + k) LL) {w F r3 wh wz v : va_W} {im : Nat → va_W} {xi : Nat → Option (Nat → Int32)} {wf3 gsd gim gmd : Nat → Int32} {pt : Nat} (hI : XI cs ox w F r3 wh wz im xi wf3 pt) (hM : MI cs m0 v gsd gim gmd) (hLk : LNK wf3 gsd xi gim gmd) (hP : va_P D vwCl (w ++ TL F r3 im wh wz v) H) (hD : va_D A (w ++ TL F r3 im wh wz v)) (hS : va_S A s.heap H locs) (hce : cells + 20 ≤ 600000) (hsl : sl + 3900900 ≤ 7302249) (kk : ∀ (H : Heap) (locs : List Loc) (w F r3 wh wz v : va_W) (im : Nat → va_W) (xi : Nat → Option (Nat → Int32)) (wf3 gsd gim gmd : Nat → Int32) (pt : Nat), XI cs ox w F r3 wh wz im xi wf3 pt → MI cs m0 v gsd gim gmd → LNK wf3 gsd xi gim gmd → va_P D vwCl (w ++ TL F r3 im wh wz v) H → va_D A (w ++ TL F r3 im wh wz v) → va_S A s.heap H locs → W p l e room_1 s m #[Value.ref sb] below meth c H locs (cells + 20) (sl + 900 + pt) Q (F0 m 1025 ls [])) : W p l e room_1 s m #[Value.ref sb] below meth c H locs cells (sl + pt) Q (F0 m 768 ls []) := by
  obtain ⟨hx, hb, hr, hml, hown, hts, hT, hX0, hbl, hlocks, hbA, hA, hA2, hK, hN, hSX, hXC⟩ := id G
  refine lv_aload_n hx hb dL_law_768 rfl (lv_at hl 2 rfl) ?_
  refine lv_aload_n hx hb dL_law_769 rfl (lv_at hl 3 rfl) ?_
  refine lv_iload_n hx hb dL_law_770 rfl (lv_at hl 0 rfl) ?_
  refine lv_iconst (v := 1) hx hb dL_law_771 (by decide) ?_
  refine lv_iadd hx hb dL_law_772 ?_
  refine va_sld hx hb hX0 hbl hbA hS (hin 1 ⟨by decide, by decide⟩) dL_law_773 ?_
  refine lv_aload_n hx hb dL_law_774 rfl (lv_at hl 3 rfl) ?_
  refine lv_iload_n hx hb dL_law_775 rfl (lv_at hl 0 rfl) ?_
  refine lv_iconst (v := 2) hx hb dL_law_776 (by decide) ?_
  refine lv_iadd hx hb dL_law_777 ?_
  refine va_sld hx hb hX0 hbl hbA hS (hin 2 ⟨by decide, by decide⟩) dL_law_778 ?_
  refine lv_aload_n hx hb dL_law_779 rfl (lv_at hl 3 rfl) ?_
  refine lv_iload_n hx hb dL_law_780 rfl (lv_at hl 0 rfl) ?_
  refine lv_iconst (v := 3) hx hb dL_law_781 (by decide) ?_
  refine lv_iadd hx hb dL_law_782 ?_
  refine va_sld hx hb hX0 hbl hbA hS (hin 3 ⟨by decide, by decide⟩) dL_law_783 ?_
  refine xc_crease G hl hI hP hD hS hce hsl (xs (Int32.toNatClampNeg (i + 1))) (xs (Int32.toNatClampNeg (i + 2))) (xs (Int32.toNatClampNeg (i + 3))) (fun r H locs w F r3 wh wz im xi2 wf32 pt2 hpo hI hP hD hS => ?_)
  refine lv_pop hx hb dL_law_787 rfl ?_
  have hpl := hI.pt_le
  have hq9 := pm_mv w F r3 im wh wz v
  have hP := vPp hq9 hP
  have hD := vDp hq9 hD
  refine lv_aload_n hx hb dL_law_788 rfl (lv_at hl 1 rfl) ?_
  refine lv_aload_n hx hb dL_law_789 rfl (lv_at hl 3 rfl) ?_
  refine lv_iload_n hx hb dL_law_790 rfl (lv_at hl 0 rfl) ?_
  refine lv_iconst (v := 1) hx hb dL_law_791 (by decide) ?_
  refine lv_iadd hx hb dL_law_792 ?_
  refine va_sld hx hb hX0 hbl hbA hS (hin 1 ⟨by decide, by decide⟩) dL_law_793 ?_
  refine lv_aload_n hx hb dL_law_794 rfl (lv_at hl 3 rfl) ?_
  refine lv_iload_n hx hb dL_law_795 rfl (lv_at hl 0 rfl) ?_
  refine lv_iconst (v := 2) hx hb dL_law_796 (by decide) ?_
  refine lv_iadd hx hb dL_law_797 ?_
  refine va_sld hx hb hX0 hbl hbA hS (hin 2 ⟨by decide, by decide⟩) dL_law_798 ?_
  refine lv_aload_n hx hb dL_law_799 rfl (lv_at hl 3 rfl) ?_
  refine lv_iload_n hx hb dL_law_800 rfl (lv_at hl 0 rfl) ?_
  refine lv_iconst (v := 3) hx hb dL_law_801 (by decide) ?_
  refine lv_iadd hx hb dL_law_802 ?_
  refine va_sld hx hb hX0 hbl hbA hS (hin 3 ⟨by decide, by decide⟩) dL_law_803 ?_
  refine mc_crease G hl hM hP hD hS (by omega) (by omega) (xs (Int32.toNatClampNeg (i + 1))) (xs (Int32.toNatClampNeg (i + 2))) (xs (Int32.toNatClampNeg (i + 3))) (fun r2 H locs v gsd2 gim2 gmd2 hpm hM hP hD hS => ?_)
  refine lv_pop hx hb dL_law_807 rfl ?_
  refine lv_goto (tgt := 1025) hx hb dL_law_808 (by decide) ?_
  have hq8 := (pm_mv w F r3 im wh wz v).symm
  have hP := vPp hq8 hP
  have hD := vDp hq8 hD
  obtain ⟨e1, e2⟩ := hpo
  obtain ⟨e3, e4, e5⟩ := hpm
  rw [e1, e2] at hI
  rw [e4, e5] at hM
  have hLk := hLk.sea e3
  exact kk H locs w F r3 wh wz v im xi wf3 gsd2 gim gmd pt2 hI hM hLk hP hD hS
theorem dL_law_811 : decode cL_law 811 = .ok (.aload_n 1, 1) := by decide +kernel
theorem dL_law_812 : decode cL_law 812 = .ok (.aload_n 0, 1) := by decide +kernel
theorem dL_law_813 : decode cL_law 813 = .ok (.iload_n 3, 1) := by decide +kernel
theorem dL_law_814 : decode cL_law 814 = .ok (.iconst 1, 1) := by decide +kernel
theorem dL_law_815 : decode cL_law 815 = .ok (.iadd, 1) := by decide +kernel
theorem dL_law_816 : decode cL_law 816 = .ok (.iaload, 1) := by decide +kernel
theorem dL_law_820 : decode cL_law 820 = .ok (.pop, 1) := by decide +kernel
theorem dL_law_821 : decode cL_law 821 = .ok (.aload_n 2, 1) := by decide +kernel
theorem dL_law_822 : decode cL_law 822 = .ok (.aload_n 0, 1) := by decide +kernel
theorem dL_law_823 : decode cL_law 823 = .ok (.iload_n 3, 1) := by decide +kernel
theorem dL_law_824 : decode cL_law 824 = .ok (.iconst 1, 1) := by decide +kernel
theorem dL_law_825 : decode cL_law 825 = .ok (.iadd, 1) := by decide +kernel
theorem dL_law_826 : decode cL_law 826 = .ok (.iaload, 1) := by decide +kernel
theorem dL_law_830 : decode cL_law 830 = .ok (.pop, 1) := by decide +kernel
theorem dL_law_831 : decode cL_law 831 = .ok (.goto 194, 3) := by decide +kernel
set_option maxHeartbeats 4000000 in
set_option maxRecDepth 100000 in
theorem cs_ways {p : Program} {l : Launch} {e : Env} {s : State} {m : MethodId} {below : List Frame} {meth : Method} {c : Code} {sb LL : Nat} {xs : Nat → Int32} {D : va_G} {cs : Nat → ClassId} {A : Nat → Prop} {sa sv : Nat → Nat} (G : LX p l s m meth c sb LL xs D cs A sa sv) {H : Heap} {locs : List Loc} {cells sl : Nat} {Q : State → Prop} {ls : Array Slot} {ox m0 : Nat} {i : Int32} (hl : lv_has ls 4 [(3, .int i), (2, .ref m0), (1, .ref ox), (0, .ref sb)]) (hin : ∀ k : Int32, Rg 0 5 k → vp_in (i + k) LL) {w F r3 wh wz v : va_W} {im : Nat → va_W} {xi : Nat → Option (Nat → Int32)} {wf3 gsd gim gmd : Nat → Int32} {pt : Nat} (hI : XI cs ox w F r3 wh wz im xi wf3 pt) (hM : MI cs m0 v gsd gim gmd) (hLk : LNK wf3 gsd xi gim gmd) (hP : va_P D vwCl (w ++ TL F r3 im wh wz v) H) (hD : va_D A (w ++ TL F r3 im wh wz v)) (hS : va_S A s.heap H locs) (hce : cells + 20 ≤ 600000) (hsl : sl + 3900900 ≤ 7302249) (kk : ∀ (H : Heap) (locs : List Loc) (w F r3 wh wz v : va_W) (im : Nat → va_W) (xi : Nat → Option (Nat → Int32)) (wf3 gsd gim gmd : Nat → Int32) (pt : Nat), XI cs ox w F r3 wh wz im xi wf3 pt → MI cs m0 v gsd gim gmd → LNK wf3 gsd xi gim gmd → va_P D vwCl (w ++ TL F r3 im wh wz v) H → va_D A (w ++ TL F r3 im wh wz v) → va_S A s.heap H locs → W p l e room_1 s m #[Value.ref sb] below meth c H locs (cells + 20) (sl + 900 + pt) Q (F0 m 1025 ls [])) : W p l e room_1 s m #[Value.ref sb] below meth c H locs cells (sl + pt) Q (F0 m 811 ls []) := by
  obtain ⟨hx, hb, hr, hml, hown, hts, hT, hX0, hbl, hlocks, hbA, hA, hA2, hK, hN, hSX, hXC⟩ := id G
  refine lv_aload_n hx hb dL_law_811 rfl (lv_at hl 2 rfl) ?_
  refine lv_aload_n hx hb dL_law_812 rfl (lv_at hl 3 rfl) ?_
  refine lv_iload_n hx hb dL_law_813 rfl (lv_at hl 0 rfl) ?_
  refine lv_iconst (v := 1) hx hb dL_law_814 (by decide) ?_
  refine lv_iadd hx hb dL_law_815 ?_
  refine va_sld hx hb hX0 hbl hbA hS (hin 1 ⟨by decide, by decide⟩) dL_law_816 ?_
  refine xc_ways G hl hI hP hD hS hce hsl (xs (Int32.toNatClampNeg (i + 1))) (fun r H locs w F r3 wh wz im xi2 wf32 pt2 hpo hI hP hD hS => ?_)
  refine lv_pop hx hb dL_law_820 rfl ?_
  have hpl := hI.pt_le
  have hq9 := pm_mv w F r3 im wh wz v
  have hP := vPp hq9 hP
  have hD := vDp hq9 hD
  refine lv_aload_n hx hb dL_law_821 rfl (lv_at hl 1 rfl) ?_
  refine lv_aload_n hx hb dL_law_822 rfl (lv_at hl 3 rfl) ?_
  refine lv_iload_n hx hb dL_law_823 rfl (lv_at hl 0 rfl) ?_
  refine lv_iconst (v := 1) hx hb dL_law_824 (by decide) ?_
  refine lv_iadd hx hb dL_law_825 ?_
  refine va_sld hx hb hX0 hbl hbA hS (hin 1 ⟨by decide, by decide⟩) dL_law_826 ?_
  refine mc_ways G hl hM hP hD hS (by omega) (by omega) (xs (Int32.toNatClampNeg (i + 1))) (fun r2 H locs v gsd2 gim2 gmd2 hpm hM hP hD hS => ?_)
  refine lv_pop hx hb dL_law_830 rfl ?_
  refine lv_goto (tgt := 1025) hx hb dL_law_831 (by decide) ?_
  have hq8 := (pm_mv w F r3 im wh wz v).symm
  have hP := vPp hq8 hP
  have hD := vDp hq8 hD
  obtain ⟨e1, e2⟩ := hpo
  obtain ⟨e3, e4, e5⟩ := hpm
  rw [e1, e2] at hI
  rw [e4, e5] at hM
  have hLk := hLk.sea e3
  exact kk H locs w F r3 wh wz v im xi wf3 gsd2 gim gmd pt2 hI hM hLk hP hD hS
theorem dL_law_834 : decode cL_law 834 = .ok (.aload_n 1, 1) := by decide +kernel
theorem dL_law_835 : decode cL_law 835 = .ok (.aload_n 0, 1) := by decide +kernel
theorem dL_law_836 : decode cL_law 836 = .ok (.iload_n 3, 1) := by decide +kernel
theorem dL_law_837 : decode cL_law 837 = .ok (.iconst 1, 1) := by decide +kernel
theorem dL_law_838 : decode cL_law 838 = .ok (.iadd, 1) := by decide +kernel
theorem dL_law_839 : decode cL_law 839 = .ok (.iaload, 1) := by decide +kernel
theorem dL_law_840 : decode cL_law 840 = .ok (.aload_n 0, 1) := by decide +kernel
theorem dL_law_841 : decode cL_law 841 = .ok (.iload_n 3, 1) := by decide +kernel
theorem dL_law_842 : decode cL_law 842 = .ok (.iconst 2, 1) := by decide +kernel
theorem dL_law_843 : decode cL_law 843 = .ok (.iadd, 1) := by decide +kernel
theorem dL_law_844 : decode cL_law 844 = .ok (.iaload, 1) := by decide +kernel
theorem dL_law_848 : decode cL_law 848 = .ok (.pop, 1) := by decide +kernel
theorem dL_law_849 : decode cL_law 849 = .ok (.aload_n 2, 1) := by decide +kernel
theorem dL_law_850 : decode cL_law 850 = .ok (.aload_n 0, 1) := by decide +kernel
theorem dL_law_851 : decode cL_law 851 = .ok (.iload_n 3, 1) := by decide +kernel
theorem dL_law_852 : decode cL_law 852 = .ok (.iconst 1, 1) := by decide +kernel
theorem dL_law_853 : decode cL_law 853 = .ok (.iadd, 1) := by decide +kernel
theorem dL_law_854 : decode cL_law 854 = .ok (.iaload, 1) := by decide +kernel
theorem dL_law_855 : decode cL_law 855 = .ok (.aload_n 0, 1) := by decide +kernel
theorem dL_law_856 : decode cL_law 856 = .ok (.iload_n 3, 1) := by decide +kernel
theorem dL_law_857 : decode cL_law 857 = .ok (.iconst 2, 1) := by decide +kernel
theorem dL_law_858 : decode cL_law 858 = .ok (.iadd, 1) := by decide +kernel
theorem dL_law_859 : decode cL_law 859 = .ok (.iaload, 1) := by decide +kernel
theorem dL_law_863 : decode cL_law 863 = .ok (.pop, 1) := by decide +kernel
theorem dL_law_864 : decode cL_law 864 = .ok (.goto 161, 3) := by decide +kernel
set_option maxHeartbeats 4000000 in
set_option maxRecDepth 100000 in
theorem cs_seat {p : Program} {l : Launch} {e : Env} {s : State} {m : MethodId} {below : List Frame} {meth : Method} {c : Code} {sb LL : Nat} {xs : Nat → Int32} {D : va_G} {cs : Nat → ClassId} {A : Nat → Prop} {sa sv : Nat → Nat} (G : LX p l s m meth c sb LL xs D cs A sa sv) {H : Heap} {locs : List Loc} {cells sl : Nat} {Q : State → Prop} {ls : Array Slot} {ox m0 : Nat} {i : Int32} (hl : lv_has ls 4 [(3, .int i), (2, .ref m0), (1, .ref ox), (0, .ref sb)]) (hin : ∀ k : Int32, Rg 0 5 k → vp_in (i + k) LL) {w F r3 wh wz v : va_W} {im : Nat → va_W} {xi : Nat → Option (Nat → Int32)} {wf3 gsd gim gmd : Nat → Int32} {pt : Nat} (hI : XI cs ox w F r3 wh wz im xi wf3 pt) (hM : MI cs m0 v gsd gim gmd) (hLk : LNK wf3 gsd xi gim gmd) (hP : va_P D vwCl (w ++ TL F r3 im wh wz v) H) (hD : va_D A (w ++ TL F r3 im wh wz v)) (hS : va_S A s.heap H locs) (hce : cells + 20 ≤ 600000) (hsl : sl + 3900900 ≤ 7302249) (kk : ∀ (H : Heap) (locs : List Loc) (w F r3 wh wz v : va_W) (im : Nat → va_W) (xi : Nat → Option (Nat → Int32)) (wf3 gsd gim gmd : Nat → Int32) (pt : Nat), XI cs ox w F r3 wh wz im xi wf3 pt → MI cs m0 v gsd gim gmd → LNK wf3 gsd xi gim gmd → va_P D vwCl (w ++ TL F r3 im wh wz v) H → va_D A (w ++ TL F r3 im wh wz v) → va_S A s.heap H locs → W p l e room_1 s m #[Value.ref sb] below meth c H locs (cells + 20) (sl + 900 + pt) Q (F0 m 1025 ls [])) : W p l e room_1 s m #[Value.ref sb] below meth c H locs cells (sl + pt) Q (F0 m 834 ls []) := by
  obtain ⟨hx, hb, hr, hml, hown, hts, hT, hX0, hbl, hlocks, hbA, hA, hA2, hK, hN, hSX, hXC⟩ := id G
  refine lv_aload_n hx hb dL_law_834 rfl (lv_at hl 2 rfl) ?_
  refine lv_aload_n hx hb dL_law_835 rfl (lv_at hl 3 rfl) ?_
  refine lv_iload_n hx hb dL_law_836 rfl (lv_at hl 0 rfl) ?_
  refine lv_iconst (v := 1) hx hb dL_law_837 (by decide) ?_
  refine lv_iadd hx hb dL_law_838 ?_
  refine va_sld hx hb hX0 hbl hbA hS (hin 1 ⟨by decide, by decide⟩) dL_law_839 ?_
  refine lv_aload_n hx hb dL_law_840 rfl (lv_at hl 3 rfl) ?_
  refine lv_iload_n hx hb dL_law_841 rfl (lv_at hl 0 rfl) ?_
  refine lv_iconst (v := 2) hx hb dL_law_842 (by decide) ?_
  refine lv_iadd hx hb dL_law_843 ?_
  refine va_sld hx hb hX0 hbl hbA hS (hin 2 ⟨by decide, by decide⟩) dL_law_844 ?_
  refine xc_seat G hl hI hP hD hS hce hsl (xs (Int32.toNatClampNeg (i + 1))) (xs (Int32.toNatClampNeg (i + 2))) (fun r H locs w F r3 wh wz im xi2 wf32 pt2 hpo hI hP hD hS => ?_)
  refine lv_pop hx hb dL_law_848 rfl ?_
  have hpl := hI.pt_le
  have hq9 := pm_mv w F r3 im wh wz v
  have hP := vPp hq9 hP
  have hD := vDp hq9 hD
  refine lv_aload_n hx hb dL_law_849 rfl (lv_at hl 1 rfl) ?_
  refine lv_aload_n hx hb dL_law_850 rfl (lv_at hl 3 rfl) ?_
  refine lv_iload_n hx hb dL_law_851 rfl (lv_at hl 0 rfl) ?_
  refine lv_iconst (v := 1) hx hb dL_law_852 (by decide) ?_
  refine lv_iadd hx hb dL_law_853 ?_
  refine va_sld hx hb hX0 hbl hbA hS (hin 1 ⟨by decide, by decide⟩) dL_law_854 ?_
  refine lv_aload_n hx hb dL_law_855 rfl (lv_at hl 3 rfl) ?_
  refine lv_iload_n hx hb dL_law_856 rfl (lv_at hl 0 rfl) ?_
  refine lv_iconst (v := 2) hx hb dL_law_857 (by decide) ?_
  refine lv_iadd hx hb dL_law_858 ?_
  refine va_sld hx hb hX0 hbl hbA hS (hin 2 ⟨by decide, by decide⟩) dL_law_859 ?_
  refine mc_seat G hl hM hP hD hS (by omega) (by omega) (xs (Int32.toNatClampNeg (i + 1))) (xs (Int32.toNatClampNeg (i + 2))) (fun r2 H locs v gsd2 gim2 gmd2 hpm hM hP hD hS => ?_)
  refine lv_pop hx hb dL_law_863 rfl ?_
  refine lv_goto (tgt := 1025) hx hb dL_law_864 (by decide) ?_
  have hq8 := (pm_mv w F r3 im wh wz v).symm
  have hP := vPp hq8 hP
  have hD := vDp hq8 hD
  obtain ⟨_, e1, e2⟩ := hpo
  obtain ⟨_, e3, e4, e5⟩ := hpm
  have hLk := hLk.seat e2 e3
  rw [e4, e5] at hM
  rw [e1] at hI
  exact kk H locs w F r3 wh wz v im xi wf32 gsd2 gim gmd pt2 hI hM hLk hP hD hS
theorem dL_law_867 : decode cL_law 867 = .ok (.aload_n 1, 1) := by decide +kernel
theorem dL_law_868 : decode cL_law 868 = .ok (.aload_n 0, 1) := by decide +kernel
theorem dL_law_869 : decode cL_law 869 = .ok (.iload_n 3, 1) := by decide +kernel
theorem dL_law_870 : decode cL_law 870 = .ok (.iconst 1, 1) := by decide +kernel
theorem dL_law_871 : decode cL_law 871 = .ok (.iadd, 1) := by decide +kernel
theorem dL_law_872 : decode cL_law 872 = .ok (.iaload, 1) := by decide +kernel
theorem dL_law_876 : decode cL_law 876 = .ok (.aload_n 2, 1) := by decide +kernel
theorem dL_law_877 : decode cL_law 877 = .ok (.aload_n 0, 1) := by decide +kernel
theorem dL_law_878 : decode cL_law 878 = .ok (.iload_n 3, 1) := by decide +kernel
theorem dL_law_879 : decode cL_law 879 = .ok (.iconst 1, 1) := by decide +kernel
theorem dL_law_880 : decode cL_law 880 = .ok (.iadd, 1) := by decide +kernel
theorem dL_law_881 : decode cL_law 881 = .ok (.iaload, 1) := by decide +kernel
theorem dL_law_885 : decode cL_law 885 = .ok (.if_icmp .eq 140, 3) := by decide +kernel
set_option maxHeartbeats 4000000 in
set_option maxRecDepth 100000 in
theorem cs_moves {p : Program} {l : Launch} {e : Env} {s : State} {m : MethodId} {below : List Frame} {meth : Method} {c : Code} {sb LL : Nat} {xs : Nat → Int32} {D : va_G} {cs : Nat → ClassId} {A : Nat → Prop} {sa sv : Nat → Nat} (G : LX p l s m meth c sb LL xs D cs A sa sv) {H : Heap} {locs : List Loc} {cells sl : Nat} {Q : State → Prop} {ls : Array Slot} {ox m0 : Nat} {i : Int32} (hl : lv_has ls 4 [(3, .int i), (2, .ref m0), (1, .ref ox), (0, .ref sb)]) (hin : ∀ k : Int32, Rg 0 5 k → vp_in (i + k) LL) {w F r3 wh wz v : va_W} {im : Nat → va_W} {xi : Nat → Option (Nat → Int32)} {wf3 gsd gim gmd : Nat → Int32} {pt : Nat} (hI : XI cs ox w F r3 wh wz im xi wf3 pt) (hM : MI cs m0 v gsd gim gmd) (hLk : LNK wf3 gsd xi gim gmd) (hP : va_P D vwCl (w ++ TL F r3 im wh wz v) H) (hD : va_D A (w ++ TL F r3 im wh wz v)) (hS : va_S A s.heap H locs) (hce : cells + 20 ≤ 600000) (hsl : sl + 3900900 ≤ 7302249) (kk : ∀ (H : Heap) (locs : List Loc) (w F r3 wh wz v : va_W) (im : Nat → va_W) (xi : Nat → Option (Nat → Int32)) (wf3 gsd gim gmd : Nat → Int32) (pt : Nat), XI cs ox w F r3 wh wz im xi wf3 pt → MI cs m0 v gsd gim gmd → LNK wf3 gsd xi gim gmd → va_P D vwCl (w ++ TL F r3 im wh wz v) H → va_D A (w ++ TL F r3 im wh wz v) → va_S A s.heap H locs → W p l e room_1 s m #[Value.ref sb] below meth c H locs (cells + 20) (sl + 900 + pt) Q (F0 m 1025 ls [])) : W p l e room_1 s m #[Value.ref sb] below meth c H locs cells (sl + pt) Q (F0 m 867 ls []) := by
  obtain ⟨hx, hb, hr, hml, hown, hts, hT, hX0, hbl, hlocks, hbA, hA, hA2, hK, hN, hSX, hXC⟩ := id G
  refine lv_aload_n hx hb dL_law_867 rfl (lv_at hl 2 rfl) ?_
  refine lv_aload_n hx hb dL_law_868 rfl (lv_at hl 3 rfl) ?_
  refine lv_iload_n hx hb dL_law_869 rfl (lv_at hl 0 rfl) ?_
  refine lv_iconst (v := 1) hx hb dL_law_870 (by decide) ?_
  refine lv_iadd hx hb dL_law_871 ?_
  refine va_sld hx hb hX0 hbl hbA hS (hin 1 ⟨by decide, by decide⟩) dL_law_872 ?_
  refine xc_moves G hl hI hP hD hS hce hsl (hLk.stn hM.si) (xs (Int32.toNatClampNeg (i + 1))) (fun r H locs w F r3 wh wz im xi2 wf32 pt2 hpo hI hP hD hS => ?_)
  have hpl := hI.pt_le
  have hq9 := pm_mv w F r3 im wh wz v
  have hP := vPp hq9 hP
  have hD := vDp hq9 hD
  refine lv_aload_n hx hb dL_law_876 rfl (lv_at hl 1 rfl) ?_
  refine lv_aload_n hx hb dL_law_877 rfl (lv_at hl 3 rfl) ?_
  refine lv_iload_n hx hb dL_law_878 rfl (lv_at hl 0 rfl) ?_
  refine lv_iconst (v := 1) hx hb dL_law_879 (by decide) ?_
  refine lv_iadd hx hb dL_law_880 ?_
  refine va_sld hx hb hX0 hbl hbA hS (hin 1 ⟨by decide, by decide⟩) dL_law_881 ?_
  refine mc_moves G hl hM hP hD hS (by omega) (by omega) r (xs (Int32.toNatClampNeg (i + 1))) (fun r2 H locs v gsd2 gim2 gmd2 hpm hM hP hD hS => ?_)
  refine lv_icmp_eq (tgt := 1025) hx hb dL_law_885 (by decide) (fun _ => ?_) (fun h9 => absurd (MVR.one hpo.1 (by rw [f10_eq hLk.1]; exact hpm.1)) h9)
  have hq8 := (pm_mv w F r3 im wh wz v).symm
  have hP := vPp hq8 hP
  have hD := vDp hq8 hD
  obtain ⟨_, e1, e2⟩ := hpo
  obtain ⟨_, e3, e4, e5⟩ := hpm
  rw [e1, e2] at hI
  rw [e4, e5] at hM
  have hLk := hLk.sea e3
  exact kk H locs w F r3 wh wz v im xi wf3 gsd2 gim gmd pt2 hI hM hLk hP hD hS
theorem dL_law_890 : decode cL_law 890 = .ok (.aload_n 1, 1) := by decide +kernel
theorem dL_law_891 : decode cL_law 891 = .ok (.aload_n 0, 1) := by decide +kernel
theorem dL_law_892 : decode cL_law 892 = .ok (.iload_n 3, 1) := by decide +kernel
theorem dL_law_893 : decode cL_law 893 = .ok (.iconst 1, 1) := by decide +kernel
theorem dL_law_894 : decode cL_law 894 = .ok (.iadd, 1) := by decide +kernel
theorem dL_law_895 : decode cL_law 895 = .ok (.iaload, 1) := by decide +kernel
theorem dL_law_899 : decode cL_law 899 = .ok (.pop, 1) := by decide +kernel
theorem dL_law_900 : decode cL_law 900 = .ok (.aload_n 2, 1) := by decide +kernel
theorem dL_law_901 : decode cL_law 901 = .ok (.aload_n 0, 1) := by decide +kernel
theorem dL_law_902 : decode cL_law 902 = .ok (.iload_n 3, 1) := by decide +kernel
theorem dL_law_903 : decode cL_law 903 = .ok (.iconst 1, 1) := by decide +kernel
theorem dL_law_904 : decode cL_law 904 = .ok (.iadd, 1) := by decide +kernel
theorem dL_law_905 : decode cL_law 905 = .ok (.iaload, 1) := by decide +kernel
theorem dL_law_909 : decode cL_law 909 = .ok (.pop, 1) := by decide +kernel
theorem dL_law_910 : decode cL_law 910 = .ok (.goto 115, 3) := by decide +kernel
set_option maxHeartbeats 4000000 in
set_option maxRecDepth 100000 in
theorem cs_seed {p : Program} {l : Launch} {e : Env} {s : State} {m : MethodId} {below : List Frame} {meth : Method} {c : Code} {sb LL : Nat} {xs : Nat → Int32} {D : va_G} {cs : Nat → ClassId} {A : Nat → Prop} {sa sv : Nat → Nat} (G : LX p l s m meth c sb LL xs D cs A sa sv) {H : Heap} {locs : List Loc} {cells sl : Nat} {Q : State → Prop} {ls : Array Slot} {ox m0 : Nat} {i : Int32} (hl : lv_has ls 4 [(3, .int i), (2, .ref m0), (1, .ref ox), (0, .ref sb)]) (hin : ∀ k : Int32, Rg 0 5 k → vp_in (i + k) LL) {w F r3 wh wz v : va_W} {im : Nat → va_W} {xi : Nat → Option (Nat → Int32)} {wf3 gsd gim gmd : Nat → Int32} {pt : Nat} (hI : XI cs ox w F r3 wh wz im xi wf3 pt) (hM : MI cs m0 v gsd gim gmd) (hLk : LNK wf3 gsd xi gim gmd) (hP : va_P D vwCl (w ++ TL F r3 im wh wz v) H) (hD : va_D A (w ++ TL F r3 im wh wz v)) (hS : va_S A s.heap H locs) (hce : cells + 20 ≤ 600000) (hsl : sl + 3900900 ≤ 7302249) (kk : ∀ (H : Heap) (locs : List Loc) (w F r3 wh wz v : va_W) (im : Nat → va_W) (xi : Nat → Option (Nat → Int32)) (wf3 gsd gim gmd : Nat → Int32) (pt : Nat), XI cs ox w F r3 wh wz im xi wf3 pt → MI cs m0 v gsd gim gmd → LNK wf3 gsd xi gim gmd → va_P D vwCl (w ++ TL F r3 im wh wz v) H → va_D A (w ++ TL F r3 im wh wz v) → va_S A s.heap H locs → W p l e room_1 s m #[Value.ref sb] below meth c H locs (cells + 20) (sl + 900 + pt) Q (F0 m 1025 ls [])) : W p l e room_1 s m #[Value.ref sb] below meth c H locs cells (sl + pt) Q (F0 m 890 ls []) := by
  obtain ⟨hx, hb, hr, hml, hown, hts, hT, hX0, hbl, hlocks, hbA, hA, hA2, hK, hN, hSX, hXC⟩ := id G
  refine lv_aload_n hx hb dL_law_890 rfl (lv_at hl 2 rfl) ?_
  refine lv_aload_n hx hb dL_law_891 rfl (lv_at hl 3 rfl) ?_
  refine lv_iload_n hx hb dL_law_892 rfl (lv_at hl 0 rfl) ?_
  refine lv_iconst (v := 1) hx hb dL_law_893 (by decide) ?_
  refine lv_iadd hx hb dL_law_894 ?_
  refine va_sld hx hb hX0 hbl hbA hS (hin 1 ⟨by decide, by decide⟩) dL_law_895 ?_
  refine xc_seed G hl hI hP hD hS hce hsl (xs (Int32.toNatClampNeg (i + 1))) (fun r H locs w F r3 wh wz im xi2 wf32 pt2 hpo hI hP hD hS => ?_)
  refine lv_pop hx hb dL_law_899 rfl ?_
  have hpl := hI.pt_le
  have hq9 := pm_mv w F r3 im wh wz v
  have hP := vPp hq9 hP
  have hD := vDp hq9 hD
  refine lv_aload_n hx hb dL_law_900 rfl (lv_at hl 1 rfl) ?_
  refine lv_aload_n hx hb dL_law_901 rfl (lv_at hl 3 rfl) ?_
  refine lv_iload_n hx hb dL_law_902 rfl (lv_at hl 0 rfl) ?_
  refine lv_iconst (v := 1) hx hb dL_law_903 (by decide) ?_
  refine lv_iadd hx hb dL_law_904 ?_
  refine va_sld hx hb hX0 hbl hbA hS (hin 1 ⟨by decide, by decide⟩) dL_law_905 ?_
  refine mc_seed G hl hM hP hD hS (by omega) (by omega) (xs (Int32.toNatClampNeg (i + 1))) (fun r2 H locs v gsd2 gim2 gmd2 hpm hM hP hD hS => ?_)
  refine lv_pop hx hb dL_law_909 rfl ?_
  refine lv_goto (tgt := 1025) hx hb dL_law_910 (by decide) ?_
  have hq8 := (pm_mv w F r3 im wh wz v).symm
  have hP := vPp hq8 hP
  have hD := vDp hq8 hD
  obtain ⟨e1, e2⟩ := hpo
  obtain ⟨e3, e4, e5⟩ := hpm
  rw [e1, e2] at hI
  rw [e4, e5] at hM
  have hLk := hLk.sea e3
  exact kk H locs w F r3 wh wz v im xi wf3 gsd2 gim gmd pt2 hI hM hLk hP hD hS
theorem dL_law_913 : decode cL_law 913 = .ok (.aload_n 1, 1) := by decide +kernel
theorem dL_law_914 : decode cL_law 914 = .ok (.aload_n 0, 1) := by decide +kernel
theorem dL_law_915 : decode cL_law 915 = .ok (.iload_n 3, 1) := by decide +kernel
theorem dL_law_916 : decode cL_law 916 = .ok (.iconst 1, 1) := by decide +kernel
theorem dL_law_917 : decode cL_law 917 = .ok (.iadd, 1) := by decide +kernel
theorem dL_law_918 : decode cL_law 918 = .ok (.iaload, 1) := by decide +kernel
theorem dL_law_919 : decode cL_law 919 = .ok (.aload_n 0, 1) := by decide +kernel
theorem dL_law_920 : decode cL_law 920 = .ok (.iload_n 3, 1) := by decide +kernel
theorem dL_law_921 : decode cL_law 921 = .ok (.iconst 2, 1) := by decide +kernel
theorem dL_law_922 : decode cL_law 922 = .ok (.iadd, 1) := by decide +kernel
theorem dL_law_923 : decode cL_law 923 = .ok (.iaload, 1) := by decide +kernel
theorem dL_law_924 : decode cL_law 924 = .ok (.aload_n 0, 1) := by decide +kernel
theorem dL_law_925 : decode cL_law 925 = .ok (.iload_n 3, 1) := by decide +kernel
theorem dL_law_926 : decode cL_law 926 = .ok (.iconst 3, 1) := by decide +kernel
theorem dL_law_927 : decode cL_law 927 = .ok (.iadd, 1) := by decide +kernel
theorem dL_law_928 : decode cL_law 928 = .ok (.iaload, 1) := by decide +kernel
theorem dL_law_932 : decode cL_law 932 = .ok (.pop, 1) := by decide +kernel
theorem dL_law_933 : decode cL_law 933 = .ok (.aload_n 2, 1) := by decide +kernel
theorem dL_law_934 : decode cL_law 934 = .ok (.aload_n 0, 1) := by decide +kernel
theorem dL_law_935 : decode cL_law 935 = .ok (.iload_n 3, 1) := by decide +kernel
theorem dL_law_936 : decode cL_law 936 = .ok (.iconst 1, 1) := by decide +kernel
theorem dL_law_937 : decode cL_law 937 = .ok (.iadd, 1) := by decide +kernel
theorem dL_law_938 : decode cL_law 938 = .ok (.iaload, 1) := by decide +kernel
theorem dL_law_939 : decode cL_law 939 = .ok (.aload_n 0, 1) := by decide +kernel
theorem dL_law_940 : decode cL_law 940 = .ok (.iload_n 3, 1) := by decide +kernel
theorem dL_law_941 : decode cL_law 941 = .ok (.iconst 2, 1) := by decide +kernel
theorem dL_law_942 : decode cL_law 942 = .ok (.iadd, 1) := by decide +kernel
theorem dL_law_943 : decode cL_law 943 = .ok (.iaload, 1) := by decide +kernel
theorem dL_law_944 : decode cL_law 944 = .ok (.aload_n 0, 1) := by decide +kernel
theorem dL_law_945 : decode cL_law 945 = .ok (.iload_n 3, 1) := by decide +kernel
theorem dL_law_946 : decode cL_law 946 = .ok (.iconst 3, 1) := by decide +kernel
theorem dL_law_947 : decode cL_law 947 = .ok (.iadd, 1) := by decide +kernel
theorem dL_law_948 : decode cL_law 948 = .ok (.iaload, 1) := by decide +kernel
theorem dL_law_952 : decode cL_law 952 = .ok (.pop, 1) := by decide +kernel
theorem dL_law_953 : decode cL_law 953 = .ok (.goto 72, 3) := by decide +kernel
set_option maxHeartbeats 4000000 in
set_option maxRecDepth 100000 in
theorem cs_dressed {p : Program} {l : Launch} {e : Env} {s : State} {m : MethodId} {below : List Frame} {meth : Method} {c : Code} {sb LL : Nat} {xs : Nat → Int32} {D : va_G} {cs : Nat → ClassId} {A : Nat → Prop} {sa sv : Nat → Nat} (G : LX p l s m meth c sb LL xs D cs A sa sv) {H : Heap} {locs : List Loc} {cells sl : Nat} {Q : State → Prop} {ls : Array Slot} {ox m0 : Nat} {i : Int32} (hl : lv_has ls 4 [(3, .int i), (2, .ref m0), (1, .ref ox), (0, .ref sb)]) (hin : ∀ k : Int32, Rg 0 5 k → vp_in (i + k) LL) {w F r3 wh wz v : va_W} {im : Nat → va_W} {xi : Nat → Option (Nat → Int32)} {wf3 gsd gim gmd : Nat → Int32} {pt : Nat} (hI : XI cs ox w F r3 wh wz im xi wf3 pt) (hM : MI cs m0 v gsd gim gmd) (hLk : LNK wf3 gsd xi gim gmd) (hP : va_P D vwCl (w ++ TL F r3 im wh wz v) H) (hD : va_D A (w ++ TL F r3 im wh wz v)) (hS : va_S A s.heap H locs) (hce : cells + 20 ≤ 600000) (hsl : sl + 3900900 ≤ 7302249) (kk : ∀ (H : Heap) (locs : List Loc) (w F r3 wh wz v : va_W) (im : Nat → va_W) (xi : Nat → Option (Nat → Int32)) (wf3 gsd gim gmd : Nat → Int32) (pt : Nat), XI cs ox w F r3 wh wz im xi wf3 pt → MI cs m0 v gsd gim gmd → LNK wf3 gsd xi gim gmd → va_P D vwCl (w ++ TL F r3 im wh wz v) H → va_D A (w ++ TL F r3 im wh wz v) → va_S A s.heap H locs → W p l e room_1 s m #[Value.ref sb] below meth c H locs (cells + 20) (sl + 900 + pt) Q (F0 m 1025 ls [])) : W p l e room_1 s m #[Value.ref sb] below meth c H locs cells (sl + pt) Q (F0 m 913 ls []) := by
  obtain ⟨hx, hb, hr, hml, hown, hts, hT, hX0, hbl, hlocks, hbA, hA, hA2, hK, hN, hSX, hXC⟩ := id G
  refine lv_aload_n hx hb dL_law_913 rfl (lv_at hl 2 rfl) ?_
  refine lv_aload_n hx hb dL_law_914 rfl (lv_at hl 3 rfl) ?_
  refine lv_iload_n hx hb dL_law_915 rfl (lv_at hl 0 rfl) ?_
  refine lv_iconst (v := 1) hx hb dL_law_916 (by decide) ?_
  refine lv_iadd hx hb dL_law_917 ?_
  refine va_sld hx hb hX0 hbl hbA hS (hin 1 ⟨by decide, by decide⟩) dL_law_918 ?_
  refine lv_aload_n hx hb dL_law_919 rfl (lv_at hl 3 rfl) ?_
  refine lv_iload_n hx hb dL_law_920 rfl (lv_at hl 0 rfl) ?_
  refine lv_iconst (v := 2) hx hb dL_law_921 (by decide) ?_
  refine lv_iadd hx hb dL_law_922 ?_
  refine va_sld hx hb hX0 hbl hbA hS (hin 2 ⟨by decide, by decide⟩) dL_law_923 ?_
  refine lv_aload_n hx hb dL_law_924 rfl (lv_at hl 3 rfl) ?_
  refine lv_iload_n hx hb dL_law_925 rfl (lv_at hl 0 rfl) ?_
  refine lv_iconst (v := 3) hx hb dL_law_926 (by decide) ?_
  refine lv_iadd hx hb dL_law_927 ?_
  refine va_sld hx hb hX0 hbl hbA hS (hin 3 ⟨by decide, by decide⟩) dL_law_928 ?_
  refine xc_dressed G hl hI hP hD hS hce hsl (xs (Int32.toNatClampNeg (i + 1))) (xs (Int32.toNatClampNeg (i + 2))) (xs (Int32.toNatClampNeg (i + 3))) (fun r H locs w F r3 wh wz im xi2 wf32 pt2 hpo hI hP hD hS => ?_)
  refine lv_pop hx hb dL_law_932 rfl ?_
  have hpl := hI.pt_le
  have hq9 := pm_mv w F r3 im wh wz v
  have hP := vPp hq9 hP
  have hD := vDp hq9 hD
  refine lv_aload_n hx hb dL_law_933 rfl (lv_at hl 1 rfl) ?_
  refine lv_aload_n hx hb dL_law_934 rfl (lv_at hl 3 rfl) ?_
  refine lv_iload_n hx hb dL_law_935 rfl (lv_at hl 0 rfl) ?_
  refine lv_iconst (v := 1) hx hb dL_law_936 (by decide) ?_
  refine lv_iadd hx hb dL_law_937 ?_
  refine va_sld hx hb hX0 hbl hbA hS (hin 1 ⟨by decide, by decide⟩) dL_law_938 ?_
  refine lv_aload_n hx hb dL_law_939 rfl (lv_at hl 3 rfl) ?_
  refine lv_iload_n hx hb dL_law_940 rfl (lv_at hl 0 rfl) ?_
  refine lv_iconst (v := 2) hx hb dL_law_941 (by decide) ?_
  refine lv_iadd hx hb dL_law_942 ?_
  refine va_sld hx hb hX0 hbl hbA hS (hin 2 ⟨by decide, by decide⟩) dL_law_943 ?_
  refine lv_aload_n hx hb dL_law_944 rfl (lv_at hl 3 rfl) ?_
  refine lv_iload_n hx hb dL_law_945 rfl (lv_at hl 0 rfl) ?_
  refine lv_iconst (v := 3) hx hb dL_law_946 (by decide) ?_
  refine lv_iadd hx hb dL_law_947 ?_
  refine va_sld hx hb hX0 hbl hbA hS (hin 3 ⟨by decide, by decide⟩) dL_law_948 ?_
  refine mc_dressed G hl hM hP hD hS (by omega) (by omega) (xs (Int32.toNatClampNeg (i + 1))) (xs (Int32.toNatClampNeg (i + 2))) (xs (Int32.toNatClampNeg (i + 3))) (fun r2 H locs v gsd2 gim2 gmd2 hpm hM hP hD hS => ?_)
  refine lv_pop hx hb dL_law_952 rfl ?_
  refine lv_goto (tgt := 1025) hx hb dL_law_953 (by decide) ?_
  have hq8 := (pm_mv w F r3 im wh wz v).symm
  have hP := vPp hq8 hP
  have hD := vDp hq8 hD
  obtain ⟨e1, e2⟩ := hpo
  obtain ⟨e3, e4, e5⟩ := hpm
  rw [e1, e2] at hI
  rw [e4, e5] at hM
  have hLk := hLk.sea e3
  exact kk H locs w F r3 wh wz v im xi wf3 gsd2 gim gmd pt2 hI hM hLk hP hD hS
theorem dL_law_956 : decode cL_law 956 = .ok (.aload_n 1, 1) := by decide +kernel
theorem dL_law_957 : decode cL_law 957 = .ok (.aload_n 0, 1) := by decide +kernel
theorem dL_law_958 : decode cL_law 958 = .ok (.iload_n 3, 1) := by decide +kernel
theorem dL_law_959 : decode cL_law 959 = .ok (.iconst 1, 1) := by decide +kernel
theorem dL_law_960 : decode cL_law 960 = .ok (.iadd, 1) := by decide +kernel
theorem dL_law_961 : decode cL_law 961 = .ok (.iaload, 1) := by decide +kernel
theorem dL_law_965 : decode cL_law 965 = .ok (.pop, 1) := by decide +kernel
theorem dL_law_966 : decode cL_law 966 = .ok (.aload_n 2, 1) := by decide +kernel
theorem dL_law_967 : decode cL_law 967 = .ok (.aload_n 0, 1) := by decide +kernel
theorem dL_law_968 : decode cL_law 968 = .ok (.iload_n 3, 1) := by decide +kernel
theorem dL_law_969 : decode cL_law 969 = .ok (.iconst 1, 1) := by decide +kernel
theorem dL_law_970 : decode cL_law 970 = .ok (.iadd, 1) := by decide +kernel
theorem dL_law_971 : decode cL_law 971 = .ok (.iaload, 1) := by decide +kernel
theorem dL_law_975 : decode cL_law 975 = .ok (.pop, 1) := by decide +kernel
theorem dL_law_976 : decode cL_law 976 = .ok (.goto 49, 3) := by decide +kernel
set_option maxHeartbeats 4000000 in
set_option maxRecDepth 100000 in
theorem cs_count {p : Program} {l : Launch} {e : Env} {s : State} {m : MethodId} {below : List Frame} {meth : Method} {c : Code} {sb LL : Nat} {xs : Nat → Int32} {D : va_G} {cs : Nat → ClassId} {A : Nat → Prop} {sa sv : Nat → Nat} (G : LX p l s m meth c sb LL xs D cs A sa sv) {H : Heap} {locs : List Loc} {cells sl : Nat} {Q : State → Prop} {ls : Array Slot} {ox m0 : Nat} {i : Int32} (hl : lv_has ls 4 [(3, .int i), (2, .ref m0), (1, .ref ox), (0, .ref sb)]) (hin : ∀ k : Int32, Rg 0 5 k → vp_in (i + k) LL) {w F r3 wh wz v : va_W} {im : Nat → va_W} {xi : Nat → Option (Nat → Int32)} {wf3 gsd gim gmd : Nat → Int32} {pt : Nat} (hI : XI cs ox w F r3 wh wz im xi wf3 pt) (hM : MI cs m0 v gsd gim gmd) (hLk : LNK wf3 gsd xi gim gmd) (hP : va_P D vwCl (w ++ TL F r3 im wh wz v) H) (hD : va_D A (w ++ TL F r3 im wh wz v)) (hS : va_S A s.heap H locs) (hce : cells + 20 ≤ 600000) (hsl : sl + 3900900 ≤ 7302249) (kk : ∀ (H : Heap) (locs : List Loc) (w F r3 wh wz v : va_W) (im : Nat → va_W) (xi : Nat → Option (Nat → Int32)) (wf3 gsd gim gmd : Nat → Int32) (pt : Nat), XI cs ox w F r3 wh wz im xi wf3 pt → MI cs m0 v gsd gim gmd → LNK wf3 gsd xi gim gmd → va_P D vwCl (w ++ TL F r3 im wh wz v) H → va_D A (w ++ TL F r3 im wh wz v) → va_S A s.heap H locs → W p l e room_1 s m #[Value.ref sb] below meth c H locs (cells + 20) (sl + 900 + pt) Q (F0 m 1025 ls [])) : W p l e room_1 s m #[Value.ref sb] below meth c H locs cells (sl + pt) Q (F0 m 956 ls []) := by
  obtain ⟨hx, hb, hr, hml, hown, hts, hT, hX0, hbl, hlocks, hbA, hA, hA2, hK, hN, hSX, hXC⟩ := id G
  refine lv_aload_n hx hb dL_law_956 rfl (lv_at hl 2 rfl) ?_
  refine lv_aload_n hx hb dL_law_957 rfl (lv_at hl 3 rfl) ?_
  refine lv_iload_n hx hb dL_law_958 rfl (lv_at hl 0 rfl) ?_
  refine lv_iconst (v := 1) hx hb dL_law_959 (by decide) ?_
  refine lv_iadd hx hb dL_law_960 ?_
  refine va_sld hx hb hX0 hbl hbA hS (hin 1 ⟨by decide, by decide⟩) dL_law_961 ?_
  refine xc_count G hl hI hP hD hS hce hsl (xs (Int32.toNatClampNeg (i + 1))) (fun r H locs w F r3 wh wz im xi2 wf32 pt2 hpo hI hP hD hS => ?_)
  refine lv_pop hx hb dL_law_965 rfl ?_
  have hpl := hI.pt_le
  have hq9 := pm_mv w F r3 im wh wz v
  have hP := vPp hq9 hP
  have hD := vDp hq9 hD
  refine lv_aload_n hx hb dL_law_966 rfl (lv_at hl 1 rfl) ?_
  refine lv_aload_n hx hb dL_law_967 rfl (lv_at hl 3 rfl) ?_
  refine lv_iload_n hx hb dL_law_968 rfl (lv_at hl 0 rfl) ?_
  refine lv_iconst (v := 1) hx hb dL_law_969 (by decide) ?_
  refine lv_iadd hx hb dL_law_970 ?_
  refine va_sld hx hb hX0 hbl hbA hS (hin 1 ⟨by decide, by decide⟩) dL_law_971 ?_
  refine mc_count G hl hM hP hD hS (by omega) (by omega) (xs (Int32.toNatClampNeg (i + 1))) (fun r2 H locs v gsd2 gim2 gmd2 hpm hM hP hD hS => ?_)
  refine lv_pop hx hb dL_law_975 rfl ?_
  refine lv_goto (tgt := 1025) hx hb dL_law_976 (by decide) ?_
  have hq8 := (pm_mv w F r3 im wh wz v).symm
  have hP := vPp hq8 hP
  have hD := vDp hq8 hD
  obtain ⟨e1, e2⟩ := hpo
  obtain ⟨e3, e4, e5⟩ := hpm
  rw [e1, e2] at hI
  rw [e4, e5] at hM
  have hLk := hLk.sea e3
  exact kk H locs w F r3 wh wz v im xi wf3 gsd2 gim gmd pt2 hI hM hLk hP hD hS
theorem dL_law_979 : decode cL_law 979 = .ok (.aload_n 1, 1) := by decide +kernel
theorem dL_law_980 : decode cL_law 980 = .ok (.aload_n 0, 1) := by decide +kernel
theorem dL_law_981 : decode cL_law 981 = .ok (.iload_n 3, 1) := by decide +kernel
theorem dL_law_982 : decode cL_law 982 = .ok (.iconst 1, 1) := by decide +kernel
theorem dL_law_983 : decode cL_law 983 = .ok (.iadd, 1) := by decide +kernel
theorem dL_law_984 : decode cL_law 984 = .ok (.iaload, 1) := by decide +kernel
theorem dL_law_988 : decode cL_law 988 = .ok (.pop, 1) := by decide +kernel
theorem dL_law_989 : decode cL_law 989 = .ok (.aload_n 2, 1) := by decide +kernel
theorem dL_law_990 : decode cL_law 990 = .ok (.aload_n 0, 1) := by decide +kernel
theorem dL_law_991 : decode cL_law 991 = .ok (.iload_n 3, 1) := by decide +kernel
theorem dL_law_992 : decode cL_law 992 = .ok (.iconst 1, 1) := by decide +kernel
theorem dL_law_993 : decode cL_law 993 = .ok (.iadd, 1) := by decide +kernel
theorem dL_law_994 : decode cL_law 994 = .ok (.iaload, 1) := by decide +kernel
theorem dL_law_998 : decode cL_law 998 = .ok (.pop, 1) := by decide +kernel
theorem dL_law_999 : decode cL_law 999 = .ok (.goto 26, 3) := by decide +kernel
set_option maxHeartbeats 4000000 in
set_option maxRecDepth 100000 in
theorem cs_image {p : Program} {l : Launch} {e : Env} {s : State} {m : MethodId} {below : List Frame} {meth : Method} {c : Code} {sb LL : Nat} {xs : Nat → Int32} {D : va_G} {cs : Nat → ClassId} {A : Nat → Prop} {sa sv : Nat → Nat} (G : LX p l s m meth c sb LL xs D cs A sa sv) {H : Heap} {locs : List Loc} {cells sl : Nat} {Q : State → Prop} {ls : Array Slot} {ox m0 : Nat} {i : Int32} (hl : lv_has ls 4 [(3, .int i), (2, .ref m0), (1, .ref ox), (0, .ref sb)]) (hin : ∀ k : Int32, Rg 0 5 k → vp_in (i + k) LL) {w F r3 wh wz v : va_W} {im : Nat → va_W} {xi : Nat → Option (Nat → Int32)} {wf3 gsd gim gmd : Nat → Int32} {pt : Nat} (hI : XI cs ox w F r3 wh wz im xi wf3 pt) (hM : MI cs m0 v gsd gim gmd) (hLk : LNK wf3 gsd xi gim gmd) (hP : va_P D vwCl (w ++ TL F r3 im wh wz v) H) (hD : va_D A (w ++ TL F r3 im wh wz v)) (hS : va_S A s.heap H locs) (hce : cells + 20 ≤ 600000) (hsl : sl + 3900900 ≤ 7302249) (kk : ∀ (H : Heap) (locs : List Loc) (w F r3 wh wz v : va_W) (im : Nat → va_W) (xi : Nat → Option (Nat → Int32)) (wf3 gsd gim gmd : Nat → Int32) (pt : Nat), XI cs ox w F r3 wh wz im xi wf3 pt → MI cs m0 v gsd gim gmd → LNK wf3 gsd xi gim gmd → va_P D vwCl (w ++ TL F r3 im wh wz v) H → va_D A (w ++ TL F r3 im wh wz v) → va_S A s.heap H locs → W p l e room_1 s m #[Value.ref sb] below meth c H locs (cells + 20) (sl + 900 + pt) Q (F0 m 1025 ls [])) : W p l e room_1 s m #[Value.ref sb] below meth c H locs cells (sl + pt) Q (F0 m 979 ls []) := by
  obtain ⟨hx, hb, hr, hml, hown, hts, hT, hX0, hbl, hlocks, hbA, hA, hA2, hK, hN, hSX, hXC⟩ := id G
  refine lv_aload_n hx hb dL_law_979 rfl (lv_at hl 2 rfl) ?_
  refine lv_aload_n hx hb dL_law_980 rfl (lv_at hl 3 rfl) ?_
  refine lv_iload_n hx hb dL_law_981 rfl (lv_at hl 0 rfl) ?_
  refine lv_iconst (v := 1) hx hb dL_law_982 (by decide) ?_
  refine lv_iadd hx hb dL_law_983 ?_
  refine va_sld hx hb hX0 hbl hbA hS (hin 1 ⟨by decide, by decide⟩) dL_law_984 ?_
  refine xc_image G hl hI hP hD hS hce hsl (xs (Int32.toNatClampNeg (i + 1))) (fun r H locs w F r3 wh wz im xi2 wf32 pt2 hpo hI hP hD hS => ?_)
  refine lv_pop hx hb dL_law_988 rfl ?_
  have hpl := hI.pt_le
  have hq9 := pm_mv w F r3 im wh wz v
  have hP := vPp hq9 hP
  have hD := vDp hq9 hD
  refine lv_aload_n hx hb dL_law_989 rfl (lv_at hl 1 rfl) ?_
  refine lv_aload_n hx hb dL_law_990 rfl (lv_at hl 3 rfl) ?_
  refine lv_iload_n hx hb dL_law_991 rfl (lv_at hl 0 rfl) ?_
  refine lv_iconst (v := 1) hx hb dL_law_992 (by decide) ?_
  refine lv_iadd hx hb dL_law_993 ?_
  refine va_sld hx hb hX0 hbl hbA hS (hin 1 ⟨by decide, by decide⟩) dL_law_994 ?_
  refine mc_image G hl hM hP hD hS (by omega) (by omega) (xs (Int32.toNatClampNeg (i + 1))) (fun r2 H locs v gsd2 gim2 gmd2 hpm hM hP hD hS => ?_)
  refine lv_pop hx hb dL_law_998 rfl ?_
  refine lv_goto (tgt := 1025) hx hb dL_law_999 (by decide) ?_
  have hq8 := (pm_mv w F r3 im wh wz v).symm
  have hP := vPp hq8 hP
  have hD := vDp hq8 hD
  obtain ⟨e1, e2, e3⟩ := hpo
  obtain ⟨e4, e5, e6⟩ := hpm
  have hLk := hLk.image ⟨e1, e2⟩ ⟨e4, e5⟩
  rw [e6] at hM
  rw [e3] at hI
  exact kk H locs w F r3 wh wz v im xi2 wf3 gsd gim2 gmd2 pt2 hI hM hLk hP hD hS
theorem dL_law_1002 : decode cL_law 1002 = .ok (.aload_n 1, 1) := by decide +kernel
theorem dL_law_1003 : decode cL_law 1003 = .ok (.aload_n 0, 1) := by decide +kernel
theorem dL_law_1004 : decode cL_law 1004 = .ok (.iload_n 3, 1) := by decide +kernel
theorem dL_law_1005 : decode cL_law 1005 = .ok (.iconst 1, 1) := by decide +kernel
theorem dL_law_1006 : decode cL_law 1006 = .ok (.iadd, 1) := by decide +kernel
theorem dL_law_1007 : decode cL_law 1007 = .ok (.iaload, 1) := by decide +kernel
theorem dL_law_1011 : decode cL_law 1011 = .ok (.pop, 1) := by decide +kernel
theorem dL_law_1012 : decode cL_law 1012 = .ok (.aload_n 2, 1) := by decide +kernel
theorem dL_law_1013 : decode cL_law 1013 = .ok (.aload_n 0, 1) := by decide +kernel
theorem dL_law_1014 : decode cL_law 1014 = .ok (.iload_n 3, 1) := by decide +kernel
theorem dL_law_1015 : decode cL_law 1015 = .ok (.iconst 1, 1) := by decide +kernel
theorem dL_law_1016 : decode cL_law 1016 = .ok (.iadd, 1) := by decide +kernel
theorem dL_law_1017 : decode cL_law 1017 = .ok (.iaload, 1) := by decide +kernel
theorem dL_law_1021 : decode cL_law 1021 = .ok (.pop, 1) := by decide +kernel
theorem dL_law_1022 : decode cL_law 1022 = .ok (.goto 3, 3) := by decide +kernel
set_option maxHeartbeats 4000000 in
set_option maxRecDepth 100000 in
theorem cs_back {p : Program} {l : Launch} {e : Env} {s : State} {m : MethodId} {below : List Frame} {meth : Method} {c : Code} {sb LL : Nat} {xs : Nat → Int32} {D : va_G} {cs : Nat → ClassId} {A : Nat → Prop} {sa sv : Nat → Nat} (G : LX p l s m meth c sb LL xs D cs A sa sv) {H : Heap} {locs : List Loc} {cells sl : Nat} {Q : State → Prop} {ls : Array Slot} {ox m0 : Nat} {i : Int32} (hl : lv_has ls 4 [(3, .int i), (2, .ref m0), (1, .ref ox), (0, .ref sb)]) (hin : ∀ k : Int32, Rg 0 5 k → vp_in (i + k) LL) {w F r3 wh wz v : va_W} {im : Nat → va_W} {xi : Nat → Option (Nat → Int32)} {wf3 gsd gim gmd : Nat → Int32} {pt : Nat} (hI : XI cs ox w F r3 wh wz im xi wf3 pt) (hM : MI cs m0 v gsd gim gmd) (hLk : LNK wf3 gsd xi gim gmd) (hP : va_P D vwCl (w ++ TL F r3 im wh wz v) H) (hD : va_D A (w ++ TL F r3 im wh wz v)) (hS : va_S A s.heap H locs) (hce : cells + 20 ≤ 600000) (hsl : sl + 3900900 ≤ 7302249) (kk : ∀ (H : Heap) (locs : List Loc) (w F r3 wh wz v : va_W) (im : Nat → va_W) (xi : Nat → Option (Nat → Int32)) (wf3 gsd gim gmd : Nat → Int32) (pt : Nat), XI cs ox w F r3 wh wz im xi wf3 pt → MI cs m0 v gsd gim gmd → LNK wf3 gsd xi gim gmd → va_P D vwCl (w ++ TL F r3 im wh wz v) H → va_D A (w ++ TL F r3 im wh wz v) → va_S A s.heap H locs → W p l e room_1 s m #[Value.ref sb] below meth c H locs (cells + 20) (sl + 900 + pt) Q (F0 m 1025 ls [])) : W p l e room_1 s m #[Value.ref sb] below meth c H locs cells (sl + pt) Q (F0 m 1002 ls []) := by
  obtain ⟨hx, hb, hr, hml, hown, hts, hT, hX0, hbl, hlocks, hbA, hA, hA2, hK, hN, hSX, hXC⟩ := id G
  refine lv_aload_n hx hb dL_law_1002 rfl (lv_at hl 2 rfl) ?_
  refine lv_aload_n hx hb dL_law_1003 rfl (lv_at hl 3 rfl) ?_
  refine lv_iload_n hx hb dL_law_1004 rfl (lv_at hl 0 rfl) ?_
  refine lv_iconst (v := 1) hx hb dL_law_1005 (by decide) ?_
  refine lv_iadd hx hb dL_law_1006 ?_
  refine va_sld hx hb hX0 hbl hbA hS (hin 1 ⟨by decide, by decide⟩) dL_law_1007 ?_
  refine xc_back G hl hI hP hD hS hce hsl (xs (Int32.toNatClampNeg (i + 1))) (fun r H locs w F r3 wh wz im xi2 wf32 pt2 hpo hI hP hD hS => ?_)
  refine lv_pop hx hb dL_law_1011 rfl ?_
  have hpl := hI.pt_le
  have hq9 := pm_mv w F r3 im wh wz v
  have hP := vPp hq9 hP
  have hD := vDp hq9 hD
  refine lv_aload_n hx hb dL_law_1012 rfl (lv_at hl 1 rfl) ?_
  refine lv_aload_n hx hb dL_law_1013 rfl (lv_at hl 3 rfl) ?_
  refine lv_iload_n hx hb dL_law_1014 rfl (lv_at hl 0 rfl) ?_
  refine lv_iconst (v := 1) hx hb dL_law_1015 (by decide) ?_
  refine lv_iadd hx hb dL_law_1016 ?_
  refine va_sld hx hb hX0 hbl hbA hS (hin 1 ⟨by decide, by decide⟩) dL_law_1017 ?_
  refine mc_back G hl hM hP hD hS (by omega) (by omega) (xs (Int32.toNatClampNeg (i + 1))) (fun r2 H locs v gsd2 gim2 gmd2 hpm hM hP hD hS => ?_)
  refine lv_pop hx hb dL_law_1021 rfl ?_
  refine lv_goto (tgt := 1025) hx hb dL_law_1022 (by decide) ?_
  have hq8 := (pm_mv w F r3 im wh wz v).symm
  have hP := vPp hq8 hP
  have hD := vDp hq8 hD
  obtain ⟨e1, e2⟩ := hpo
  obtain ⟨e3, e4, e5⟩ := hpm
  have hLk := hLk.back e2 e5
  rw [e3, e4] at hM
  rw [e1] at hI
  exact kk H locs w F r3 wh wz v im xi wf32 gsd2 gim gmd pt2 hI hM hLk hP hD hS
