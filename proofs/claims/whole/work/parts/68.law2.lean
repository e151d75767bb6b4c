theorem shiftF_R {g : Int → Int} (w : Wf g) {a b z : Int} (h : shiftF g a b = some z) : R32 z := by
  have n := Wf_n w
  unfold shiftF at h
  by_cases c : (0 ≤ a ∧ a < g 2) ∧ (0 ≤ b ∧ b ≤ 4)
  · rw [if_pos c] at h
    have e := Option.some.inj h
    have s := Wf_sh w c.1.1 c.1.2
    subst e
    by_cases c4 : b = 4 ∧ g (151 + 5 * a) = 0
    · rw [if_pos c4]; exact ⟨by decide, by decide⟩
    · rw [if_neg c4]
      rcases (show b = 0 ∨ b = 1 ∨ b = 2 ∨ b = 3 ∨ b = 4 by omega) with e | e | e | e | e <;> subst e
      · rw [show 148 + 5 * a + 0 = 148 + 5 * a by omega]; exact ⟨by omega, by omega⟩
      · rw [show 148 + 5 * a + 1 = 149 + 5 * a by omega]; exact ⟨by omega, by omega⟩
      · rw [show 148 + 5 * a + 2 = 150 + 5 * a by omega]; exact ⟨by omega, by omega⟩
      · rw [show 148 + 5 * a + 3 = 151 + 5 * a by omega]; exact ⟨by omega, by omega⟩
      · rw [show 148 + 5 * a + 4 = 152 + 5 * a by omega]; exact ⟨by omega, by omega⟩
  · rw [if_neg c] at h; cases h
theorem pauseF_R {g : Int → Int} (w : Wf g) {a b z : Int} (h : pauseF g a b = some z) : R32 z := by
  have n := Wf_n w
  unfold pauseF at h
  by_cases c : (0 ≤ a ∧ a < g 3) ∧ (0 ≤ b ∧ b ≤ 4)
  · rw [if_pos c] at h
    have e := Option.some.inj h
    have s := Wf_p w c.1.1 c.1.2
    subst e
    by_cases c4 : b = 4
    · rw [if_pos c4]; exact ⟨by omega, by omega⟩
    · rw [if_neg c4]
      rcases (show b = 0 ∨ b = 1 ∨ b = 2 ∨ b = 3 by omega) with e | e | e | e <;> subst e
      · rw [show 188 + 5 * a + 0 = 188 + 5 * a by omega]; exact ⟨by omega, by omega⟩
      · rw [show 188 + 5 * a + 1 = 189 + 5 * a by omega]; exact ⟨by omega, by omega⟩
      · rw [show 188 + 5 * a + 2 = 190 + 5 * a by omega]; exact ⟨by omega, by omega⟩
      · rw [show 188 + 5 * a + 3 = 191 + 5 * a by omega]; exact ⟨by omega, by omega⟩
  · rw [if_neg c] at h; cases h
abbrev TT6 (q : Nat → Nat) (C : Nat → ClassId) (x : CS) (g0 : Int → Int) (r : Int32) (v : CS) : Prop := v.bs = x.bs ∧ v.len = 0 ∧ v.rows = x.rows ∧ v.nr = x.nr ∧ ((∃ k w : Int, runT x.bs x.len (0, 0, x.po, x.fr, x.to, x.ln, x.ea, 0, 0, g0) 0 = .inl (k, w) ∧ r = iI (-1 - w) ∧ v.lf = k ∧ xPl q C v = xPl q C x ∧ v.sf = x.sf ∧ v.pla = x.pla ∧ v.cv = x.cv ∧ v.cn = x.cn) ∨ (∃ (li : Int) (g' : Int → Int), runT x.bs x.len (0, 0, x.po, x.fr, x.to, x.ln, x.ea, 0, 0, g0) 0 = .inr (li, g') ∧ r = iI li ∧ v.lf = 0 ∧ PlW q C (xPl q C v) g' ∧ Ro3 g' (v.sf, v.pla, v.cv) ∧ v.cn = 0 ∧ Wf g'))
set_option maxHeartbeats 4000000 in
set_option maxRecDepth 100000 in
theorem LCX_T {K V : Nat → Nat} {l : Launch} {D : va_G} {C : Nat → ClassId} {q : Nat → Nat} {ol : Nat} {fo : Nat → Int64} {x : CS} {y : MS} (I : INV q C x y) {g0 : Int → Int} (hg0 : ∀ j : Int, 0 ≤ j → j < 308 → g0 j = 0) : LCX K V l yX6_text wsX6_text 8 168 D C q ol fo 0 6 [] x y (fun r x' y' => y' = y ∧ TT6 q C x g0 r x') := by
  refine ⟨_, xRd q C x ++ xTp q C x ++ xDr q C x ++ xPl q C x ++ xRo q C x ++ xHi q C x ++ xBS q C x, yM q C y ++ (xWk q C x ++ wO ol C fo), _, _, 32, _, c_X6_text (K := K) (V := V) (g0 := g0) (bs := x.bs) (len := x.len) (rows := x.rows) (nr := x.nr) I.lr I.byt hg0, rfl, (pL_T (yM q C y) (xRd q C x) (xTp q C x) (xDr q C x) (xPl q C x) (xRo q C x) (xHi q C x) (xBS q C x) (xWk q C x) (wO ol C fo)), ?_⟩
  rintro r ⟨wlf, wfk, wtk, wts, wte, wst, wins, wpo, wfr, wto, wln, wea, wlen, wdp, wdw, wdl, wdn, wds, wdk, wa0, wa1, wa2, wa3, wa4, wa5, wa6, wa7, wa8, wa9, waA, wpp, wpw, wpl, wpn, wps, wpk, wp0, wp1, wp2, wp3, wp4, wp5, wp6, wp7, wp8, wp9, wpA, wsf, wpla, wcv, wcn⟩ ⟨hlen, h⟩
  refine ⟨(((wfk, wtk, wts, wte, wst, wins, wpo, wfr, wto, wln, wea), (wlen, x.bs), (wdp, wdw, wdl, wdn, wds, wdk, wa0, wa1, wa2, wa3, wa4, wa5, wa6, wa7, wa8, wa9, waA), (wpp, wpw, wpl, wpn, wps, wpk, wp0, wp1, wp2, wp3, wp4, wp5, wp6, wp7, wp8, wp9, wpA), (wsf, wpla, wcv), (x.rows, x.nr, wcn), wlf, x.2.2.2.2.2.2.2) : CS), y, (pL_T (yM q C y) (wRd q C wfk wtk wts wte wst wins wpo wfr wto wln wea) (wTp q C wlen x.bs) (wDr q C wdp wdw wdl wdn wds wdk wa0 wa1 wa2 wa3 wa4 wa5 wa6 wa7 wa8 wa9 waA) (wPl q C wpp wpw wpl wpn wps wpk wp0 wp1 wp2 wp3 wp4 wp5 wp6 wp7 wp8 wp9 wpA) (wRo q C wsf wpla wcv) (wHi q C x.rows x.nr wcn) (wBS q C wlf) (xWk q C x) (wO ol C fo)).symm, rfl, rfl, hlen, rfl, rfl, ?_⟩
  rcases h with ⟨k, w, a1, a2, a3, rfl, rfl, rfl, rfl, rfl, rfl, rfl, rfl, rfl, rfl, rfl, rfl, rfl, rfl, rfl, rfl, rfl, rfl, rfl, rfl, rfl⟩ | ⟨li, g', a1, a2, a3, a4, a5, a6, a7, -⟩
  · exact Or.inl ⟨k, w, a1, a2, a3, rfl, rfl, rfl, rfl, rfl⟩
  · exact Or.inr ⟨li, g', a1, a2, a3, a4, a5, a6, a7⟩
abbrev TT7 (spo sfr sto sln sea : Int) (y : MS) (r : Int32) (v : MS) : Prop := v.tape = y.tape ∧ v.ta = 0 ∧ v.snaps = y.snaps ∧ ((∃ k w : Int, runT y.tape y.ta (0, 0, spo, sfr, sto, sln, sea, 0, 0, flf (y.sa 0) 0 308) 0 = .inl (k, w) ∧ r = iI (-1 - w) ∧ v.fa = k ∧ v.sm = y.sm ∧ v.now = y.now) ∨ (∃ (li : Int) (g : Int → Int), runT y.tape y.ta (0, 0, spo, sfr, sto, sln, sea, 0, 0, flf (y.sa 0) 0 308) 0 = .inr (li, g) ∧ r = iI li ∧ v.fa = 0 ∧ v.sm = 0 ∧ v.now = cp0 y.now g 308 ∧ Wf g))
set_option maxHeartbeats 4000000 in
theorem LC_T7 {l : Launch} {D : va_G} {C : Nat → ClassId} {q : Nat → Nat} {ol : Nat} {fo : Nat → Int64} {x : CS} {y : MS} (hb9 : ∀ k : Int, 0 ≤ k → k < 640 → 0 ≤ y.tape k ∧ y.tape k < 256) (hz : 0 ≤ y.ta ∧ y.ta ≤ 640) (spo sfr sto sln sea : Int) : LC l yX7_text wsX7_text 7 153 D C q ol fo 36 7 [] x y (fun r x' y' => x' = x ∧ TT7 spo sfr sto sln sea y r y') := by
  refine ⟨_, wT q C y.th y.ta y.fa y.sm y.tape y.now y.snaps y.wo.toInt (y.sc 3) (y.sc 4) (y.sc 5) (y.sc 6) (y.sc 7) (y.sc 9) (y.sc 15) (y.sc 16) (y.sc 17) (y.sa 0) y.sa, xRd q C x ++ xTp q C x ++ xDr q C x ++ xPl q C x ++ xRo q C x ++ xHi q C x ++ xBS q C x ++ (xWk q C x ++ wO ol C fo), _, _, 0, _, c_X7_text (ta := 0) (spo := spo) (sfr := sfr) (sto := sto) (sln := sln) (sea := sea) hb9 hz, rfl, ?_, fun r u h => ⟨x, ((0, 0, u.1, u.2.1, y.tape, u.2.2.1, y.snaps, lI u.2.2.2.1, scT y.ta u.2.2.2.2.1 u.2.2.2.2.2.1 u.2.2.2.2.2.2.1 u.2.2.2.2.2.2.2.1 u.2.2.2.2.2.2.2.2.1 u.2.2.2.2.2.2.2.2.2.1 u.2.2.2.2.2.2.2.2.2.2.1 u.2.2.2.2.2.2.2.2.2.2.2.1, saR y.sa u.2.2.2.2.2.2.2.2.2.2.2.2) : MS), List.Perm.refl _, rfl, rfl, rfl, rfl, h⟩⟩
  have e9 : yM q C y = wT q C y.th y.ta y.fa y.sm y.tape y.now y.snaps y.wo.toInt (y.sc 3) (y.sc 4) (y.sc 5) (y.sc 6) (y.sc 7) (y.sc 9) (y.sc 15) (y.sc 16) (y.sc 17) (y.sa 0) y.sa := wM_wT _ _ _ _ _ _ _ _ _ _ _ _
  rw [← e9]
  exact List.Perm.refl _
theorem INV_text {q : Nat → Nat} {C : Nat → ClassId} {x : CS} {y : MS} (I : INV q C x y) {x1 : CS} {y1 : MS} {r1 r : Int32} (h1 : TT6 q C x (flf (y.sa 0) 0 308) r1 x1) (h2 : TT7 x.po x.fr x.to x.ln x.ea y r y1) : INV q C x1 y1 ∧ r1 = r := by
  obtain ⟨b1, b2, b3, b4, h1⟩ := h1
  obtain ⟨t1, t2, t3, h2⟩ := h2
  rw [I.bs, I.len] at h1
  have hb : x1.bs = y1.tape := by rw [b1, t1]; exact I.bs
  have hl : x1.len = y1.ta := by rw [b2, t2]
  have hr : 0 ≤ x1.len ∧ x1.len ≤ 640 := by rw [b2]; omega
  have hy : ∀ k : Int, 0 ≤ k → k < 640 → 0 ≤ x1.bs k ∧ x1.bs k < 256 := by rw [b1]; exact I.byt
  have hn : 0 ≤ x1.nr ∧ x1.nr < 10 := by rw [b4]; exact I.nr
  rcases h1 with ⟨k, w, a1, a2, a3, a4, a5, a6, a7, a8⟩ | ⟨li, g', a1, a2, a3, a4, a5, a6, a7⟩
  · rcases h2 with ⟨k2, w2, d1, d2, d3, d4, d5⟩ | ⟨li2, g2, d1, -⟩
    · have e1 := Sum.inl.inj (a1.symm.trans d1)
      obtain ⟨e2, e3⟩ := Prod.mk.inj e1
      refine ⟨⟨hb, hl, hr, hy, by rw [a3, d3, e2], by rw [a8, d4]; exact I.cn, by rw [a8]; exact I.cr, hn, by rw [d5]; exact I.wf, by rw [a4, d5]; exact I.pl, by rw [d5, a5, a6, a7]; exact I.ro, by rw [b3, b4, a8, t3, d5]; exact I.hi⟩, by rw [a2, d2, e3]⟩
    · exact absurd (a1.symm.trans d1) (by intro h; cases h)
  · rcases h2 with ⟨k2, w2, d1, -⟩ | ⟨li2, g2, d1, d2, d3, d4, d5, d6⟩
    · exact absurd (a1.symm.trans d1) (by intro h; cases h)
    · have e1 := Sum.inr.inj (a1.symm.trans d1)
      obtain ⟨e2, e3⟩ := Prod.mk.inj e1
      subst e3
      have ag := AG_cp0 y.now g'
      refine ⟨⟨hb, hl, hr, hy, by rw [a3, d3], by rw [a6, d4], by rw [a6]; omega, hn, by rw [d5]; exact Wf_AG ag a7, by rw [d5]; exact PlW_AG ag a7 a4, by rw [d5]; exact Ro3_AG ag a7 a5, by rw [a6]; exact HI_0 _ _ _ _⟩, by rw [a2, d2, e2]⟩
set_option maxHeartbeats 4000000 in
set_option maxRecDepth 100000 in
theorem lc_text {p : Program} {l : Launch} {e : Env} {s : State} {m : MethodId} {below : List Frame} {meth : Method} {c : Code} {Q : State → Prop} {D : va_G} {C : Nat → ClassId} {K V SA : Nat → Nat} {b L : Nat} {xs : Nat → Int32} (E : LE p l s m c D C K V SA b L xs) {q : Nat → Nat} {ol i : Nat} (hi : i + 6 ≤ L) {x : CS} {y : MS} {fo : Nat → Int64} {H : Heap} {locs : List Loc} {ls : Array Slot} (I : INV q C x y) (hl : lv_has ls 7 [(0, .ref b), (1, .ref (q 0)), (2, .ref (q 36)), (3, .ref ol), (4, .int (iI (i : Int)))]) (hP : va_P D vwCl (LW q C x y ol fo) H) (hD : va_D (fun z : Nat => s.heap.size ≤ z) (LW q C x y ol fo)) (hS : va_S (fun z : Nat => s.heap.size ≤ z) s.heap H locs) (kk : ∀ (x : CS) (y : MS) (fo : Nat → Int64) (H : Heap) (locs : List Loc) (ls : Array Slot), INV q C x y → lv_has ls 7 [(0, .ref b), (1, .ref (q 0)), (2, .ref (q 36)), (3, .ref ol), (4, .int (iI (i : Int)))] → va_P D vwCl (LW q C x y ol fo) H → va_D (fun z : Nat => s.heap.size ≤ z) (LW q C x y ol fo) → va_S (fun z : Nat => s.heap.size ≤ z) s.heap H locs → W p l e room_1 s m #[Value.ref b] below meth c H locs (100 + i + 1) (8000 + 6 * i + 6) Q (F0 m 758 ls [])) : W p l e room_1 s m #[Value.ref b] below meth c H locs (100 + i) (8000 + 6 * i) Q (F0 m 234 ls []) := by
  have hx := E.hx
  have hb := E.hb
  have hL := E.hL
  have hf : 100 + i ≤ room_1.cells ∧ 8000 + 6 * i ≤ room_1.slots := ⟨by show 100 + i ≤ 601024; omega, by show 8000 + 6 * i ≤ 7293034; omega⟩
  refine lv_aload_n hx hb dL_law_234 rfl (lv_at hl 1 rfl) ?_
  refine LCX_call (As := []) (rest := []) E (LCX_T (K := K) (V := V) I (flf_z (y.sa 0))) (cwV 0 E.hts (gok gL_law_X6_text (by decide +kernel)) rfl rfl rfl (by decide +kernel) ⟨Nat.le_of_ble_eq_true rfl, Nat.le_of_ble_eq_true rfl⟩) rfl rfl hP hD hS rfl hl.1 rfl (Nat.le_of_ble_eq_true rfl) dL_law_235 hf (fun r1 x1 y1 H locs hw1 hP hD hS => ?_)
  obtain ⟨ey, hw1⟩ := hw1
  subst y1
  refine lv_aload_n hx hb dL_law_238 rfl (lv_at hl 2 rfl) ?_
  refine LC_call (As := []) (rest := [.int r1]) E (LC_T7 (by rw [← I.bs]; exact I.byt) (by rw [← I.len]; exact I.lr) x.po x.fr x.to x.ln x.ea) (cwV 0 E.hts (gok gL_law_X7_text (by decide +kernel)) rfl rfl rfl (by decide +kernel) ⟨Nat.le_of_ble_eq_true rfl, Nat.le_of_ble_eq_true rfl⟩) rfl rfl hP hD hS rfl hl.1 rfl (Nat.le_of_ble_eq_true rfl) dL_law_239 hf (fun r x2 y2 H locs hw hP hD hS => ?_)
  obtain ⟨ex, hw⟩ := hw
  subst x2
  have iv := INV_text I hw1 hw
  refine lv_icmp_eq (tgt := 758) hx hb dL_law_242 (by decide) (fun _ => ?_) (fun c9 => absurd ?_ c9)
  · refine W.widen (k := 100 + i + 1) (n := 8000 + 6 * i + 6) (by omega) (by omega) ?_
    exact kk _ _ fo H locs ls (iv.1) hl hP hD hS
  · exact iv.2
set_option maxHeartbeats 4000000 in
set_option maxRecDepth 100000 in
theorem lc_shift {p : Program} {l : Launch} {e : Env} {s : State} {m : MethodId} {below : List Frame} {meth : Method} {c : Code} {Q : State → Prop} {D : va_G} {C : Nat → ClassId} {K V SA : Nat → Nat} {b L : Nat} {xs : Nat → Int32} (E : LE p l s m c D C K V SA b L xs) {q : Nat → Nat} {ol i : Nat} (hi : i + 6 ≤ L) {x : CS} {y : MS} {fo : Nat → Int64} {H : Heap} {locs : List Loc} {ls : Array Slot} (I : INV q C x y) (hl : lv_has ls 7 [(0, .ref b), (1, .ref (q 0)), (2, .ref (q 36)), (3, .ref ol), (4, .int (iI (i : Int)))]) (hP : va_P D vwCl (LW q C x y ol fo) H) (hD : va_D (fun z : Nat => s.heap.size ≤ z) (LW q C x y ol fo)) (hS : va_S (fun z : Nat => s.heap.size ≤ z) s.heap H locs) (kk : ∀ (x : CS) (y : MS) (fo : Nat → Int64) (H : Heap) (locs : List Loc) (ls : Array Slot), INV q C x y → lv_has ls 7 [(0, .ref b), (1, .ref (q 0)), (2, .ref (q 36)), (3, .ref ol), (4, .int (iI (i : Int)))] → va_P D vwCl (LW q C x y ol fo) H → va_D (fun z : Nat => s.heap.size ≤ z) (LW q C x y ol fo) → va_S (fun z : Nat => s.heap.size ≤ z) s.heap H locs → W p l e room_1 s m #[Value.ref b] below meth c H locs (100 + i + 1) (8000 + 6 * i + 6) Q (F0 m 758 ls [])) : W p l e room_1 s m #[Value.ref b] below meth c H locs (100 + i) (8000 + 6 * i) Q (F0 m 285 ls []) := by
  have hx := E.hx
  have hb := E.hb
  have hL := E.hL
  have hf : 100 + i ≤ room_1.cells ∧ 8000 + 6 * i ≤ room_1.slots := ⟨by show 100 + i ≤ 601024; omega, by show 8000 + 6 * i ≤ 7293034; omega⟩
  refine lv_aload_n hx hb dL_law_285 rfl (lv_at hl 1 rfl) ?_
  refine lv_aload_n hx hb dL_law_286 rfl (lv_at hl 0 rfl) ?_
  refine lv_iload hx hb dL_law_287 (lv_at hl 4 rfl) ?_
  refine lv_iconst (v := iI 1) hx hb dL_law_289 rfl ?_
  refine j_iadd hx hb dL_law_290 ?_
  refine j_sld hx hb E.hX E.hbl hS hL ⟨by omega, by omega⟩ dL_law_291 ?_
  refine lv_aload_n hx hb dL_law_292 rfl (lv_at hl 0 rfl) ?_
  refine lv_iload hx hb dL_law_293 (lv_at hl 4 rfl) ?_
  refine lv_iconst (v := iI 2) hx hb dL_law_295 rfl ?_
  refine j_iadd hx hb dL_law_296 ?_
  refine j_sld hx hb E.hX E.hbl hS hL ⟨by omega, by omega⟩ dL_law_297 ?_
  refine lv_aload_n hx hb dL_law_298 rfl (lv_at hl 3 rfl) ?_
  have hf1 : 100 + i + 1 ≤ room_1.cells ∧ 8000 + 6 * i + 6 ≤ room_1.slots := ⟨by show 100 + i + 1 ≤ 601024; omega, by show 8000 + 6 * i + 6 ≤ 7293034; omega⟩
  refine LH_call E (c_L_shift (SA := SA) (D := D) E.hl0 (BsR_LRS I) I.wf (sx_R _ _) (sx_R _ _) (ol := ol) (f := fo) (fun z h => shiftF_R I.wf h)) (vx_cwSW 4 E.hts gL_ok_shift rfl rfl rfl (by decide +kernel) ⟨Nat.le_of_ble_eq_true rfl, Nat.le_of_ble_eq_true rfl⟩) hP hD hS hl.1 dL_law_299 hf1 (fun r u H locs hpo hP hD hS => ?_)
  refine lv_istore (lv' := [(5, .int r), (0, .ref b), (1, .ref (q 0)), (2, .ref (q 36)), (3, .ref ol), (4, .int (iI (i : Int)))]) hx hb dL_law_302 hl (by decide) rfl (fun ls hl => ?_)
  refine lv_aload_n hx hb dL_law_304 rfl (lv_at hl 3 rfl) ?_
  refine lv_aload_n hx hb dL_law_305 rfl (lv_at hl 1 rfl) ?_
  refine lv_iload hx hb dL_law_306 (lv_at hl 5 rfl) ?_
  refine lv_iconst (v := iI 1) hx hb dL_law_308 rfl ?_
  refine j_iadd hx hb dL_law_309 ?_
  refine j_sld hx hb E.hX E.hbl hS hL ⟨by omega, by omega⟩ dL_law_310 ?_
  refine lv_aload_n hx hb dL_law_311 rfl (lv_at hl 1 rfl) ?_
  refine lv_iload hx hb dL_law_312 (lv_at hl 5 rfl) ?_
  refine lv_iconst (v := iI 2) hx hb dL_law_314 rfl ?_
  refine j_iadd hx hb dL_law_315 ?_
  refine j_sld hx hb E.hX E.hbl hS hL ⟨by omega, by omega⟩ dL_law_316 ?_
  refine LC_call (As := [.int (iI (sx xs ((i : Int) + 1))), .int (iI (sx xs ((i : Int) + 2)))]) (rest := []) E (LC_M (y := y) (fun v : Int => ((v, y.2) : MS)) (c_X7_shift I.wf (sx_R _ _) (sx_R _ _))) (cwV 2 E.hts (gok gL_law_X7_shift (by decide +kernel)) rfl rfl rfl (by decide +kernel) ⟨Nat.le_of_ble_eq_true rfl, Nat.le_of_ble_eq_true rfl⟩) rfl rfl hP hD hS rfl hl.1 rfl (Nat.le_of_ble_eq_true rfl) dL_law_317 hf1 (fun r2 x2 y2 H locs hw hP hD hS => ?_)
  obtain ⟨ex, v, hy, hw⟩ := hw
  subst x2
  refine lv_istore (lv' := [(6, .int r2), (5, .int r), (0, .ref b), (1, .ref (q 0)), (2, .ref (q 36)), (3, .ref ol), (4, .int (iI (i : Int)))]) hx hb dL_law_320 hl (by decide) rfl (fun ls hl => ?_)
  refine lv_aload_n hx hb dL_law_322 rfl (lv_at hl 4 rfl) ?_
  refine LM_call (As := []) (rest := []) E c_X7_thrown (cwV 0 E.hts (gok gL_law_X7_thrown (by decide +kernel)) rfl rfl rfl (by decide +kernel) ⟨Nat.le_of_ble_eq_true rfl, Nat.le_of_ble_eq_true rfl⟩) hP rfl hl.1 rfl (Nat.le_of_ble_eq_true rfl) dL_law_323 hf1 ?_
  have hth : y2.th = v := by rw [hy]
  rw [show (iI y2.th) = iI v by rw [hth]]
  refine lv_iload hx hb dL_law_326 (lv_at hl 1 rfl) ?_
  refine lv_icmp_eq (tgt := 333) hx hb dL_law_328 (by decide) (fun _ => ?_) (fun c9 => absurd ?_ c9)
  · skip
    refine lv_iload hx hb dL_law_333 (lv_at hl 1 rfl) ?_
    rcases hpo with ⟨z, h1, h2, h3, h4⟩ | ⟨h1, h3⟩
    · subst h3
      refine j_if_ne (tgt := 350) hx hb dL_law_335 rfl ⟨by decide, by decide⟩ (fun c8 => absurd rfl c8) (fun _ => ?_)
      refine lv_aload_n hx hb dL_law_338 rfl (lv_at hl 5 rfl) ?_
      refine lv_iconst (v := iI 0) hx hb dL_law_339 rfl ?_
      refine va_lald (D := D) (i := iI 0) hx hb E.hK (va_P_left (va_P_perm (LW_O ..) hP)) 0 3 rfl rfl (iI_in (by decide) (by decide) (by decide)) dL_law_340 ?_
      refine W_wenL (y := lI z) h4 ?_
      refine lv_iload hx hb dL_law_341 (lv_at hl 0 rfl) ?_
      have hr2 : r2 = iI z := by
        rcases hw with ⟨-, z2, e1, e2, -⟩ | ⟨-, e1⟩
        · rw [e2]; exact congrArg iI (Option.some.inj (e1.symm.trans h1))
        · rw [e1] at h1; cases h1
      subst hr2
      refine j_i2l hx hb dL_law_343 h2 ?_
      refine j_lcmp hx hb dL_law_344 ⟨by have := h2.1; omega, by have := h2.2; omega⟩ ⟨by have := h2.1; omega, by have := h2.2; omega⟩ ?_
      refine j_if_eq (tgt := 350) hx hb dL_law_345 rfl (lgz_R _ _) (fun _ => ?_) (fun c8 => absurd (lgz_0.mpr rfl) c8)
      refine lv_goto (tgt := 758) hx hb dL_law_350 rfl ?_
      exact kk _ _ u H locs ls (by rw [hy]; exact I.th0 v) (lv_sub hl [2, 3, 4, 5, 6] rfl) hP hD hS
    · subst h3
      refine j_if_ne (tgt := 350) hx hb dL_law_335 rfl ⟨by decide, by decide⟩ (fun _ => ?_) (fun c8 => absurd c8 (by decide))
      refine lv_goto (tgt := 758) hx hb dL_law_350 rfl ?_
      exact kk _ _ u H locs ls (by rw [hy]; exact I.th0 v) (lv_sub hl [2, 3, 4, 5, 6] rfl) hP hD hS
  · rcases hpo with ⟨z, h1, h2, h3, h4⟩ | ⟨h1, h3⟩
    · rcases hw with ⟨e0, -⟩ | ⟨-, e1⟩
      · rw [e0, h3]
      · rw [e1] at h1; cases h1
    · rcases hw with ⟨-, z2, e1, -⟩ | ⟨e0, -⟩
      · rw [e1] at h1; cases h1
      · rw [e0, h3]
set_option maxHeartbeats 4000000 in
set_option maxRecDepth 100000 in
theorem lc_pause {p : Program} {l : Launch} {e : Env} {s : State} {m : MethodId} {below : List Frame} {meth : Method} {c : Code} {Q : State → Prop} {D : va_G} {C : Nat → ClassId} {K V SA : Nat → Nat} {b L : Nat} {xs : Nat → Int32} (E : LE p l s m c D C K V SA b L xs) {q : Nat → Nat} {ol i : Nat} (hi : i + 6 ≤ L) {x : CS} {y : MS} {fo : Nat → Int64} {H : Heap} {locs : List Loc} {ls : Array Slot} (I : INV q C x y) (hl : lv_has ls 7 [(0, .ref b), (1, .ref (q 0)), (2, .ref (q 36)), (3, .ref ol), (4, .int (iI (i : Int)))]) (hP : va_P D vwCl (LW q C x y ol fo) H) (hD : va_D (fun z : Nat => s.heap.size ≤ z) (LW q C x y ol fo)) (hS : va_S (fun z : Nat => s.heap.size ≤ z) s.heap H locs) (kk : ∀ (x : CS) (y : MS) (fo : Nat → Int64) (H : Heap) (locs : List Loc) (ls : Array Slot), INV q C x y → lv_has ls 7 [(0, .ref b), (1, .ref (q 0)), (2, .ref (q 36)), (3, .ref ol), (4, .int (iI (i : Int)))] → va_P D vwCl (LW q C x y ol fo) H → va_D (fun z : Nat => s.heap.size ≤ z) (LW q C x y ol fo) → va_S (fun z : Nat => s.heap.size ≤ z) s.heap H locs → W p l e room_1 s m #[Value.ref b] below meth c H locs (100 + i + 1) (8000 + 6 * i + 6) Q (F0 m 758 ls [])) : W p l e room_1 s m #[Value.ref b] below meth c H locs (100 + i) (8000 + 6 * i) Q (F0 m 353 ls []) := by
  have hx := E.hx
  have hb := E.hb
  have hL := E.hL
  have hf : 100 + i ≤ room_1.cells ∧ 8000 + 6 * i ≤ room_1.slots := ⟨by show 100 + i ≤ 601024; omega, by show 8000 + 6 * i ≤ 7293034; omega⟩
  refine lv_aload_n hx hb dL_law_353 rfl (lv_at hl 1 rfl) ?_
  refine lv_aload_n hx hb dL_law_354 rfl (lv_at hl 0 rfl) ?_
  refine lv_iload hx hb dL_law_355 (lv_at hl 4 rfl) ?_
  refine lv_iconst (v := iI 1) hx hb dL_law_357 rfl ?_
  refine j_iadd hx hb dL_law_358 ?_
  refine j_sld hx hb E.hX E.hbl hS hL ⟨by omega, by omega⟩ dL_law_359 ?_
  refine lv_aload_n hx hb dL_law_360 rfl (lv_at hl 0 rfl) ?_
  refine lv_iload hx hb dL_law_361 (lv_at hl 4 rfl) ?_
  refine lv_iconst (v := iI 2) hx hb dL_law_363 rfl ?_
  refine j_iadd hx hb dL_law_364 ?_
  refine j_sld hx hb E.hX E.hbl hS hL ⟨by omega, by omega⟩ dL_law_365 ?_
  refine lv_aload_n hx hb dL_law_366 rfl (lv_at hl 3 rfl) ?_
  have hf1 : 100 + i + 1 ≤ room_1.cells ∧ 8000 + 6 * i + 6 ≤ room_1.slots := ⟨by show 100 + i + 1 ≤ 601024; omega, by show 8000 + 6 * i + 6 ≤ 7293034; omega⟩
  refine LH_call E (c_L_pause (SA := SA) (D := D) E.hl0 (BsR_LRS I) I.wf (sx_R _ _) (sx_R _ _) (ol := ol) (f := fo) (fun z h => pauseF_R I.wf h)) (vx_cwSW 4 E.hts gL_ok_pause rfl rfl rfl (by decide +kernel) ⟨Nat.le_of_ble_eq_true rfl, Nat.le_of_ble_eq_true rfl⟩) hP hD hS hl.1 dL_law_367 hf1 (fun r u H locs hpo hP hD hS => ?_)
  refine lv_istore (lv' := [(5, .int r), (0, .ref b), (1, .ref (q 0)), (2, .ref (q 36)), (3, .ref ol), (4, .int (iI (i : Int)))]) hx hb dL_law_370 hl (by decide) rfl (fun ls hl => ?_)
  refine lv_aload_n hx hb dL_law_372 rfl (lv_at hl 3 rfl) ?_
  refine lv_aload_n hx hb dL_law_373 rfl (lv_at hl 1 rfl) ?_
  refine lv_iload hx hb dL_law_374 (lv_at hl 5 rfl) ?_
  refine lv_iconst (v := iI 1) hx hb dL_law_376 rfl ?_
  refine j_iadd hx hb dL_law_377 ?_
  refine j_sld hx hb E.hX E.hbl hS hL ⟨by omega, by omega⟩ dL_law_378 ?_
  refine lv_aload_n hx hb dL_law_379 rfl (lv_at hl 1 rfl) ?_
  refine lv_iload hx hb dL_law_380 (lv_at hl 5 rfl) ?_
  refine lv_iconst (v := iI 2) hx hb dL_law_382 rfl ?_
  refine j_iadd hx hb dL_law_383 ?_
  refine j_sld hx hb E.hX E.hbl hS hL ⟨by omega, by omega⟩ dL_law_384 ?_
  refine LC_call (As := [.int (iI (sx xs ((i : Int) + 1))), .int (iI (sx xs ((i : Int) + 2)))]) (rest := []) E (LC_M (y := y) (fun v : Int => ((v, y.2) : MS)) (c_X7_pause I.wf (sx_R _ _) (sx_R _ _))) (cwV 2 E.hts (gok gL_law_X7_pause (by decide +kernel)) rfl rfl rfl (by decide +kernel) ⟨Nat.le_of_ble_eq_true rfl, Nat.le_of_ble_eq_true rfl⟩) rfl rfl hP hD hS rfl hl.1 rfl (Nat.le_of_ble_eq_true rfl) dL_law_385 hf1 (fun r2 x2 y2 H locs hw hP hD hS => ?_)
  obtain ⟨ex, v, hy, hw⟩ := hw
  subst x2
  refine lv_istore (lv' := [(6, .int r2), (5, .int r), (0, .ref b), (1, .ref (q 0)), (2, .ref (q 36)), (3, .ref ol), (4, .int (iI (i : Int)))]) hx hb dL_law_388 hl (by decide) rfl (fun ls hl => ?_)
  refine lv_aload_n hx hb dL_law_390 rfl (lv_at hl 4 rfl) ?_
  refine LM_call (As := []) (rest := []) E c_X7_thrown (cwV 0 E.hts (gok gL_law_X7_thrown (by decide +kernel)) rfl rfl rfl (by decide +kernel) ⟨Nat.le_of_ble_eq_true rfl, Nat.le_of_ble_eq_true rfl⟩) hP rfl hl.1 rfl (Nat.le_of_ble_eq_true rfl) dL_law_391 hf1 ?_
  have hth : y2.th = v := by rw [hy]
  rw [show (iI y2.th) = iI v by rw [hth]]
  refine lv_iload hx hb dL_law_394 (lv_at hl 1 rfl) ?_
  refine lv_icmp_eq (tgt := 401) hx hb dL_law_396 (by decide) (fun _ => ?_) (fun c9 => absurd ?_ c9)
  · skip
    refine lv_iload hx hb dL_law_401 (lv_at hl 1 rfl) ?_
    rcases hpo with ⟨z, h1, h2, h3, h4⟩ | ⟨h1, h3⟩
    · subst h3
      refine j_if_ne (tgt := 418) hx hb dL_law_403 rfl ⟨by decide, by decide⟩ (fun c8 => absurd rfl c8) (fun _ => ?_)
      refine lv_aload_n hx hb dL_law_406 rfl (lv_at hl 5 rfl) ?_
      refine lv_iconst (v := iI 0) hx hb dL_law_407 rfl ?_
      refine va_lald (D := D) (i := iI 0) hx hb E.hK (va_P_left (va_P_perm (LW_O ..) hP)) 0 3 rfl rfl (iI_in (by decide) (by decide) (by decide)) dL_law_408 ?_
      refine W_wenL (y := lI z) h4 ?_
      refine lv_iload hx hb dL_law_409 (lv_at hl 0 rfl) ?_
      have hr2 : r2 = iI z := by
        rcases hw with ⟨-, z2, e1, e2, -⟩ | ⟨-, e1⟩
        · rw [e2]; exact congrArg iI (Option.some.inj (e1.symm.trans h1))
        · rw [e1] at h1; cases h1
      subst hr2
      refine j_i2l hx hb dL_law_411 h2 ?_
      refine j_lcmp hx hb dL_law_412 ⟨by have := h2.1; omega, by have := h2.2; omega⟩ ⟨by have := h2.1; omega, by have := h2.2; omega⟩ ?_
      refine j_if_eq (tgt := 418) hx hb dL_law_413 rfl (lgz_R _ _) (fun _ => ?_) (fun c8 => absurd (lgz_0.mpr rfl) c8)
      refine lv_goto (tgt := 758) hx hb dL_law_418 rfl ?_
      exact kk _ _ u H locs ls (by rw [hy]; exact I.th0 v) (lv_sub hl [2, 3, 4, 5, 6] rfl) hP hD hS
    · subst h3
      refine j_if_ne (tgt := 418) hx hb dL_law_403 rfl ⟨by decide, by decide⟩ (fun _ => ?_) (fun c8 => absurd c8 (by decide))
      refine lv_goto (tgt := 758) hx hb dL_law_418 rfl ?_
      exact kk _ _ u H locs ls (by rw [hy]; exact I.th0 v) (lv_sub hl [2, 3, 4, 5, 6] rfl) hP hD hS
  · rcases hpo with ⟨z, h1, h2, h3, h4⟩ | ⟨h1, h3⟩
    · rcases hw with ⟨e0, -⟩ | ⟨-, e1⟩
      · rw [e0, h3]
      · rw [e1] at h1; cases h1
    · rcases hw with ⟨-, z2, e1, -⟩ | ⟨e0, -⟩
      · rw [e1] at h1; cases h1
      · rw [e0, h3]
