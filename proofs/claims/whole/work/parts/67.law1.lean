theorem up_by {f : Int → Int} (h : ∀ k : Int, 0 ≤ k → k < 640 → 0 ≤ f k ∧ f k < 256) {z v : Int} (hv : 0 ≤ v ∧ v < 256) : ∀ k : Int, 0 ≤ k → k < 640 → 0 ≤ up f z v k ∧ up f z v k < 256 := fun k h0 h1 => by
  by_cases c : k = z
  · subst c; rw [up_s]; exact hv
  · rw [up_n _ _ c]; exact h k h0 h1
theorem lay4_by {f : Int → Int} (h : ∀ k : Int, 0 ≤ k → k < 640 → 0 ≤ f k ∧ f k < 256) (a z : Int) : ∀ k : Int, 0 ≤ k → k < 640 → 0 ≤ lay4 f a z k ∧ lay4 f a z k < 256 := up_by (up_by (up_by (up_by h (by4_rng _ _)) (by4_rng _ _)) (by4_rng _ _)) (by4_rng _ _)
theorem INV_feed {q : Nat → Nat} {C : Nat → ClassId} {x : CS} {y : MS} (I : INV q C x y) {z1 z2 z3 z4 z5 : Int} {u v : Int × (Int → Int)} (hu : u = (feedF x.len x.bs z1 z2 z3 z4 z5).2) (hv : v = (feedF y.ta y.tape z1 z2 z3 z4 z5).2) : INV q C ((x.1, (u.1, u.2), x.2.2.1, x.2.2.2.1, x.2.2.2.2.1, x.2.2.2.2.2.1, x.2.2.2.2.2.2.1, x.2.2.2.2.2.2.2) : CS) ((0, v.1, y.fa, y.sm, v.2, y.now, y.snaps, y.wo, y.sc, y.sa) : MS) := by
  have huv : u = v := by rw [hu, hv, I.len, I.bs]
  have hr : (0 ≤ u.1 ∧ u.1 ≤ 640) ∧ ∀ k : Int, 0 ≤ k → k < 640 → 0 ≤ u.2 k ∧ u.2 k < 256 := by
    have lr := I.lr
    rw [hu]
    unfold feedF
    by_cases c : x.len + 20 ≤ 640
    · rw [if_pos c]
      exact ⟨⟨by show 0 ≤ x.len + 4 + 4 + 4 + 4 + 4; omega, by show x.len + 4 + 4 + 4 + 4 + 4 ≤ 640; omega⟩, lay4_by (lay4_by (lay4_by (lay4_by (lay4_by I.byt _ _) _ _) _ _) _ _) _ _⟩
    · rw [if_neg c]
      exact ⟨lr, I.byt⟩
  exact ⟨by show u.2 = v.2; rw [huv], by show u.1 = v.1; rw [huv], hr.1, hr.2, I.lf, I.cn, I.cr, I.nr, I.wf, I.pl, I.ro, I.hi⟩
theorem INV_end {q : Nat → Nat} {C : Nat → ClassId} {x : CS} {y : MS} (I : INV q C x y) {zz u v : Int} (hu : u = if 0 ≤ zz ∧ zz ≤ x.len then zz else x.len) (hv : v = if 0 ≤ zz ∧ zz ≤ y.ta then zz else y.ta) : INV q C ((x.1, (u, x.bs), x.2.2.1, x.2.2.2.1, x.2.2.2.2.1, x.2.2.2.2.2.1, x.2.2.2.2.2.2.1, x.2.2.2.2.2.2.2) : CS) ((0, v, y.fa, y.sm, y.tape, y.now, y.snaps, y.wo, y.sc, y.sa) : MS) := by
  have lr := I.lr
  have hr : 0 ≤ u ∧ u ≤ 640 := by
    rw [hu]
    by_cases c : 0 ≤ zz ∧ zz ≤ x.len
    · rw [if_pos c]; omega
    · rw [if_neg c]; exact lr
  exact ⟨I.bs, by show u = v; rw [hu, hv, I.len], hr, I.byt, I.lf, I.cn, I.cr, I.nr, I.wf, I.pl, I.ro, I.hi⟩
theorem INV_act {q : Nat → Nat} {C : Nat → ClassId} {x : CS} {y : MS} (I : INV q C x y) {z : Int × Int × (Int → Int) × (Int → Int)} {u : (Int → Int) × Int × Int × Int × (Int → Int) × (Int → Int)} {v : Int × (Int → Int) × (Int → Int)} (a : AC y.now z u.1 u.2.1 u.2.2.1) (r : Ro3 z.2.2.1 u.2.2.2) (hv : v = z.2) : INV q C (xU x u) ((0, y.ta, y.fa, v.1, y.tape, v.2.1, v.2.2, y.wo, y.sc, y.sa) : MS) := by
  subst hv
  obtain ⟨a1, a2, a3, a4, a5, a6⟩ := a
  exact ⟨I.bs, I.len, I.lr, I.byt, I.lf, a1.symm, a6, a5, a2, PlW_same I.pl I.wf a3, r, a4⟩
theorem INV_undo0 {q : Nat → Nat} {C : Nat → ClassId} {x : CS} {y : MS} (I : INV q C x y) : ∃ g2 : Int → Int, Wf g2 ∧ SameP y.now g2 ∧ (0 < x.cn → ∀ k : Int, 0 ≤ k → k < 24 → x.rows ((if x.nr = 0 then 9 else x.nr - 1) * 24 + k) = g2 (192 + 5 * k) - 1) ∧ (0 < x.cn → g2 = kr y.snaps y.now (x.cn - 1)) ∧ (0 < x.cn → HI x.rows (if x.nr = 0 then 9 else x.nr - 1) (x.cn - 1) y.snaps g2) := by
  by_cases c : 0 < x.cn
  · obtain ⟨a, b, d, f⟩ := HI_undo I.nr I.cr I.hi c
    exact ⟨_, a, b, fun _ => d, fun _ => rfl, fun _ => f⟩
  · exact ⟨y.now, I.wf, SameP_rf _, fun h => absurd h c, fun h => absurd h c, fun h => absurd h c⟩
theorem INV_undo {q : Nat → Nat} {C : Nat → ClassId} {x : CS} {y : MS} (I : INV q C x y) {g2 : Int → Int} (w2 : Wf g2) (s2 : SameP y.now g2) (e2 : 0 < x.cn → g2 = kr y.snaps y.now (x.cn - 1)) (i2 : 0 < x.cn → HI x.rows (if x.nr = 0 then 9 else x.nr - 1) (x.cn - 1) y.snaps g2)
    {r1 r : Int32} {u : (Int → Int) × Int × Int × Int × (Int → Int) × (Int → Int)} {v : Int × (Int → Int) × (Int → Int)}
    (h1 : (x.cn = 0 ∧ r1 = iI (-1) ∧ u = (x.rows, x.nr, x.cn, SF y.now, x.pla, x.cv)) ∨ (0 < x.cn ∧ r1 = iI (x.cn - 1) ∧ Ro3 g2 u.2.2.2 ∧ u.1 = x.rows ∧ u.2.1 = (if x.nr = 0 then 9 else x.nr - 1) ∧ u.2.2.1 = x.cn - 1))
    (h2 : r = iI (undoF y.sm y.now y.snaps).1 ∧ v = (undoF y.sm y.now y.snaps).2) : INV q C (xU x u) ((0, y.ta, y.fa, v.1, y.tape, v.2.1, v.2.2, y.wo, y.sc, y.sa) : MS) ∧ r1 = r := by
  obtain ⟨h2, h3⟩ := h2
  have cr := I.cr
  have nr := I.nr
  rw [← I.cn] at h2 h3
  unfold undoF at h2 h3
  rcases h1 with ⟨a, b, d⟩ | ⟨a, b, d, f, g, h⟩
  · rw [if_pos a] at h2 h3
    subst d h3
    exact ⟨⟨I.bs, I.len, I.lr, I.byt, I.lf, rfl, I.cr, I.nr, I.wf, I.pl, ⟨rfl, I.ro.2.1, I.ro.2.2⟩, I.hi⟩, by rw [b, h2]⟩
  · rw [if_neg (by omega)] at h2 h3
    have e9 : cp0 y.now (fun k => y.snaps (308 * (x.cn - 1) + k)) 308 = g2 := (e2 a).symm
    rw [e9] at h3
    subst h3
    refine ⟨⟨I.bs, I.len, I.lr, I.byt, I.lf, h, ?_, ?_, w2, PlW_same I.pl I.wf s2, d, ?_⟩, by rw [b, h2]⟩
    · show 0 ≤ u.2.2.1 ∧ u.2.2.1 ≤ 10
      rw [h]; omega
    · show 0 ≤ u.2.1 ∧ u.2.1 < 10
      rw [g]
      by_cases c : x.nr = 0
      · rw [if_pos c]; omega
      · rw [if_neg c]; omega
    · show HI u.1 u.2.1 u.2.2.1 y.snaps g2
      rw [f, g, h]; exact i2 a
set_option maxHeartbeats 4000000 in
set_option maxRecDepth 100000 in
theorem lc_feed {p : Program} {l : Launch} {e : Env} {s : State} {m : MethodId} {below : List Frame} {meth : Method} {c : Code} {Q : State → Prop} {D : va_G} {C : Nat → ClassId} {K V SA : Nat → Nat} {b L : Nat} {xs : Nat → Int32} (E : LE p l s m c D C K V SA b L xs) {q : Nat → Nat} {ol i : Nat} (hi : i + 6 ≤ L) {x : CS} {y : MS} {fo : Nat → Int64} {H : Heap} {locs : List Loc} {ls : Array Slot} (I : INV q C x y) (hl : lv_has ls 7 [(0, .ref b), (1, .ref (q 0)), (2, .ref (q 36)), (3, .ref ol), (4, .int (iI (i : Int)))]) (hP : va_P D vwCl (LW q C x y ol fo) H) (hD : va_D (fun z : Nat => s.heap.size ≤ z) (LW q C x y ol fo)) (hS : va_S (fun z : Nat => s.heap.size ≤ z) s.heap H locs) (kk : ∀ (x : CS) (y : MS) (fo : Nat → Int64) (H : Heap) (locs : List Loc) (ls : Array Slot), INV q C x y → lv_has ls 7 [(0, .ref b), (1, .ref (q 0)), (2, .ref (q 36)), (3, .ref ol), (4, .int (iI (i : Int)))] → va_P D vwCl (LW q C x y ol fo) H → va_D (fun z : Nat => s.heap.size ≤ z) (LW q C x y ol fo) → va_S (fun z : Nat => s.heap.size ≤ z) s.heap H locs → W p l e room_1 s m #[Value.ref b] below meth c H locs (100 + i + 1) (8000 + 6 * i + 6) Q (F0 m 758 ls [])) : W p l e room_1 s m #[Value.ref b] below meth c H locs (100 + i) (8000 + 6 * i) Q (F0 m 136 ls []) := by
  have hx := E.hx
  have hb := E.hb
  have hL := E.hL
  have hf : 100 + i ≤ room_1.cells ∧ 8000 + 6 * i ≤ room_1.slots := ⟨by show 100 + i ≤ 601024; omega, by show 8000 + 6 * i ≤ 7293034; omega⟩
  refine lv_aload_n hx hb dL_law_136 rfl (lv_at hl 1 rfl) ?_
  refine lv_aload_n hx hb dL_law_137 rfl (lv_at hl 0 rfl) ?_
  refine lv_iload hx hb dL_law_138 (lv_at hl 4 rfl) ?_
  refine lv_iconst (v := iI 1) hx hb dL_law_140 rfl ?_
  refine j_iadd hx hb dL_law_141 ?_
  refine j_sld hx hb E.hX E.hbl hS hL ⟨by omega, by omega⟩ dL_law_142 ?_
  refine lv_aload_n hx hb dL_law_143 rfl (lv_at hl 0 rfl) ?_
  refine lv_iload hx hb dL_law_144 (lv_at hl 4 rfl) ?_
  refine lv_iconst (v := iI 2) hx hb dL_law_146 rfl ?_
  refine j_iadd hx hb dL_law_147 ?_
  refine j_sld hx hb E.hX E.hbl hS hL ⟨by omega, by omega⟩ dL_law_148 ?_
  refine lv_aload_n hx hb dL_law_149 rfl (lv_at hl 0 rfl) ?_
  refine lv_iload hx hb dL_law_150 (lv_at hl 4 rfl) ?_
  refine lv_iconst (v := iI 3) hx hb dL_law_152 rfl ?_
  refine j_iadd hx hb dL_law_153 ?_
  refine j_sld hx hb E.hX E.hbl hS hL ⟨by omega, by omega⟩ dL_law_154 ?_
  refine lv_aload_n hx hb dL_law_155 rfl (lv_at hl 0 rfl) ?_
  refine lv_iload hx hb dL_law_156 (lv_at hl 4 rfl) ?_
  refine lv_iconst (v := iI 4) hx hb dL_law_158 rfl ?_
  refine j_iadd hx hb dL_law_159 ?_
  refine j_sld hx hb E.hX E.hbl hS hL ⟨by omega, by omega⟩ dL_law_160 ?_
  refine lv_aload_n hx hb dL_law_161 rfl (lv_at hl 0 rfl) ?_
  refine lv_iload hx hb dL_law_162 (lv_at hl 4 rfl) ?_
  refine lv_iconst (v := iI 5) hx hb dL_law_164 rfl ?_
  refine j_iadd hx hb dL_law_165 ?_
  refine j_sld hx hb E.hX E.hbl hS hL ⟨by omega, by omega⟩ dL_law_166 ?_
  refine LC_call (As := [.int (iI (sx xs ((i : Int) + 1))), .int (iI (sx xs ((i : Int) + 2))), .int (iI (sx xs ((i : Int) + 3))), .int (iI (sx xs ((i : Int) + 4))), .int (iI (sx xs ((i : Int) + 5)))]) (rest := []) E (LC_F (fun u : Int × (Int → Int) => u.1) (fun u => u.2) (c_X6_feed I.lr)) (cwV 5 E.hts (gok gL_law_X6_feed (by decide +kernel)) rfl rfl rfl (by decide +kernel) ⟨Nat.le_of_ble_eq_true rfl, Nat.le_of_ble_eq_true rfl⟩) rfl rfl hP hD hS rfl hl.1 rfl (Nat.le_of_ble_eq_true rfl) dL_law_167 hf (fun r1 x1 y1 H locs hw1 hP hD hS => ?_)
  obtain ⟨ey, u, hx1, hw1⟩ := hw1
  subst y1
  refine lv_aload_n hx hb dL_law_170 rfl (lv_at hl 2 rfl) ?_
  refine lv_aload_n hx hb dL_law_171 rfl (lv_at hl 0 rfl) ?_
  refine lv_iload hx hb dL_law_172 (lv_at hl 4 rfl) ?_
  refine lv_iconst (v := iI 1) hx hb dL_law_174 rfl ?_
  refine j_iadd hx hb dL_law_175 ?_
  refine j_sld hx hb E.hX E.hbl hS hL ⟨by omega, by omega⟩ dL_law_176 ?_
  refine lv_aload_n hx hb dL_law_177 rfl (lv_at hl 0 rfl) ?_
  refine lv_iload hx hb dL_law_178 (lv_at hl 4 rfl) ?_
  refine lv_iconst (v := iI 2) hx hb dL_law_180 rfl ?_
  refine j_iadd hx hb dL_law_181 ?_
  refine j_sld hx hb E.hX E.hbl hS hL ⟨by omega, by omega⟩ dL_law_182 ?_
  refine lv_aload_n hx hb dL_law_183 rfl (lv_at hl 0 rfl) ?_
  refine lv_iload hx hb dL_law_184 (lv_at hl 4 rfl) ?_
  refine lv_iconst (v := iI 3) hx hb dL_law_186 rfl ?_
  refine j_iadd hx hb dL_law_187 ?_
  refine j_sld hx hb E.hX E.hbl hS hL ⟨by omega, by omega⟩ dL_law_188 ?_
  refine lv_aload_n hx hb dL_law_189 rfl (lv_at hl 0 rfl) ?_
  refine lv_iload hx hb dL_law_190 (lv_at hl 4 rfl) ?_
  refine lv_iconst (v := iI 4) hx hb dL_law_192 rfl ?_
  refine j_iadd hx hb dL_law_193 ?_
  refine j_sld hx hb E.hX E.hbl hS hL ⟨by omega, by omega⟩ dL_law_194 ?_
  refine lv_aload_n hx hb dL_law_195 rfl (lv_at hl 0 rfl) ?_
  refine lv_iload hx hb dL_law_196 (lv_at hl 4 rfl) ?_
  refine lv_iconst (v := iI 5) hx hb dL_law_198 rfl ?_
  refine j_iadd hx hb dL_law_199 ?_
  refine j_sld hx hb E.hX E.hbl hS hL ⟨by omega, by omega⟩ dL_law_200 ?_
  refine LC_call (As := [.int (iI (sx xs ((i : Int) + 1))), .int (iI (sx xs ((i : Int) + 2))), .int (iI (sx xs ((i : Int) + 3))), .int (iI (sx xs ((i : Int) + 4))), .int (iI (sx xs ((i : Int) + 5)))]) (rest := [.int r1]) E (LC_M (y := y) (fun v : Int × (Int → Int) => ((0, v.1, y.fa, y.sm, v.2, y.now, y.snaps, y.wo, y.sc, y.sa) : MS)) (c_X7_feed (by rw [← I.len]; exact I.lr))) (cwV 5 E.hts (gok gL_law_X7_feed (by decide +kernel)) rfl rfl rfl (by decide +kernel) ⟨Nat.le_of_ble_eq_true rfl, Nat.le_of_ble_eq_true rfl⟩) rfl rfl hP hD hS rfl hl.1 rfl (Nat.le_of_ble_eq_true rfl) dL_law_201 hf (fun r x2 y2 H locs hw hP hD hS => ?_)
  obtain ⟨ex, v, hy, hw⟩ := hw
  subst x2
  refine lv_icmp_eq (tgt := 758) hx hb dL_law_204 (by decide) (fun _ => ?_) (fun c9 => absurd ?_ c9)
  · refine W.widen (k := 100 + i + 1) (n := 8000 + 6 * i + 6) (by omega) (by omega) ?_
    exact kk _ _ fo H locs ls (by rw [hx1, hy]; exact INV_feed I hw1.2 hw.2) hl hP hD hS
  · rw [hw.1, hw1.1, I.len, I.bs]
set_option maxHeartbeats 4000000 in
set_option maxRecDepth 100000 in
theorem lc_end {p : Program} {l : Launch} {e : Env} {s : State} {m : MethodId} {below : List Frame} {meth : Method} {c : Code} {Q : State → Prop} {D : va_G} {C : Nat → ClassId} {K V SA : Nat → Nat} {b L : Nat} {xs : Nat → Int32} (E : LE p l s m c D C K V SA b L xs) {q : Nat → Nat} {ol i : Nat} (hi : i + 6 ≤ L) {x : CS} {y : MS} {fo : Nat → Int64} {H : Heap} {locs : List Loc} {ls : Array Slot} (I : INV q C x y) (hl : lv_has ls 7 [(0, .ref b), (1, .ref (q 0)), (2, .ref (q 36)), (3, .ref ol), (4, .int (iI (i : Int)))]) (hP : va_P D vwCl (LW q C x y ol fo) H) (hD : va_D (fun z : Nat => s.heap.size ≤ z) (LW q C x y ol fo)) (hS : va_S (fun z : Nat => s.heap.size ≤ z) s.heap H locs) (kk : ∀ (x : CS) (y : MS) (fo : Nat → Int64) (H : Heap) (locs : List Loc) (ls : Array Slot), INV q C x y → lv_has ls 7 [(0, .ref b), (1, .ref (q 0)), (2, .ref (q 36)), (3, .ref ol), (4, .int (iI (i : Int)))] → va_P D vwCl (LW q C x y ol fo) H → va_D (fun z : Nat => s.heap.size ≤ z) (LW q C x y ol fo) → va_S (fun z : Nat => s.heap.size ≤ z) s.heap H locs → W p l e room_1 s m #[Value.ref b] below meth c H locs (100 + i + 1) (8000 + 6 * i + 6) Q (F0 m 758 ls [])) : W p l e room_1 s m #[Value.ref b] below meth c H locs (100 + i) (8000 + 6 * i) Q (F0 m 209 ls []) := by
  have hx := E.hx
  have hb := E.hb
  have hL := E.hL
  have hf : 100 + i ≤ room_1.cells ∧ 8000 + 6 * i ≤ room_1.slots := ⟨by show 100 + i ≤ 601024; omega, by show 8000 + 6 * i ≤ 7293034; omega⟩
  refine lv_aload_n hx hb dL_law_209 rfl (lv_at hl 1 rfl) ?_
  refine lv_aload_n hx hb dL_law_210 rfl (lv_at hl 0 rfl) ?_
  refine lv_iload hx hb dL_law_211 (lv_at hl 4 rfl) ?_
  refine lv_iconst (v := iI 1) hx hb dL_law_213 rfl ?_
  refine j_iadd hx hb dL_law_214 ?_
  refine j_sld hx hb E.hX E.hbl hS hL ⟨by omega, by omega⟩ dL_law_215 ?_
  refine LC_call (As := [.int (iI (sx xs ((i : Int) + 1)))]) (rest := []) E (LC_F (fun u : Int => u) (fun _ => x.bs) (c_X6_end I.lr (sx_R _ _))) (cwV 1 E.hts (gok gL_law_X6_end (by decide +kernel)) rfl rfl rfl (by decide +kernel) ⟨Nat.le_of_ble_eq_true rfl, Nat.le_of_ble_eq_true rfl⟩) rfl rfl hP hD hS rfl hl.1 rfl (Nat.le_of_ble_eq_true rfl) dL_law_216 hf (fun r1 x1 y1 H locs hw1 hP hD hS => ?_)
  obtain ⟨ey, u, hx1, hw1⟩ := hw1
  subst y1
  refine lv_aload_n hx hb dL_law_219 rfl (lv_at hl 2 rfl) ?_
  refine lv_aload_n hx hb dL_law_220 rfl (lv_at hl 0 rfl) ?_
  refine lv_iload hx hb dL_law_221 (lv_at hl 4 rfl) ?_
  refine lv_iconst (v := iI 1) hx hb dL_law_223 rfl ?_
  refine j_iadd hx hb dL_law_224 ?_
  refine j_sld hx hb E.hX E.hbl hS hL ⟨by omega, by omega⟩ dL_law_225 ?_
  refine LC_call (As := [.int (iI (sx xs ((i : Int) + 1)))]) (rest := [.int r1]) E (LC_M (y := y) (fun v : Int => ((0, v, y.fa, y.sm, y.tape, y.now, y.snaps, y.wo, y.sc, y.sa) : MS)) (c_X7_end (sx_R _ _) (by rw [← I.len]; exact I.lr))) (cwV 1 E.hts (gok gL_law_X7_end (by decide +kernel)) rfl rfl rfl (by decide +kernel) ⟨Nat.le_of_ble_eq_true rfl, Nat.le_of_ble_eq_true rfl⟩) rfl rfl hP hD hS rfl hl.1 rfl (Nat.le_of_ble_eq_true rfl) dL_law_226 hf (fun r x2 y2 H locs hw hP hD hS => ?_)
  obtain ⟨ex, v, hy, hw⟩ := hw
  subst x2
  refine lv_icmp_eq (tgt := 758) hx hb dL_law_229 (by decide) (fun _ => ?_) (fun c9 => absurd ?_ c9)
  · refine W.widen (k := 100 + i + 1) (n := 8000 + 6 * i + 6) (by omega) (by omega) ?_
    exact kk _ _ fo H locs ls (by rw [hx1, hy]; exact INV_end I hw1.2 hw.2) hl hP hD hS
  · rw [hw.1, hw1.1, I.len]
set_option maxHeartbeats 4000000 in
set_option maxRecDepth 100000 in
theorem lc_fault {p : Program} {l : Launch} {e : Env} {s : State} {m : MethodId} {below : List Frame} {meth : Method} {c : Code} {Q : State → Prop} {D : va_G} {C : Nat → ClassId} {K V SA : Nat → Nat} {b L : Nat} {xs : Nat → Int32} (E : LE p l s m c D C K V SA b L xs) {q : Nat → Nat} {ol i : Nat} (hi : i + 6 ≤ L) {x : CS} {y : MS} {fo : Nat → Int64} {H : Heap} {locs : List Loc} {ls : Array Slot} (I : INV q C x y) (hl : lv_has ls 7 [(0, .ref b), (1, .ref (q 0)), (2, .ref (q 36)), (3, .ref ol), (4, .int (iI (i : Int)))]) (hP : va_P D vwCl (LW q C x y ol fo) H) (hD : va_D (fun z : Nat => s.heap.size ≤ z) (LW q C x y ol fo)) (hS : va_S (fun z : Nat => s.heap.size ≤ z) s.heap H locs) (kk : ∀ (x : CS) (y : MS) (fo : Nat → Int64) (H : Heap) (locs : List Loc) (ls : Array Slot), INV q C x y → lv_has ls 7 [(0, .ref b), (1, .ref (q 0)), (2, .ref (q 36)), (3, .ref ol), (4, .int (iI (i : Int)))] → va_P D vwCl (LW q C x y ol fo) H → va_D (fun z : Nat => s.heap.size ≤ z) (LW q C x y ol fo) → va_S (fun z : Nat => s.heap.size ≤ z) s.heap H locs → W p l e room_1 s m #[Value.ref b] below meth c H locs (100 + i + 1) (8000 + 6 * i + 6) Q (F0 m 758 ls [])) : W p l e room_1 s m #[Value.ref b] below meth c H locs (100 + i) (8000 + 6 * i) Q (F0 m 247 ls []) := by
  have hx := E.hx
  have hb := E.hb
  have hL := E.hL
  have hf : 100 + i ≤ room_1.cells ∧ 8000 + 6 * i ≤ room_1.slots := ⟨by show 100 + i ≤ 601024; omega, by show 8000 + 6 * i ≤ 7293034; omega⟩
  refine lv_aload_n hx hb dL_law_247 rfl (lv_at hl 1 rfl) ?_
  refine LR_call (As := []) (rest := []) E I (c_X6_fault (BsR_LW I) I.wf ) (cwV 0 E.hts (gok gL_law_X6_fault (by decide +kernel)) rfl rfl rfl (by decide +kernel) ⟨Nat.le_of_ble_eq_true rfl, Nat.le_of_ble_eq_true rfl⟩) hP rfl hl.1 rfl (Nat.le_of_ble_eq_true rfl) dL_law_248 hf ?_
  refine lv_aload_n hx hb dL_law_251 rfl (lv_at hl 2 rfl) ?_
  refine LC_call (As := []) (rest := [.int (iI (x.lf))]) E (LC_M (y := y) (fun _ : Unit => (((0, y.2)) : MS)) (c_X7_fault )) (cwV 0 E.hts (gok gL_law_X7_fault (by decide +kernel)) rfl rfl rfl (by decide +kernel) ⟨Nat.le_of_ble_eq_true rfl, Nat.le_of_ble_eq_true rfl⟩) rfl rfl hP hD hS rfl hl.1 rfl (Nat.le_of_ble_eq_true rfl) dL_law_252 hf (fun r x1 y1 H locs hw hP hD hS => ?_)
  obtain ⟨ex, u, hy, hw⟩ := hw
  subst x1
  refine lv_icmp_eq (tgt := 758) hx hb dL_law_255 (by decide) (fun _ => ?_) (fun c9 => absurd ?_ c9)
  · refine W.widen (k := 100 + i + 1) (n := 8000 + 6 * i + 6) (by omega) (by omega) ?_
    exact kk _ _ fo H locs ls (by rw [hy]; exact I.th0 0) hl hP hD hS
  · rw [hw, I.lf]
set_option maxHeartbeats 4000000 in
set_option maxRecDepth 100000 in
theorem lc_now {p : Program} {l : Launch} {e : Env} {s : State} {m : MethodId} {below : List Frame} {meth : Method} {c : Code} {Q : State → Prop} {D : va_G} {C : Nat → ClassId} {K V SA : Nat → Nat} {b L : Nat} {xs : Nat → Int32} (E : LE p l s m c D C K V SA b L xs) {q : Nat → Nat} {ol i : Nat} (hi : i + 6 ≤ L) {x : CS} {y : MS} {fo : Nat → Int64} {H : Heap} {locs : List Loc} {ls : Array Slot} (I : INV q C x y) (hl : lv_has ls 7 [(0, .ref b), (1, .ref (q 0)), (2, .ref (q 36)), (3, .ref ol), (4, .int (iI (i : Int)))]) (hP : va_P D vwCl (LW q C x y ol fo) H) (hD : va_D (fun z : Nat => s.heap.size ≤ z) (LW q C x y ol fo)) (hS : va_S (fun z : Nat => s.heap.size ≤ z) s.heap H locs) (kk : ∀ (x : CS) (y : MS) (fo : Nat → Int64) (H : Heap) (locs : List Loc) (ls : Array Slot), INV q C x y → lv_has ls 7 [(0, .ref b), (1, .ref (q 0)), (2, .ref (q 36)), (3, .ref ol), (4, .int (iI (i : Int)))] → va_P D vwCl (LW q C x y ol fo) H → va_D (fun z : Nat => s.heap.size ≤ z) (LW q C x y ol fo) → va_S (fun z : Nat => s.heap.size ≤ z) s.heap H locs → W p l e room_1 s m #[Value.ref b] below meth c H locs (100 + i + 1) (8000 + 6 * i + 6) Q (F0 m 758 ls [])) : W p l e room_1 s m #[Value.ref b] below meth c H locs (100 + i) (8000 + 6 * i) Q (F0 m 260 ls []) := by
  have hx := E.hx
  have hb := E.hb
  have hL := E.hL
  have hf : 100 + i ≤ room_1.cells ∧ 8000 + 6 * i ≤ room_1.slots := ⟨by show 100 + i ≤ 601024; omega, by show 8000 + 6 * i ≤ 7293034; omega⟩
  refine lv_aload_n hx hb dL_law_260 rfl (lv_at hl 1 rfl) ?_
  refine lv_aload_n hx hb dL_law_261 rfl (lv_at hl 0 rfl) ?_
  refine lv_iload hx hb dL_law_262 (lv_at hl 4 rfl) ?_
  refine lv_iconst (v := iI 1) hx hb dL_law_264 rfl ?_
  refine j_iadd hx hb dL_law_265 ?_
  refine j_sld hx hb E.hX E.hbl hS hL ⟨by omega, by omega⟩ dL_law_266 ?_
  refine LR_call (As := [.int (iI (sx xs ((i : Int) + 1)))]) (rest := []) E I (c_X6_now (BsR_LW I) I.wf (sx_R _ _)) (cwV 1 E.hts (gok gL_law_X6_now (by decide +kernel)) rfl rfl rfl (by decide +kernel) ⟨Nat.le_of_ble_eq_true rfl, Nat.le_of_ble_eq_true rfl⟩) hP rfl hl.1 rfl (Nat.le_of_ble_eq_true rfl) dL_law_267 hf ?_
  refine lv_aload_n hx hb dL_law_270 rfl (lv_at hl 2 rfl) ?_
  refine lv_aload_n hx hb dL_law_271 rfl (lv_at hl 0 rfl) ?_
  refine lv_iload hx hb dL_law_272 (lv_at hl 4 rfl) ?_
  refine lv_iconst (v := iI 1) hx hb dL_law_274 rfl ?_
  refine j_iadd hx hb dL_law_275 ?_
  refine j_sld hx hb E.hX E.hbl hS hL ⟨by omega, by omega⟩ dL_law_276 ?_
  refine LC_call (As := [.int (iI (sx xs ((i : Int) + 1)))]) (rest := [.int (iI (nowF y.now x.cn x.len (sx xs ((i : Int) + 1))))]) E (LC_M (y := y) (fun _ : Unit => (((0, y.2)) : MS)) (c_X7_now I.wf (sx_R _ _))) (cwV 1 E.hts (gok gL_law_X7_now (by decide +kernel)) rfl rfl rfl (by decide +kernel) ⟨Nat.le_of_ble_eq_true rfl, Nat.le_of_ble_eq_true rfl⟩) rfl rfl hP hD hS rfl hl.1 rfl (Nat.le_of_ble_eq_true rfl) dL_law_277 hf (fun r x1 y1 H locs hw hP hD hS => ?_)
  obtain ⟨ex, u, hy, hw⟩ := hw
  subst x1
  refine lv_icmp_eq (tgt := 758) hx hb dL_law_280 (by decide) (fun _ => ?_) (fun c9 => absurd ?_ c9)
  · refine W.widen (k := 100 + i + 1) (n := 8000 + 6 * i + 6) (by omega) (by omega) ?_
    exact kk _ _ fo H locs ls (by rw [hy]; exact I.th0 0) hl hP hD hS
  · rw [hw, I.cn, I.len]
set_option maxHeartbeats 4000000 in
set_option maxRecDepth 100000 in
theorem lc_slot {p : Program} {l : Launch} {e : Env} {s : State} {m : MethodId} {below : List Frame} {meth : Method} {c : Code} {Q : State → Prop} {D : va_G} {C : Nat → ClassId} {K V SA : Nat → Nat} {b L : Nat} {xs : Nat → Int32} (E : LE p l s m c D C K V SA b L xs) {q : Nat → Nat} {ol i : Nat} (hi : i + 6 ≤ L) {x : CS} {y : MS} {fo : Nat → Int64} {H : Heap} {locs : List Loc} {ls : Array Slot} (I : INV q C x y) (hl : lv_has ls 7 [(0, .ref b), (1, .ref (q 0)), (2, .ref (q 36)), (3, .ref ol), (4, .int (iI (i : Int)))]) (hP : va_P D vwCl (LW q C x y ol fo) H) (hD : va_D (fun z : Nat => s.heap.size ≤ z) (LW q C x y ol fo)) (hS : va_S (fun z : Nat => s.heap.size ≤ z) s.heap H locs) (kk : ∀ (x : CS) (y : MS) (fo : Nat → Int64) (H : Heap) (locs : List Loc) (ls : Array Slot), INV q C x y → lv_has ls 7 [(0, .ref b), (1, .ref (q 0)), (2, .ref (q 36)), (3, .ref ol), (4, .int (iI (i : Int)))] → va_P D vwCl (LW q C x y ol fo) H → va_D (fun z : Nat => s.heap.size ≤ z) (LW q C x y ol fo) → va_S (fun z : Nat => s.heap.size ≤ z) s.heap H locs → W p l e room_1 s m #[Value.ref b] below meth c H locs (100 + i + 1) (8000 + 6 * i + 6) Q (F0 m 758 ls [])) : W p l e room_1 s m #[Value.ref b] below meth c H locs (100 + i) (8000 + 6 * i) Q (F0 m 421 ls []) := by
  have hx := E.hx
  have hb := E.hb
  have hL := E.hL
  have hf : 100 + i ≤ room_1.cells ∧ 8000 + 6 * i ≤ room_1.slots := ⟨by show 100 + i ≤ 601024; omega, by show 8000 + 6 * i ≤ 7293034; omega⟩
  refine lv_aload_n hx hb dL_law_421 rfl (lv_at hl 1 rfl) ?_
  refine lv_aload_n hx hb dL_law_422 rfl (lv_at hl 0 rfl) ?_
  refine lv_iload hx hb dL_law_423 (lv_at hl 4 rfl) ?_
  refine lv_iconst (v := iI 1) hx hb dL_law_425 rfl ?_
  refine j_iadd hx hb dL_law_426 ?_
  refine j_sld hx hb E.hX E.hbl hS hL ⟨by omega, by omega⟩ dL_law_427 ?_
  refine lv_aload_n hx hb dL_law_428 rfl (lv_at hl 0 rfl) ?_
  refine lv_iload hx hb dL_law_429 (lv_at hl 4 rfl) ?_
  refine lv_iconst (v := iI 2) hx hb dL_law_431 rfl ?_
  refine j_iadd hx hb dL_law_432 ?_
  refine j_sld hx hb E.hX E.hbl hS hL ⟨by omega, by omega⟩ dL_law_433 ?_
  refine lv_aload_n hx hb dL_law_434 rfl (lv_at hl 0 rfl) ?_
  refine lv_iload hx hb dL_law_435 (lv_at hl 4 rfl) ?_
  refine lv_iconst (v := iI 3) hx hb dL_law_437 rfl ?_
  refine j_iadd hx hb dL_law_438 ?_
  refine j_sld hx hb E.hX E.hbl hS hL ⟨by omega, by omega⟩ dL_law_439 ?_
  refine LR_call (As := [.int (iI (sx xs ((i : Int) + 1))), .int (iI (sx xs ((i : Int) + 2))), .int (iI (sx xs ((i : Int) + 3)))]) (rest := []) E I (c_X6_slot (BsR_LW I) I.wf (sx_R _ _) (sx_R _ _) (sx_R _ _)) (cwV 3 E.hts (gok gL_law_X6_slot (by decide +kernel)) rfl rfl rfl (by decide +kernel) ⟨Nat.le_of_ble_eq_true rfl, Nat.le_of_ble_eq_true rfl⟩) hP rfl hl.1 rfl (Nat.le_of_ble_eq_true rfl) dL_law_440 hf ?_
  refine lv_aload_n hx hb dL_law_443 rfl (lv_at hl 2 rfl) ?_
  refine lv_aload_n hx hb dL_law_444 rfl (lv_at hl 0 rfl) ?_
  refine lv_iload hx hb dL_law_445 (lv_at hl 4 rfl) ?_
  refine lv_iconst (v := iI 1) hx hb dL_law_447 rfl ?_
  refine j_iadd hx hb dL_law_448 ?_
  refine j_sld hx hb E.hX E.hbl hS hL ⟨by omega, by omega⟩ dL_law_449 ?_
  refine lv_aload_n hx hb dL_law_450 rfl (lv_at hl 0 rfl) ?_
  refine lv_iload hx hb dL_law_451 (lv_at hl 4 rfl) ?_
  refine lv_iconst (v := iI 2) hx hb dL_law_453 rfl ?_
  refine j_iadd hx hb dL_law_454 ?_
  refine j_sld hx hb E.hX E.hbl hS hL ⟨by omega, by omega⟩ dL_law_455 ?_
  refine lv_aload_n hx hb dL_law_456 rfl (lv_at hl 0 rfl) ?_
  refine lv_iload hx hb dL_law_457 (lv_at hl 4 rfl) ?_
  refine lv_iconst (v := iI 3) hx hb dL_law_459 rfl ?_
  refine j_iadd hx hb dL_law_460 ?_
  refine j_sld hx hb E.hX E.hbl hS hL ⟨by omega, by omega⟩ dL_law_461 ?_
  refine LC_call (As := [.int (iI (sx xs ((i : Int) + 1))), .int (iI (sx xs ((i : Int) + 2))), .int (iI (sx xs ((i : Int) + 3)))]) (rest := [.int (iI (slotF y.now (sx xs ((i : Int) + 1)) (sx xs ((i : Int) + 2)) (sx xs ((i : Int) + 3))))]) E (LC_M (y := y) (fun _ : Unit => (((0, y.2)) : MS)) (c_X7_slot I.wf (sx_R _ _) (sx_R _ _) (sx_R _ _))) (cwV 3 E.hts (gok gL_law_X7_slot (by decide +kernel)) rfl rfl rfl (by decide +kernel) ⟨Nat.le_of_ble_eq_true rfl, Nat.le_of_ble_eq_true rfl⟩) rfl rfl hP hD hS rfl hl.1 rfl (Nat.le_of_ble_eq_true rfl) dL_law_462 hf (fun r x1 y1 H locs hw hP hD hS => ?_)
  obtain ⟨ex, u, hy, hw⟩ := hw
  subst x1
  refine lv_icmp_eq (tgt := 758) hx hb dL_law_465 (by decide) (fun _ => ?_) (fun c9 => absurd ?_ c9)
  · refine W.widen (k := 100 + i + 1) (n := 8000 + 6 * i + 6) (by omega) (by omega) ?_
    exact kk _ _ fo H locs ls (by rw [hy]; exact I.th0 0) hl hP hD hS
  · rw [hw]
set_option maxHeartbeats 4000000 in
set_option maxRecDepth 100000 in
theorem lc_why {p : Program} {l : Launch} {e : Env} {s : State} {m : MethodId} {below : List Frame} {meth : Method} {c : Code} {Q : State → Prop} {D : va_G} {C : Nat → ClassId} {K V SA : Nat → Nat} {b L : Nat} {xs : Nat → Int32} (E : LE p l s m c D C K V SA b L xs) {q : Nat → Nat} {ol i : Nat} (hi : i + 6 ≤ L) {x : CS} {y : MS} {fo : Nat → Int64} {H : Heap} {locs : List Loc} {ls : Array Slot} (I : INV q C x y) (hl : lv_has ls 7 [(0, .ref b), (1, .ref (q 0)), (2, .ref (q 36)), (3, .ref ol), (4, .int (iI (i : Int)))]) (hP : va_P D vwCl (LW q C x y ol fo) H) (hD : va_D (fun z : Nat => s.heap.size ≤ z) (LW q C x y ol fo)) (hS : va_S (fun z : Nat => s.heap.size ≤ z) s.heap H locs) (kk : ∀ (x : CS) (y : MS) (fo : Nat → Int64) (H : Heap) (locs : List Loc) (ls : Array Slot), INV q C x y → lv_has ls 7 [(0, .ref b), (1, .ref (q 0)), (2, .ref (q 36)), (3, .ref ol), (4, .int (iI (i : Int)))] → va_P D vwCl (LW q C x y ol fo) H → va_D (fun z : Nat => s.heap.size ≤ z) (LW q C x y ol fo) → va_S (fun z : Nat => s.heap.size ≤ z) s.heap H locs → W p l e room_1 s m #[Value.ref b] below meth c H locs (100 + i + 1) (8000 + 6 * i + 6) Q (F0 m 758 ls [])) : W p l e room_1 s m #[Value.ref b] below meth c H locs (100 + i) (8000 + 6 * i) Q (F0 m 470 ls []) := by
  have hx := E.hx
  have hb := E.hb
  have hL := E.hL
  have hf : 100 + i ≤ room_1.cells ∧ 8000 + 6 * i ≤ room_1.slots := ⟨by show 100 + i ≤ 601024; omega, by show 8000 + 6 * i ≤ 7293034; omega⟩
  refine lv_aload_n hx hb dL_law_470 rfl (lv_at hl 1 rfl) ?_
  refine lv_aload_n hx hb dL_law_471 rfl (lv_at hl 0 rfl) ?_
  refine lv_iload hx hb dL_law_472 (lv_at hl 4 rfl) ?_
  refine lv_iconst (v := iI 1) hx hb dL_law_474 rfl ?_
  refine j_iadd hx hb dL_law_475 ?_
  refine j_sld hx hb E.hX E.hbl hS hL ⟨by omega, by omega⟩ dL_law_476 ?_
  refine lv_aload_n hx hb dL_law_477 rfl (lv_at hl 0 rfl) ?_
  refine lv_iload hx hb dL_law_478 (lv_at hl 4 rfl) ?_
  refine lv_iconst (v := iI 2) hx hb dL_law_480 rfl ?_
  refine j_iadd hx hb dL_law_481 ?_
  refine j_sld hx hb E.hX E.hbl hS hL ⟨by omega, by omega⟩ dL_law_482 ?_
  refine LR_call (As := [.int (iI (sx xs ((i : Int) + 1))), .int (iI (sx xs ((i : Int) + 2)))]) (rest := []) E I (c_X6_why (BsR_LW I) I.wf (sx_R _ _) (sx_R _ _)) (cwV 2 E.hts (gok gL_law_X6_why (by decide +kernel)) rfl rfl rfl (by decide +kernel) ⟨Nat.le_of_ble_eq_true rfl, Nat.le_of_ble_eq_true rfl⟩) hP rfl hl.1 rfl (Nat.le_of_ble_eq_true rfl) dL_law_483 hf ?_
  refine lv_aload_n hx hb dL_law_486 rfl (lv_at hl 2 rfl) ?_
  refine lv_aload_n hx hb dL_law_487 rfl (lv_at hl 0 rfl) ?_
  refine lv_iload hx hb dL_law_488 (lv_at hl 4 rfl) ?_
  refine lv_iconst (v := iI 1) hx hb dL_law_490 rfl ?_
  refine j_iadd hx hb dL_law_491 ?_
  refine j_sld hx hb E.hX E.hbl hS hL ⟨by omega, by omega⟩ dL_law_492 ?_
  refine lv_aload_n hx hb dL_law_493 rfl (lv_at hl 0 rfl) ?_
  refine lv_iload hx hb dL_law_494 (lv_at hl 4 rfl) ?_
  refine lv_iconst (v := iI 2) hx hb dL_law_496 rfl ?_
  refine j_iadd hx hb dL_law_497 ?_
  refine j_sld hx hb E.hX E.hbl hS hL ⟨by omega, by omega⟩ dL_law_498 ?_
  refine LC_call (As := [.int (iI (sx xs ((i : Int) + 1))), .int (iI (sx xs ((i : Int) + 2)))]) (rest := [.int (iI (whyF y.now (sx xs ((i : Int) + 1)) (sx xs ((i : Int) + 2))))]) E (LC_M (y := y) (fun _ : Unit => (((0, y.2)) : MS)) (c_X7_why I.wf (sx_R _ _) (sx_R _ _))) (cwV 2 E.hts (gok gL_law_X7_why (by decide +kernel)) rfl rfl rfl (by decide +kernel) ⟨Nat.le_of_ble_eq_true rfl, Nat.le_of_ble_eq_true rfl⟩) rfl rfl hP hD hS rfl hl.1 rfl (Nat.le_of_ble_eq_true rfl) dL_law_499 hf (fun r x1 y1 H locs hw hP hD hS => ?_)
  obtain ⟨ex, u, hy, hw⟩ := hw
  subst x1
  refine lv_icmp_eq (tgt := 758) hx hb dL_law_502 (by decide) (fun _ => ?_) (fun c9 => absurd ?_ c9)
  · refine W.widen (k := 100 + i + 1) (n := 8000 + 6 * i + 6) (by omega) (by omega) ?_
    exact kk _ _ fo H locs ls (by rw [hy]; exact I.th0 0) hl hP hD hS
  · rw [hw]
set_option maxHeartbeats 4000000 in
set_option maxRecDepth 100000 in
theorem lc_would {p : Program} {l : Launch} {e : Env} {s : State} {m : MethodId} {below : List Frame} {meth : Method} {c : Code} {Q : State → Prop} {D : va_G} {C : Nat → ClassId} {K V SA : Nat → Nat} {b L : Nat} {xs : Nat → Int32} (E : LE p l s m c D C K V SA b L xs) {q : Nat → Nat} {ol i : Nat} (hi : i + 6 ≤ L) {x : CS} {y : MS} {fo : Nat → Int64} {H : Heap} {locs : List Loc} {ls : Array Slot} (I : INV q C x y) (hl : lv_has ls 7 [(0, .ref b), (1, .ref (q 0)), (2, .ref (q 36)), (3, .ref ol), (4, .int (iI (i : Int)))]) (hP : va_P D vwCl (LW q C x y ol fo) H) (hD : va_D (fun z : Nat => s.heap.size ≤ z) (LW q C x y ol fo)) (hS : va_S (fun z : Nat => s.heap.size ≤ z) s.heap H locs) (kk : ∀ (x : CS) (y : MS) (fo : Nat → Int64) (H : Heap) (locs : List Loc) (ls : Array Slot), INV q C x y → lv_has ls 7 [(0, .ref b), (1, .ref (q 0)), (2, .ref (q 36)), (3, .ref ol), (4, .int (iI (i : Int)))] → va_P D vwCl (LW q C x y ol fo) H → va_D (fun z : Nat => s.heap.size ≤ z) (LW q C x y ol fo) → va_S (fun z : Nat => s.heap.size ≤ z) s.heap H locs → W p l e room_1 s m #[Value.ref b] below meth c H locs (100 + i + 1) (8000 + 6 * i + 6) Q (F0 m 758 ls [])) : W p l e room_1 s m #[Value.ref b] below meth c H locs (100 + i) (8000 + 6 * i) Q (F0 m 507 ls []) := by
  have hx := E.hx
  have hb := E.hb
  have hL := E.hL
  have hf : 100 + i ≤ room_1.cells ∧ 8000 + 6 * i ≤ room_1.slots := ⟨by show 100 + i ≤ 601024; omega, by show 8000 + 6 * i ≤ 7293034; omega⟩
  refine lv_aload_n hx hb dL_law_507 rfl (lv_at hl 1 rfl) ?_
  refine lv_aload_n hx hb dL_law_508 rfl (lv_at hl 0 rfl) ?_
  refine lv_iload hx hb dL_law_509 (lv_at hl 4 rfl) ?_
  refine lv_iconst (v := iI 1) hx hb dL_law_511 rfl ?_
  refine j_iadd hx hb dL_law_512 ?_
  refine j_sld hx hb E.hX E.hbl hS hL ⟨by omega, by omega⟩ dL_law_513 ?_
  refine lv_aload_n hx hb dL_law_514 rfl (lv_at hl 0 rfl) ?_
  refine lv_iload hx hb dL_law_515 (lv_at hl 4 rfl) ?_
  refine lv_iconst (v := iI 2) hx hb dL_law_517 rfl ?_
  refine j_iadd hx hb dL_law_518 ?_
  refine j_sld hx hb E.hX E.hbl hS hL ⟨by omega, by omega⟩ dL_law_519 ?_
  refine LR_call (As := [.int (iI (sx xs ((i : Int) + 1))), .int (iI (sx xs ((i : Int) + 2)))]) (rest := []) E I (c_X6_would (BsR_LW I) I.wf (sx_R _ _) (sx_R _ _)) (cwV 2 E.hts (gok gL_law_X6_would (by decide +kernel)) rfl rfl rfl (by decide +kernel) ⟨Nat.le_of_ble_eq_true rfl, Nat.le_of_ble_eq_true rfl⟩) hP rfl hl.1 rfl (Nat.le_of_ble_eq_true rfl) dL_law_520 hf ?_
  refine lv_aload_n hx hb dL_law_523 rfl (lv_at hl 2 rfl) ?_
  refine lv_aload_n hx hb dL_law_524 rfl (lv_at hl 0 rfl) ?_
  refine lv_iload hx hb dL_law_525 (lv_at hl 4 rfl) ?_
  refine lv_iconst (v := iI 1) hx hb dL_law_527 rfl ?_
  refine j_iadd hx hb dL_law_528 ?_
  refine j_sld hx hb E.hX E.hbl hS hL ⟨by omega, by omega⟩ dL_law_529 ?_
  refine lv_aload_n hx hb dL_law_530 rfl (lv_at hl 0 rfl) ?_
  refine lv_iload hx hb dL_law_531 (lv_at hl 4 rfl) ?_
  refine lv_iconst (v := iI 2) hx hb dL_law_533 rfl ?_
  refine j_iadd hx hb dL_law_534 ?_
  refine j_sld hx hb E.hX E.hbl hS hL ⟨by omega, by omega⟩ dL_law_535 ?_
  refine LC_call (As := [.int (iI (sx xs ((i : Int) + 1))), .int (iI (sx xs ((i : Int) + 2)))]) (rest := [.int (iI (wouldF y.now (sx xs ((i : Int) + 1)) (sx xs ((i : Int) + 2))))]) E (LC_M (y := y) (fun _ : Unit => (((0, y.2)) : MS)) (c_X7_would I.wf (sx_R _ _) (sx_R _ _))) (cwV 2 E.hts (gok gL_law_X7_would (by decide +kernel)) rfl rfl rfl (by decide +kernel) ⟨Nat.le_of_ble_eq_true rfl, Nat.le_of_ble_eq_true rfl⟩) rfl rfl hP hD hS rfl hl.1 rfl (Nat.le_of_ble_eq_true rfl) dL_law_536 hf (fun r x1 y1 H locs hw hP hD hS => ?_)
  obtain ⟨ex, u, hy, hw⟩ := hw
  subst x1
  refine lv_icmp_eq (tgt := 758) hx hb dL_law_539 (by decide) (fun _ => ?_) (fun c9 => absurd ?_ c9)
  · refine W.widen (k := 100 + i + 1) (n := 8000 + 6 * i + 6) (by omega) (by omega) ?_
    exact kk _ _ fo H locs ls (by rw [hy]; exact I.th0 0) hl hP hD hS
  · rw [hw]
set_option maxHeartbeats 4000000 in
set_option maxRecDepth 100000 in
theorem lc_best {p : Program} {l : Launch} {e : Env} {s : State} {m : MethodId} {below : List Frame} {meth : Method} {c : Code} {Q : State → Prop} {D : va_G} {C : Nat → ClassId} {K V SA : Nat → Nat} {b L : Nat} {xs : Nat → Int32} (E : LE p l s m c D C K V SA b L xs) {q : Nat → Nat} {ol i : Nat} (hi : i + 6 ≤ L) {x : CS} {y : MS} {fo : Nat → Int64} {H : Heap} {locs : List Loc} {ls : Array Slot} (I : INV q C x y) (hl : lv_has ls 7 [(0, .ref b), (1, .ref (q 0)), (2, .ref (q 36)), (3, .ref ol), (4, .int (iI (i : Int)))]) (hP : va_P D vwCl (LW q C x y ol fo) H) (hD : va_D (fun z : Nat => s.heap.size ≤ z) (LW q C x y ol fo)) (hS : va_S (fun z : Nat => s.heap.size ≤ z) s.heap H locs) (kk : ∀ (x : CS) (y : MS) (fo : Nat → Int64) (H : Heap) (locs : List Loc) (ls : Array Slot), INV q C x y → lv_has ls 7 [(0, .ref b), (1, .ref (q 0)), (2, .ref (q 36)), (3, .ref ol), (4, .int (iI (i : Int)))] → va_P D vwCl (LW q C x y ol fo) H → va_D (fun z : Nat => s.heap.size ≤ z) (LW q C x y ol fo) → va_S (fun z : Nat => s.heap.size ≤ z) s.heap H locs → W p l e room_1 s m #[Value.ref b] below meth c H locs (100 + i + 1) (8000 + 6 * i + 6) Q (F0 m 758 ls [])) : W p l e room_1 s m #[Value.ref b] below meth c H locs (100 + i) (8000 + 6 * i) Q (F0 m 544 ls []) := by
  have hx := E.hx
  have hb := E.hb
  have hL := E.hL
  have hf : 100 + i ≤ room_1.cells ∧ 8000 + 6 * i ≤ room_1.slots := ⟨by show 100 + i ≤ 601024; omega, by show 8000 + 6 * i ≤ 7293034; omega⟩
  refine lv_aload_n hx hb dL_law_544 rfl (lv_at hl 1 rfl) ?_
  refine lv_aload_n hx hb dL_law_545 rfl (lv_at hl 0 rfl) ?_
  refine lv_iload hx hb dL_law_546 (lv_at hl 4 rfl) ?_
  refine lv_iconst (v := iI 1) hx hb dL_law_548 rfl ?_
  refine j_iadd hx hb dL_law_549 ?_
  refine j_sld hx hb E.hX E.hbl hS hL ⟨by omega, by omega⟩ dL_law_550 ?_
  refine LR_call (As := [.int (iI (sx xs ((i : Int) + 1)))]) (rest := []) E I (c_X6_best (BsR_LW I) I.wf (sx_R _ _)) (cwV 1 E.hts (gok gL_law_X6_best (by decide +kernel)) rfl rfl rfl (by decide +kernel) ⟨Nat.le_of_ble_eq_true rfl, Nat.le_of_ble_eq_true rfl⟩) hP rfl hl.1 rfl (Nat.le_of_ble_eq_true rfl) dL_law_551 hf ?_
  refine lv_aload_n hx hb dL_law_554 rfl (lv_at hl 2 rfl) ?_
  refine lv_aload_n hx hb dL_law_555 rfl (lv_at hl 0 rfl) ?_
  refine lv_iload hx hb dL_law_556 (lv_at hl 4 rfl) ?_
  refine lv_iconst (v := iI 1) hx hb dL_law_558 rfl ?_
  refine j_iadd hx hb dL_law_559 ?_
  refine j_sld hx hb E.hX E.hbl hS hL ⟨by omega, by omega⟩ dL_law_560 ?_
  refine LC_call (As := [.int (iI (sx xs ((i : Int) + 1)))]) (rest := [.int (iI (bestF y.now (sx xs ((i : Int) + 1))))]) E (LC_M (y := y) (fun _ : Unit => (((0, y.2)) : MS)) (c_X7_best I.wf (sx_R _ _))) (cwV 1 E.hts (gok gL_law_X7_best (by decide +kernel)) rfl rfl rfl (by decide +kernel) ⟨Nat.le_of_ble_eq_true rfl, Nat.le_of_ble_eq_true rfl⟩) rfl rfl hP hD hS rfl hl.1 rfl (Nat.le_of_ble_eq_true rfl) dL_law_561 hf (fun r x1 y1 H locs hw hP hD hS => ?_)
  obtain ⟨ex, u, hy, hw⟩ := hw
  subst x1
  refine lv_icmp_eq (tgt := 758) hx hb dL_law_564 (by decide) (fun _ => ?_) (fun c9 => absurd ?_ c9)
  · refine W.widen (k := 100 + i + 1) (n := 8000 + 6 * i + 6) (by omega) (by omega) ?_
    exact kk _ _ fo H locs ls (by rw [hy]; exact I.th0 0) hl hP hD hS
  · rw [hw]
set_option maxHeartbeats 4000000 in
set_option maxRecDepth 100000 in
theorem lc_better {p : Program} {l : Launch} {e : Env} {s : State} {m : MethodId} {below : List Frame} {meth : Method} {c : Code} {Q : State → Prop} {D : va_G} {C : Nat → ClassId} {K V SA : Nat → Nat} {b L : Nat} {xs : Nat → Int32} (E : LE p l s m c D C K V SA b L xs) {q : Nat → Nat} {ol i : Nat} (hi : i + 6 ≤ L) {x : CS} {y : MS} {fo : Nat → Int64} {H : Heap} {locs : List Loc} {ls : Array Slot} (I : INV q C x y) (hl : lv_has ls 7 [(0, .ref b), (1, .ref (q 0)), (2, .ref (q 36)), (3, .ref ol), (4, .int (iI (i : Int)))]) (hP : va_P D vwCl (LW q C x y ol fo) H) (hD : va_D (fun z : Nat => s.heap.size ≤ z) (LW q C x y ol fo)) (hS : va_S (fun z : Nat => s.heap.size ≤ z) s.heap H locs) (kk : ∀ (x : CS) (y : MS) (fo : Nat → Int64) (H : Heap) (locs : List Loc) (ls : Array Slot), INV q C x y → lv_has ls 7 [(0, .ref b), (1, .ref (q 0)), (2, .ref (q 36)), (3, .ref ol), (4, .int (iI (i : Int)))] → va_P D vwCl (LW q C x y ol fo) H → va_D (fun z : Nat => s.heap.size ≤ z) (LW q C x y ol fo) → va_S (fun z : Nat => s.heap.size ≤ z) s.heap H locs → W p l e room_1 s m #[Value.ref b] below meth c H locs (100 + i + 1) (8000 + 6 * i + 6) Q (F0 m 758 ls [])) : W p l e room_1 s m #[Value.ref b] below meth c H locs (100 + i) (8000 + 6 * i) Q (F0 m 569 ls []) := by
  have hx := E.hx
  have hb := E.hb
  have hL := E.hL
  have hf : 100 + i ≤ room_1.cells ∧ 8000 + 6 * i ≤ room_1.slots := ⟨by show 100 + i ≤ 601024; omega, by show 8000 + 6 * i ≤ 7293034; omega⟩
  refine lv_aload_n hx hb dL_law_569 rfl (lv_at hl 1 rfl) ?_
  refine LR_call (As := []) (rest := []) E I (c_X6_better (BsR_LW I) I.wf ) (cwV 0 E.hts (gok gL_law_X6_better (by decide +kernel)) rfl rfl rfl (by decide +kernel) ⟨Nat.le_of_ble_eq_true rfl, Nat.le_of_ble_eq_true rfl⟩) hP rfl hl.1 rfl (Nat.le_of_ble_eq_true rfl) dL_law_570 hf ?_
  refine lv_aload_n hx hb dL_law_573 rfl (lv_at hl 2 rfl) ?_
  refine LC_call (As := []) (rest := [.int (iI (betterOf y.now))]) E (LC_M (y := y) (fun _ : Unit => (((0, y.2)) : MS)) (c_X7_better I.wf )) (cwV 0 E.hts (gok gL_law_X7_better (by decide +kernel)) rfl rfl rfl (by decide +kernel) ⟨Nat.le_of_ble_eq_true rfl, Nat.le_of_ble_eq_true rfl⟩) rfl rfl hP hD hS rfl hl.1 rfl (Nat.le_of_ble_eq_true rfl) dL_law_574 hf (fun r x1 y1 H locs hw hP hD hS => ?_)
  obtain ⟨ex, u, hy, hw⟩ := hw
  subst x1
  refine lv_icmp_eq (tgt := 758) hx hb dL_law_577 (by decide) (fun _ => ?_) (fun c9 => absurd ?_ c9)
  · refine W.widen (k := 100 + i + 1) (n := 8000 + 6 * i + 6) (by omega) (by omega) ?_
    exact kk _ _ fo H locs ls (by rw [hy]; exact I.th0 0) hl hP hD hS
  · rw [hw]
set_option maxHeartbeats 4000000 in
set_option maxRecDepth 100000 in
theorem lc_least {p : Program} {l : Launch} {e : Env} {s : State} {m : MethodId} {below : List Frame} {meth : Method} {c : Code} {Q : State → Prop} {D : va_G} {C : Nat → ClassId} {K V SA : Nat → Nat} {b L : Nat} {xs : Nat → Int32} (E : LE p l s m c D C K V SA b L xs) {q : Nat → Nat} {ol i : Nat} (hi : i + 6 ≤ L) {x : CS} {y : MS} {fo : Nat → Int64} {H : Heap} {locs : List Loc} {ls : Array Slot} (I : INV q C x y) (hl : lv_has ls 7 [(0, .ref b), (1, .ref (q 0)), (2, .ref (q 36)), (3, .ref ol), (4, .int (iI (i : Int)))]) (hP : va_P D vwCl (LW q C x y ol fo) H) (hD : va_D (fun z : Nat => s.heap.size ≤ z) (LW q C x y ol fo)) (hS : va_S (fun z : Nat => s.heap.size ≤ z) s.heap H locs) (kk : ∀ (x : CS) (y : MS) (fo : Nat → Int64) (H : Heap) (locs : List Loc) (ls : Array Slot), INV q C x y → lv_has ls 7 [(0, .ref b), (1, .ref (q 0)), (2, .ref (q 36)), (3, .ref ol), (4, .int (iI (i : Int)))] → va_P D vwCl (LW q C x y ol fo) H → va_D (fun z : Nat => s.heap.size ≤ z) (LW q C x y ol fo) → va_S (fun z : Nat => s.heap.size ≤ z) s.heap H locs → W p l e room_1 s m #[Value.ref b] below meth c H locs (100 + i + 1) (8000 + 6 * i + 6) Q (F0 m 758 ls [])) : W p l e room_1 s m #[Value.ref b] below meth c H locs (100 + i) (8000 + 6 * i) Q (F0 m 582 ls []) := by
  have hx := E.hx
  have hb := E.hb
  have hL := E.hL
  have hf : 100 + i ≤ room_1.cells ∧ 8000 + 6 * i ≤ room_1.slots := ⟨by show 100 + i ≤ 601024; omega, by show 8000 + 6 * i ≤ 7293034; omega⟩
  refine lv_aload_n hx hb dL_law_582 rfl (lv_at hl 1 rfl) ?_
  refine lv_aload_n hx hb dL_law_583 rfl (lv_at hl 0 rfl) ?_
  refine lv_iload hx hb dL_law_584 (lv_at hl 4 rfl) ?_
  refine lv_iconst (v := iI 1) hx hb dL_law_586 rfl ?_
  refine j_iadd hx hb dL_law_587 ?_
  refine j_sld hx hb E.hX E.hbl hS hL ⟨by omega, by omega⟩ dL_law_588 ?_
  refine LR_call (As := [.int (iI (sx xs ((i : Int) + 1)))]) (rest := []) E I (c_X6_least (BsR_LW I) I.wf (sx_R _ _)) (cwV 1 E.hts (gok gL_law_X6_least (by decide +kernel)) rfl rfl rfl (by decide +kernel) ⟨Nat.le_of_ble_eq_true rfl, Nat.le_of_ble_eq_true rfl⟩) hP rfl hl.1 rfl (Nat.le_of_ble_eq_true rfl) dL_law_589 hf ?_
  refine lv_aload_n hx hb dL_law_592 rfl (lv_at hl 2 rfl) ?_
  refine lv_aload_n hx hb dL_law_593 rfl (lv_at hl 0 rfl) ?_
  refine lv_iload hx hb dL_law_594 (lv_at hl 4 rfl) ?_
  refine lv_iconst (v := iI 1) hx hb dL_law_596 rfl ?_
  refine j_iadd hx hb dL_law_597 ?_
  refine j_sld hx hb E.hX E.hbl hS hL ⟨by omega, by omega⟩ dL_law_598 ?_
  refine LC_call (As := [.int (iI (sx xs ((i : Int) + 1)))]) (rest := [.int (iI (leastF y.now (sx xs ((i : Int) + 1))))]) E (LC_M (y := y) (fun v : (Int → Int) × (Int → Int) × (Int → Int) × (Int → Int) => ((0, y.ta, y.fa, y.sm, y.tape, y.now, y.snaps, y.wo, y.sc, saG y.sa v.1 v.2.1 v.2.2.1 v.2.2.2) : MS)) (by have h9 := c_X7_least (l := l) (D := D) (C := C) (q := q) (th := y.th) (ta := y.ta) (fa := y.fa) (sm := y.sm) (tape := y.tape) (snaps := y.snaps) (wo := y.wo) (sc := y.sc) (sa := y.sa) (sp := y.sa 1) (tk := y.sa 2) (so := y.sa 3) (sn := y.sa 4) I.wf (sx_R xs ((i : Int) + 1)); rw [saG_self] at h9; exact h9)) (cwV 1 E.hts (gok gL_law_X7_least (by decide +kernel)) rfl rfl rfl (by decide +kernel) ⟨Nat.le_of_ble_eq_true rfl, Nat.le_of_ble_eq_true rfl⟩) rfl rfl hP hD hS rfl hl.1 rfl (Nat.le_of_ble_eq_true rfl) dL_law_599 hf (fun r x1 y1 H locs hw hP hD hS => ?_)
  obtain ⟨ex, u, hy, hw⟩ := hw
  subst x1
  refine lv_icmp_eq (tgt := 758) hx hb dL_law_602 (by decide) (fun _ => ?_) (fun c9 => absurd ?_ c9)
  · refine W.widen (k := 100 + i + 1) (n := 8000 + 6 * i + 6) (by omega) (by omega) ?_
    exact kk _ _ fo H locs ls (by rw [hy]; exact I.ths 0 _) hl hP hD hS
  · rw [hw]
set_option maxHeartbeats 4000000 in
set_option maxRecDepth 100000 in
theorem lc_relief {p : Program} {l : Launch} {e : Env} {s : State} {m : MethodId} {below : List Frame} {meth : Method} {c : Code} {Q : State → Prop} {D : va_G} {C : Nat → ClassId} {K V SA : Nat → Nat} {b L : Nat} {xs : Nat → Int32} (E : LE p l s m c D C K V SA b L xs) {q : Nat → Nat} {ol i : Nat} (hi : i + 6 ≤ L) {x : CS} {y : MS} {fo : Nat → Int64} {H : Heap} {locs : List Loc} {ls : Array Slot} (I : INV q C x y) (hl : lv_has ls 7 [(0, .ref b), (1, .ref (q 0)), (2, .ref (q 36)), (3, .ref ol), (4, .int (iI (i : Int)))]) (hP : va_P D vwCl (LW q C x y ol fo) H) (hD : va_D (fun z : Nat => s.heap.size ≤ z) (LW q C x y ol fo)) (hS : va_S (fun z : Nat => s.heap.size ≤ z) s.heap H locs) (kk : ∀ (x : CS) (y : MS) (fo : Nat → Int64) (H : Heap) (locs : List Loc) (ls : Array Slot), INV q C x y → lv_has ls 7 [(0, .ref b), (1, .ref (q 0)), (2, .ref (q 36)), (3, .ref ol), (4, .int (iI (i : Int)))] → va_P D vwCl (LW q C x y ol fo) H → va_D (fun z : Nat => s.heap.size ≤ z) (LW q C x y ol fo) → va_S (fun z : Nat => s.heap.size ≤ z) s.heap H locs → W p l e room_1 s m #[Value.ref b] below meth c H locs (100 + i + 1) (8000 + 6 * i + 6) Q (F0 m 758 ls [])) : W p l e room_1 s m #[Value.ref b] below meth c H locs (100 + i) (8000 + 6 * i) Q (F0 m 607 ls []) := by
  have hx := E.hx
  have hb := E.hb
  have hL := E.hL
  have hf : 100 + i ≤ room_1.cells ∧ 8000 + 6 * i ≤ room_1.slots := ⟨by show 100 + i ≤ 601024; omega, by show 8000 + 6 * i ≤ 7293034; omega⟩
  refine lv_aload_n hx hb dL_law_607 rfl (lv_at hl 1 rfl) ?_
  refine lv_aload_n hx hb dL_law_608 rfl (lv_at hl 0 rfl) ?_
  refine lv_iload hx hb dL_law_609 (lv_at hl 4 rfl) ?_
  refine lv_iconst (v := iI 1) hx hb dL_law_611 rfl ?_
  refine j_iadd hx hb dL_law_612 ?_
  refine j_sld hx hb E.hX E.hbl hS hL ⟨by omega, by omega⟩ dL_law_613 ?_
  refine lv_aload_n hx hb dL_law_614 rfl (lv_at hl 0 rfl) ?_
  refine lv_iload hx hb dL_law_615 (lv_at hl 4 rfl) ?_
  refine lv_iconst (v := iI 2) hx hb dL_law_617 rfl ?_
  refine j_iadd hx hb dL_law_618 ?_
  refine j_sld hx hb E.hX E.hbl hS hL ⟨by omega, by omega⟩ dL_law_619 ?_
  refine LC_call (As := [.int (iI (sx xs ((i : Int) + 1))), .int (iI (sx xs ((i : Int) + 2)))]) (rest := []) E (LC_R (fun u : (Int → Int) × (Int → Int) => u.1) (fun u => u.2) (c_X6_relief (RoW_LRR I) I.wf (sx_R _ _) (sx_R _ _))) (cwV 2 E.hts (gok gL_law_X6_relief (by decide +kernel)) rfl rfl rfl (by decide +kernel) ⟨Nat.le_of_ble_eq_true rfl, Nat.le_of_ble_eq_true rfl⟩) rfl rfl hP hD hS rfl hl.1 rfl (Nat.le_of_ble_eq_true rfl) dL_law_620 hf (fun r1 x1 y1 H locs hw1 hP hD hS => ?_)
  obtain ⟨ey, u, hx1, hw1⟩ := hw1
  subst y1
  refine lv_aload_n hx hb dL_law_623 rfl (lv_at hl 2 rfl) ?_
  refine lv_aload_n hx hb dL_law_624 rfl (lv_at hl 0 rfl) ?_
  refine lv_iload hx hb dL_law_625 (lv_at hl 4 rfl) ?_
  refine lv_iconst (v := iI 1) hx hb dL_law_627 rfl ?_
  refine j_iadd hx hb dL_law_628 ?_
  refine j_sld hx hb E.hX E.hbl hS hL ⟨by omega, by omega⟩ dL_law_629 ?_
  refine lv_aload_n hx hb dL_law_630 rfl (lv_at hl 0 rfl) ?_
  refine lv_iload hx hb dL_law_631 (lv_at hl 4 rfl) ?_
  refine lv_iconst (v := iI 2) hx hb dL_law_633 rfl ?_
  refine j_iadd hx hb dL_law_634 ?_
  refine j_sld hx hb E.hX E.hbl hS hL ⟨by omega, by omega⟩ dL_law_635 ?_
  refine LC_call (As := [.int (iI (sx xs ((i : Int) + 1))), .int (iI (sx xs ((i : Int) + 2)))]) (rest := [.int r1]) E (LC_M (y := y) (fun v : Int → Int => ((0, y.ta, y.fa, y.sm, y.tape, y.now, y.snaps, y.wo, y.sc, sa5 y.sa v) : MS)) (by have h9 := c_X7_relief (l := l) (D := D) (C := C) (q := q) (th := y.th) (ta := y.ta) (fa := y.fa) (sm := y.sm) (tape := y.tape) (snaps := y.snaps) (wo := y.wo) (sc := y.sc) (sa := y.sa) (hq := y.sa 5) I.wf (sx_R xs ((i : Int) + 1)) (sx_R xs ((i : Int) + 2)); rw [sa5_self] at h9; exact h9)) (cwV 2 E.hts (gok gL_law_X7_relief (by decide +kernel)) rfl rfl rfl (by decide +kernel) ⟨Nat.le_of_ble_eq_true rfl, Nat.le_of_ble_eq_true rfl⟩) rfl rfl hP hD hS rfl hl.1 rfl (Nat.le_of_ble_eq_true rfl) dL_law_636 hf (fun r x2 y2 H locs hw hP hD hS => ?_)
  obtain ⟨ex, v, hy, hw⟩ := hw
  subst x2
  refine lv_icmp_eq (tgt := 758) hx hb dL_law_639 (by decide) (fun _ => ?_) (fun c9 => absurd ?_ c9)
  · refine W.widen (k := 100 + i + 1) (n := 8000 + 6 * i + 6) (by omega) (by omega) ?_
    exact kk _ _ fo H locs ls (by rw [hx1, hy]; exact (I.wk u.1 u.2).ths 0 _) hl hP hD hS
  · rw [hw, hw1]
set_option maxHeartbeats 4000000 in
set_option maxRecDepth 100000 in
theorem lc_worst {p : Program} {l : Launch} {e : Env} {s : State} {m : MethodId} {below : List Frame} {meth : Method} {c : Code} {Q : State → Prop} {D : va_G} {C : Nat → ClassId} {K V SA : Nat → Nat} {b L : Nat} {xs : Nat → Int32} (E : LE p l s m c D C K V SA b L xs) {q : Nat → Nat} {ol i : Nat} (hi : i + 6 ≤ L) {x : CS} {y : MS} {fo : Nat → Int64} {H : Heap} {locs : List Loc} {ls : Array Slot} (I : INV q C x y) (hl : lv_has ls 7 [(0, .ref b), (1, .ref (q 0)), (2, .ref (q 36)), (3, .ref ol), (4, .int (iI (i : Int)))]) (hP : va_P D vwCl (LW q C x y ol fo) H) (hD : va_D (fun z : Nat => s.heap.size ≤ z) (LW q C x y ol fo)) (hS : va_S (fun z : Nat => s.heap.size ≤ z) s.heap H locs) (kk : ∀ (x : CS) (y : MS) (fo : Nat → Int64) (H : Heap) (locs : List Loc) (ls : Array Slot), INV q C x y → lv_has ls 7 [(0, .ref b), (1, .ref (q 0)), (2, .ref (q 36)), (3, .ref ol), (4, .int (iI (i : Int)))] → va_P D vwCl (LW q C x y ol fo) H → va_D (fun z : Nat => s.heap.size ≤ z) (LW q C x y ol fo) → va_S (fun z : Nat => s.heap.size ≤ z) s.heap H locs → W p l e room_1 s m #[Value.ref b] below meth c H locs (100 + i + 1) (8000 + 6 * i + 6) Q (F0 m 758 ls [])) : W p l e room_1 s m #[Value.ref b] below meth c H locs (100 + i) (8000 + 6 * i) Q (F0 m 644 ls []) := by
  have hx := E.hx
  have hb := E.hb
  have hL := E.hL
  have hf : 100 + i ≤ room_1.cells ∧ 8000 + 6 * i ≤ room_1.slots := ⟨by show 100 + i ≤ 601024; omega, by show 8000 + 6 * i ≤ 7293034; omega⟩
  refine lv_aload_n hx hb dL_law_644 rfl (lv_at hl 1 rfl) ?_
  refine LR_call (As := []) (rest := []) E I (c_X6_worst (BsR_LW I) I.wf ) (cwV 0 E.hts (gok gL_law_X6_worst (by decide +kernel)) rfl rfl rfl (by decide +kernel) ⟨Nat.le_of_ble_eq_true rfl, Nat.le_of_ble_eq_true rfl⟩) hP rfl hl.1 rfl (Nat.le_of_ble_eq_true rfl) dL_law_645 hf ?_
  refine lv_aload_n hx hb dL_law_648 rfl (lv_at hl 2 rfl) ?_
  refine LC_call (As := []) (rest := [.int (iI (worstOf y.now))]) E (LC_M (y := y) (fun _ : Unit => (((0, y.2)) : MS)) (c_X7_worst I.wf )) (cwV 0 E.hts (gok gL_law_X7_worst (by decide +kernel)) rfl rfl rfl (by decide +kernel) ⟨Nat.le_of_ble_eq_true rfl, Nat.le_of_ble_eq_true rfl⟩) rfl rfl hP hD hS rfl hl.1 rfl (Nat.le_of_ble_eq_true rfl) dL_law_649 hf (fun r x1 y1 H locs hw hP hD hS => ?_)
  obtain ⟨ex, u, hy, hw⟩ := hw
  subst x1
  refine lv_icmp_eq (tgt := 758) hx hb dL_law_652 (by decide) (fun _ => ?_) (fun c9 => absurd ?_ c9)
  · refine W.widen (k := 100 + i + 1) (n := 8000 + 6 * i + 6) (by omega) (by omega) ?_
    exact kk _ _ fo H locs ls (by rw [hy]; exact I.th0 0) hl hP hD hS
  · rw [hw]
set_option maxHeartbeats 4000000 in
set_option maxRecDepth 100000 in
theorem lc_place {p : Program} {l : Launch} {e : Env} {s : State} {m : MethodId} {below : List Frame} {meth : Method} {c : Code} {Q : State → Prop} {D : va_G} {C : Nat → ClassId} {K V SA : Nat → Nat} {b L : Nat} {xs : Nat → Int32} (E : LE p l s m c D C K V SA b L xs) {q : Nat → Nat} {ol i : Nat} (hi : i + 6 ≤ L) {x : CS} {y : MS} {fo : Nat → Int64} {H : Heap} {locs : List Loc} {ls : Array Slot} (I : INV q C x y) (hl : lv_has ls 7 [(0, .ref b), (1, .ref (q 0)), (2, .ref (q 36)), (3, .ref ol), (4, .int (iI (i : Int)))]) (hP : va_P D vwCl (LW q C x y ol fo) H) (hD : va_D (fun z : Nat => s.heap.size ≤ z) (LW q C x y ol fo)) (hS : va_S (fun z : Nat => s.heap.size ≤ z) s.heap H locs) (kk : ∀ (x : CS) (y : MS) (fo : Nat → Int64) (H : Heap) (locs : List Loc) (ls : Array Slot), INV q C x y → lv_has ls 7 [(0, .ref b), (1, .ref (q 0)), (2, .ref (q 36)), (3, .ref ol), (4, .int (iI (i : Int)))] → va_P D vwCl (LW q C x y ol fo) H → va_D (fun z : Nat => s.heap.size ≤ z) (LW q C x y ol fo) → va_S (fun z : Nat => s.heap.size ≤ z) s.heap H locs → W p l e room_1 s m #[Value.ref b] below meth c H locs (100 + i + 1) (8000 + 6 * i + 6) Q (F0 m 758 ls [])) : W p l e room_1 s m #[Value.ref b] below meth c H locs (100 + i) (8000 + 6 * i) Q (F0 m 657 ls []) := by
  have hx := E.hx
  have hb := E.hb
  have hL := E.hL
  have hf : 100 + i ≤ room_1.cells ∧ 8000 + 6 * i ≤ room_1.slots := ⟨by show 100 + i ≤ 601024; omega, by show 8000 + 6 * i ≤ 7293034; omega⟩
  refine lv_aload_n hx hb dL_law_657 rfl (lv_at hl 1 rfl) ?_
  refine lv_aload_n hx hb dL_law_658 rfl (lv_at hl 0 rfl) ?_
  refine lv_iload hx hb dL_law_659 (lv_at hl 4 rfl) ?_
  refine lv_iconst (v := iI 1) hx hb dL_law_661 rfl ?_
  refine j_iadd hx hb dL_law_662 ?_
  refine j_sld hx hb E.hX E.hbl hS hL ⟨by omega, by omega⟩ dL_law_663 ?_
  refine lv_aload_n hx hb dL_law_664 rfl (lv_at hl 0 rfl) ?_
  refine lv_iload hx hb dL_law_665 (lv_at hl 4 rfl) ?_
  refine lv_iconst (v := iI 2) hx hb dL_law_667 rfl ?_
  refine j_iadd hx hb dL_law_668 ?_
  refine j_sld hx hb E.hX E.hbl hS hL ⟨by omega, by omega⟩ dL_law_669 ?_
  refine LC_call (As := [.int (iI (sx xs ((i : Int) + 1))), .int (iI (sx xs ((i : Int) + 2)))]) (rest := []) E (LC_A I.ro.1 (c_X6_place (PlW_LRA I) I.wf I.nr I.cr ⟨rfl, I.ro.2.1, I.ro.2.2⟩ (sx_R _ _) (sx_R _ _))) (cwV 2 E.hts (gok gL_law_X6_place (by decide +kernel)) rfl rfl rfl (by decide +kernel) ⟨Nat.le_of_ble_eq_true rfl, Nat.le_of_ble_eq_true rfl⟩) rfl rfl hP hD hS rfl hl.1 rfl (Nat.le_of_ble_eq_true rfl) dL_law_670 hf (fun r1 x1 y1 H locs hw1 hP hD hS => ?_)
  obtain ⟨ey, u, hx1, hw1⟩ := hw1
  subst y1
  refine lv_aload_n hx hb dL_law_673 rfl (lv_at hl 2 rfl) ?_
  refine lv_aload_n hx hb dL_law_674 rfl (lv_at hl 0 rfl) ?_
  refine lv_iload hx hb dL_law_675 (lv_at hl 4 rfl) ?_
  refine lv_iconst (v := iI 1) hx hb dL_law_677 rfl ?_
  refine j_iadd hx hb dL_law_678 ?_
  refine j_sld hx hb E.hX E.hbl hS hL ⟨by omega, by omega⟩ dL_law_679 ?_
  refine lv_aload_n hx hb dL_law_680 rfl (lv_at hl 0 rfl) ?_
  refine lv_iload hx hb dL_law_681 (lv_at hl 4 rfl) ?_
  refine lv_iconst (v := iI 2) hx hb dL_law_683 rfl ?_
  refine j_iadd hx hb dL_law_684 ?_
  refine j_sld hx hb E.hX E.hbl hS hL ⟨by omega, by omega⟩ dL_law_685 ?_
  refine LC_call (As := [.int (iI (sx xs ((i : Int) + 1))), .int (iI (sx xs ((i : Int) + 2)))]) (rest := [.int r1]) E (LC_M (y := y) (fun v : Int × (Int → Int) × (Int → Int) => ((0, y.ta, y.fa, v.1, y.tape, v.2.1, v.2.2, y.wo, y.sc, y.sa) : MS)) (c_X7_place I.wf (by rw [← I.cn]; exact I.cr) (sx_R _ _) (sx_R _ _))) (cwV 2 E.hts (gok gL_law_X7_place (by decide +kernel)) rfl rfl rfl (by decide +kernel) ⟨Nat.le_of_ble_eq_true rfl, Nat.le_of_ble_eq_true rfl⟩) rfl rfl hP hD hS rfl hl.1 rfl (Nat.le_of_ble_eq_true rfl) dL_law_686 hf (fun r x2 y2 H locs hw hP hD hS => ?_)
  obtain ⟨ex, v, hy, hw⟩ := hw
  subst x2
  have ac := AC_place I.wf I.nr I.cr I.ro.2.1 I.hi hw1.2.2
  have ev := hw.2
  rw [← I.cn] at ev
  have er := hw.1
  rw [← I.cn] at er
  refine lv_icmp_eq (tgt := 758) hx hb dL_law_689 (by decide) (fun _ => ?_) (fun c9 => absurd ?_ c9)
  · refine W.widen (k := 100 + i + 1) (n := 8000 + 6 * i + 6) (by omega) (by omega) ?_
    exact kk _ _ fo H locs ls (by rw [hx1, hy]; exact INV_act I ac.1 (by rw [ac.2.2]; exact hw1.2.1) ev) hl hP hD hS
  · rw [er, hw1.1, ac.2.1]
set_option maxHeartbeats 4000000 in
set_option maxRecDepth 100000 in
theorem lc_take {p : Program} {l : Launch} {e : Env} {s : State} {m : MethodId} {below : List Frame} {meth : Method} {c : Code} {Q : State → Prop} {D : va_G} {C : Nat → ClassId} {K V SA : Nat → Nat} {b L : Nat} {xs : Nat → Int32} (E : LE p l s m c D C K V SA b L xs) {q : Nat → Nat} {ol i : Nat} (hi : i + 6 ≤ L) {x : CS} {y : MS} {fo : Nat → Int64} {H : Heap} {locs : List Loc} {ls : Array Slot} (I : INV q C x y) (hl : lv_has ls 7 [(0, .ref b), (1, .ref (q 0)), (2, .ref (q 36)), (3, .ref ol), (4, .int (iI (i : Int)))]) (hP : va_P D vwCl (LW q C x y ol fo) H) (hD : va_D (fun z : Nat => s.heap.size ≤ z) (LW q C x y ol fo)) (hS : va_S (fun z : Nat => s.heap.size ≤ z) s.heap H locs) (kk : ∀ (x : CS) (y : MS) (fo : Nat → Int64) (H : Heap) (locs : List Loc) (ls : Array Slot), INV q C x y → lv_has ls 7 [(0, .ref b), (1, .ref (q 0)), (2, .ref (q 36)), (3, .ref ol), (4, .int (iI (i : Int)))] → va_P D vwCl (LW q C x y ol fo) H → va_D (fun z : Nat => s.heap.size ≤ z) (LW q C x y ol fo) → va_S (fun z : Nat => s.heap.size ≤ z) s.heap H locs → W p l e room_1 s m #[Value.ref b] below meth c H locs (100 + i + 1) (8000 + 6 * i + 6) Q (F0 m 758 ls [])) : W p l e room_1 s m #[Value.ref b] below meth c H locs (100 + i) (8000 + 6 * i) Q (F0 m 694 ls []) := by
  have hx := E.hx
  have hb := E.hb
  have hL := E.hL
  have hf : 100 + i ≤ room_1.cells ∧ 8000 + 6 * i ≤ room_1.slots := ⟨by show 100 + i ≤ 601024; omega, by show 8000 + 6 * i ≤ 7293034; omega⟩
  refine lv_aload_n hx hb dL_law_694 rfl (lv_at hl 1 rfl) ?_
  refine lv_aload_n hx hb dL_law_695 rfl (lv_at hl 0 rfl) ?_
  refine lv_iload hx hb dL_law_696 (lv_at hl 4 rfl) ?_
  refine lv_iconst (v := iI 1) hx hb dL_law_698 rfl ?_
  refine j_iadd hx hb dL_law_699 ?_
  refine j_sld hx hb E.hX E.hbl hS hL ⟨by omega, by omega⟩ dL_law_700 ?_
  refine LC_call (As := [.int (iI (sx xs ((i : Int) + 1)))]) (rest := []) E (LC_A I.ro.1 (c_X6_take (PlW_LRA I) I.wf I.nr I.cr ⟨rfl, I.ro.2.1, I.ro.2.2⟩ (sx_R _ _))) (cwV 1 E.hts (gok gL_law_X6_take (by decide +kernel)) rfl rfl rfl (by decide +kernel) ⟨Nat.le_of_ble_eq_true rfl, Nat.le_of_ble_eq_true rfl⟩) rfl rfl hP hD hS rfl hl.1 rfl (Nat.le_of_ble_eq_true rfl) dL_law_701 hf (fun r1 x1 y1 H locs hw1 hP hD hS => ?_)
  obtain ⟨ey, u, hx1, hw1⟩ := hw1
  subst y1
  refine lv_aload_n hx hb dL_law_704 rfl (lv_at hl 2 rfl) ?_
  refine lv_aload_n hx hb dL_law_705 rfl (lv_at hl 0 rfl) ?_
  refine lv_iload hx hb dL_law_706 (lv_at hl 4 rfl) ?_
  refine lv_iconst (v := iI 1) hx hb dL_law_708 rfl ?_
  refine j_iadd hx hb dL_law_709 ?_
  refine j_sld hx hb E.hX E.hbl hS hL ⟨by omega, by omega⟩ dL_law_710 ?_
  refine LC_call (As := [.int (iI (sx xs ((i : Int) + 1)))]) (rest := [.int r1]) E (LC_M (y := y) (fun v : Int × (Int → Int) × (Int → Int) => ((0, y.ta, y.fa, v.1, y.tape, v.2.1, v.2.2, y.wo, y.sc, y.sa) : MS)) (c_X7_take I.wf (by rw [← I.cn]; exact I.cr) (sx_R _ _))) (cwV 1 E.hts (gok gL_law_X7_take (by decide +kernel)) rfl rfl rfl (by decide +kernel) ⟨Nat.le_of_ble_eq_true rfl, Nat.le_of_ble_eq_true rfl⟩) rfl rfl hP hD hS rfl hl.1 rfl (Nat.le_of_ble_eq_true rfl) dL_law_711 hf (fun r x2 y2 H locs hw hP hD hS => ?_)
  obtain ⟨ex, v, hy, hw⟩ := hw
  subst x2
  have ac := AC_take I.wf I.nr I.cr I.ro.2.1 I.hi hw1.2.2
  have ev := hw.2
  rw [← I.cn] at ev
  have er := hw.1
  rw [← I.cn] at er
  refine lv_icmp_eq (tgt := 758) hx hb dL_law_714 (by decide) (fun _ => ?_) (fun c9 => absurd ?_ c9)
  · refine W.widen (k := 100 + i + 1) (n := 8000 + 6 * i + 6) (by omega) (by omega) ?_
    exact kk _ _ fo H locs ls (by rw [hx1, hy]; exact INV_act I ac.1 (by rw [ac.2.2]; exact hw1.2.1) ev) hl hP hD hS
  · rw [er, hw1.1, ac.2.1]
set_option maxHeartbeats 4000000 in
set_option maxRecDepth 100000 in
theorem lc_fill {p : Program} {l : Launch} {e : Env} {s : State} {m : MethodId} {below : List Frame} {meth : Method} {c : Code} {Q : State → Prop} {D : va_G} {C : Nat → ClassId} {K V SA : Nat → Nat} {b L : Nat} {xs : Nat → Int32} (E : LE p l s m c D C K V SA b L xs) {q : Nat → Nat} {ol i : Nat} (hi : i + 6 ≤ L) {x : CS} {y : MS} {fo : Nat → Int64} {H : Heap} {locs : List Loc} {ls : Array Slot} (I : INV q C x y) (hl : lv_has ls 7 [(0, .ref b), (1, .ref (q 0)), (2, .ref (q 36)), (3, .ref ol), (4, .int (iI (i : Int)))]) (hP : va_P D vwCl (LW q C x y ol fo) H) (hD : va_D (fun z : Nat => s.heap.size ≤ z) (LW q C x y ol fo)) (hS : va_S (fun z : Nat => s.heap.size ≤ z) s.heap H locs) (kk : ∀ (x : CS) (y : MS) (fo : Nat → Int64) (H : Heap) (locs : List Loc) (ls : Array Slot), INV q C x y → lv_has ls 7 [(0, .ref b), (1, .ref (q 0)), (2, .ref (q 36)), (3, .ref ol), (4, .int (iI (i : Int)))] → va_P D vwCl (LW q C x y ol fo) H → va_D (fun z : Nat => s.heap.size ≤ z) (LW q C x y ol fo) → va_S (fun z : Nat => s.heap.size ≤ z) s.heap H locs → W p l e room_1 s m #[Value.ref b] below meth c H locs (100 + i + 1) (8000 + 6 * i + 6) Q (F0 m 758 ls [])) : W p l e room_1 s m #[Value.ref b] below meth c H locs (100 + i) (8000 + 6 * i) Q (F0 m 719 ls []) := by
  have hx := E.hx
  have hb := E.hb
  have hL := E.hL
  have hf : 100 + i ≤ room_1.cells ∧ 8000 + 6 * i ≤ room_1.slots := ⟨by show 100 + i ≤ 601024; omega, by show 8000 + 6 * i ≤ 7293034; omega⟩
  refine lv_aload_n hx hb dL_law_719 rfl (lv_at hl 1 rfl) ?_
  refine LC_call (As := []) (rest := []) E (LC_A I.ro.1 (c_X6_fill (PlW_LRA I) I.wf I.nr I.cr ⟨rfl, I.ro.2.1, I.ro.2.2⟩ )) (cwV 0 E.hts (gok gL_law_X6_fill (by decide +kernel)) rfl rfl rfl (by decide +kernel) ⟨Nat.le_of_ble_eq_true rfl, Nat.le_of_ble_eq_true rfl⟩) rfl rfl hP hD hS rfl hl.1 rfl (Nat.le_of_ble_eq_true rfl) dL_law_720 hf (fun r1 x1 y1 H locs hw1 hP hD hS => ?_)
  obtain ⟨ey, u, hx1, hw1⟩ := hw1
  subst y1
  refine lv_aload_n hx hb dL_law_723 rfl (lv_at hl 2 rfl) ?_
  refine LC_call (As := []) (rest := [.int r1]) E (LC_M (y := y) (fun v : Int × (Int → Int) × (Int → Int) => ((0, y.ta, y.fa, v.1, y.tape, v.2.1, v.2.2, y.wo, y.sc, y.sa) : MS)) (c_X7_fill I.wf (by rw [← I.cn]; exact I.cr) )) (cwV 0 E.hts (gok gL_law_X7_fill (by decide +kernel)) rfl rfl rfl (by decide +kernel) ⟨Nat.le_of_ble_eq_true rfl, Nat.le_of_ble_eq_true rfl⟩) rfl rfl hP hD hS rfl hl.1 rfl (Nat.le_of_ble_eq_true rfl) dL_law_724 hf (fun r x2 y2 H locs hw hP hD hS => ?_)
  obtain ⟨ex, v, hy, hw⟩ := hw
  subst x2
  have ac := AC_fill I.wf I.nr I.cr I.ro.2.1 I.hi hw1.2.2
  have ev := hw.2
  rw [← I.cn] at ev
  have er := hw.1
  rw [← I.cn] at er
  refine lv_icmp_eq (tgt := 758) hx hb dL_law_727 (by decide) (fun _ => ?_) (fun c9 => absurd ?_ c9)
  · refine W.widen (k := 100 + i + 1) (n := 8000 + 6 * i + 6) (by omega) (by omega) ?_
    exact kk _ _ fo H locs ls (by rw [hx1, hy]; exact INV_act I ac.1 (by rw [ac.2.2]; exact hw1.2.1) ev) hl hP hD hS
  · rw [er, hw1.1, ac.2.1]
set_option maxHeartbeats 4000000 in
set_option maxRecDepth 100000 in
theorem lc_settle {p : Program} {l : Launch} {e : Env} {s : State} {m : MethodId} {below : List Frame} {meth : Method} {c : Code} {Q : State → Prop} {D : va_G} {C : Nat → ClassId} {K V SA : Nat → Nat} {b L : Nat} {xs : Nat → Int32} (E : LE p l s m c D C K V SA b L xs) {q : Nat → Nat} {ol i : Nat} (hi : i + 6 ≤ L) {x : CS} {y : MS} {fo : Nat → Int64} {H : Heap} {locs : List Loc} {ls : Array Slot} (I : INV q C x y) (hl : lv_has ls 7 [(0, .ref b), (1, .ref (q 0)), (2, .ref (q 36)), (3, .ref ol), (4, .int (iI (i : Int)))]) (hP : va_P D vwCl (LW q C x y ol fo) H) (hD : va_D (fun z : Nat => s.heap.size ≤ z) (LW q C x y ol fo)) (hS : va_S (fun z : Nat => s.heap.size ≤ z) s.heap H locs) (kk : ∀ (x : CS) (y : MS) (fo : Nat → Int64) (H : Heap) (locs : List Loc) (ls : Array Slot), INV q C x y → lv_has ls 7 [(0, .ref b), (1, .ref (q 0)), (2, .ref (q 36)), (3, .ref ol), (4, .int (iI (i : Int)))] → va_P D vwCl (LW q C x y ol fo) H → va_D (fun z : Nat => s.heap.size ≤ z) (LW q C x y ol fo) → va_S (fun z : Nat => s.heap.size ≤ z) s.heap H locs → W p l e room_1 s m #[Value.ref b] below meth c H locs (100 + i + 1) (8000 + 6 * i + 6) Q (F0 m 758 ls [])) : W p l e room_1 s m #[Value.ref b] below meth c H locs (100 + i) (8000 + 6 * i) Q (F0 m 732 ls []) := by
  have hx := E.hx
  have hb := E.hb
  have hL := E.hL
  have hf : 100 + i ≤ room_1.cells ∧ 8000 + 6 * i ≤ room_1.slots := ⟨by show 100 + i ≤ 601024; omega, by show 8000 + 6 * i ≤ 7293034; omega⟩
  refine lv_aload_n hx hb dL_law_732 rfl (lv_at hl 1 rfl) ?_
  refine LC_call (As := []) (rest := []) E (LC_A I.ro.1 (c_X6_settle (PlW_LRA I) I.wf I.nr I.cr ⟨rfl, I.ro.2.1, I.ro.2.2⟩ )) (cwV 0 E.hts (gok gL_law_X6_settle (by decide +kernel)) rfl rfl rfl (by decide +kernel) ⟨Nat.le_of_ble_eq_true rfl, Nat.le_of_ble_eq_true rfl⟩) rfl rfl hP hD hS rfl hl.1 rfl (Nat.le_of_ble_eq_true rfl) dL_law_733 hf (fun r1 x1 y1 H locs hw1 hP hD hS => ?_)
  obtain ⟨ey, u, hx1, hw1⟩ := hw1
  subst y1
  refine lv_aload_n hx hb dL_law_736 rfl (lv_at hl 2 rfl) ?_
  refine LC_call (As := []) (rest := [.int r1]) E (LC_M (y := y) (fun v : Int × (Int → Int) × (Int → Int) => ((0, y.ta, y.fa, v.1, y.tape, v.2.1, v.2.2, y.wo, y.sc, y.sa) : MS)) (c_X7_settle I.wf (by rw [← I.cn]; exact I.cr) )) (cwV 0 E.hts (gok gL_law_X7_settle (by decide +kernel)) rfl rfl rfl (by decide +kernel) ⟨Nat.le_of_ble_eq_true rfl, Nat.le_of_ble_eq_true rfl⟩) rfl rfl hP hD hS rfl hl.1 rfl (Nat.le_of_ble_eq_true rfl) dL_law_737 hf (fun r x2 y2 H locs hw hP hD hS => ?_)
  obtain ⟨ex, v, hy, hw⟩ := hw
  subst x2
  have ac := AC_settle I.wf I.nr I.cr I.ro.2.1 I.hi hw1.2.2
  have ev := hw.2
  rw [← I.cn] at ev
  have er := hw.1
  rw [← I.cn] at er
  refine lv_icmp_eq (tgt := 758) hx hb dL_law_740 (by decide) (fun _ => ?_) (fun c9 => absurd ?_ c9)
  · refine W.widen (k := 100 + i + 1) (n := 8000 + 6 * i + 6) (by omega) (by omega) ?_
    exact kk _ _ fo H locs ls (by rw [hx1, hy]; exact INV_act I ac.1 (by rw [ac.2.2]; exact hw1.2.1) ev) hl hP hD hS
  · rw [er, hw1.1, ac.2.1]
set_option maxHeartbeats 4000000 in
set_option maxRecDepth 100000 in
theorem lc_undo {p : Program} {l : Launch} {e : Env} {s : State} {m : MethodId} {below : List Frame} {meth : Method} {c : Code} {Q : State → Prop} {D : va_G} {C : Nat → ClassId} {K V SA : Nat → Nat} {b L : Nat} {xs : Nat → Int32} (E : LE p l s m c D C K V SA b L xs) {q : Nat → Nat} {ol i : Nat} (hi : i + 6 ≤ L) {x : CS} {y : MS} {fo : Nat → Int64} {H : Heap} {locs : List Loc} {ls : Array Slot} (I : INV q C x y) (hl : lv_has ls 7 [(0, .ref b), (1, .ref (q 0)), (2, .ref (q 36)), (3, .ref ol), (4, .int (iI (i : Int)))]) (hP : va_P D vwCl (LW q C x y ol fo) H) (hD : va_D (fun z : Nat => s.heap.size ≤ z) (LW q C x y ol fo)) (hS : va_S (fun z : Nat => s.heap.size ≤ z) s.heap H locs) (kk : ∀ (x : CS) (y : MS) (fo : Nat → Int64) (H : Heap) (locs : List Loc) (ls : Array Slot), INV q C x y → lv_has ls 7 [(0, .ref b), (1, .ref (q 0)), (2, .ref (q 36)), (3, .ref ol), (4, .int (iI (i : Int)))] → va_P D vwCl (LW q C x y ol fo) H → va_D (fun z : Nat => s.heap.size ≤ z) (LW q C x y ol fo) → va_S (fun z : Nat => s.heap.size ≤ z) s.heap H locs → W p l e room_1 s m #[Value.ref b] below meth c H locs (100 + i + 1) (8000 + 6 * i + 6) Q (F0 m 758 ls [])) : W p l e room_1 s m #[Value.ref b] below meth c H locs (100 + i) (8000 + 6 * i) Q (F0 m 745 ls []) := by
  have hx := E.hx
  have hb := E.hb
  have hL := E.hL
  have hf : 100 + i ≤ room_1.cells ∧ 8000 + 6 * i ≤ room_1.slots := ⟨by show 100 + i ≤ 601024; omega, by show 8000 + 6 * i ≤ 7293034; omega⟩
  refine lv_aload_n hx hb dL_law_745 rfl (lv_at hl 1 rfl) ?_
  obtain ⟨g2, w2, s2, r2, e2, i2⟩ := INV_undo0 I
  refine LC_call (As := []) (rest := []) E (LC_A I.ro.1 (c_X6_undo (PlW_LRA I) I.wf I.nr I.cr ⟨rfl, I.ro.2.1, I.ro.2.2⟩ w2 s2 r2)) (cwV 0 E.hts (gok gL_law_X6_undo (by decide +kernel)) rfl rfl rfl (by decide +kernel) ⟨Nat.le_of_ble_eq_true rfl, Nat.le_of_ble_eq_true rfl⟩) rfl rfl hP hD hS rfl hl.1 rfl (Nat.le_of_ble_eq_true rfl) dL_law_746 hf (fun r1 x1 y1 H locs hw1 hP hD hS => ?_)
  obtain ⟨ey, u, hx1, hw1⟩ := hw1
  subst y1
  refine lv_aload_n hx hb dL_law_749 rfl (lv_at hl 2 rfl) ?_
  refine LC_call (As := []) (rest := [.int r1]) E (LC_M (y := y) (fun v : Int × (Int → Int) × (Int → Int) => ((0, y.ta, y.fa, v.1, y.tape, v.2.1, v.2.2, y.wo, y.sc, y.sa) : MS)) (c_X7_undo (by rw [← I.cn]; exact I.cr))) (cwV 0 E.hts (gok gL_law_X7_undo (by decide +kernel)) rfl rfl rfl (by decide +kernel) ⟨Nat.le_of_ble_eq_true rfl, Nat.le_of_ble_eq_true rfl⟩) rfl rfl hP hD hS rfl hl.1 rfl (Nat.le_of_ble_eq_true rfl) dL_law_750 hf (fun r x2 y2 H locs hw hP hD hS => ?_)
  obtain ⟨ex, v, hy, hw⟩ := hw
  subst x2
  have iv := INV_undo I w2 s2 e2 i2 hw1 hw
  refine lv_icmp_eq (tgt := 758) hx hb dL_law_753 (by decide) (fun _ => ?_) (fun c9 => absurd ?_ c9)
  · refine W.widen (k := 100 + i + 1) (n := 8000 + 6 * i + 6) (by omega) (by omega) ?_
    exact kk _ _ fo H locs ls (by rw [hx1, hy]; exact iv.1) hl hP hD hS
  · exact iv.2
