/-! rows that agree where a row is; the rows that are kept, of both -/
def AG (g h : Int → Int) : Prop := ∀ j : Int, 0 ≤ j → j < 308 → h j = g j
theorem AG_cp0 (now g : Int → Int) : AG g (cp0 now g 308) := fun j h0 h1 => by unfold cp0; rw [if_pos ⟨h0, h1⟩]
theorem Wf_AG {g h : Int → Int} (e : AG g h) (w : Wf g) : Wf h := by
  have n := Wf_n w
  have e0 := e 0 (by omega) (by omega)
  have e1 := e 1 (by omega) (by omega)
  have e2 := e 2 (by omega) (by omega)
  have e3 := e 3 (by omega) (by omega)
  refine ⟨by rw [e0]; exact w.1, by rw [e1]; exact w.2.1, by rw [e2]; exact w.2.2.1, by rw [e3]; exact w.2.2.2.1, ?_, ?_, ?_, ?_, ?_, ?_⟩
  · intro c c0 c1
    rw [e (4 + c) (by omega) (by omega)]; exact w.2.2.2.2.1 c c0 c1
  · intro c c0 c1
    rw [e0] at c0
    rw [e (4 + c) (by omega) (by omega)]; exact w.2.2.2.2.2.1 c c0 c1
  · intro s s0 s1
    rw [e2] at s1
    rw [e (148 + 5 * s) (by omega) (by omega), e (149 + 5 * s) (by omega) (by omega), e (150 + 5 * s) (by omega) (by omega), e (151 + 5 * s) (by omega) (by omega), e (152 + 5 * s) (by omega) (by omega), e0, e3]
    exact Wf_sh w s0 s1
  · intro k k0 k1
    rw [e3] at k1
    have a := Wf_pa w k0 k1
    rw [e (188 + 5 * k) (by omega) (by omega), e (189 + 5 * k) (by omega) (by omega), e (190 + 5 * k) (by omega) (by omega), e (191 + 5 * k) (by omega) (by omega), e2, e (149 + 5 * g (188 + 5 * k)) (by omega) (by omega), e (150 + 5 * g (188 + 5 * k)) (by omega) (by omega), e (151 + 5 * g (188 + 5 * k)) (by omega) (by omega), e (152 + 5 * g (188 + 5 * k)) (by omega) (by omega)]
    exact a
  · intro s k s0 s1 k0 k1
    rw [e2] at s1
    have a := Wf_sh w s0 s1
    rw [e (152 + 5 * s) (by omega) (by omega)] at k0 k1
    rw [e (151 + 5 * s) (by omega) (by omega)] at k1
    rw [e (188 + 5 * k) (by omega) (by omega)]
    exact w.2.2.2.2.2.2.2.2.1 s k s0 s1 k0 k1
  · intro k k0 k1
    rw [e (192 + 5 * k) (by omega) (by omega), e (190 + 5 * k) (by omega) (by omega), e (191 + 5 * k) (by omega) (by omega), e3]
    exact Wf_at w k0 k1
theorem onD_AG {g h : Int → Int} (e : AG g h) (w : Wf g) (p t : Int) : onD h p t = onD g p t := by
  have n := Wf_n w
  unfold onD
  rw [e 2 (by omega) (by omega)]
  refine smI_cong (fun s s0 s1 => ?_)
  unfold dq
  rw [e (148 + 5 * s) (by omega) (by omega), e (149 + 5 * s) (by omega) (by omega), e (150 + 5 * s) (by omega) (by omega)]
theorem cov_AG {g h : Int → Int} (e : AG g h) (w : Wf g) (p t : Int) : cov h p t = cov g p t := by
  have n := Wf_n w
  unfold cov
  rw [onD_AG e w, e 3 (by omega) (by omega)]
  refine congrArg (fun z => onD g p t - z) (smI_cong (fun k k0 k1 => ?_))
  have a := Wf_pa w k0 k1
  unfold pq pau
  rw [e (188 + 5 * k) (by omega) (by omega), e (148 + 5 * g (188 + 5 * k)) (by omega) (by omega), e (192 + 5 * k) (by omega) (by omega), e (189 + 5 * k) (by omega) (by omega)]
theorem SF_AG {g h : Int → Int} (e : AG g h) (w : Wf g) : SF h = SF g := by
  have n := Wf_n w
  unfold SF
  refine smI_cong (fun t t0 t1 => ?_)
  unfold shI
  rw [e 0 (by omega) (by omega)]
  refine smI_cong (fun p p0 p1 => ?_)
  show max (h (4 + 48 * p + t) - cov h p t) 0 = max (g (4 + 48 * p + t) - cov g p t) 0
  rw [e (4 + 48 * p + t) (by omega) (by omega), cov_AG e w]
theorem Ro3_AG {g h : Int → Int} (e : AG g h) (w : Wf g) {u : Int × (Int → Int) × (Int → Int)} (r : Ro3 g u) : Ro3 h u := by
  refine ⟨by rw [SF_AG e w]; exact r.1, fun k k0 k1 => by rw [e (192 + 5 * k) (by omega) (by omega)]; exact r.2.1 k k0 k1, fun c c0 c1 => ?_⟩
  rw [r.2.2 c c0 c1]
  unfold cvc
  exact (cov_AG e w _ _).symm
theorem PlW_AG {q : Nat → Nat} {C : Nat → ClassId} {v : va_W} {g h : Int → Int} (e : AG g h) (w : Wf g) (hw : PlW q C v g) : PlW q C v h := by
  have n := Wf_n w
  have e0 := e 0 (by omega) (by omega)
  have e1 := e 1 (by omega) (by omega)
  have e2 := e 2 (by omega) (by omega)
  have e3 := e 3 (by omega) (by omega)
  obtain ⟨⟨k16, ln, nd, h16⟩, ⟨k17, f17, h17, e17⟩, ⟨k18, f18, h18, e18⟩, ⟨k19, f19, h19, e19⟩, ⟨k20, f20, h20, e20⟩, ⟨k21, f21, h21, e21⟩, ⟨k22, f22, h22, e22⟩, ⟨k23, f23, h23, e23⟩, ⟨k24, f24, h24, e24⟩, ⟨k25, f25, h25, e25⟩, ⟨k26, f26, h26, e26⟩, ⟨k27, f27, h27, e27⟩⟩ := hw
  refine ⟨⟨k16, ln, nd, by rw [e0, e1, e2, e3]; exact h16⟩, ⟨k17, f17, h17, fun c c0 c1 => by rw [e (4 + c) (by omega) (by omega)]; exact e17 c c0 c1⟩, ⟨k18, f18, h18, fun c c0 c1 => by rw [show dtc h c = dtc g c from onD_AG e w _ _]; exact e18 c c0 c1⟩, ⟨k19, f19, h19, fun s s0 s1 => ?_⟩, ⟨k20, f20, h20, fun s s0 s1 => ?_⟩, ⟨k21, f21, h21, fun s s0 s1 => ?_⟩, ⟨k22, f22, h22, fun s s0 s1 => ?_⟩, ⟨k23, f23, h23, fun s s0 s1 => ?_⟩, ⟨k24, f24, h24, fun s s0 s1 => ?_⟩, ⟨k25, f25, h25, fun s s0 s1 => ?_⟩, ⟨k26, f26, h26, fun s s0 s1 => ?_⟩, ⟨k27, f27, h27, fun s s0 s1 => ?_⟩⟩
  · rw [e2] at s1; rw [e (148 + 5 * s) (by omega) (by omega)]; exact e19 s s0 s1
  · rw [e2] at s1; rw [e (149 + 5 * s) (by omega) (by omega)]; exact e20 s s0 s1
  · rw [e2] at s1; rw [e (150 + 5 * s) (by omega) (by omega)]; exact e21 s s0 s1
  · rw [e2] at s1; rw [e (151 + 5 * s) (by omega) (by omega)]; exact e22 s s0 s1
  · rw [e2] at s1; rw [e (152 + 5 * s) (by omega) (by omega)]; exact e23 s s0 s1
  · rw [e3] at s1; rw [e (188 + 5 * s) (by omega) (by omega)]; exact e24 s s0 s1
  · rw [e3] at s1; rw [e (189 + 5 * s) (by omega) (by omega)]; exact e25 s s0 s1
  · rw [e3] at s1; rw [e (190 + 5 * s) (by omega) (by omega)]; exact e26 s s0 s1
  · rw [e3] at s1; rw [e (191 + 5 * s) (by omega) (by omega)]; exact e27 s s0 s1
/-- the row that is kept as the i-th -/
def kr (snaps now : Int → Int) (i : Int) : Int → Int := cp0 now (fun k => snaps (308 * i + k)) 308
theorem kr_same {snaps now h : Int → Int} (e : SameP now h) (i : Int) : kr snaps h i = kr snaps now i := by
  funext j
  unfold kr cp0
  by_cases c : 0 ≤ j ∧ j < 308
  · rw [if_pos c, if_pos c]
  · rw [if_neg c, if_neg c]
    exact e j (fun k k0 k1 => by omega)
/-- the class's rows that are kept (in a ring), and the reference's -/
def HI (rows : Int → Int) (nr cn : Int) (snaps now : Int → Int) : Prop := ∀ i : Int, 0 ≤ i → i < cn → Wf (kr snaps now i) ∧ SameP now (kr snaps now i) ∧ ∀ k : Int, 0 ≤ k → k < 24 → rows ((nr - cn + i) % 10 * 24 + k) = kr snaps now i (192 + 5 * k) - 1
theorem HI_0 (rows : Int → Int) (nr : Int) (snaps now : Int → Int) : HI rows nr 0 snaps now := fun i i0 i1 => absurd i1 (by omega)
theorem HI_same {rows snaps now h : Int → Int} {nr cn : Int} (e : SameP now h) (w : HI rows nr cn snaps now) : HI rows nr cn snaps h := fun i i0 i1 => by
  obtain ⟨a, b, c⟩ := w i i0 i1
  rw [kr_same e]
  exact ⟨a, fun j hj => (b j hj).trans (e j hj).symm, c⟩
theorem cpy_in {pla rows : Int → Int} {nr k : Int} (k0 : 0 ≤ k) (k1 : k < 24) : cpy pla rows 0 (nr * 24) 24 (nr * 24 + k) = pla k := by
  unfold cpy
  rw [if_pos (by omega)]
  exact congrArg pla (by omega)
theorem cpy_out {pla rows : Int → Int} {nr a k : Int} (h : ¬ a = nr) (k0 : 0 ≤ k) (k1 : k < 24) : cpy pla rows 0 (nr * 24) 24 (a * 24 + k) = rows (a * 24 + k) := by
  unfold cpy
  rw [if_neg (by omega)]
theorem kr_new {snaps now : Int → Int} {b : Int} {f : Int → Int} (i : Int) (hb : b = 308 * i) : kr (cpf f now b 308) now i = now := by
  funext j
  unfold kr cp0
  by_cases c : 0 ≤ j ∧ j < 308
  · rw [if_pos c]
    show cpf f now b 308 (308 * i + j) = now j
    unfold cpf
    rw [if_pos (by omega)]
    exact congrArg now (by omega)
  · rw [if_neg c]
theorem kr_old {now f snaps : Int → Int} {b i i2 : Int} (hb : 308 * i + 308 ≤ b) (hf : ∀ k : Int, 0 ≤ k → k < 308 → f (308 * i + k) = snaps (308 * i2 + k)) : kr (cpf f now b 308) now i = kr snaps now i2 := by
  funext j
  unfold kr cp0
  by_cases c : 0 ≤ j ∧ j < 308
  · rw [if_pos c, if_pos c]
    show cpf f now b 308 (308 * i + j) = snaps (308 * i2 + j)
    unfold cpf
    rw [if_neg (by omega)]
    exact hf j c.1 c.2
  · rw [if_neg c, if_neg c]
theorem HI_snap {rows snaps now pla : Int → Int} {nr cn : Int} (hn : 0 ≤ nr ∧ nr < 10) (hc : 0 ≤ cn ∧ cn ≤ 10) (w : Wf now) (hp : ∀ k : Int, 0 ≤ k → k < 24 → pla k = now (192 + 5 * k) - 1) (h : HI rows nr cn snaps now) :
    HI (cpy pla rows 0 (nr * 24) 24) (if nr = 9 then 0 else nr + 1) (min (cn + 1) 10) (snapF cn snaps now) now ∧ snapN cn = min (cn + 1) 10 := by
  have hnr : (if nr = 9 then 0 else nr + 1) = (nr + 1) % 10 := by
    by_cases c : nr = 9
    · rw [if_pos c]; omega
    · rw [if_neg c]; omega
  rw [hnr]
  by_cases c : cn = 10
  · refine ⟨fun i i0 i1 => ?_, by unfold snapN; rw [if_pos c]; omega⟩
    rw [show min (cn + 1) 10 = 10 by omega] at i1 ⊢
    unfold snapF
    rw [if_pos c]
    by_cases c9 : i = 9
    · subst c9
      rw [kr_new (snaps := snaps) 9 (by omega)]
      refine ⟨w, SameP_rf now, fun k k0 k1 => ?_⟩
      rw [show ((nr + 1) % 10 - 10 + 9) % 10 = nr by omega, cpy_in k0 k1]
      exact hp k k0 k1
    · rw [kr_old (snaps := snaps) (i2 := i + 1) (by omega) (fun k k0 k1 => by unfold shf; rw [if_pos (by omega)]; exact congrArg snaps (by omega))]
      obtain ⟨a, b, d⟩ := h (i + 1) (by omega) (by omega)
      refine ⟨a, b, fun k k0 k1 => ?_⟩
      rw [cpy_out (by omega) k0 k1]
      have d1 := d k k0 k1
      rw [show (nr - cn + (i + 1)) % 10 = ((nr + 1) % 10 - 10 + i) % 10 by omega] at d1
      exact d1
  · refine ⟨fun i i0 i1 => ?_, by unfold snapN; rw [if_neg c]; omega⟩
    rw [show min (cn + 1) 10 = cn + 1 by omega] at i1 ⊢
    unfold snapF
    rw [if_neg c]
    by_cases c9 : i = cn
    · rw [c9, kr_new (snaps := snaps) cn rfl]
      refine ⟨w, SameP_rf now, fun k k0 k1 => ?_⟩
      rw [show ((nr + 1) % 10 - (cn + 1) + cn) % 10 = nr by omega, cpy_in k0 k1]
      exact hp k k0 k1
    · rw [kr_old (snaps := snaps) (i2 := i) (by omega) (fun k k0 k1 => rfl)]
      obtain ⟨a, b, d⟩ := h i (by omega) (by omega)
      refine ⟨a, b, fun k k0 k1 => ?_⟩
      rw [cpy_out (by omega) k0 k1]
      have d1 := d k k0 k1
      rw [show (nr - cn + i) % 10 = ((nr + 1) % 10 - (cn + 1) + i) % 10 by omega] at d1
      exact d1
theorem HI_undo {rows snaps now : Int → Int} {nr cn : Int} (hn : 0 ≤ nr ∧ nr < 10) (hc : 0 ≤ cn ∧ cn ≤ 10) (h : HI rows nr cn snaps now) (h0 : 0 < cn) :
    Wf (kr snaps now (cn - 1)) ∧ SameP now (kr snaps now (cn - 1)) ∧ (∀ k : Int, 0 ≤ k → k < 24 → rows ((if nr = 0 then 9 else nr - 1) * 24 + k) = kr snaps now (cn - 1) (192 + 5 * k) - 1) ∧ HI rows (if nr = 0 then 9 else nr - 1) (cn - 1) snaps (kr snaps now (cn - 1)) := by
  have hnr : (if nr = 0 then 9 else nr - 1) = (nr + 9) % 10 := by
    by_cases c : nr = 0
    · rw [if_pos c]; omega
    · rw [if_neg c]; omega
  rw [hnr]
  obtain ⟨a, b, d⟩ := h (cn - 1) (by omega) (by omega)
  refine ⟨a, b, fun k k0 k1 => ?_, HI_same b (fun i i0 i1 => ?_)⟩
  · have d1 := d k k0 k1
    rw [show (nr - cn + (cn - 1)) % 10 = (nr + 9) % 10 by omega] at d1
    exact d1
  · obtain ⟨a1, b1, d1⟩ := h i i0 (by omega)
    refine ⟨a1, b1, fun k k0 k1 => ?_⟩
    rw [show ((nr + 9) % 10 - (cn - 1) + i) % 10 = (nr - cn + i) % 10 by omega]
    exact d1 k k0 k1
/-- what an act leaves: how many rows are kept, the row, the rows kept -/
def AC (g : Int → Int) (z : Int × Int × (Int → Int) × (Int → Int)) (rows : Int → Int) (nr cn : Int) : Prop := z.2.1 = cn ∧ Wf z.2.2.1 ∧ SameP g z.2.2.1 ∧ HI rows nr cn z.2.2.2 z.2.2.1 ∧ (0 ≤ nr ∧ nr < 10) ∧ (0 ≤ cn ∧ cn ≤ 10)
section ACS
variable {g snaps rows pla rows' : Int → Int} {nr cn nr' cn' : Int}
theorem AC_no (w : Wf g) (hn : 0 ≤ nr ∧ nr < 10) (hc : 0 ≤ cn ∧ cn ≤ 10) (h : HI rows nr cn snaps g) {b : Prop} (hb : ¬ b) (hk : HKp b pla rows nr cn rows' nr' cn') {r : Int} {z : Int × Int × (Int → Int) × (Int → Int)} (hz : z = (r, cn, g, snaps)) : AC g z rows' nr' cn' := by
  obtain ⟨e1, e2, e3⟩ := hk.2 hb
  subst e1 e2 e3 hz
  exact ⟨rfl, w, SameP_rf g, h, hn, hc⟩
theorem AC_yes (w : Wf g) (hn : 0 ≤ nr ∧ nr < 10) (hc : 0 ≤ cn ∧ cn ≤ 10) (hp : ∀ k : Int, 0 ≤ k → k < 24 → pla k = g (192 + 5 * k) - 1) (h : HI rows nr cn snaps g) {b : Prop} (hb : b) (hk : HKp b pla rows nr cn rows' nr' cn') {r : Int} {g2 : Int → Int} {z : Int × Int × (Int → Int) × (Int → Int)} (hz : z = (r, snapN cn, g2, snapF cn snaps g)) (w2 : Wf g2) (s2 : SameP g g2) : AC g z rows' nr' cn' := by
  obtain ⟨e1, e2, e3⟩ := hk.1 hb
  obtain ⟨a, e⟩ := HI_snap hn hc w hp h
  subst e1 e2 e3 hz
  refine ⟨e, w2, s2, HI_same s2 a, ?_, by omega⟩
  by_cases c : nr = 9
  · rw [if_pos c]; omega
  · rw [if_neg c]; omega
theorem AC_place {kk tt : Int} (w : Wf g) (hn : 0 ≤ nr ∧ nr < 10) (hc : 0 ≤ cn ∧ cn ≤ 10) (hp : ∀ k : Int, 0 ≤ k → k < 24 → pla k = g (192 + 5 * k) - 1) (h : HI rows nr cn snaps g) (hk : HKp ((((0 ≤ kk ∧ kk < g 3) ∧ (0 ≤ tt ∧ tt < 48)) ∧ ¬ g (192 + 5 * kk) - 1 = tt) ∧ wy g kk tt = 0) pla rows nr cn rows' nr' cn') :
    AC g (placeF cn g snaps kk tt) rows' nr' cn' ∧ (placeF cn g snaps kk tt).1 = (placeF cn g g kk tt).1 ∧ (placeF cn g snaps kk tt).2.2.1 = (placeF cn g g kk tt).2.2.1 := by
  have n := Wf_n w
  have yr := wy_rng g kk tt
  unfold placeF
  by_cases c1 : ((0 ≤ kk ∧ kk < g 3) ∧ (0 ≤ tt ∧ tt < 48)) ∧ ¬ g (192 + 5 * kk) - 1 = tt
  · rw [if_pos c1, if_pos c1]
    by_cases c2 : 0 < wy g kk tt
    · rw [if_pos c2, if_pos c2]
      exact ⟨AC_no w hn hc h (fun q => by omega) hk rfl, rfl, rfl⟩
    · rw [if_neg c2, if_neg c2]
      have r := wy_00 (show wy g kk tt = 0 by omega)
      exact ⟨AC_yes w hn hc hp h ⟨c1, by omega⟩ hk rfl (Wf_lie w c1.1.1.1 c1.1.1.2 (Or.inr r)) (SameP_lie (SameP_rf g) c1.1.1.1 (by omega)), rfl, rfl⟩
  · rw [if_neg c1, if_neg c1]
    exact ⟨AC_no w hn hc h (fun q => c1 q.1) hk rfl, rfl, rfl⟩
theorem AC_take {kk : Int} (w : Wf g) (hn : 0 ≤ nr ∧ nr < 10) (hc : 0 ≤ cn ∧ cn ≤ 10) (hp : ∀ k : Int, 0 ≤ k → k < 24 → pla k = g (192 + 5 * k) - 1) (h : HI rows nr cn snaps g) (hk : HKp ((0 ≤ kk ∧ kk < g 3) ∧ ¬ g (192 + 5 * kk) - 1 = -1) pla rows nr cn rows' nr' cn') :
    AC g (takeF cn g snaps kk) rows' nr' cn' ∧ (takeF cn g snaps kk).1 = (takeF cn g g kk).1 ∧ (takeF cn g snaps kk).2.2.1 = (takeF cn g g kk).2.2.1 := by
  have n := Wf_n w
  unfold takeF
  by_cases c1 : (0 ≤ kk ∧ kk < g 3) ∧ ¬ g (192 + 5 * kk) - 1 = -1
  · rw [if_pos c1, if_pos c1]
    exact ⟨AC_yes w hn hc hp h c1 hk rfl (Wf_lie w c1.1.1 c1.1.2 (Or.inl rfl)) (SameP_lie (SameP_rf g) c1.1.1 (by omega)), rfl, rfl⟩
  · rw [if_neg c1, if_neg c1]
    exact ⟨AC_no w hn hc h c1 hk rfl, rfl, rfl⟩
theorem AC_fill (w : Wf g) (hn : 0 ≤ nr ∧ nr < 10) (hc : 0 ≤ cn ∧ cn ≤ 10) (hp : ∀ k : Int, 0 ≤ k → k < 24 → pla k = g (192 + 5 * k) - 1) (h : HI rows nr cn snaps g) (hk : HKp True pla rows nr cn rows' nr' cn') :
    AC g (fillF cn g snaps) rows' nr' cn' ∧ (fillF cn g snaps).1 = (fillF cn g g).1 ∧ (fillF cn g snaps).2.2.1 = (fillF cn g g).2.2.1 := by
  have n := Wf_n w
  obtain ⟨a, b, -, -⟩ := flg_ok w (g 3).toNat (by omega)
  exact ⟨AC_yes w hn hc hp h trivial hk rfl a b, rfl, rfl⟩
theorem AC_settle (w : Wf g) (hn : 0 ≤ nr ∧ nr < 10) (hc : 0 ≤ cn ∧ cn ≤ 10) (hp : ∀ k : Int, 0 ≤ k → k < 24 → pla k = g (192 + 5 * k) - 1) (h : HI rows nr cn snaps g) (hk : HKp (¬ betterOf g = -2) pla rows nr cn rows' nr' cn') :
    AC g (settleF cn g snaps) rows' nr' cn' ∧ (settleF cn g snaps).1 = (settleF cn g g).1 ∧ (settleF cn g snaps).2.2.1 = (settleF cn g g).2.2.1 := by
  unfold settleF
  by_cases c1 : betterOf g = -2
  · rw [if_pos c1, if_pos c1]
    exact ⟨AC_no w hn hc h (fun q => q c1) hk rfl, rfl, rfl⟩
  · rw [if_neg c1, if_neg c1]
    obtain ⟨a, b, -, -⟩ := stl_ok w 40
    exact ⟨AC_yes w hn hc hp h c1 hk rfl a b, rfl, rfl⟩
end ACS
