/-! the roster's three: shortfall, places, cover -/
def Ro3 (g : Int → Int) (u : Int × (Int → Int) × (Int → Int)) : Prop := u.1 = SF g ∧ (∀ k : Int, 0 ≤ k → k < 24 → u.2.1 k = g (192 + 5 * k) - 1) ∧ (∀ c : Int, 0 ≤ c → c < 144 → u.2.2 c = cvc g c)
def wRo (q : Nat → Nat) (C : Nat → ClassId) (sf : Int) (pla cv : Int → Int) : va_W := [(q 28, .inr (3, [.ref (q 16), .ref (q 29), .ref (q 30), .int (iI sf)])), (q 29, .inl (C 1, 24, .inl (aI pla))), (q 30, .inl (C 1, 144, .inl (aI cv)))]
theorem PlW_add {q : Nat → Nat} {C : Nat → ClassId} {w : va_W} {g : Int → Int} (h : PlW q C w g) (v : va_W) : PlW q C (v ++ w) g := by
  have key : ∀ {k : Nat} {z : Nat × va_E}, w[k]? = some z → (v ++ w)[v.length + k]? = some z := fun {k z} e => by
    rw [List.getElem?_append_right (by omega), Nat.add_sub_cancel_left]; exact e
  obtain ⟨⟨k16, ln, nd, h16⟩, ⟨k17, f17, h17, e17⟩, ⟨k18, f18, h18, e18⟩, ⟨k19, f19, h19, e19⟩, ⟨k20, f20, h20, e20⟩, ⟨k21, f21, h21, e21⟩, ⟨k22, f22, h22, e22⟩, ⟨k23, f23, h23, e23⟩, ⟨k24, f24, h24, e24⟩, ⟨k25, f25, h25, e25⟩, ⟨k26, f26, h26, e26⟩, ⟨k27, f27, h27, e27⟩⟩ := h
  exact ⟨⟨_, ln, nd, key h16⟩, ⟨_, f17, key h17, e17⟩, ⟨_, f18, key h18, e18⟩, ⟨_, f19, key h19, e19⟩, ⟨_, f20, key h20, e20⟩, ⟨_, f21, key h21, e21⟩, ⟨_, f22, key h22, e22⟩, ⟨_, f23, key h23, e23⟩, ⟨_, f24, key h24, e24⟩, ⟨_, f25, key h25, e25⟩, ⟨_, f26, key h26, e26⟩, ⟨_, f27, key h27, e27⟩⟩
theorem RoW_mk {q : Nat → Nat} {C : Nat → ClassId} {wp : va_W} {g : Int → Int} (h : PlW q C wp g) {sf : Int} {pla cv : Int → Int} (hR : Ro3 g (sf, pla, cv)) : RoW q C (wRo q C sf pla cv ++ wp) g := by
  obtain ⟨e1, e2, e3⟩ := hR
  have e1 : sf = SF g := e1
  subst e1
  exact ⟨PlW_add h _, ⟨0, rfl⟩, ⟨1, pla, rfl, e2⟩, ⟨2, cv, rfl, e3⟩⟩
def dcf (cv : Int → Int) (a i : Int) : Int → Int := fun c => if a ≤ c ∧ c < i then cv c - 1 else cv c
def icf (cv : Int → Int) (a i : Int) : Int → Int := fun c => if a ≤ c ∧ c < i then cv c + 1 else cv c
theorem dcf_0 (cv : Int → Int) (a : Int) : dcf cv a a = cv := by
  funext c
  unfold dcf
  rw [if_neg (by omega)]
theorem icf_0 (cv : Int → Int) (a : Int) : icf cv a a = cv := by
  funext c
  unfold icf
  rw [if_neg (by omega)]
theorem dcf_at (cv : Int → Int) (a i : Int) : dcf cv a i i = cv i := by
  unfold dcf
  rw [if_neg (by omega)]
theorem icf_at (cv : Int → Int) (a i : Int) : icf cv a i i = cv i := by
  unfold icf
  rw [if_neg (by omega)]
theorem dcf_s {cv : Int → Int} {a i : Int} (h : a ≤ i) : up (dcf cv a i) i (dcf cv a i i - 1) = dcf cv a (i + 1) := by
  funext c
  rw [dcf_at]
  by_cases e : c = i
  · subst e
    rw [up_s]
    unfold dcf
    rw [if_pos (by omega)]
  · rw [up_n _ _ e]
    unfold dcf
    by_cases x : a ≤ c ∧ c < i
    · rw [if_pos x, if_pos (by omega)]
    · rw [if_neg x, if_neg (by omega)]
theorem icf_s {cv : Int → Int} {a i : Int} (h : a ≤ i) : up (icf cv a i) i (icf cv a i i + 1) = icf cv a (i + 1) := by
  funext c
  rw [icf_at]
  by_cases e : c = i
  · subst e
    rw [up_s]
    unfold icf
    rw [if_pos (by omega)]
  · rw [up_n _ _ e]
    unfold icf
    by_cases x : a ≤ c ∧ c < i
    · rw [if_pos x, if_pos (by omega)]
    · rw [if_neg x, if_neg (by omega)]
noncomputable def clo (g cv : Int → Int) (c : Int) : Int := bI (cv c ≤ g (4 + c))
/-- a pause lifted -/
theorem Ro3_lift {g : Int → Int} (h : Wf g) {k : Int} (h0 : 0 ≤ k) (h1 : k < g 3) (hz : ¬ g (192 + 5 * k) - 1 = -1) {pla cv : Int → Int} (hR : Ro3 g (SF g, pla, cv)) : Ro3 (lie g k (-1)) (SF (lie g k (-1)), up pla k (-1), icf cv (pk g k * 48 + (g (192 + 5 * k) - 1)) (pk g k * 48 + (g (192 + 5 * k) - 1) + g (189 + 5 * k))) := by
  obtain ⟨-, e2, e3⟩ := hR
  refine ⟨rfl, fun j j0 j1 => ?_, fun c c0 c1 => ?_⟩
  · show up pla k (-1) j = _
    by_cases e : j = k
    · subst e
      rw [up_s, lie_s]
      rfl
    · rw [up_n _ _ e, lie_x e]
      exact e2 j j0 j1
  · show icf cv _ _ c = _
    have q := cvc_re h h0 h1 hz (c := c) c0
    have e4 : cv c = cvc g c := e3 c c0 c1
    unfold icf
    by_cases x : pk g k * 48 + (g (192 + 5 * k) - 1) ≤ c ∧ c < pk g k * 48 + (g (192 + 5 * k) - 1) + g (189 + 5 * k)
    · rw [if_pos x]; rw [bI_t x] at q; omega
    · rw [if_neg x]; rw [bI_f x] at q; omega
/-- a pause that is nowhere laid at a slot: the cover and the shortfall -/
theorem Ro3_leave {g : Int → Int} (h : Wf g) {k t : Int} (h0 : 0 ≤ k) (h1 : k < g 3) (hz : g (192 + 5 * k) = 0) (ht : g (190 + 5 * k) ≤ t ∧ t ≤ g (191 + 5 * k)) {cv : Int → Int} (e3 : ∀ c : Int, 0 ≤ c → c < 144 → cv c = cvc g c) : SF (lie g k t) = SF g + sm (fun j => clo g cv (pk g k * 48 + t + j)) (g (189 + 5 * k)).toNat ∧ (∀ c : Int, 0 ≤ c → c < 144 → dcf cv (pk g k * 48 + t) (pk g k * 48 + t + g (189 + 5 * k)) c = cvc (lie g k t) c) := by
  have w := Wf_p h h0 h1
  have pr := pk_rng h h0 h1
  refine ⟨?_, fun c c0 c1 => ?_⟩
  · rw [SF_lie h h0 h1 hz ht]
    unfold lossN
    rw [sm_cong (f := fun j => clo g cv (pk g k * 48 + t + j)) (g := fun i => bI (cvc g (pk g k * 48 + t + i) ≤ g (4 + (pk g k * 48 + t + i)))) (n := (g (189 + 5 * k)).toNat) (fun i i0 i1 => by unfold clo; rw [e3 _ (by omega) (by omega)])]
  · have q := cvc_lie h h0 h1 hz (t := t) (by omega) (by omega) c0
    have e4 : cv c = cvc g c := e3 c c0 c1
    unfold dcf
    by_cases x : pk g k * 48 + t ≤ c ∧ c < pk g k * 48 + t + g (189 + 5 * k)
    · rw [if_pos x]; rw [bI_t x] at q; omega
    · rw [if_neg x]; rw [bI_f x] at q; omega
theorem Wf_same {g h : Int → Int} (hg : Wf g) (e : SameP g h) (hat : ∀ k : Int, 0 ≤ k → k < 24 → h (192 + 5 * k) = 0 ∨ (k < g 3 ∧ g (190 + 5 * k) ≤ h (192 + 5 * k) - 1 ∧ h (192 + 5 * k) - 1 ≤ g (191 + 5 * k))) : Wf h := by
  have n := Wf_n hg
  have lo : ∀ j : Int, j < 192 → h j = g j := fun j hj => SameP_lo e hj
  have md : ∀ k : Int, 0 ≤ k → k < 24 → h (188 + 5 * k) = g (188 + 5 * k) ∧ h (189 + 5 * k) = g (189 + 5 * k) ∧ h (190 + 5 * k) = g (190 + 5 * k) ∧ h (191 + 5 * k) = g (191 + 5 * k) := fun k k0 k1 => ⟨e _ (fun x x0 x1 => by omega), e _ (fun x x0 x1 => by omega), e _ (fun x x0 x1 => by omega), e _ (fun x x0 x1 => by omega)⟩
  have hg2 := hg
  obtain ⟨a1, a2, a3, a4, a5, a6, a7, a8, a9, a10⟩ := hg
  refine ⟨?_, ?_, ?_, ?_, ?_, ?_, ?_, ?_, ?_, ?_⟩
  · rw [lo 0 (by omega)]; exact a1
  · rw [lo 1 (by omega)]; exact a2
  · rw [lo 2 (by omega)]; exact a3
  · rw [lo 3 (by omega)]; exact a4
  · intro c c0 c1
    rw [lo (4 + c) (by omega)]; exact a5 c c0 c1
  · intro c c0 c1
    rw [lo (4 + c) (by omega)]
    rw [lo 0 (by omega)] at c0
    exact a6 c c0 c1
  · intro x x0 x1
    rw [lo 2 (by omega)] at x1
    rw [lo _ (by omega), lo _ (by omega), lo _ (by omega), lo _ (by omega), lo _ (by omega), lo _ (by omega), lo _ (by omega)]
    exact a7 x x0 x1
  · intro x x0 x1
    rw [lo 3 (by omega)] at x1
    have b := a8 x x0 x1
    obtain ⟨e1, e2, e3, e4⟩ := md x x0 (by omega)
    rw [e1, e2, e3, e4, lo 2 (by omega), lo _ (by omega), lo _ (by omega), lo _ (by omega), lo _ (by omega)]
    exact b
  · intro x y x0 x1 y0 y1
    rw [lo 2 (by omega)] at x1
    have s := a7 x x0 x1
    rw [lo _ (by omega)] at y0
    rw [lo _ (by omega), lo _ (by omega)] at y1
    rw [(md y (by omega) (by omega)).1]
    exact a9 x y x0 x1 y0 y1
  · intro x x0 x1
    obtain ⟨e1, e2, e3, e4⟩ := md x x0 x1
    rw [e3, e4, lo 3 (by omega)]
    exact hat x x0 x1
/-- the places of the first i pauses alone -/
def tr (g : Int → Int) (i : Int) : Int → Int := fun j => if 192 + 5 * i ≤ j ∧ j < 312 ∧ (j - 192) % 5 = 0 then 0 else g j
theorem tr_at {g : Int → Int} {i k : Int} (h : k < i) : tr g i (192 + 5 * k) = g (192 + 5 * k) := by unfold tr; rw [if_neg (by omega)]
theorem tr_z {g : Int → Int} {i k : Int} (h : i ≤ k) (h2 : k < 24) : tr g i (192 + 5 * k) = 0 := by unfold tr; rw [if_pos (by omega)]
theorem tr_same {g : Int → Int} {i : Int} (hi : 0 ≤ i) : SameP g (tr g i) := fun j hj => by
  unfold tr
  refine if_neg (fun q => hj ((j - 192) / 5) (by omega) (by omega) (by omega))
theorem tr_24 (g : Int → Int) : tr g 24 = g := by
  funext j
  unfold tr
  rw [if_neg (by omega)]
theorem tr_s {g : Int → Int} {i : Int} (h0 : 0 ≤ i) (h : i < 24) : tr g (i + 1) = lie (tr g i) i (g (192 + 5 * i) - 1) := by
  funext j
  unfold lie
  by_cases e : j = 192 + 5 * i
  · subst e
    rw [up_s]
    unfold tr
    rw [if_neg (by omega)]
    omega
  · rw [up_n _ _ e]
    unfold tr
    by_cases x : 192 + 5 * (i + 1) ≤ j ∧ j < 312 ∧ (j - 192) % 5 = 0
    · rw [if_pos x, if_pos (by omega)]
    · rw [if_neg x, if_neg (by omega)]
theorem Wf_tr {g : Int → Int} (h : Wf g) {i : Int} (hi : 0 ≤ i) : Wf (tr g i) := Wf_same h (tr_same hi) (fun k k0 k1 => by
  by_cases c : k < i
  · rw [tr_at c]; exact Wf_at h k0 k1
  · rw [tr_z (by omega) k1]; exact Or.inl rfl)
theorem cvc_tr0 {g : Int → Int} (h : Wf g) (c : Int) : cvc (tr g 0) c = dtc g c := by
  have n := Wf_n h
  have e := tr_same (g := g) (i := 0) (by omega)
  have lo : ∀ j : Int, j < 192 → tr g 0 j = g j := fun j hj => SameP_lo e hj
  have e1 : onD (tr g 0) (c / 48) (c % 48) = onD g (c / 48) (c % 48) := by
    unfold onD
    rw [lo 2 (by omega)]
    unfold smI
    refine sm_cong (fun s a b => ?_)
    unfold dq
    rw [lo _ (by omega), lo _ (by omega), lo _ (by omega)]
  have e2 : smI (pq (tr g 0) (c / 48) (c % 48)) (tr g 0 3) = 0 := by
    rw [lo 3 (by omega)]
    unfold smI
    refine sm_zero (fun k a b => bI_f (fun x => x.2.1 ?_))
    rw [tr_z (by omega) (by omega)]
    rfl
  unfold cvc cov dtc
  rw [e1, e2]
  omega
theorem tr_full {g : Int → Int} (h : Wf g) : tr g (g 3) = g := by
  have n := Wf_n h
  funext j
  unfold tr
  by_cases c : 192 + 5 * g 3 ≤ j ∧ j < 312 ∧ (j - 192) % 5 = 0
  · rw [if_pos c]
    have a := Wf_at h (k := (j - 192) / 5) (by omega) (by omega)
    rw [show 192 + 5 * ((j - 192) / 5) = j by omega] at a
    omega
  · rw [if_neg c]
theorem SF_tr0 {g : Int → Int} (h : Wf g) {cv : Int → Int} (e : ∀ c : Int, 0 ≤ c → c < 144 → cv c = dtc g c) : SF (tr g 0) = sm (fun c => max (g (4 + c) - cv c) 0) 144 := by
  rw [SF_c (Wf_tr h (by omega))]
  refine sm_cong (fun c c0 c1 => ?_)
  unfold shc
  rw [cvc_tr0 h, SameP_lo (tr_same (g := g) (i := 0) (by omega)) (by omega), e c c0 (by omega)]
/-- the next pause laid where it is -/
theorem tr_next {g : Int → Int} (h : Wf g) {i : Int} (h0 : 0 ≤ i) (h1 : i < g 3) {cv : Int → Int} (e : ∀ c : Int, 0 ≤ c → c < 144 → cv c = cvc (tr g i) c) : (g (192 + 5 * i) - 1 = -1 → tr g (i + 1) = tr g i) ∧ (¬ g (192 + 5 * i) - 1 = -1 → SF (tr g (i + 1)) = SF (tr g i) + sm (fun j => clo g cv (pk g i * 48 + (g (192 + 5 * i) - 1) + j)) (g (189 + 5 * i)).toNat ∧ ∀ c : Int, 0 ≤ c → c < 144 → dcf cv (pk g i * 48 + (g (192 + 5 * i) - 1)) (pk g i * 48 + (g (192 + 5 * i) - 1) + g (189 + 5 * i)) c = cvc (tr g (i + 1)) c) := by
  have n := Wf_n h
  have w := Wf_p h h0 h1
  have at_ := Wf_at h h0 (by omega)
  have s := tr_same (g := g) (i := i) h0
  have lo : ∀ j : Int, j < 192 → tr g i j = g j := fun j hj => SameP_lo s hj
  have wt := Wf_tr h (i := i) h0
  have m9 : tr g i (189 + 5 * i) = g (189 + 5 * i) := s _ (fun k _ _ => by omega)
  have m0 : tr g i (190 + 5 * i) = g (190 + 5 * i) := s _ (fun k _ _ => by omega)
  have m1 : tr g i (191 + 5 * i) = g (191 + 5 * i) := s _ (fun k _ _ => by omega)
  have m8 : tr g i (188 + 5 * i) = g (188 + 5 * i) := s _ (fun k _ _ => by omega)
  have pe : pk (tr g i) i = pk g i := by unfold pk; rw [m8, lo _ (by omega)]
  have pr := pk_rng h h0 h1
  refine ⟨fun c => ?_, fun c => ?_⟩
  · rw [tr_s h0 (by omega), c]
    exact lie_idz (tr_z (Int.le_refl _) (by omega))
  · rw [tr_s h0 (by omega)]
    have r := Ro3_leave wt (k := i) (t := g (192 + 5 * i) - 1) h0 (by rw [lo 3 (by omega)]; exact h1) (tr_z (Int.le_refl _) (by omega)) (by rw [m0, m1]; omega) e
    rw [pe, m9] at r
    refine ⟨?_, r.2⟩
    rw [r.1, sm_cong (f := fun j => clo (tr g i) cv (pk g i * 48 + (g (192 + 5 * i) - 1) + j)) (g := fun j => clo g cv (pk g i * 48 + (g (192 + 5 * i) - 1) + j)) (n := (g (189 + 5 * i)).toNat) (fun x x0 x1 => by unfold clo; rw [lo _ (by omega)])]
