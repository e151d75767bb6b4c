/-! a pause laid at a slot; the best slot; the best move -/
def lie (g : Int → Int) (k t : Int) : Int → Int := up g (192 + 5 * k) (t + 1)
theorem up_back (g : Int → Int) (z v : Int) : up (up g z v) z (g z) = g := by
  funext j
  by_cases h : j = z
  · subst h; rw [up_s]
  · rw [up_n _ _ h, up_n _ _ h]
theorem up_up (g : Int → Int) (z v v' : Int) : up (up g z v) z v' = up g z v' := by
  funext j
  by_cases h : j = z
  · subst h; rw [up_s, up_s]
  · rw [up_n _ _ h, up_n _ _ h, up_n _ _ h]
theorem up_id {g : Int → Int} {z v : Int} (h : g z = v) : up g z v = g := by
  funext j
  by_cases e : j = z
  · subst e; rw [up_s, h]
  · rw [up_n _ _ e]
theorem lie_back (g : Int → Int) (k t : Int) : lie (lie g k t) k (g (192 + 5 * k) - 1) = g := by
  unfold lie
  rw [show g (192 + 5 * k) - 1 + 1 = g (192 + 5 * k) by omega]
  exact up_back g _ _
theorem lie_lie (g : Int → Int) (k t t' : Int) : lie (lie g k t) k t' = lie g k t' := up_up g _ _ _
theorem lie_o {g : Int → Int} {k t j : Int} (h : j ≠ 192 + 5 * k) : lie g k t j = g j := up_n g _ h
theorem lie_s (g : Int → Int) (k t : Int) : lie g k t (192 + 5 * k) = t + 1 := up_s g _ _
/-- what is no place of a pause stays -/
theorem lie_lo {g : Int → Int} {k t j : Int} (h0 : 0 ≤ k) (h : j < 188) : lie g k t j = g j := lie_o (by omega)
theorem lie_a {g : Int → Int} {k t x : Int} : lie g k t (188 + 5 * x) = g (188 + 5 * x) ∧ lie g k t (189 + 5 * x) = g (189 + 5 * x) ∧ lie g k t (190 + 5 * x) = g (190 + 5 * x) ∧ lie g k t (191 + 5 * x) = g (191 + 5 * x) := ⟨lie_o (by omega), lie_o (by omega), lie_o (by omega), lie_o (by omega)⟩
theorem lie_x {g : Int → Int} {k t x : Int} (h : x ≠ k) : lie g k t (192 + 5 * x) = g (192 + 5 * x) := lie_o (by omega)
theorem Wf_lie {g : Int → Int} (h : Wf g) {k t : Int} (h0 : 0 ≤ k) (h1 : k < g 3) (ht : t = -1 ∨ (g (190 + 5 * k) ≤ t ∧ t ≤ g (191 + 5 * k))) : Wf (lie g k t) := by
  have n := Wf_n h
  have lo : ∀ j : Int, j < 188 → lie g k t j = g j := fun j hj => lie_lo h0 hj
  obtain ⟨a1, a2, a3, a4, a5, a6, a7, a8, a9, a10⟩ := h
  refine ⟨?_, ?_, ?_, ?_, ?_, ?_, ?_, ?_, ?_, ?_⟩
  · rw [lo 0 (by omega)]; exact a1
  · rw [lo 1 (by omega)]; exact a2
  · rw [lo 2 (by omega)]; exact a3
  · rw [lo 3 (by omega)]; exact a4
  · intro c c0 c1
    rw [lo (4 + c) (by omega)]; exact a5 c c0 c1
  · intro c c0 c1
    rw [lo (4 + c) (by omega)]
    rw [lo 0 (by omega)] at c0
    exact a6 c c0 c1
  · intro x x0 x1
    rw [lo 2 (by omega)] at x1
    rw [lo _ (by omega), lo _ (by omega), lo _ (by omega), lo _ (by omega), lo _ (by omega), lo _ (by omega), lo _ (by omega)]
    exact a7 x x0 x1
  · intro x x0 x1
    rw [lo 3 (by omega)] at x1
    have b := a8 x x0 x1
    obtain ⟨e1, e2, e3, e4⟩ := lie_a (g := g) (k := k) (t := t) (x := x)
    rw [e1, e2, e3, e4, lo 2 (by omega), lo _ (by omega), lo _ (by omega), lo _ (by omega), lo _ (by omega)]
    exact b
  · intro x y x0 x1 y0 y1
    rw [lo 2 (by omega)] at x1
    rw [lo _ (by omega)] at y0
    rw [lo _ (by omega), lo _ (by omega)] at y1
    rw [(lie_a (g := g) (k := k) (t := t) (x := y)).1]
    exact a9 x y x0 x1 y0 y1
  · intro x x0 x1
    obtain ⟨e1, e2, e3, e4⟩ := lie_a (g := g) (k := k) (t := t) (x := x)
    rw [e3, e4, lo 3 (by omega)]
    by_cases e : x = k
    · subst e
      rw [lie_s]
      omega
    · rw [lie_x e]
      exact a10 x x0 x1
noncomputable def bstep (s : Int × Int) (y sc t : Int) : Int × Int := if 0 < y then s else if ¬ s.1 = -2 ∧ s.2 ≤ sc then s else (t, sc)
noncomputable def bst (g : Int → Int) (k : Int) : Nat → Int × Int
  | 0 => (-2, 0)
  | n + 1 => bstep (bst g k n) (wy g k (g (190 + 5 * k) + n)) (SF (lie g k (g (190 + 5 * k) + n))) (g (190 + 5 * k) + n)
noncomputable def bestOf (g : Int → Int) (k : Int) : Int := (bst g k (g (191 + 5 * k) + 1 - g (190 + 5 * k)).toNat).1
theorem bst_s {g : Int → Int} {k t : Int} (h : g (190 + 5 * k) ≤ t) : bst g k (t + 1 - g (190 + 5 * k)).toNat = bstep (bst g k (t - g (190 + 5 * k)).toNat) (wy g k t) (SF (lie g k t)) t := by
  rw [show (t + 1 - g (190 + 5 * k)).toNat = (t - g (190 + 5 * k)).toNat + 1 by omega]
  show bstep _ _ _ _ = _
  rw [show g (190 + 5 * k) + (((t - g (190 + 5 * k)).toNat : Nat) : Int) = t by omega]
theorem bst_rng {g : Int → Int} (h : Wf g) {k : Int} (h0 : 0 ≤ k) (h1 : k < g 3) : ∀ n : Nat, (n : Int) ≤ g (191 + 5 * k) + 1 - g (190 + 5 * k) → (((bst g k n).1 = -2 ∧ (bst g k n).2 = 0) ∨ (g (190 + 5 * k) ≤ (bst g k n).1 ∧ (bst g k n).1 < g (190 + 5 * k) + n ∧ 0 ≤ (bst g k n).2 ∧ (bst g k n).2 ≤ 16416 ∧ wy g k (bst g k n).1 = 0))
  | 0, _ => Or.inl ⟨rfl, rfl⟩
  | n + 1, hn => by
    have ih := bst_rng h h0 h1 n (by omega)
    have y := wy_rng g k (g (190 + 5 * k) + n)
    have w := Wf_lie h h0 h1 (t := g (190 + 5 * k) + n) (Or.inr ⟨by omega, by omega⟩)
    have s := SF_rng w
    show (((bstep _ _ _ _).1 = -2 ∧ (bstep _ _ _ _).2 = 0) ∨ (_ ≤ (bstep _ _ _ _).1 ∧ (bstep _ _ _ _).1 < _ ∧ 0 ≤ (bstep _ _ _ _).2 ∧ (bstep _ _ _ _).2 ≤ _ ∧ wy g k (bstep _ _ _ _).1 = 0))
    unfold bstep
    by_cases c1 : 0 < wy g k (g (190 + 5 * k) + n)
    · rw [if_pos c1]
      rcases ih with ih | ih
      · exact Or.inl ih
      · exact Or.inr ⟨ih.1, by omega, ih.2.2.1, ih.2.2.2.1, ih.2.2.2.2⟩
    · rw [if_neg c1]
      by_cases c2 : ¬ (bst g k n).1 = -2 ∧ (bst g k n).2 ≤ SF (lie g k (g (190 + 5 * k) + n))
      · rw [if_pos c2]
        rcases ih with ih | ih
        · exact Or.inl ih
        · exact Or.inr ⟨ih.1, by omega, ih.2.2.1, ih.2.2.2.1, ih.2.2.2.2⟩
      · rw [if_neg c2]
        exact Or.inr ⟨by show g (190 + 5 * k) ≤ g (190 + 5 * k) + n; omega, by show g (190 + 5 * k) + n < g (190 + 5 * k) + ((n + 1 : Nat) : Int); omega, s.1, s.2, by show wy g k (g (190 + 5 * k) + n) = 0; omega⟩
theorem bestOf_rng {g : Int → Int} (h : Wf g) {k : Int} (h0 : 0 ≤ k) (h1 : k < g 3) : bestOf g k = -2 ∨ (g (190 + 5 * k) ≤ bestOf g k ∧ bestOf g k ≤ g (191 + 5 * k) ∧ wy g k (bestOf g k) = 0) := by
  have p := Wf_p h h0 h1
  rcases bst_rng h h0 h1 (g (191 + 5 * k) + 1 - g (190 + 5 * k)).toNat (by omega) with a | a
  · exact Or.inl a.1
  · exact Or.inr ⟨a.1, by show (bst g k _).1 ≤ _; omega, a.2.2.2.2⟩
/-- the move that helps most: inner, over the slots of one pause, from (best, least) -/
noncomputable def mstep (s : Int × Int) (pl y sc k t : Int) : Int × Int := if t = pl ∨ 0 < y ∨ s.2 ≤ sc then s else (100 * k + t, sc)
noncomputable def btt (g : Int → Int) (k : Int) (s : Int × Int) : Nat → Int × Int
  | 0 => s
  | n + 1 => mstep (btt g k s n) (g (192 + 5 * k) - 1) (wy g k (g (190 + 5 * k) + n)) (SF (lie g k (g (190 + 5 * k) + n))) k (g (190 + 5 * k) + n)
noncomputable def btn (g : Int → Int) (k : Int) (s : Int × Int) : Int × Int := if g (192 + 5 * k) - 1 = -1 then s else btt g k s (g (191 + 5 * k) + 1 - g (190 + 5 * k)).toNat
noncomputable def btk (g : Int → Int) : Nat → Int × Int
  | 0 => (-2, SF g)
  | n + 1 => btn g n (btk g n)
noncomputable def betterOf (g : Int → Int) : Int := (btk g (g 3).toNat).1
theorem btt_s {g : Int → Int} {k t : Int} {s : Int × Int} (h : g (190 + 5 * k) ≤ t) : btt g k s (t + 1 - g (190 + 5 * k)).toNat = mstep (btt g k s (t - g (190 + 5 * k)).toNat) (g (192 + 5 * k) - 1) (wy g k t) (SF (lie g k t)) k t := by
  rw [show (t + 1 - g (190 + 5 * k)).toNat = (t - g (190 + 5 * k)).toNat + 1 by omega]
  show mstep _ _ _ _ _ _ = _
  rw [show g (190 + 5 * k) + (((t - g (190 + 5 * k)).toNat : Nat) : Int) = t by omega]
theorem btk_s {g : Int → Int} {k : Int} (h : 0 ≤ k) : btk g (k + 1).toNat = btn g k (btk g k.toNat) := by
  rw [show (k + 1).toNat = k.toNat + 1 by omega]
  show btn g ((k.toNat : Nat) : Int) _ = _
  rw [Int.toNat_of_nonneg h]
/-- a state of the search: no move, or one of a pause below k to a slot where it may be -/
def bOk (g : Int → Int) (m : Int) (s : Int × Int) : Prop := (0 ≤ s.2 ∧ s.2 ≤ 16416) ∧ (s.1 = -2 ∨ ∃ k t : Int, s.1 = 100 * k + t ∧ 0 ≤ k ∧ k < m ∧ k < g 3 ∧ g (190 + 5 * k) ≤ t ∧ t ≤ g (191 + 5 * k) ∧ ¬ g (192 + 5 * k) - 1 = -1 ∧ wy g k t = 0)
theorem bOk_up {g : Int → Int} {m m' : Int} {s : Int × Int} (h : bOk g m s) (hm : m ≤ m') : bOk g m' s := by
  obtain ⟨a, b⟩ := h
  refine ⟨a, ?_⟩
  rcases b with b | ⟨k, t, h1, h2, h3, h4⟩
  · exact Or.inl b
  · exact Or.inr ⟨k, t, h1, h2, by omega, h4⟩
theorem btt_ok {g : Int → Int} (h : Wf g) {k : Int} (h0 : 0 ≤ k) (h1 : k < g 3) (hp : ¬ g (192 + 5 * k) - 1 = -1) {s : Int × Int} (hs : bOk g k s) : ∀ n : Nat, (n : Int) ≤ g (191 + 5 * k) + 1 - g (190 + 5 * k) → bOk g (k + 1) (btt g k s n)
  | 0, _ => bOk_up hs (by omega)
  | n + 1, hn => by
    have ih := btt_ok h h0 h1 hp hs n (by omega)
    have y := wy_rng g k (g (190 + 5 * k) + n)
    have w := Wf_lie h h0 h1 (t := g (190 + 5 * k) + n) (Or.inr ⟨by omega, by omega⟩)
    have sf := SF_rng w
    show bOk g (k + 1) (mstep _ _ _ _ _ _)
    unfold mstep
    by_cases c : g (190 + 5 * k) + (n : Int) = g (192 + 5 * k) - 1 ∨ 0 < wy g k (g (190 + 5 * k) + n) ∨ (btt g k s n).2 ≤ SF (lie g k (g (190 + 5 * k) + n))
    · rw [if_pos c]; exact ih
    · rw [if_neg c]
      exact ⟨sf, Or.inr ⟨k, g (190 + 5 * k) + n, rfl, h0, by omega, h1, by omega, by omega, hp, by omega⟩⟩
theorem btn_ok {g : Int → Int} (h : Wf g) {k : Int} (h0 : 0 ≤ k) (h1 : k < g 3) {s : Int × Int} (hs : bOk g k s) : bOk g (k + 1) (btn g k s) := by
  unfold btn
  have p := Wf_p h h0 h1
  by_cases c : g (192 + 5 * k) - 1 = -1
  · rw [if_pos c]; exact bOk_up hs (by omega)
  · rw [if_neg c]; exact btt_ok h h0 h1 c hs _ (by omega)
theorem btk_ok {g : Int → Int} (h : Wf g) : ∀ n : Nat, (n : Int) ≤ g 3 → bOk g n (btk g n)
  | 0, _ => ⟨SF_rng h, Or.inl rfl⟩
  | n + 1, hn => by
    have := btn_ok h (k := (n : Int)) (by omega) (by omega) (btk_ok h n (by omega))
    rw [show ((n + 1 : Nat) : Int) = (n : Int) + 1 by omega]
    exact this
theorem betterOf_rng {g : Int → Int} (h : Wf g) : betterOf g = -2 ∨ ∃ k t : Int, betterOf g = 100 * k + t ∧ 0 ≤ k ∧ k < g 3 ∧ g (190 + 5 * k) ≤ t ∧ t ≤ g (191 + 5 * k) ∧ ¬ g (192 + 5 * k) - 1 = -1 ∧ wy g k t = 0 := by
  have n := Wf_n h
  rcases (btk_ok h (g 3).toNat (by omega)).2 with a | ⟨k, t, a, b, c, d, f, i, j, u⟩
  · exact Or.inl a
  · exact Or.inr ⟨k, t, a, b, d, f, i, j, u⟩
