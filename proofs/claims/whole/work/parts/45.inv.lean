/-! what holds of a row while a text is read -/
def SHP (g : Int → Int) (m : Int) : Prop :=
  (0 ≤ m ∧ m ≤ 8 ∧ 0 ≤ g 3 ∧ g 3 ≤ 3 * m) ∧
  (∀ s : Int, 0 ≤ s → s < m → 0 ≤ g (148 + 5 * s) ∧ g (148 + 5 * s) < g 0 ∧ 0 ≤ g (149 + 5 * s) ∧ g (149 + 5 * s) ≤ g (150 + 5 * s) ∧ g (150 + 5 * s) < 48 ∧ 0 ≤ g (151 + 5 * s) ∧ g (151 + 5 * s) ≤ 3 ∧ 0 ≤ g (152 + 5 * s) ∧ g (152 + 5 * s) + g (151 + 5 * s) ≤ g 3 ∧ g (152 + 5 * s) ≤ 3 * s) ∧
  (∀ s : Int, m ≤ s → s < 8 → g (151 + 5 * s) = 0) ∧
  (∀ k : Int, 0 ≤ k → k < g 3 → 0 ≤ g (188 + 5 * k) ∧ g (188 + 5 * k) < m ∧ 1 ≤ g (189 + 5 * k) ∧ g (189 + 5 * k) ≤ 4 ∧ g (149 + 5 * g (188 + 5 * k)) ≤ g (190 + 5 * k) ∧ g (190 + 5 * k) ≤ g (191 + 5 * k) ∧ g (191 + 5 * k) + g (189 + 5 * k) ≤ g (150 + 5 * g (188 + 5 * k)) + 1 ∧ g (152 + 5 * g (188 + 5 * k)) ≤ k ∧ k < g (152 + 5 * g (188 + 5 * k)) + g (151 + 5 * g (188 + 5 * k))) ∧
  (∀ s k : Int, 0 ≤ s → s < m → g (152 + 5 * s) ≤ k → k < g (152 + 5 * s) + g (151 + 5 * s) → g (188 + 5 * k) = s) ∧
  (∀ k : Int, 0 ≤ k → k < 24 → g (192 + 5 * k) = 0)
/-- the places that it speaks of -/
def Rel (g : Int → Int) (m j : Int) : Prop := j = 0 ∨ j = 3 ∨ (∃ s : Int, 0 ≤ s ∧ s < m ∧ 148 + 5 * s ≤ j ∧ j ≤ 152 + 5 * s) ∨ (∃ s : Int, m ≤ s ∧ s < 8 ∧ j = 151 + 5 * s) ∨ (∃ k : Int, 0 ≤ k ∧ k < g 3 ∧ 188 + 5 * k ≤ j ∧ j ≤ 191 + 5 * k) ∨ (∃ k : Int, 0 ≤ k ∧ k < 24 ∧ j = 192 + 5 * k)
theorem SHP_congr {g h : Int → Int} {m : Int} (H : SHP g m) (e : ∀ j : Int, Rel g m j → h j = g j) : SHP h m := by
  obtain ⟨a1, a2, a3, a4, a5, a6⟩ := H
  have e0 : h 0 = g 0 := e 0 (Or.inl rfl)
  have e3 : h 3 = g 3 := e 3 (Or.inr (Or.inl rfl))
  have es : ∀ s j : Int, 0 ≤ s → s < m → 148 + 5 * s ≤ j → j ≤ 152 + 5 * s → h j = g j := fun s j x y z w => e j (Or.inr (Or.inr (Or.inl ⟨s, x, y, z, w⟩)))
  have eh : ∀ s : Int, m ≤ s → s < 8 → h (151 + 5 * s) = g (151 + 5 * s) := fun s x y => e _ (Or.inr (Or.inr (Or.inr (Or.inl ⟨s, x, y, rfl⟩))))
  have ek : ∀ k j : Int, 0 ≤ k → k < g 3 → 188 + 5 * k ≤ j → j ≤ 191 + 5 * k → h j = g j := fun k j x y z w => e j (Or.inr (Or.inr (Or.inr (Or.inr (Or.inl ⟨k, x, y, z, w⟩)))))
  have ea : ∀ k : Int, 0 ≤ k → k < 24 → h (192 + 5 * k) = g (192 + 5 * k) := fun k x y => e _ (Or.inr (Or.inr (Or.inr (Or.inr (Or.inr ⟨k, x, y, rfl⟩)))))
  refine ⟨by rw [e3]; exact a1, fun s s0 s1 => ?_, fun s s0 s1 => by rw [eh s s0 s1]; exact a3 s s0 s1, fun k k0 k1 => ?_, fun s k s0 s1 k0 k1 => ?_, fun k k0 k1 => by rw [ea k k0 k1]; exact a6 k k0 k1⟩
  · rw [e0, e3, es s (148 + 5 * s) s0 s1 (by omega) (by omega), es s (149 + 5 * s) s0 s1 (by omega) (by omega), es s (150 + 5 * s) s0 s1 (by omega) (by omega), es s (151 + 5 * s) s0 s1 (by omega) (by omega), es s (152 + 5 * s) s0 s1 (by omega) (by omega)]
    exact a2 s s0 s1
  · rw [e3] at k1
    have b := a4 k k0 k1
    rw [ek k (188 + 5 * k) k0 k1 (by omega) (by omega), ek k (189 + 5 * k) k0 k1 (by omega) (by omega), ek k (190 + 5 * k) k0 k1 (by omega) (by omega), ek k (191 + 5 * k) k0 k1 (by omega) (by omega), es (g (188 + 5 * k)) (149 + 5 * g (188 + 5 * k)) b.1 b.2.1 (by omega) (by omega), es (g (188 + 5 * k)) (150 + 5 * g (188 + 5 * k)) b.1 b.2.1 (by omega) (by omega), es (g (188 + 5 * k)) (151 + 5 * g (188 + 5 * k)) b.1 b.2.1 (by omega) (by omega), es (g (188 + 5 * k)) (152 + 5 * g (188 + 5 * k)) b.1 b.2.1 (by omega) (by omega)]
    exact b
  · rw [es s (152 + 5 * s) s0 s1 (by omega) (by omega)] at k0 k1
    rw [es s (151 + 5 * s) s0 s1 (by omega) (by omega)] at k1
    have b := a2 s s0 s1
    rw [ek k (188 + 5 * k) (by omega) (by omega) (by omega) (by omega)]
    exact a5 s k s0 s1 k0 k1
/-- another shift begins -/
theorem SHP_ext {g : Int → Int} {m : Int} (H : SHP g m) (hm : m < 8) (h1 : 0 ≤ g (148 + 5 * m) ∧ g (148 + 5 * m) < g 0) (h2 : 0 ≤ g (149 + 5 * m) ∧ g (149 + 5 * m) ≤ g (150 + 5 * m) ∧ g (150 + 5 * m) < 48) (h3 : g (152 + 5 * m) = g 3) : SHP g (m + 1) := by
  obtain ⟨a1, a2, a3, a4, a5, a6⟩ := H
  have h0 := a3 m (by omega) hm
  refine ⟨by omega, fun s s0 s1 => ?_, fun s s0 s1 => a3 s (by omega) s1, fun k k0 k1 => ?_, fun s k s0 s1 k0 k1 => ?_, a6⟩
  · by_cases e : s = m
    · subst e
      omega
    · exact a2 s s0 (by omega)
  · have b := a4 k k0 k1
    exact ⟨b.1, by omega, b.2.2⟩
  · by_cases e : s = m
    · subst e
      omega
    · exact a5 s k s0 (by omega) k0 k1
theorem finP_at {g : Int → Int} {m : Int} (h2 : 0 ≤ g 2 ∧ g 2 < 8) (h3 : 0 ≤ g 3 ∧ g 3 < 24) : finP g m 3 = g 3 + 1 ∧ finP g m (151 + 5 * g 2) = g (151 + 5 * g 2) + 1 ∧ finP g m (188 + 5 * g 3) = g 2 ∧ finP g m (191 + 5 * g 3) = m ∧ ∀ j : Int, ¬ j = 3 → ¬ j = 151 + 5 * g 2 → ¬ j = 188 + 5 * g 3 → ¬ j = 191 + 5 * g 3 → finP g m j = g j := by
  unfold finP
  refine ⟨up_s _ _ _, ?_, ?_, ?_, fun j b1 b2 b3 b4 => ?_⟩
  · rw [up_n _ _ (by omega), up_s]
  · rw [up_n _ _ (by omega), up_n _ _ (by omega), up_s]
  · rw [up_n _ _ (by omega), up_n _ _ (by omega), up_n _ _ (by omega), up_s]
  · rw [up_n _ _ b1, up_n _ _ b2, up_n _ _ b3, up_n _ _ b4]
/-- another pause of the last shift -/
theorem SHP_fin {g : Int → Int} {m : Int} (H : SHP g (g 2 + 1)) (h2 : 0 ≤ g 2) (hc : g (152 + 5 * g 2) + g (151 + 5 * g 2) = g 3) (hh : g (151 + 5 * g 2) < 3) (hl : 1 ≤ g (189 + 5 * g 3) ∧ g (189 + 5 * g 3) ≤ 4) (he : g (149 + 5 * g 2) ≤ g (190 + 5 * g 3) ∧ g (190 + 5 * g 3) ≤ m ∧ m + g (189 + 5 * g 3) ≤ g (150 + 5 * g 2) + 1) : SHP (finP g m) (g 2 + 1) ∧ g 3 < 24 := by
  obtain ⟨a1, a2, a3, a4, a5, a6⟩ := H
  have c := a2 (g 2) h2 (by omega)
  have a30 : g 3 < 24 := by omega
  refine ⟨?_, a30⟩
  obtain ⟨p3, p151, p188, p191, po⟩ := finP_at (g := g) (m := m) ⟨h2, by omega⟩ ⟨a1.2.2.1, a30⟩
  have q0 : finP g m 0 = g 0 := po 0 (by omega) (by omega) (by omega) (by omega)
  have q148 : ∀ s : Int, 0 ≤ s → s < 8 → finP g m (148 + 5 * s) = g (148 + 5 * s) := fun s x y => po _ (by omega) (by omega) (by omega) (by omega)
  have q149 : ∀ s : Int, 0 ≤ s → s < 8 → finP g m (149 + 5 * s) = g (149 + 5 * s) := fun s x y => po _ (by omega) (by omega) (by omega) (by omega)
  have q150 : ∀ s : Int, 0 ≤ s → s < 8 → finP g m (150 + 5 * s) = g (150 + 5 * s) := fun s x y => po _ (by omega) (by omega) (by omega) (by omega)
  have q151 : ∀ s : Int, 0 ≤ s → s < 8 → ¬ s = g 2 → finP g m (151 + 5 * s) = g (151 + 5 * s) := fun s x y z => po _ (by omega) (by omega) (by omega) (by omega)
  have q152 : ∀ s : Int, 0 ≤ s → s < 8 → finP g m (152 + 5 * s) = g (152 + 5 * s) := fun s x y => po _ (by omega) (by omega) (by omega) (by omega)
  have r188 : ∀ k : Int, 0 ≤ k → ¬ k = g 3 → finP g m (188 + 5 * k) = g (188 + 5 * k) := fun k x y => po _ (by omega) (by omega) (by omega) (by omega)
  have r189 : ∀ k : Int, 0 ≤ k → finP g m (189 + 5 * k) = g (189 + 5 * k) := fun k x => po _ (by omega) (by omega) (by omega) (by omega)
  have r190 : ∀ k : Int, 0 ≤ k → finP g m (190 + 5 * k) = g (190 + 5 * k) := fun k x => po _ (by omega) (by omega) (by omega) (by omega)
  have r191 : ∀ k : Int, 0 ≤ k → ¬ k = g 3 → finP g m (191 + 5 * k) = g (191 + 5 * k) := fun k x y => po _ (by omega) (by omega) (by omega) (by omega)
  have r192 : ∀ k : Int, 0 ≤ k → finP g m (192 + 5 * k) = g (192 + 5 * k) := fun k x => po _ (by omega) (by omega) (by omega) (by omega)
  refine ⟨by rw [p3]; omega, fun s s0 s1 => ?_, fun s s0 s1 => by rw [q151 s (by omega) s1 (by omega)]; exact a3 s s0 s1, fun k k0 k1 => ?_, fun s k s0 s1 k0 k1 => ?_, fun k k0 k1 => by rw [r192 k k0]; exact a6 k k0 k1⟩
  · have b := a2 s s0 s1
    rw [q0, p3, q148 s s0 (by omega), q149 s s0 (by omega), q150 s s0 (by omega), q152 s s0 (by omega)]
    by_cases e : s = g 2
    · rw [e, p151]
      rw [e] at b
      omega
    · rw [q151 s s0 (by omega) e]
      omega
  · rw [p3] at k1
    rw [r189 k k0, r190 k k0]
    by_cases e : k = g 3
    · rw [e, p188, p191, q149 _ h2 (by omega), q150 _ h2 (by omega), p151, q152 _ h2 (by omega)]
      omega
    · have b := a4 k k0 (by omega)
      rw [r188 k k0 e, r191 k k0 e, q149 _ b.1 (by omega), q150 _ b.1 (by omega), q152 _ b.1 (by omega)]
      by_cases f : g (188 + 5 * k) = g 2
      · rw [f, p151]
        rw [f] at b
        omega
      · rw [q151 _ b.1 (by omega) f]
        exact b
  · rw [q152 s s0 (by omega)] at k0 k1
    have b := a2 s s0 s1
    by_cases e : s = g 2
    · rw [e, p151] at k1
      rw [e] at k0 b
      by_cases f : k = g 3
      · rw [f, p188, e]
      · rw [r188 k (by omega) f, e]
        exact a5 (g 2) k h2 (by omega) k0 (by omega)
    · rw [q151 s s0 (by omega) e] at k1
      rw [r188 k (by omega) (by omega)]
      exact a5 s k s0 s1 k0 k1
/-- the needs of a row -/
def RB (g : Int → Int) (nds : Int) : Prop := (∀ c : Int, 0 ≤ c → c < 144 → 0 ≤ g (4 + c) ∧ g (4 + c) ≤ 9 * nds) ∧ (∀ c : Int, 48 * g 0 ≤ c → 0 ≤ c → c < 144 → g (4 + c) = 0)
theorem RB_congr {g h : Int → Int} {nds : Int} (H : RB g nds) (e0 : h 0 = g 0) (e : ∀ j : Int, 4 ≤ j → j < 148 → h j = g j) : RB h nds := ⟨fun c c0 c1 => by rw [e (4 + c) (by omega) (by omega)]; exact H.1 c c0 c1, fun c b c0 c1 => by rw [e (4 + c) (by omega) (by omega)]; rw [e0] at b; exact H.2 c b c0 c1⟩
/-- is a shift begun and not yet counted -/
def prg (q : Int) : Int := if q = 3 ∨ 11 ≤ q then 1 else 0
theorem prg_1 {q : Int} (h : q = 3 ∨ 11 ≤ q) : prg q = 1 := if_pos h
theorem prg_0 {q : Int} (h : ¬ (q = 3 ∨ 11 ≤ q)) : prg q = 0 := if_neg h
/-- what holds at a state, but for the rows of shifts and pauses -/
def MC (q ins po fr to ln ea nds : Int) (g : Int → Int) : Prop :=
  (0 ≤ q ∧ q ≤ 13) ∧ (ins = 0 ∨ ins = 1) ∧ (0 ≤ nds ∧ nds ≤ 10) ∧ (0 ≤ g 2 ∧ g 2 ≤ 8) ∧
  ((q = 0 ∨ q = 5) → g 0 = 0 ∧ g 2 = 0 ∧ g 3 = 0) ∧
  (¬ (q = 0 ∨ q = 5) → 1 ≤ g 0 ∧ g 0 ≤ 3) ∧ (¬ (q = 0 ∨ q = 5 ∨ q = 6) → 1 ≤ g 1 ∧ g 1 ≤ 4) ∧
  ((q = 0 ∨ q = 1 ∨ q = 4 ∨ q = 5 ∨ q = 6 ∨ q = 10) → ins = 0) ∧ ((q = 2 ∨ q = 3 ∨ 11 ≤ q) → ins = 1) ∧
  ((q = 7 ∨ q = 8 ∨ q = 9 ∨ q = 10) → ins = 0 → nds < 10) ∧ ((q = 7 ∨ q = 8 ∨ q = 9) → ins = 1 → g 2 < 8) ∧
  ((q = 8 ∨ q = 9 ∨ q = 10) → 0 ≤ po ∧ po < g 0) ∧ ((q = 9 ∨ q = 10) → 0 ≤ fr ∧ fr < 48) ∧ (q = 10 → fr ≤ to ∧ to < 48) ∧
  ((q = 8 ∨ q = 9) → ins = 1 → g (148 + 5 * g 2) = po) ∧ (q = 9 → ins = 1 → g (149 + 5 * g 2) = fr) ∧
  ((q = 3 ∨ 11 ≤ q) → fr = g (149 + 5 * g 2) ∧ to = g (150 + 5 * g 2) ∧ g (152 + 5 * g 2) + g (151 + 5 * g 2) = g 3) ∧
  (11 ≤ q → g (151 + 5 * g 2) < 3) ∧
  (12 ≤ q → 1 ≤ ln ∧ ln ≤ 4 ∧ g (189 + 5 * g 3) = ln) ∧ (q = 13 → fr ≤ ea ∧ ea ≤ to ∧ g (190 + 5 * g 3) = ea)
def MI : PS → Prop
  | (q, ins, po, fr, to, ln, ea, nds, _, g) => MC q ins po fr to ln ea nds g ∧ RB g nds ∧ SHP g (g 2 + prg q)
theorem SHP_0 {g : Int → Int} (h3 : g 3 = 0) (ha : ∀ s : Int, 0 ≤ s → s < 8 → g (151 + 5 * s) = 0) (hb : ∀ k : Int, 0 ≤ k → k < 24 → g (192 + 5 * k) = 0) : SHP g 0 := ⟨by omega, fun s s0 s1 => by omega, ha, fun k k0 k1 => by omega, fun s k s0 s1 => by omega, hb⟩
section KP
variable {q ins po fr to ln ea nds li m : Int} {g : Int → Int}
theorem kp5 : kpS m (5, ins, po, fr, to, ln, ea, nds, li, g) = (6, ins, po, fr, to, ln, ea, nds, li, up g 0 m) := rfl
theorem kp6 : kpS m (6, ins, po, fr, to, ln, ea, nds, li, g) = (4, ins, po, fr, to, ln, ea, nds, li, up g 1 m) := rfl
theorem kp7i : kpS m (7, 1, po, fr, to, ln, ea, nds, li, g) = (8, 1, m, fr, to, ln, ea, nds, li, up g (148 + 5 * g 2) m) := rfl
theorem kp7o : kpS m (7, 0, po, fr, to, ln, ea, nds, li, g) = (8, 0, m, fr, to, ln, ea, nds, li, g) := rfl
theorem kp8i : kpS m (8, 1, po, fr, to, ln, ea, nds, li, g) = (9, 1, po, m, to, ln, ea, nds, li, up g (149 + 5 * g 2) m) := rfl
theorem kp8o : kpS m (8, 0, po, fr, to, ln, ea, nds, li, g) = (9, 0, po, m, to, ln, ea, nds, li, g) := rfl
theorem kp9i : kpS m (9, 1, po, fr, to, ln, ea, nds, li, g) = (3, 1, po, fr, m, ln, ea, nds, li, up (up g (150 + 5 * g 2) m) (152 + 5 * g 2) (g 3)) := rfl
theorem kp9o : kpS m (9, 0, po, fr, to, ln, ea, nds, li, g) = (10, 0, po, fr, m, ln, ea, nds, li, g) := rfl
theorem kp10 : kpS m (10, ins, po, fr, to, ln, ea, nds, li, g) = (4, ins, po, fr, to, ln, ea, nds + 1, li, adn g po fr to m) := rfl
theorem kp11 : kpS m (11, ins, po, fr, to, ln, ea, nds, li, g) = (12, ins, po, fr, to, m, ea, nds, li, up g (189 + 5 * g 3) m) := rfl
theorem kp12 : kpS m (12, ins, po, fr, to, ln, ea, nds, li, g) = (13, ins, po, fr, to, ln, m, nds, li, up g (190 + 5 * g 3) m) := rfl
theorem kp13 : kpS m (13, ins, po, fr, to, ln, ea, nds, li, g) = (3, ins, po, fr, to, ln, ea, nds, li, finP g m) := rfl
theorem MI_5 (h : MI (5, ins, po, fr, to, ln, ea, nds, li, g)) (h1 : 1 ≤ m) (h2 : m ≤ 3) : MI (6, ins, po, fr, to, ln, ea, nds, li, up g 0 m) := by
  obtain ⟨⟨m1, m2, m3, m4, m5, m6, m7, m8, -⟩, hb, hs⟩ := h
  have z := m5 (Or.inr rfl)
  have i0 := m8 (by omega)
  have e0 : up g 0 m 0 = m := up_s _ _ _
  have e2 : up g 0 m 2 = g 2 := up_n _ _ (by omega)
  have e3 : up g 0 m 3 = g 3 := up_n _ _ (by omega)
  refine ⟨?_, ⟨fun c c0 c1 => by rw [up_n _ _ (by omega)]; exact hb.1 c c0 c1, fun c b c0 c1 => by rw [up_n _ _ (by omega)]; exact hb.2 c (by omega) c0 c1⟩, ?_⟩
  · unfold MC
    rw [e0, e2, e3]
    refine ⟨by omega, m2, m3, m4, by omega, by omega, by omega, by omega, by omega, by omega, by omega, by omega, by omega, by omega, by omega, by omega, by omega, by omega, by omega, by omega⟩
  · obtain ⟨a1, a2, a3, a4, a5, a6⟩ := hs
    rw [e2, prg_0 (by omega), z.2.1]
    rw [prg_0 (by omega), z.2.1] at a3
    exact SHP_0 (by rw [e3]; exact z.2.2) (fun s s0 s1 => by rw [up_n _ _ (by omega)]; exact a3 s (by omega) s1) (fun k k0 k1 => by rw [up_n _ _ (by omega)]; exact a6 k k0 k1)
theorem MI_6 (h : MI (6, ins, po, fr, to, ln, ea, nds, li, g)) (h1 : 1 ≤ m) (h2 : m ≤ 4) : MI (4, ins, po, fr, to, ln, ea, nds, li, up g 1 m) := by
  obtain ⟨⟨m1, m2, m3, m4, m5, m6, m7, m8, -⟩, hb, hs⟩ := h
  have z := m6 (by omega)
  have i0 := m8 (by omega)
  have e0 : up g 1 m 0 = g 0 := up_n _ _ (by omega)
  have e1 : up g 1 m 1 = m := up_s _ _ _
  have e2 : up g 1 m 2 = g 2 := up_n _ _ (by omega)
  have e3 : up g 1 m 3 = g 3 := up_n _ _ (by omega)
  refine ⟨?_, RB_congr hb e0 (fun j j0 j1 => up_n _ _ (by omega)), ?_⟩
  · unfold MC
    rw [e0, e1, e2, e3]
    refine ⟨by omega, m2, m3, m4, by omega, by omega, by omega, by omega, by omega, by omega, by omega, by omega, by omega, by omega, by omega, by omega, by omega, by omega, by omega, by omega⟩
  · rw [e2, prg_0 (by omega)]
    rw [prg_0 (by omega)] at hs
    exact SHP_congr hs (fun j hj => up_n _ _ (by rcases hj with z | z | ⟨s, z⟩ | ⟨s, z⟩ | ⟨k, z⟩ | ⟨k, z⟩ <;> omega))
theorem MI_7o (h : MI (7, 0, po, fr, to, ln, ea, nds, li, g)) (h1 : 0 ≤ m) (h2 : m ≤ g 0 - 1) : MI (8, 0, m, fr, to, ln, ea, nds, li, g) := by
  obtain ⟨⟨m1, m2, m3, m4, m5, m6, m7, m8, m9, m10, m11, -⟩, hb, hs⟩ := h
  have z := m6 (by omega)
  have z1 := m7 (by omega)
  have z2 := m10 (by omega) rfl
  refine ⟨?_, hb, by rw [prg_0 (by omega)]; rw [prg_0 (by omega)] at hs; exact hs⟩
  unfold MC
  refine ⟨by omega, m2, m3, m4, by omega, by omega, by omega, by omega, by omega, by omega, by omega, by omega, by omega, by omega, by omega, by omega, by omega, by omega, by omega, by omega⟩
theorem MI_7i (h : MI (7, 1, po, fr, to, ln, ea, nds, li, g)) (h1 : 0 ≤ m) (h2 : m ≤ g 0 - 1) : MI (8, 1, m, fr, to, ln, ea, nds, li, up g (148 + 5 * g 2) m) := by
  obtain ⟨⟨m1, m2, m3, m4, m5, m6, m7, m8, m9, m10, m11, -⟩, hb, hs⟩ := h
  have z := m6 (by omega)
  have z1 := m7 (by omega)
  have z2 := m11 (by omega) rfl
  have e0 : up g (148 + 5 * g 2) m 0 = g 0 := up_n _ _ (by omega)
  have e1 : up g (148 + 5 * g 2) m 1 = g 1 := up_n _ _ (by omega)
  have e2 : up g (148 + 5 * g 2) m 2 = g 2 := up_n _ _ (by omega)
  have e3 : up g (148 + 5 * g 2) m 3 = g 3 := up_n _ _ (by omega)
  have e4 : up g (148 + 5 * g 2) m (148 + 5 * g 2) = m := up_s _ _ _
  refine ⟨?_, RB_congr hb e0 (fun j j0 j1 => up_n _ _ (by omega)), ?_⟩
  · unfold MC
    rw [e0, e1, e2, e3, e4]
    refine ⟨by omega, m2, m3, m4, by omega, by omega, by omega, by omega, by omega, by omega, by omega, by omega, by omega, by omega, by omega, by omega, by omega, by omega, by omega, by omega⟩
  · rw [e2, prg_0 (by omega)]
    rw [prg_0 (by omega)] at hs
    exact SHP_congr hs (fun j hj => up_n _ _ (by rcases hj with z | z | ⟨s, z⟩ | ⟨s, z⟩ | ⟨k, z⟩ | ⟨k, z⟩ <;> omega))
theorem MI_8o (h : MI (8, 0, po, fr, to, ln, ea, nds, li, g)) (h1 : 0 ≤ m) (h2 : m ≤ 47) : MI (9, 0, po, m, to, ln, ea, nds, li, g) := by
  obtain ⟨⟨m1, m2, m3, m4, m5, m6, m7, m8, m9, m10, m11, m12, -⟩, hb, hs⟩ := h
  have z := m6 (by omega)
  have z1 := m7 (by omega)
  have z2 := m10 (by omega) rfl
  have z3 := m12 (by omega)
  refine ⟨?_, hb, by rw [prg_0 (by omega)]; rw [prg_0 (by omega)] at hs; exact hs⟩
  unfold MC
  refine ⟨by omega, m2, m3, m4, by omega, by omega, by omega, by omega, by omega, by omega, by omega, by omega, by omega, by omega, by omega, by omega, by omega, by omega, by omega, by omega⟩
theorem MI_8i (h : MI (8, 1, po, fr, to, ln, ea, nds, li, g)) (h1 : 0 ≤ m) (h2 : m ≤ 47) : MI (9, 1, po, m, to, ln, ea, nds, li, up g (149 + 5 * g 2) m) := by
  obtain ⟨⟨m1, m2, m3, m4, m5, m6, m7, m8, m9, m10, m11, m12, m13, m14, m15, -⟩, hb, hs⟩ := h
  have z := m6 (by omega)
  have z1 := m7 (by omega)
  have z2 := m11 (by omega) rfl
  have z3 := m12 (by omega)
  have z4 := m15 (by omega) rfl
  have e0 : up g (149 + 5 * g 2) m 0 = g 0 := up_n _ _ (by omega)
  have e1 : up g (149 + 5 * g 2) m 1 = g 1 := up_n _ _ (by omega)
  have e2 : up g (149 + 5 * g 2) m 2 = g 2 := up_n _ _ (by omega)
  have e3 : up g (149 + 5 * g 2) m 3 = g 3 := up_n _ _ (by omega)
  have e4 : up g (149 + 5 * g 2) m (148 + 5 * g 2) = g (148 + 5 * g 2) := up_n _ _ (by omega)
  have e5 : up g (149 + 5 * g 2) m (149 + 5 * g 2) = m := up_s _ _ _
  refine ⟨?_, RB_congr hb e0 (fun j j0 j1 => up_n _ _ (by omega)), ?_⟩
  · unfold MC
    rw [e0, e1, e2, e3, e4, e5]
    refine ⟨by omega, m2, m3, m4, by omega, by omega, by omega, by omega, by omega, by omega, by omega, by omega, by omega, by omega, by omega, by omega, by omega, by omega, by omega, by omega⟩
  · rw [e2, prg_0 (by omega)]
    rw [prg_0 (by omega)] at hs
    exact SHP_congr hs (fun j hj => up_n _ _ (by rcases hj with z | z | ⟨s, z⟩ | ⟨s, z⟩ | ⟨k, z⟩ | ⟨k, z⟩ <;> omega))
theorem MI_9o (h : MI (9, 0, po, fr, to, ln, ea, nds, li, g)) (h1 : fr ≤ m) (h2 : m ≤ 47) : MI (10, 0, po, fr, m, ln, ea, nds, li, g) := by
  obtain ⟨⟨m1, m2, m3, m4, m5, m6, m7, m8, m9, m10, m11, m12, m13, -⟩, hb, hs⟩ := h
  have z := m6 (by omega)
  have z1 := m7 (by omega)
  have z2 := m10 (by omega) rfl
  have z3 := m12 (by omega)
  have z4 := m13 (by omega)
  refine ⟨?_, hb, by rw [prg_0 (by omega)]; rw [prg_0 (by omega)] at hs; exact hs⟩
  unfold MC
  refine ⟨by omega, m2, m3, m4, by omega, by omega, by omega, by omega, by omega, by omega, by omega, by omega, by omega, by omega, by omega, by omega, by omega, by omega, by omega, by omega⟩
theorem MI_9i (h : MI (9, 1, po, fr, to, ln, ea, nds, li, g)) (h1 : fr ≤ m) (h2 : m ≤ 47) : MI (3, 1, po, fr, m, ln, ea, nds, li, up (up g (150 + 5 * g 2) m) (152 + 5 * g 2) (g 3)) := by
  obtain ⟨⟨m1, m2, m3, m4, m5, m6, m7, m8, m9, m10, m11, m12, m13, m14, m15, m16, -⟩, hb, hs⟩ := h
  have z := m6 (by omega)
  have z1 := m7 (by omega)
  have z2 := m11 (by omega) rfl
  have z3 := m12 (by omega)
  have z4 := m13 (by omega)
  have z5 := m15 (by omega) rfl
  have z6 := m16 rfl rfl
  rw [prg_0 (by omega)] at hs
  have hh : g (151 + 5 * g 2) = 0 := hs.2.2.1 (g 2) (by omega) (by omega)
  obtain ⟨f, hf⟩ : ∃ f, f = up (up g (150 + 5 * g 2) m) (152 + 5 * g 2) (g 3) := ⟨_, rfl⟩
  have en : ∀ j : Int, ¬ j = 150 + 5 * g 2 → ¬ j = 152 + 5 * g 2 → f j = g j := fun j a b => by rw [hf, up_n _ _ b, up_n _ _ a]
  have e0 : f 0 = g 0 := en 0 (by omega) (by omega)
  have e1 : f 1 = g 1 := en 1 (by omega) (by omega)
  have e2 : f 2 = g 2 := en 2 (by omega) (by omega)
  have e3 : f 3 = g 3 := en 3 (by omega) (by omega)
  have e4 : f (148 + 5 * g 2) = g (148 + 5 * g 2) := en _ (by omega) (by omega)
  have e5 : f (149 + 5 * g 2) = g (149 + 5 * g 2) := en _ (by omega) (by omega)
  have e6 : f (150 + 5 * g 2) = m := by rw [hf, up_n _ _ (by omega), up_s]
  have e7 : f (151 + 5 * g 2) = g (151 + 5 * g 2) := en _ (by omega) (by omega)
  have e8 : f (152 + 5 * g 2) = g 3 := by rw [hf, up_s]
  rw [← hf]
  refine ⟨?_, RB_congr hb e0 (fun j j0 j1 => en j (by omega) (by omega)), ?_⟩
  · unfold MC
    rw [e0, e1, e2, e3, e4, e5, e6, e7, e8]
    refine ⟨by omega, m2, m3, m4, by omega, by omega, by omega, by omega, by omega, by omega, by omega, by omega, by omega, by omega, by omega, by omega, by omega, by omega, by omega, by omega⟩
  · rw [e2, prg_1 (by omega)]
    rw [show g 2 + 0 = g 2 by omega] at hs
    refine SHP_ext (SHP_congr hs (fun j hj => en j (by rcases hj with z | z | ⟨s, z⟩ | ⟨s, z⟩ | ⟨k, z⟩ | ⟨k, z⟩ <;> omega) (by rcases hj with z | z | ⟨s, z⟩ | ⟨s, z⟩ | ⟨k, z⟩ | ⟨k, z⟩ <;> omega))) z2 ?_ ?_ ?_
    · rw [e0, e4]; omega
    · rw [e5, e6]; omega
    · rw [e8, e3]
theorem adn_in {g : Int → Int} {po fr to m j : Int} (h : 4 + 48 * po + fr ≤ j ∧ j ≤ 4 + 48 * po + to) : adn g po fr to m j = g j + m := if_pos h
theorem adn_out {g : Int → Int} {po fr to m j : Int} (h : ¬ (4 + 48 * po + fr ≤ j ∧ j ≤ 4 + 48 * po + to)) : adn g po fr to m j = g j := if_neg h
theorem MI_10 (h : MI (10, ins, po, fr, to, ln, ea, nds, li, g)) (h1 : 0 ≤ m) (h2 : m ≤ 9) : MI (4, ins, po, fr, to, ln, ea, nds + 1, li, adn g po fr to m) := by
  obtain ⟨⟨m1, m2, m3, m4, m5, m6, m7, m8, m9, m10, m11, m12, m13, m14, -⟩, hb, hs⟩ := h
  have z := m6 (by omega)
  have z1 := m7 (by omega)
  have i0 := m8 (by omega)
  have z2 := m10 (by omega) i0
  have z3 := m12 (by omega)
  have z4 := m13 (by omega)
  have z5 := m14 rfl
  have en : ∀ j : Int, j < 4 ∨ 148 ≤ j → adn g po fr to m j = g j := fun j a => adn_out (by omega)
  have e0 : adn g po fr to m 0 = g 0 := en 0 (by omega)
  have e1 : adn g po fr to m 1 = g 1 := en 1 (by omega)
  have e2 : adn g po fr to m 2 = g 2 := en 2 (by omega)
  have e3 : adn g po fr to m 3 = g 3 := en 3 (by omega)
  refine ⟨?_, ⟨fun c c0 c1 => ?_, fun c b c0 c1 => ?_⟩, ?_⟩
  · unfold MC
    rw [e0, e1, e2, e3]
    refine ⟨by omega, m2, by omega, m4, by omega, by omega, by omega, by omega, by omega, by omega, by omega, by omega, by omega, by omega, by omega, by omega, by omega, by omega, by omega, by omega⟩
  · have b := hb.1 c c0 c1
    by_cases e : 4 + 48 * po + fr ≤ 4 + c ∧ 4 + c ≤ 4 + 48 * po + to
    · rw [adn_in e]; omega
    · rw [adn_out e]; omega
  · rw [e0] at b
    rw [adn_out (by omega)]
    exact hb.2 c b c0 c1
  · rw [e2, prg_0 (by omega)]
    rw [prg_0 (by omega)] at hs
    exact SHP_congr hs (fun j hj => en j (by rcases hj with z | z | ⟨s, z⟩ | ⟨s, z⟩ | ⟨k, z⟩ | ⟨k, z⟩ <;> omega))
theorem MI_11 (h : MI (11, ins, po, fr, to, ln, ea, nds, li, g)) (h1 : 1 ≤ m) (h2 : m ≤ 4) : MI (12, ins, po, fr, to, m, ea, nds, li, up g (189 + 5 * g 3) m) := by
  obtain ⟨⟨m1, m2, m3, m4, m5, m6, m7, m8, m9, m10, m11, m12, m13, m14, m15, m16, m17, m18, -⟩, hb, hs⟩ := h
  have z := m6 (by omega)
  have z1 := m7 (by omega)
  have i0 := m9 (by omega)
  have z2 := m17 (by omega)
  have z3 := m18 (by omega)
  rw [prg_1 (by omega)] at hs
  have s1 := hs.1
  have e0 : up g (189 + 5 * g 3) m 0 = g 0 := up_n _ _ (by omega)
  have e1 : up g (189 + 5 * g 3) m 1 = g 1 := up_n _ _ (by omega)
  have e2 : up g (189 + 5 * g 3) m 2 = g 2 := up_n _ _ (by omega)
  have e3 : up g (189 + 5 * g 3) m 3 = g 3 := up_n _ _ (by omega)
  have e5 : up g (189 + 5 * g 3) m (149 + 5 * g 2) = g (149 + 5 * g 2) := up_n _ _ (by omega)
  have e6 : up g (189 + 5 * g 3) m (150 + 5 * g 2) = g (150 + 5 * g 2) := up_n _ _ (by omega)
  have e7 : up g (189 + 5 * g 3) m (151 + 5 * g 2) = g (151 + 5 * g 2) := up_n _ _ (by omega)
  have e8 : up g (189 + 5 * g 3) m (152 + 5 * g 2) = g (152 + 5 * g 2) := up_n _ _ (by omega)
  have e9 : up g (189 + 5 * g 3) m (189 + 5 * g 3) = m := up_s _ _ _
  refine ⟨?_, RB_congr hb e0 (fun j j0 j1 => up_n _ _ (by omega)), ?_⟩
  · unfold MC
    rw [e0, e1, e2, e3, e5, e6, e7, e8, e9]
    refine ⟨by omega, m2, m3, m4, by omega, by omega, by omega, by omega, by omega, by omega, by omega, by omega, by omega, by omega, by omega, by omega, by omega, by omega, by omega, by omega⟩
  · rw [e2, prg_1 (by omega)]
    exact SHP_congr hs (fun j hj => up_n _ _ (by rcases hj with z | z | ⟨s, z⟩ | ⟨s, z⟩ | ⟨k, z⟩ | ⟨k, z⟩ <;> omega))
theorem MI_12 (h : MI (12, ins, po, fr, to, ln, ea, nds, li, g)) (h1 : fr ≤ m) (h2 : m ≤ to) : MI (13, ins, po, fr, to, ln, m, nds, li, up g (190 + 5 * g 3) m) := by
  obtain ⟨⟨m1, m2, m3, m4, m5, m6, m7, m8, m9, m10, m11, m12, m13, m14, m15, m16, m17, m18, m19, -⟩, hb, hs⟩ := h
  have z := m6 (by omega)
  have z1 := m7 (by omega)
  have i0 := m9 (by omega)
  have z2 := m17 (by omega)
  have z3 := m18 (by omega)
  have z4 := m19 (by omega)
  rw [prg_1 (by omega)] at hs
  have s1 := hs.1
  have e0 : up g (190 + 5 * g 3) m 0 = g 0 := up_n _ _ (by omega)
  have e1 : up g (190 + 5 * g 3) m 1 = g 1 := up_n _ _ (by omega)
  have e2 : up g (190 + 5 * g 3) m 2 = g 2 := up_n _ _ (by omega)
  have e3 : up g (190 + 5 * g 3) m 3 = g 3 := up_n _ _ (by omega)
  have e5 : up g (190 + 5 * g 3) m (149 + 5 * g 2) = g (149 + 5 * g 2) := up_n _ _ (by omega)
  have e6 : up g (190 + 5 * g 3) m (150 + 5 * g 2) = g (150 + 5 * g 2) := up_n _ _ (by omega)
  have e7 : up g (190 + 5 * g 3) m (151 + 5 * g 2) = g (151 + 5 * g 2) := up_n _ _ (by omega)
  have e8 : up g (190 + 5 * g 3) m (152 + 5 * g 2) = g (152 + 5 * g 2) := up_n _ _ (by omega)
  have e9 : up g (190 + 5 * g 3) m (189 + 5 * g 3) = g (189 + 5 * g 3) := up_n _ _ (by omega)
  have ea : up g (190 + 5 * g 3) m (190 + 5 * g 3) = m := up_s _ _ _
  refine ⟨?_, RB_congr hb e0 (fun j j0 j1 => up_n _ _ (by omega)), ?_⟩
  · unfold MC
    rw [e0, e1, e2, e3, e5, e6, e7, e8, e9, ea]
    refine ⟨by omega, m2, m3, m4, by omega, by omega, by omega, by omega, by omega, by omega, by omega, by omega, by omega, by omega, by omega, by omega, by omega, by omega, by omega, by omega⟩
  · rw [e2, prg_1 (by omega)]
    exact SHP_congr hs (fun j hj => up_n _ _ (by rcases hj with z | z | ⟨s, z⟩ | ⟨s, z⟩ | ⟨k, z⟩ | ⟨k, z⟩ <;> omega))
theorem MI_13 (h : MI (13, ins, po, fr, to, ln, ea, nds, li, g)) (h1 : ea ≤ m) (h2 : m ≤ to - ln + 1) : MI (3, ins, po, fr, to, ln, ea, nds, li, finP g m) ∧ g 3 < 24 := by
  obtain ⟨⟨m1, m2, m3, m4, m5, m6, m7, m8, m9, m10, m11, m12, m13, m14, m15, m16, m17, m18, m19, m20⟩, hb, hs⟩ := h
  have z := m6 (by omega)
  have z1 := m7 (by omega)
  have i0 := m9 (by omega)
  have z2 := m17 (by omega)
  have z3 := m18 (by omega)
  have z4 := m19 (by omega)
  have z5 := m20 rfl
  rw [prg_1 (by omega)] at hs
  have s1 := hs.1
  obtain ⟨sf, s3⟩ := SHP_fin (m := m) hs m4.1 z2.2.2 z3 (by omega) (by omega)
  refine ⟨?_, s3⟩
  obtain ⟨p3, p151, p188, p191, pn⟩ := finP_at (g := g) (m := m) ⟨m4.1, by omega⟩ ⟨s1.2.2.1, s3⟩
  have e0 : finP g m 0 = g 0 := pn 0 (by omega) (by omega) (by omega) (by omega)
  have e1 : finP g m 1 = g 1 := pn 1 (by omega) (by omega) (by omega) (by omega)
  have e2 : finP g m 2 = g 2 := pn 2 (by omega) (by omega) (by omega) (by omega)
  have e5 : finP g m (149 + 5 * g 2) = g (149 + 5 * g 2) := pn _ (by omega) (by omega) (by omega) (by omega)
  have e6 : finP g m (150 + 5 * g 2) = g (150 + 5 * g 2) := pn _ (by omega) (by omega) (by omega) (by omega)
  have e8 : finP g m (152 + 5 * g 2) = g (152 + 5 * g 2) := pn _ (by omega) (by omega) (by omega) (by omega)
  refine ⟨?_, RB_congr hb e0 (fun j j0 j1 => pn j (by omega) (by omega) (by omega) (by omega)), ?_⟩
  · unfold MC
    rw [e0, e1, e2, p3, e5, e6, p151, e8]
    refine ⟨by omega, m2, m3, m4, by omega, by omega, by omega, by omega, by omega, by omega, by omega, by omega, by omega, by omega, by omega, by omega, by omega, by omega, by omega, by omega⟩
  · rw [e2, prg_1 (by omega)]
    exact sf
theorem MI_4 (h : MI (4, ins, po, fr, to, ln, ea, nds, li, g)) : ins = 0 ∧ MI (1, ins, po, fr, to, ln, ea, nds, li + 1, g) := by
  obtain ⟨⟨m1, m2, m3, m4, m5, m6, m7, m8, -⟩, hb, hs⟩ := h
  have z := m6 (by omega)
  have z1 := m7 (by omega)
  have i0 := m8 (by omega)
  refine ⟨i0, ?_, hb, by rw [prg_0 (by omega)]; rw [prg_0 (by omega)] at hs; exact hs⟩
  unfold MC
  refine ⟨by omega, m2, m3, m4, by omega, by omega, by omega, by omega, by omega, by omega, by omega, by omega, by omega, by omega, by omega, by omega, by omega, by omega, by omega, by omega⟩
theorem MI_3 (h : MI (3, ins, po, fr, to, ln, ea, nds, li, g)) : ins = 1 ∧ g 2 < 8 ∧ MI (2, ins, po, fr, to, ln, ea, nds, li + 1, up g 2 (g 2 + 1)) := by
  obtain ⟨⟨m1, m2, m3, m4, m5, m6, m7, m8, m9, -⟩, hb, hs⟩ := h
  have z := m6 (by omega)
  have z1 := m7 (by omega)
  have i0 := m9 (by omega)
  rw [prg_1 (by omega)] at hs
  have s1 := hs.1
  have e0 : up g 2 (g 2 + 1) 0 = g 0 := up_n _ _ (by omega)
  have e1 : up g 2 (g 2 + 1) 1 = g 1 := up_n _ _ (by omega)
  have e2 : up g 2 (g 2 + 1) 2 = g 2 + 1 := up_s _ _ _
  have e3 : up g 2 (g 2 + 1) 3 = g 3 := up_n _ _ (by omega)
  refine ⟨i0, by omega, ?_, RB_congr hb e0 (fun j j0 j1 => up_n _ _ (by omega)), ?_⟩
  · unfold MC
    rw [e0, e1, e2, e3]
    refine ⟨by omega, m2, m3, by omega, by omega, by omega, by omega, by omega, by omega, by omega, by omega, by omega, by omega, by omega, by omega, by omega, by omega, by omega, by omega, by omega⟩
  · rw [e2, prg_0 (by omega), Int.add_zero]
    exact SHP_congr hs (fun j hj => up_n _ _ (by rcases hj with z | z | ⟨s, z⟩ | ⟨s, z⟩ | ⟨k, z⟩ | ⟨k, z⟩ <;> omega))
theorem MI_0 (h : MI (0, ins, po, fr, to, ln, ea, nds, li, g)) : ins = 0 ∧ MI (5, ins, po, fr, to, ln, ea, nds, li, g) := by
  obtain ⟨⟨m1, m2, m3, m4, m5, m6, m7, m8, -⟩, hb, hs⟩ := h
  have z := m5 (by omega)
  have i0 := m8 (by omega)
  refine ⟨i0, ?_, hb, by rw [prg_0 (by omega)]; rw [prg_0 (by omega)] at hs; exact hs⟩
  unfold MC
  refine ⟨by omega, m2, m3, m4, by omega, by omega, by omega, by omega, by omega, by omega, by omega, by omega, by omega, by omega, by omega, by omega, by omega, by omega, by omega, by omega⟩
theorem MI_1n (h : MI (1, ins, po, fr, to, ln, ea, nds, li, g)) (hn : ¬ 10 ≤ nds) : ins = 0 ∧ MI (7, ins, po, fr, to, ln, ea, nds, li, g) := by
  obtain ⟨⟨m1, m2, m3, m4, m5, m6, m7, m8, -⟩, hb, hs⟩ := h
  have z := m6 (by omega)
  have z1 := m7 (by omega)
  have i0 := m8 (by omega)
  refine ⟨i0, ?_, hb, by rw [prg_0 (by omega)]; rw [prg_0 (by omega)] at hs; exact hs⟩
  unfold MC
  refine ⟨by omega, m2, m3, m4, by omega, by omega, by omega, by omega, by omega, by omega, by omega, by omega, by omega, by omega, by omega, by omega, by omega, by omega, by omega, by omega⟩
theorem MI_12s (hq : q = 1 ∨ q = 2) (h : MI (q, ins, po, fr, to, ln, ea, nds, li, g)) (hn : ¬ 8 ≤ g 2) : MI (7, 1, po, fr, to, ln, ea, nds, li, g) := by
  obtain ⟨⟨m1, m2, m3, m4, m5, m6, m7, m8, -⟩, hb, hs⟩ := h
  have z := m6 (by omega)
  have z1 := m7 (by omega)
  refine ⟨?_, hb, by rw [prg_0 (by omega)]; rw [prg_0 (by omega)] at hs; exact hs⟩
  unfold MC
  refine ⟨by omega, by omega, m3, m4, by omega, by omega, by omega, by omega, by omega, by omega, by omega, by omega, by omega, by omega, by omega, by omega, by omega, by omega, by omega, by omega⟩
theorem MI_3p (h : MI (3, ins, po, fr, to, ln, ea, nds, li, g)) (hn : ¬ 3 ≤ g (151 + 5 * g 2)) : ins = 1 ∧ MI (11, ins, po, fr, to, ln, ea, nds, li, g) := by
  obtain ⟨⟨m1, m2, m3, m4, m5, m6, m7, m8, m9, m10, m11, m12, m13, m14, m15, m16, m17, -⟩, hb, hs⟩ := h
  have z := m6 (by omega)
  have z1 := m7 (by omega)
  have i0 := m9 (by omega)
  have z2 := m17 (by omega)
  refine ⟨i0, ?_, hb, by rw [prg_1 (by omega)]; rw [prg_1 (by omega)] at hs; exact hs⟩
  unfold MC
  refine ⟨by omega, m2, m3, m4, by omega, by omega, by omega, by omega, by omega, by omega, by omega, by omega, by omega, by omega, by omega, by omega, by omega, by omega, by omega, by omega⟩
/-- a text that ends here tells a row -/
theorem MI_Wf (hq : q = 1 ∨ q = 2) (h : MI (q, ins, po, fr, to, ln, ea, nds, li, g)) : Wf g := by
  obtain ⟨⟨m1, m2, m3, m4, m5, m6, m7, -⟩, hb, hs⟩ := h
  rw [prg_0 (by omega), Int.add_zero] at hs
  obtain ⟨a1, a2, a3, a4, a5, a6⟩ := hs
  refine ⟨m6 (by omega), m7 (by omega), m4, by omega, fun c c0 c1 => ?_, fun c b c1 => hb.2 c b (by have := m6 (by omega); omega) c1, fun s s0 s1 => ?_, a4, a5, fun k k0 k1 => Or.inl (a6 k k0 k1)⟩
  · have := hb.1 c c0 c1
    omega
  · have := a2 s s0 s1
    omega
theorem MI_start (hg : ∀ j : Int, 0 ≤ j → j < 308 → g j = 0) : MI (0, 0, po, fr, to, ln, ea, 0, 0, g) := by
  have z0 := hg 0 (by omega) (by omega)
  have z2 := hg 2 (by omega) (by omega)
  have z3 := hg 3 (by omega) (by omega)
  refine ⟨?_, ⟨fun c c0 c1 => by rw [hg (4 + c) (by omega) (by omega)]; omega, fun c b c0 c1 => hg (4 + c) (by omega) (by omega)⟩, ?_⟩
  · unfold MC
    refine ⟨by omega, by omega, by omega, by omega, by omega, by omega, by omega, by omega, by omega, by omega, by omega, by omega, by omega, by omega, by omega, by omega, by omega, by omega, by omega, by omega⟩
  · rw [prg_0 (by omega), z2]
    exact SHP_0 z3 (fun s s0 s1 => hg _ (by omega) (by omega)) (fun k k0 k1 => hg _ (by omega) (by omega))
end KP
