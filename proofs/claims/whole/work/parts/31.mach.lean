/-! the machine that a text steps: (state, in a shift, post, from, to, long, early, needs, lines, row) -/
abbrev PS : Type := Int × Int × Int × Int × Int × Int × Int × Int × Int × (Int → Int)
abbrev PR : Type := (Int × Int) ⊕ (Int × (Int → Int))
def loS : PS → Int
  | (q, _, _, fr, _, _, ea, _, _, _) => if q = 5 ∨ q = 6 ∨ q = 11 then 1 else if q = 9 ∨ q = 12 then fr else if q = 13 then ea else 0
def hiS : PS → Int
  | (q, _, _, _, to, ln, _, _, _, g) => if q = 5 then 3 else if q = 6 then 4 else if q = 7 then g 0 - 1 else if q = 10 then 9 else if q = 11 then 4 else if q = 12 then to else if q = 13 then to - ln + 1 else 47
def adn (g : Int → Int) (po fr to m : Int) : Int → Int := fun j => if 4 + 48 * po + fr ≤ j ∧ j ≤ 4 + 48 * po + to then g j + m else g j
def finP (g : Int → Int) (m : Int) : Int → Int := up (up (up (up g (191 + 5 * g 3) m) (188 + 5 * g 3) (g 2)) (151 + 5 * g 2) (g (151 + 5 * g 2) + 1)) 3 (g 3 + 1)
def kpS (m : Int) : PS → PS
  | (q, ins, po, fr, to, ln, ea, nds, li, g) =>
    if q = 5 then (6, ins, po, fr, to, ln, ea, nds, li, up g 0 m)
    else if q = 6 then (4, ins, po, fr, to, ln, ea, nds, li, up g 1 m)
    else if q = 7 then (8, ins, m, fr, to, ln, ea, nds, li, if ins = 1 then up g (148 + 5 * g 2) m else g)
    else if q = 8 then (9, ins, po, m, to, ln, ea, nds, li, if ins = 1 then up g (149 + 5 * g 2) m else g)
    else if q = 9 then (if ins = 1 then 3 else 10, ins, po, fr, m, ln, ea, nds, li, if ins = 1 then up (up g (150 + 5 * g 2) m) (152 + 5 * g 2) (g 3) else g)
    else if q = 10 then (4, ins, po, fr, to, ln, ea, nds + 1, li, adn g po fr to m)
    else if q = 11 then (12, ins, po, fr, to, m, ea, nds, li, up g (189 + 5 * g 3) m)
    else if q = 12 then (13, ins, po, fr, to, ln, m, nds, li, up g (190 + 5 * g 3) m)
    else (3, ins, po, fr, to, ln, ea, nds, li, finP g m)
def nuS (m : Int) (σ : PS) : Int ⊕ PS := if σ.1 < 5 then .inl 1 else if m < loS σ ∨ hiS σ < m then .inl 2 else .inr (kpS m σ)
def siS : PS → Int ⊕ PS
  | (q, ins, po, fr, to, ln, ea, nds, li, g) => if ¬ q = 4 ∧ ¬ q = 3 then .inl 1 else .inr (if ins = 1 then 2 else 1, ins, po, fr, to, ln, ea, nds, li + 1, if ins = 1 then up g 2 (g 2 + 1) else g)
/-- words: 1 posts, 2 need, 3 shift, 4 pause -/
def wdS (w : Int) : PS → Int ⊕ PS
  | (q, ins, po, fr, to, ln, ea, nds, li, g) =>
    if q = 0 ∧ w = 1 then .inr (5, ins, po, fr, to, ln, ea, nds, li, g)
    else if q = 1 ∧ w = 2 then (if 10 ≤ nds then .inl 3 else .inr (7, ins, po, fr, to, ln, ea, nds, li, g))
    else if (q = 1 ∨ q = 2) ∧ w = 3 then (if 8 ≤ g 2 then .inl 3 else .inr (7, 1, po, fr, to, ln, ea, nds, li, g))
    else if q = 3 ∧ w = 4 then (if 3 ≤ g (151 + 5 * g 2) then .inl 3 else .inr (11, ins, po, fr, to, ln, ea, nds, li, g))
    else .inl 1
noncomputable def wid (b : Int → Int) (s f : Int) : Int := bI (spells b s f [112, 111, 115, 116, 115]) + 2 * bI (spells b s f [110, 101, 101, 100]) + 3 * bI (spells b s f [115, 104, 105, 102, 116]) + 4 * bI (spells b s f [112, 97, 117, 115, 101])
noncomputable def stp (b : Int → Int) (n s : Int) (σ : PS) : Int ⊕ PS := if tkK b n s = 1 then wdS (wid b s (tkE b n s)) σ else if tkK b n s = 2 then nuS (nmb b s (tkE b n s)) σ else if tkK b n s = 3 then siS σ else .inl 1
def clS (n : Int) : PS → PR
  | (q, _, _, _, _, _, _, _, li, g) => if 600 < n then .inl (1, 600) else if ¬ q = 1 ∧ ¬ q = 2 then .inl (1, n) else .inr (li, g)
noncomputable def rnP (b : Int → Int) (n : Int) : Nat → PS → Int → PR
  | 0, _, _ => .inl (0, 0)
  | f + 1, σ, e => if n ≤ tkS b n e ∨ 600 ≤ tkS b n e then clS n σ else match stp b n (tkS b n e) σ with
    | .inl k => .inl (k, tkS b n e)
    | .inr τ => rnP b n f τ (tkE b n (tkS b n e))
noncomputable def runT (b : Int → Int) (n : Int) (σ : PS) (e : Int) : PR := rnP b n ((n - e).toNat + 1) σ e
theorem rnP_fuel {b : Int → Int} {n : Int} : ∀ (f f' : Nat) (σ : PS) (e : Int), e ≤ n → (n - e).toNat < f → (n - e).toNat < f' → rnP b n f σ e = rnP b n f' σ e
  | 0, _, _, _, _, h, _ => absurd h (Nat.not_lt_zero _)
  | _ + 1, 0, _, _, _, _, h => absurd h (Nat.not_lt_zero _)
  | f + 1, f' + 1, σ, e, he, h, h' => by
    have r := skp_r (P := isBl) (b := b) (n := n) (i := e) he
    show (if n ≤ tkS b n e ∨ 600 ≤ tkS b n e then clS n σ else match stp b n (tkS b n e) σ with
      | .inl k => .inl (k, tkS b n e)
      | .inr τ => rnP b n f τ (tkE b n (tkS b n e))) = (if n ≤ tkS b n e ∨ 600 ≤ tkS b n e then clS n σ else match stp b n (tkS b n e) σ with
      | .inl k => .inl (k, tkS b n e)
      | .inr τ => rnP b n f' τ (tkE b n (tkS b n e)))
    by_cases c : n ≤ tkS b n e ∨ 600 ≤ tkS b n e
    · rw [if_pos c, if_pos c]
    · rw [if_neg c, if_neg c]
      have t := tkE_r (b := b) (n := n) (s := tkS b n e) (by omega)
      have g1 : e ≤ tkS b n e := r.1
      cases stp b n (tkS b n e) σ with
      | inl k => rfl
      | inr τ => exact rnP_fuel f f' τ _ t.2 (by omega) (by omega)
/-- one token on -/
theorem run_s {b : Int → Int} {n : Int} {σ : PS} {e : Int} (he : e ≤ n) (h : ¬ (n ≤ tkS b n e ∨ 600 ≤ tkS b n e)) : runT b n σ e = match stp b n (tkS b n e) σ with
    | .inl k => .inl (k, tkS b n e)
    | .inr τ => runT b n τ (tkE b n (tkS b n e)) := by
  have r := skp_r (P := isBl) (b := b) (n := n) (i := e) he
  have g1 : e ≤ tkS b n e := r.1
  have t := tkE_r (b := b) (n := n) (s := tkS b n e) (by omega)
  show (if n ≤ tkS b n e ∨ 600 ≤ tkS b n e then clS n σ else match stp b n (tkS b n e) σ with
      | .inl k => .inl (k, tkS b n e)
      | .inr τ => rnP b n (n - e).toNat τ (tkE b n (tkS b n e))) = _
  rw [if_neg h]
  cases stp b n (tkS b n e) σ with
  | inl k => rfl
  | inr τ => exact rnP_fuel _ _ τ _ t.2 (by omega) (by omega)
theorem run_e {b : Int → Int} {n : Int} {σ : PS} {e : Int} (h : n ≤ tkS b n e ∨ 600 ≤ tkS b n e) : runT b n σ e = clS n σ := by
  show (if n ≤ tkS b n e ∨ 600 ≤ tkS b n e then clS n σ else _) = _
  rw [if_pos h]
theorem run_bad {b : Int → Int} {n : Int} {σ : PS} {e k : Int} (he : e ≤ n) (h : ¬ (n ≤ tkS b n e ∨ 600 ≤ tkS b n e)) (hs : stp b n (tkS b n e) σ = .inl k) : runT b n σ e = .inl (k, tkS b n e) := by
  rw [run_s he h, hs]
theorem run_go {b : Int → Int} {n : Int} {σ τ : PS} {e : Int} (he : e ≤ n) (h : ¬ (n ≤ tkS b n e ∨ 600 ≤ tkS b n e)) (hs : stp b n (tkS b n e) σ = .inr τ) : runT b n σ e = runT b n τ (tkE b n (tkS b n e)) := by
  rw [run_s he h, hs]
