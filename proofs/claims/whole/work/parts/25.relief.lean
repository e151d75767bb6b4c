/-! the relief: what helps most from a post and a slot on -/
noncomputable def hlp (g : Int → Int) (p t : Int) : Int := bI (0 < sh g p t)
/-- of those that walk the first that is more, from (most, where) -/
def wk1 (V : Int → Int → Int) (p t : Int) (s : Int × Int) (x : Int) : Int × Int := if ¬ x = p ∧ s.1 < V x t then (V x t, x) else s
def wkn (V : Int → Int → Int) (p t : Int) (s : Int × Int) : Nat → Int × Int
  | 0 => s
  | n + 1 => wk1 V p t (wkn V p t s n) n
theorem wkn_s {V : Int → Int → Int} {p t : Int} {s : Int × Int} {i : Int} (h : 0 ≤ i) : wkn V p t s (i + 1).toNat = wk1 V p t (wkn V p t s i.toNat) i := by
  rw [show (i + 1).toNat = i.toNat + 1 by omega]
  show wk1 V p t _ ((i.toNat : Nat) : Int) = _
  rw [Int.toNat_of_nonneg h]
/-- what is known from slot 48 - n on -/
noncomputable def Vt (g : Int → Int) : Nat → Int → Int → Int
  | 0 => fun _ _ => 0
  | n + 1 => fun p t => if t = 47 - (n : Int) then (wkn (Vt g n) p (t + g 1) (hlp g p t + Vt g n p (t + 1), p) (g 0).toNat).1 else Vt g n p t
noncomputable def Vf (g : Int → Int) (p t : Int) : Int := Vt g 48 p t
noncomputable def sty (g : Int → Int) (p t : Int) : Int := hlp g p t + Vf g p (t + 1)
noncomputable def nxp (g : Int → Int) (p t : Int) : Int × Int := wkn (Vf g) p (t + g 1) (sty g p t, p) (g 0).toNat
theorem Vt_hi (g : Int → Int) (p : Int) {t : Int} (h : 48 ≤ t) : ∀ n : Nat, Vt g n p t = 0
  | 0 => rfl
  | n + 1 => by
    show (if t = 47 - (n : Int) then _ else Vt g n p t) = 0
    rw [if_neg (by omega)]
    exact Vt_hi g p h n
theorem Vf_hi (g : Int → Int) (p : Int) {t : Int} (h : 48 ≤ t) : Vf g p t = 0 := Vt_hi g p h 48
/-- once known it stays -/
theorem Vt_up {g : Int → Int} {p t : Int} : ∀ {n d : Nat}, 48 - (n : Int) ≤ t → Vt g (n + d) p t = Vt g n p t
  | n, 0, _ => rfl
  | n, d + 1, h => by
    show (if t = 47 - ((n + d : Nat) : Int) then _ else Vt g (n + d) p t) = _
    rw [if_neg (by omega)]
    exact Vt_up (n := n) (d := d) h
theorem Vt_f {g : Int → Int} {p t : Int} {n : Nat} (hn : n ≤ 48) (h : 48 - (n : Int) ≤ t) : Vt g n p t = Vf g p t := by
  have := Vt_up (g := g) (p := p) (t := t) (n := n) (d := 48 - n) h
  rw [show n + (48 - n) = 48 by omega] at this
  exact this.symm
theorem wkn_cong {V U : Int → Int → Int} {p t : Int} {s : Int × Int} (h : ∀ x : Int, V x t = U x t) : ∀ n : Nat, wkn V p t s n = wkn U p t s n
  | 0 => rfl
  | n + 1 => by
    show wk1 V p t _ _ = wk1 U p t _ _
    rw [wkn_cong h n]
    unfold wk1
    rw [h]
theorem Vf_eq {g : Int → Int} (h : Wf g) {p t : Int} (h0 : 0 ≤ t) (h1 : t < 48) : Vf g p t = (nxp g p t).1 := by
  have n := Wf_n h
  have e : Vt g ((47 - t).toNat + 1) p t = Vf g p t := Vt_f (by omega) (by omega)
  rw [← e]
  show (if t = 47 - (((47 - t).toNat : Nat) : Int) then _ else _) = _
  rw [if_pos (by omega)]
  unfold nxp sty
  rw [Vt_f (n := (47 - t).toNat) (p := p) (t := t + 1) (by omega) (by omega), wkn_cong (U := Vf g) (fun x => Vt_f (n := (47 - t).toNat) (p := x) (t := t + g 1) (by omega) (by omega))]
/-- what the walkers bring: never less, and where it is more somebody brings it, the first of the most -/
theorem wkn_ok {V : Int → Int → Int} {p t : Int} {s : Int × Int} (hs : s.2 = p) : ∀ n : Nat, s.1 ≤ (wkn V p t s n).1 ∧ (∀ x : Int, 0 ≤ x → x < n → x ≠ p → V x t ≤ (wkn V p t s n).1) ∧ ((wkn V p t s n) = s ∨ (s.1 < (wkn V p t s n).1 ∧ 0 ≤ (wkn V p t s n).2 ∧ (wkn V p t s n).2 < n ∧ (wkn V p t s n).2 ≠ p ∧ V (wkn V p t s n).2 t = (wkn V p t s n).1 ∧ ∀ x : Int, 0 ≤ x → x < (wkn V p t s n).2 → x ≠ p → V x t < (wkn V p t s n).1))
  | 0 => ⟨Int.le_refl _, fun x a b => by omega, Or.inl rfl⟩
  | n + 1 => by
    obtain ⟨a, b, c⟩ := wkn_ok (V := V) (p := p) (t := t) (s := s) hs n
    have e : wkn V p t s (n + 1) = wk1 V p t (wkn V p t s n) n := rfl
    rw [e]
    generalize wkn V p t s n = r at a b c ⊢
    unfold wk1
    by_cases q : ¬ (n : Int) = p ∧ r.1 < V n t
    · rw [if_pos q]
      refine ⟨by show s.1 ≤ V n t; omega, fun x x0 x1 xp => ?_, Or.inr ⟨by show s.1 < V n t; omega, by show 0 ≤ (n : Int); omega, by show (n : Int) < ((n + 1 : Nat) : Int); omega, q.1, rfl, fun x x0 x1 xp => ?_⟩⟩
      · show V x t ≤ V n t
        by_cases xe : x = (n : Int)
        · rw [xe]; exact Int.le_refl _
        · have := b x x0 (by omega) xp; omega
      · show V x t < V n t
        have x1 : x < (n : Int) := x1
        have := b x x0 x1 xp
        omega
    · rw [if_neg q]
      refine ⟨a, fun x x0 x1 xp => ?_, ?_⟩
      · by_cases xe : x = (n : Int)
        · rw [xe] at xp ⊢
          by_cases z : r.1 < V n t
          · exact absurd ⟨xp, z⟩ q
          · omega
        · exact b x x0 (by omega) xp
      · rcases c with c | ⟨c1, c2, c3, c4, c5, c6⟩
        · exact Or.inl c
        · exact Or.inr ⟨c1, c2, by omega, c4, c5, c6⟩
theorem hlp_rng (g : Int → Int) (p t : Int) : 0 ≤ hlp g p t ∧ hlp g p t ≤ 1 := bI_rng _
theorem Vf_stay {g : Int → Int} (h : Wf g) {p t : Int} (h0 : 0 ≤ t) (h1 : t < 48) : sty g p t ≤ Vf g p t := by
  rw [Vf_eq h h0 h1]
  exact (wkn_ok (V := Vf g) (p := p) (t := t + g 1) (s := (sty g p t, p)) rfl (g 0).toNat).1
theorem Vf_walk {g : Int → Int} (h : Wf g) {p x t : Int} (h0 : 0 ≤ t) (h1 : t < 48) (x0 : 0 ≤ x) (x1 : x < g 0) (xp : x ≠ p) : Vf g x (t + g 1) ≤ Vf g p t := by
  rw [Vf_eq h (p := p) h0 h1]
  exact (wkn_ok (V := Vf g) (p := p) (t := t + g 1) (s := (sty g p t, p)) rfl (g 0).toNat).2.1 x x0 (by omega) xp
theorem Vf_rng {g : Int → Int} (h : Wf g) : ∀ (n : Nat) (p t : Int), 48 - (n : Int) ≤ t → 0 ≤ t → 0 ≤ Vf g p t ∧ (t ≤ 48 → Vf g p t ≤ 48 - t)
  | 0, p, t, h0, _ => by rw [Vf_hi g p (by omega)]; omega
  | n + 1, p, t, h0, ht => by
    by_cases c : 48 ≤ t
    · rw [Vf_hi g p c]; omega
    · have ih := Vf_rng h n p (t + 1) (by omega) (by omega)
      have hl := hlp_rng g p t
      have st := Vf_stay h (p := p) ht (by omega)
      have w := Wf_n h
      have e := Vf_eq h (p := p) (t := t) ht (by omega)
      refine ⟨by unfold sty at st; omega, fun _ => ?_⟩
      rcases (wkn_ok (V := Vf g) (p := p) (t := t + g 1) (s := (sty g p t, p)) rfl (g 0).toNat).2.2 with a | ⟨a1, a2, a3, a4, a5, a6⟩
      · rw [e]
        unfold nxp
        rw [a]
        show sty g p t ≤ 48 - t
        unfold sty
        have := ih.2 (by omega)
        omega
      · rw [e]
        unfold nxp
        rw [← a5]
        by_cases c2 : 48 ≤ t + g 1
        · rw [Vf_hi g _ c2]; omega
        · have := (Vf_rng h n (wkn (Vf g) p (t + g 1) (sty g p t, p) (g 0).toNat).2 (t + g 1) (by omega) (by omega)).2 (by omega)
          omega
theorem Vf_r {g : Int → Int} (h : Wf g) {p t : Int} (h0 : 0 ≤ t) : 0 ≤ Vf g p t ∧ Vf g p t ≤ 48 := by
  by_cases c : t ≤ 48
  · have := Vf_rng h (48 - t).toNat p t (by omega) h0
    have b := this.2 c
    exact ⟨this.1, by omega⟩
  · rw [Vf_hi g p (by omega)]; omega
/-- later is never more -/
theorem Vf_mono {g : Int → Int} (h : Wf g) {p : Int} : ∀ (d : Nat) (t : Int), 0 ≤ t → Vf g p (t + d) ≤ Vf g p t
  | 0, t, _ => by rw [show t + ((0 : Nat) : Int) = t by omega]; exact Int.le_refl _
  | d + 1, t, h0 => by
    have ih := Vf_mono h (p := p) d t h0
    have r := Vf_r h (p := p) (t := t) h0
    by_cases c : 48 ≤ t + (d : Int)
    · rw [Vf_hi g p (by omega)]; exact r.1
    · have st := Vf_stay h (p := p) (t := t + (d : Int)) (by omega) (by omega)
      have hl := hlp_rng g p (t + (d : Int))
      unfold sty at st
      rw [show t + ((d + 1 : Nat) : Int) = t + (d : Int) + 1 by omega]
      omega
/-- who stays where it may stays; who walks goes to the least post where it may stay -/
theorem nxp_stay {g : Int → Int} (h : Wf g) {p t : Int} (h0 : 0 ≤ t) (h1 : t < 48) (e : sty g p t = Vf g p t) : (nxp g p t).2 = p := by
  rcases (wkn_ok (V := Vf g) (p := p) (t := t + g 1) (s := (sty g p t, p)) rfl (g 0).toNat).2.2 with a | ⟨a1, _⟩
  · unfold nxp; rw [a]
  · rw [Vf_eq h h0 h1] at e
    unfold nxp at e
    have a1 : sty g p t < (wkn (Vf g) p (t + g 1) (sty g p t, p) (g 0).toNat).1 := a1
    omega
theorem nxp_walk {g : Int → Int} (h : Wf g) {p t : Int} (h0 : 0 ≤ t) (h1 : t < 48) (e : ¬ sty g p t = Vf g p t) : 0 ≤ (nxp g p t).2 ∧ (nxp g p t).2 < g 0 ∧ (nxp g p t).2 ≠ p ∧ t + g 1 < 48 ∧ Vf g (nxp g p t).2 (t + g 1) = Vf g p t ∧ (∀ x : Int, 0 ≤ x → x < (nxp g p t).2 → x ≠ p → Vf g x (t + g 1) < Vf g p t) ∧ (∀ x : Int, 0 ≤ x → x < g 0 → x ≠ p → Vf g x (t + g 1) = Vf g p t → sty g x (t + g 1) = Vf g p t) := by
  have w := Wf_n h
  have ev := Vf_eq h (p := p) (t := t) h0 h1
  have st := Vf_stay h (p := p) h0 h1
  rcases (wkn_ok (V := Vf g) (p := p) (t := t + g 1) (s := (sty g p t, p)) rfl (g 0).toNat).2.2 with a | ⟨a1, a2, a3, a4, a5, a6⟩
  · exact absurd (by rw [ev]; unfold nxp; rw [a]) e
  · have hw : t + g 1 < 48 := by
      refine Classical.byContradiction fun c => ?_
      rw [Vf_hi g _ (by omega)] at a5
      have r := Vf_r h (p := p) (t := t + 1) (by omega)
      have hl := hlp_rng g p t
      have a1 : sty g p t < (wkn (Vf g) p (t + g 1) (sty g p t, p) (g 0).toNat).1 := a1
      unfold sty at a1 a5
      omega
    refine ⟨a2, by unfold nxp; omega, a4, hw, by rw [ev]; exact a5, fun x x0 x1 xp => by rw [ev]; exact a6 x x0 x1 xp, fun x x0 x1 xp xe => ?_⟩
    refine Classical.byContradiction fun c => ?_
    have sx := Vf_stay h (p := x) (t := t + g 1) (by omega) hw
    have ex := Vf_eq h (p := x) (t := t + g 1) (by omega) hw
    have m1 := Vf_mono h (p := p) (g 1 - 1).toNat (t + 1) (by omega)
    rw [show t + 1 + (((g 1 - 1).toNat : Nat) : Int) = t + g 1 by omega] at m1
    have hl := hlp_rng g p t
    rcases (wkn_ok (V := Vf g) (p := x) (t := t + g 1 + g 1) (s := (sty g x (t + g 1), x)) rfl (g 0).toNat).2.2 with b | ⟨b1, b2, b3, b4, b5, b6⟩
    · exact c (by rw [← xe, ex]; unfold nxp; rw [b])
    · have b5 : Vf g (nxp g x (t + g 1)).2 (t + g 1 + g 1) = Vf g x (t + g 1) := by rw [ex]; exact b5
      by_cases r : (nxp g x (t + g 1)).2 = p
      · rw [r] at b5
        have m2 := Vf_mono h (p := p) (g 1).toNat (t + g 1) (by omega)
        rw [show t + g 1 + (((g 1).toNat : Nat) : Int) = t + g 1 + g 1 by omega] at m2
        unfold sty at st e
        omega
      · have m2 := Vf_walk h (p := p) (x := (nxp g x (t + g 1)).2) (t := t + g 1) (by omega) hw b2 (by unfold nxp; omega) r
        unfold sty at st e
        omega
/-- the way: at which post, since when, behind the first n slots -/
noncomputable def cw (g : Int → Int) (p : Int) : Nat → Int × Int
  | 0 => (p, 0)
  | n + 1 => if (cw g p n).2 ≤ (n : Int) ∧ ¬ (nxp g (cw g p n).1 n).2 = (cw g p n).1 then ((nxp g (cw g p n).1 n).2, (n : Int) + g 1) else cw g p n
theorem cw_s {g : Int → Int} {p i : Int} (h : 0 ≤ i) : cw g p (i + 1).toNat = if (cw g p i.toNat).2 ≤ i ∧ ¬ (nxp g (cw g p i.toNat).1 i).2 = (cw g p i.toNat).1 then ((nxp g (cw g p i.toNat).1 i).2, i + g 1) else cw g p i.toNat := by
  rw [show (i + 1).toNat = i.toNat + 1 by omega]
  show (if (cw g p i.toNat).2 ≤ ((i.toNat : Nat) : Int) ∧ ¬ (nxp g (cw g p i.toNat).1 ((i.toNat : Nat) : Int)).2 = (cw g p i.toNat).1 then ((nxp g (cw g p i.toNat).1 ((i.toNat : Nat) : Int)).2, ((i.toNat : Nat) : Int) + g 1) else cw g p i.toNat) = _
  rw [Int.toNat_of_nonneg h]
/-- while it walks nothing changes -/
theorem cw_wait {g : Int → Int} {p a x : Int} {i : Int} (h : 0 ≤ i) (e : cw g p i.toNat = (x, a)) : ∀ d : Nat, i + (d : Int) ≤ a → cw g p (i.toNat + d) = (x, a)
  | 0, _ => e
  | d + 1, hd => by
    have ih := cw_wait h e d (by omega)
    have z : cw g p (i.toNat + d + 1) = if (cw g p (i.toNat + d)).2 ≤ ((i.toNat + d : Nat) : Int) ∧ ¬ (nxp g (cw g p (i.toNat + d)).1 ((i.toNat + d : Nat) : Int)).2 = (cw g p (i.toNat + d)).1 then ((nxp g (cw g p (i.toNat + d)).1 ((i.toNat + d : Nat) : Int)).2, ((i.toNat + d : Nat) : Int) + g 1) else cw g p (i.toNat + d) := rfl
    refine z.trans ((if_neg (fun q => ?_)).trans ih)
    have q1 := q.1
    rw [ih] at q1
    have q1 : a ≤ ((i.toNat + d : Nat) : Int) := q1
    omega
theorem cw_in {g : Int → Int} (h : Wf g) {p : Int} (p0 : 0 ≤ p) (p1 : p < g 0) : ∀ n : Nat, n ≤ 48 → 0 ≤ (cw g p n).1 ∧ (cw g p n).1 < g 0 ∧ 0 ≤ (cw g p n).2 ∧ (cw g p n).2 ≤ n + 4
  | 0, _ => ⟨p0, p1, by show (0 : Int) ≤ 0; omega, by show (0 : Int) ≤ _; omega⟩
  | n + 1, hn => by
    obtain ⟨a, b, c, d⟩ := cw_in h p0 p1 n (by omega)
    have w := Wf_n h
    show 0 ≤ (ite _ _ _ : Int × Int).1 ∧ (ite _ _ _ : Int × Int).1 < g 0 ∧ 0 ≤ (ite _ _ _ : Int × Int).2 ∧ (ite _ _ _ : Int × Int).2 ≤ ((n + 1 : Nat) : Int) + 4
    by_cases q : (cw g p n).2 ≤ (n : Int) ∧ ¬ (nxp g (cw g p n).1 n).2 = (cw g p n).1
    · rw [if_pos q]
      have z := nxp_walk h (p := (cw g p n).1) (t := (n : Int)) (by omega) (by omega) (fun e => q.2 (nxp_stay h (by omega) (by omega) e))
      exact ⟨z.1, z.2.1, by show 0 ≤ (n : Int) + g 1; omega, by show (n : Int) + g 1 ≤ _; omega⟩
    · rw [if_neg q]
      exact ⟨a, b, c, by omega⟩
noncomputable def reliefF (g : Int → Int) (p t : Int) : Int := if (0 ≤ p ∧ p < g 0) ∧ (t = -1 ∨ (0 ≤ t ∧ t < 48)) then (if t = -1 then Vf g p 0 else if t < (cw g p (t + 1).toNat).2 then 9 else (cw g p (t + 1).toNat).1) else -1
