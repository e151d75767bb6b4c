/-! the least shortfall of a post: what it is, and what a greedy way gives -/
theorem ctm_up {m : Int → Int} {n : Nat} {x v t : Int} (x0 : 0 ≤ x) (x1 : x < n) : ctm (up m x v) n t = ctm m n t - bI (m x = t) + bI (v = t) := by
  have h := sm_one (f := fun y => bI (up m x v y = t)) (h := fun y => bI (m y = t)) (k := x) x0 (n := n) x1 (fun j _ _ hj => by show bI (up m x v j = t) = bI (m j = t); rw [up_n m v hj])
  have e : bI (up m x v x = t) = bI (v = t) := by rw [up_s]
  unfold ctm
  have h : sm (fun y => bI (up m x v y = t)) n - sm (fun y => bI (m y = t)) n = bI (up m x v x = t) - bI (m x = t) := h
  rw [e] at h
  omega
theorem ctm_nn (m : Int → Int) (n : Nat) (t : Int) : 0 ≤ ctm m n t := by
  have h := (sm_rng (f := fun x => bI (m x = t)) (a := 0) (b := 1) (n := n) (fun x _ _ => bI_rng _)).1
  unfold ctm
  omega
theorem ctm_0 {m : Int → Int} {n : Nat} {t : Int} (h : ∀ x : Int, 0 ≤ x → x < n → ¬ m x = t) : ctm m n t = 0 := sm_zero (fun x a b => bI_f (h x a b))
def lP (g : Int → Int) (p x : Int) : Prop := g (148 + 5 * x) = p
def lA (g : Int → Int) (x : Int) : Int := g (190 + 5 * g (152 + 5 * x))
def lB (g : Int → Int) (x : Int) : Int := g (191 + 5 * g (152 + 5 * x))
noncomputable def lK (g : Int → Int) (p t : Int) : Int := onD g p t - g (4 + 48 * p + t)
noncomputable def lC (g : Int → Int) (p i : Int) : Int := smI (fun t => max (0 - lK g p t) 0) i
noncomputable def lU (g m : Int → Int) (p i : Int) : Int := smI (fun x => bI (lP g p x ∧ m x = -1)) i
def LeastIs (g : Int → Int) (p z : Int) : Prop := ∃ (m : Int → Int) (T : Int → Prop), vld (lP g p) (lA g) (lB g) (lK g p) (g 2).toNat m ∧ ctf (lP g p) (lA g) (lB g) (lK g p) (g 2).toNat m T ∧ z = lC g p 48 + lU g m p (g 2)
theorem lU_eq {g m : Int → Int} {p : Int} (h : vld (lP g p) (lA g) (lB g) (lK g p) (g 2).toNat m) : lU g m p (g 2) = sm (fun x => bI (lP g p x)) (g 2).toNat - sm (fun x => bI (¬ m x = -1)) (g 2).toNat := by
  rw [← sm_sub]
  unfold lU smI
  refine sm_cong (fun x x0 x1 => ?_)
  show bI (lP g p x ∧ m x = -1) = bI (lP g p x) - bI (¬ m x = -1)
  by_cases c : m x = -1
  · rw [bI_f (P := ¬ m x = -1) (fun q => q c), bI_iff (P := lP g p x ∧ m x = -1) (Q := lP g p x) ⟨fun q => q.1, fun q => ⟨q, c⟩⟩]
    omega
  · rcases h.1 x x0 x1 with z | z
    · exact absurd z c
    · rw [bI_f (P := lP g p x ∧ m x = -1) (fun q => c q.2), bI_t (P := lP g p x) z.1, bI_t (P := ¬ m x = -1) c]
      omega
theorem LeastIs_uniq {g : Int → Int} {p z1 z2 : Int} (h1 : LeastIs g p z1) (h2 : LeastIs g p z2) : z1 = z2 := by
  obtain ⟨m1, T1, v1, c1, e1⟩ := h1
  obtain ⟨m2, T2, v2, c2, e2⟩ := h2
  have a := seat_le v1 v2 c1
  have b := seat_le v2 v1 c2
  rw [lU_eq v1] at e1
  rw [lU_eq v2] at e2
  omega
noncomputable def leastV (g : Int → Int) (p : Int) : Int := Classical.epsilon (fun z => LeastIs g p z)
theorem leastV_eq {g : Int → Int} {p z : Int} (h : LeastIs g p z) : leastV g p = z := LeastIs_uniq (Classical.epsilon_spec (p := fun z => LeastIs g p z) ⟨z, h⟩) h
noncomputable def leastF (g : Int → Int) (p : Int) : Int := @ite Int ((0 ≤ p ∧ p < g 0) ∧ shA g p) (Classical.propDecidable _) (leastV g p) (-1)
theorem leastF_t {g : Int → Int} {p z : Int} (h1 : 0 ≤ p ∧ p < g 0) (h2 : shA g p) (h : LeastIs g p z) : leastF g p = z := by
  unfold leastF
  rw [if_pos ⟨h1, h2⟩]
  exact leastV_eq h
theorem leastF_f {g : Int → Int} {p : Int} (h : ¬ ((0 ≤ p ∧ p < g 0) ∧ shA g p)) : leastF g p = -1 := by
  unfold leastF
  rw [if_neg h]
theorem lC_rng {g : Int → Int} (hg : Wf g) {p i : Int} (p0 : 0 ≤ p) (p1 : p < 3) (h0 : 0 ≤ i) (h1 : i ≤ 48) : 0 ≤ lC g p i ∧ lC g p i ≤ 90 * i := by
  have h := smI_rng (f := fun t => max (0 - lK g p t) 0) (a := 0) (b := 90) h0 (fun t t0 t1 => by
    have a := Wf_needP hg p0 p1 t0 (by omega)
    have n := Wf_n hg
    have b := onDi_rng (g := g) p t (i := g 2) (by omega)
    show 0 ≤ max (0 - (onD g p t - g (4 + 48 * p + t))) 0 ∧ max (0 - (onD g p t - g (4 + 48 * p + t))) 0 ≤ 90
    have e : onD g p t = smI (dq g p t) (g 2) := rfl
    omega)
  unfold lC
  omega
theorem lK_rng {g : Int → Int} (hg : Wf g) {p t : Int} (p0 : 0 ≤ p) (p1 : p < 3) (t0 : 0 ≤ t) (t1 : t < 48) : -90 ≤ lK g p t ∧ lK g p t ≤ 8 := by
  have a := Wf_needP hg p0 p1 t0 t1
  have n := Wf_n hg
  have b := onDi_rng (g := g) p t (i := g 2) (by omega)
  have e : onD g p t = smI (dq g p t) (g 2) := rfl
  unfold lK
  omega
theorem lU_rng (g m : Int → Int) (p : Int) {i : Int} (h : 0 ≤ i) : 0 ≤ lU g m p i ∧ lU g m p i ≤ i := by
  have h := smI_rng (f := fun x => bI (lP g p x ∧ m x = -1)) (a := 0) (b := 1) h (fun x _ _ => bI_rng _)
  unfold lU
  omega
theorem lAB {g : Int → Int} (hg : Wf g) {p : Int} (hA : shA g p) {x : Int} (x0 : 0 ≤ x) (x1 : x < g 2) (px : lP g p x) : 0 ≤ lA g x ∧ lA g x ≤ lB g x ∧ lB g x < 48 ∧ 0 ≤ g (152 + 5 * x) ∧ g (152 + 5 * x) < g 3 := by
  have z := hA x x0 x1 px
  have b := Wf_sh hg x0 x1
  have b2 := Wf_p hg (k := g (152 + 5 * x)) (by omega) (by omega)
  unfold lA lB
  omega
/-- who may be taken at t -/
def avl (g : Int → Int) (p t : Int) (M : Nat) (x : Int) : Prop := lP g p x ∧ M.testBit x.toNat = false ∧ lA g x ≤ t ∧ t ≤ lB g x
theorem ugn_ok {g : Int → Int} {p t : Int} {M : Nat} : ∀ n : Nat, (∀ x : Int, 0 ≤ x → x < n → lP g p x → lB g x < 48) → ((ugn g p t M n = (-1, 48) ∧ ∀ x : Int, 0 ≤ x → x < n → ¬ avl g p t M x) ∨ (0 ≤ (ugn g p t M n).1 ∧ (ugn g p t M n).1 < n ∧ avl g p t M (ugn g p t M n).1 ∧ (ugn g p t M n).2 = lB g (ugn g p t M n).1 ∧ ∀ x : Int, 0 ≤ x → x < n → avl g p t M x → lB g (ugn g p t M n).1 ≤ lB g x))
  | 0, _ => Or.inl ⟨rfl, fun x a b => absurd b (by omega)⟩
  | n + 1, hB => by
    have ih := ugn_ok (g := g) (p := p) (t := t) (M := M) n (fun x a b => hB x a (by omega))
    have e : ugn g p t M (n + 1) = ug1 g p t M (ugn g p t M n) n := rfl
    rw [e]
    generalize ugn g p t M n = s at ih
    unfold ug1
    by_cases c : g (148 + 5 * (n : Int)) = p ∧ M.testBit (n : Int).toNat = false ∧ g (190 + 5 * g (152 + 5 * (n : Int))) ≤ t ∧ t ≤ g (191 + 5 * g (152 + 5 * (n : Int))) ∧ g (191 + 5 * g (152 + 5 * (n : Int))) < s.2
    · rw [if_pos c]
      refine Or.inr ⟨by show (0 : Int) ≤ n; omega, by show (n : Int) < ((n + 1 : Nat) : Int); omega, ⟨c.1, c.2.1, c.2.2.1, c.2.2.2.1⟩, rfl, fun x a b av => ?_⟩
      show lB g n ≤ lB g x
      by_cases ex : x = (n : Int)
      · rw [ex]; exact Int.le_refl _
      · rcases ih with ⟨z1, z2⟩ | ⟨z1, z2, z3, z4, z5⟩
        · exact absurd av (z2 x a (by omega))
        · have q := z5 x a (by omega) av
          have c5 : lB g n < s.2 := c.2.2.2.2
          omega
    · rw [if_neg c]
      rcases ih with ⟨z1, z2⟩ | ⟨z1, z2, z3, z4, z5⟩
      · refine Or.inl ⟨z1, fun x a b av => ?_⟩
        by_cases ex : x = (n : Int)
        · rw [ex] at av
          have q := hB n (by omega) (by omega) av.1
          refine c ⟨av.1, av.2.1, av.2.2.1, av.2.2.2, ?_⟩
          rw [z1]
          exact q
        · exact z2 x a (by omega) av
      · refine Or.inr ⟨z1, by omega, z3, z4, fun x a b av => ?_⟩
        by_cases ex : x = (n : Int)
        · rw [ex] at av
          rw [ex]
          by_cases q : lB g s.1 ≤ lB g n
          · exact q
          · refine absurd ⟨av.1, av.2.1, av.2.2.1, av.2.2.2, ?_⟩ c
            rw [z4]
            show lB g n < lB g s.1
            omega
        · exact z5 x a (by omega) av
/-- behind the slots below u -/
def GI (g : Int → Int) (p u : Int) (m : Int → Int) (M : Nat) : Prop :=
  (∀ x : Int, 0 ≤ x → x < g 2 → m x = -1 ∨ (lP g p x ∧ lA g x ≤ m x ∧ m x ≤ lB g x ∧ 0 ≤ m x ∧ m x < u ∧ 0 < lK g p (m x))) ∧
  (∀ t : Int, 0 ≤ t → t < 48 → ctm m (g 2).toNat t ≤ max (lK g p t) 0) ∧ grd (lP g p) (lA g) (lB g) (lK g p) (g 2).toNat m u ∧
  (∀ x : Int, 0 ≤ x → x < g 2 → (M.testBit x.toNat = true ↔ ¬ m x = -1))
/-- in slot u, with s seated there -/
def GJ (g : Int → Int) (p u s : Int) (m : Int → Int) (M : Nat) : Prop :=
  (∀ x : Int, 0 ≤ x → x < g 2 → m x = -1 ∨ (lP g p x ∧ lA g x ≤ m x ∧ m x ≤ lB g x ∧ 0 ≤ m x ∧ m x < u + 1 ∧ 0 < lK g p (m x))) ∧
  (∀ t : Int, 0 ≤ t → t < 48 → ctm m (g 2).toNat t ≤ max (lK g p t) 0) ∧ ctm m (g 2).toNat u = s ∧ grd (lP g p) (lA g) (lB g) (lK g p) (g 2).toNat m u ∧
  (∀ x : Int, 0 ≤ x → x < g 2 → (M.testBit x.toNat = true ↔ ¬ m x = -1)) ∧
  (∀ y x : Int, 0 ≤ y → y < g 2 → m y = u → 0 ≤ x → x < g 2 → m x = -1 → lP g p x → lA g x ≤ u → u ≤ lB g x → lB g y ≤ lB g x)
theorem GI_0 (g : Int → Int) (p : Int) : GI g p 0 (fun _ => -1) 0 :=
  ⟨fun _ _ _ => Or.inl rfl, fun t t0 _ => by rw [ctm_0 (fun x _ _ q => by omega)]; omega, fun t t0 t1 => absurd t1 (by omega), fun x _ _ => ⟨fun q => by simp at q, fun q => absurd rfl q⟩⟩
theorem GI_GJ {g : Int → Int} {p u : Int} {m : Int → Int} {M : Nat} (h2 : 0 ≤ g 2) (hu : 0 ≤ u) (h : GI g p u m M) : GJ g p u 0 m M := by
  obtain ⟨a, b, c, d⟩ := h
  refine ⟨fun x x0 x1 => ?_, b, ctm_0 (fun x x0 x1 q => ?_), c, d, fun y x y0 y1 q => ?_⟩
  · rcases a x x0 x1 with z | ⟨z1, z2, z3, z4, z5, z6⟩
    · exact Or.inl z
    · exact Or.inr ⟨z1, z2, z3, z4, by omega, z6⟩
  · rcases a x x0 (by omega) with z | ⟨z1, z2, z3, z4, z5, z6⟩
    · omega
    · omega
  · rcases a y y0 y1 with z | ⟨z1, z2, z3, z4, z5, z6⟩
    · omega
    · omega
theorem tb_or {M : Nat} {x y : Int} (x0 : 0 ≤ x) (y0 : 0 ≤ y) : ((M ||| 2 ^ x.toNat).testBit y.toNat = true ↔ (M.testBit y.toNat = true ∨ y = x)) := by
  rw [Nat.testBit_or, Nat.testBit_two_pow]
  by_cases c : y = x
  · subst c
    simp
  · have : ¬ x.toNat = y.toNat := by omega
    simp [this, c]
theorem tb_lt {M : Nat} {x : Int} (hM : M < 256) (x1 : x < 8) : M ||| 2 ^ x.toNat < 256 := by
  have h : 2 ^ x.toNat < 2 ^ 8 := Nat.pow_lt_pow_right (by decide) (by omega)
  exact Nat.or_lt_two_pow (n := 8) hM h
theorem GJ_step {g : Int → Int} {p u s : Int} {m : Int → Int} {M : Nat} (hu : 0 ≤ u) (hu1 : u < 48) (hB : ∀ x : Int, 0 ≤ x → x < ((g 2).toNat : Nat) → lP g p x → lB g x < 48) (h : GJ g p u s m M) (hs : s < lK g p u) (hn : ¬ (ugn g p u M (g 2).toNat).1 = -1) : GJ g p u (s + 1) (up m (ugn g p u M (g 2).toNat).1 u) (M ||| 2 ^ ((ugn g p u M (g 2).toNat).1).toNat) ∧ 0 ≤ (ugn g p u M (g 2).toNat).1 ∧ (ugn g p u M (g 2).toNat).1 < g 2 := by
  obtain ⟨a, b, c, d, f, i⟩ := h
  rcases ugn_ok (g := g) (p := p) (t := u) (M := M) (g 2).toNat hB with ⟨z1, z2⟩ | ⟨z1, z2, z3, z4, z5⟩
  · rw [z1] at hn; exact absurd rfl hn
  · generalize (ugn g p u M (g 2).toNat).1 = X at *
    have X1 : X < g 2 := by omega
    have mX : m X = -1 := Classical.byContradiction fun q => by
      have := (f X z1 X1).mpr q
      rw [z3.2.1] at this
      cases this
    have cu : ∀ t : Int, 0 ≤ t → ctm (up m X u) (g 2).toNat t = ctm m (g 2).toNat t + bI (u = t) := fun t t0 => by
      rw [ctm_up z1 z2, bI_f (P := m X = t) (by omega)]; omega
    refine ⟨⟨fun x x0 x1 => ?_, fun t t0 t1 => ?_, ?_, fun t t0 t1 x x0 x1 px ax bx hx => ?_, fun x x0 x1 => ?_, fun y x y0 y1 hy x0 x1 hx px ax bx => ?_⟩, z1, X1⟩
    · by_cases e : x = X
      · subst e
        rw [up_s]
        exact Or.inr ⟨z3.1, z3.2.2.1, z3.2.2.2, hu, by omega, by have := ctm_nn m (g 2).toNat u; omega⟩
      · rw [up_n m u e]; exact a x x0 x1
    · rw [cu t t0]
      by_cases e : u = t
      · subst e
        rw [bI_t rfl]
        omega
      · rw [bI_f e]
        have := b t t0 t1
        omega
    · rw [cu u hu, bI_t rfl, c]
    · have ne : ¬ u = t := by omega
      have hx' : m x = -1 ∨ t < m x := by
        by_cases e : x = X
        · rw [e]; exact Or.inl mX
        · rw [up_n m u e] at hx; exact hx
      have o := d t t0 t1 x x0 x1 px ax bx hx'
      rw [cu t t0, bI_f ne]
      refine ⟨by omega, fun y y0 y1 my => ?_⟩
      by_cases e : y = X
      · rw [e, up_s] at my; exact absurd my ne
      · rw [up_n m u e] at my; exact o.2 y y0 y1 my
    · rw [tb_or z1 x0]
      by_cases e : x = X
      · rw [e, up_s]
        exact ⟨fun _ => by omega, fun _ => Or.inr rfl⟩
      · rw [up_n m u e]
        have := f x x0 x1
        exact ⟨fun q => this.mp (q.resolve_right e), fun q => Or.inl (this.mpr q)⟩
    · have hx' : m x = -1 := by
        by_cases e : x = X
        · rw [e]; exact mX
        · rw [up_n m u e] at hx; exact hx
      by_cases e : y = X
      · rw [e]
        exact z5 x x0 (by omega) ⟨px, ts_nf2 (fun q => (f x x0 x1).mp q hx'), ax, bx⟩
      · rw [up_n m u e] at hy
        exact i y x y0 y1 hy x0 x1 hx' px ax bx
theorem GJ_done {g : Int → Int} {p u s : Int} {m : Int → Int} {M : Nat} (hu : 0 ≤ u) (hu1 : u < 48) (hB : ∀ x : Int, 0 ≤ x → x < ((g 2).toNat : Nat) → lP g p x → lB g x < 48) (h : GJ g p u s m M) (hs : s = max (lK g p u) 0 ∨ (ugn g p u M (g 2).toNat).1 = -1) : GI g p (u + 1) m M := by
  obtain ⟨a, b, c, d, f, i⟩ := h
  refine ⟨a, b, fun t t0 t1 x x0 x1 px ax bx hx => ?_, f⟩
  by_cases e : t = u
  · subst e
    have mx : m x = -1 := by
      rcases a x x0 (by omega) with z | ⟨z1, z2, z3, z4, z5, z6⟩
      · exact z
      · rcases hx with hx | hx
        · exact hx
        · omega
    rcases hs with hs | hs
    · exact ⟨by omega, fun y y0 y1 my => i y x y0 (by omega) my x0 (by omega) mx px ax bx⟩
    · exfalso
      rcases ugn_ok (g := g) (p := p) (t := t) (M := M) (g 2).toNat hB with ⟨z1, z2⟩ | ⟨z1, z2, z3, z4, z5⟩
      · exact z2 x x0 x1 ⟨px, ts_nf2 (fun q => (f x x0 (by omega)).mp q mx), ax, bx⟩
      · omega
  · exact d t t0 (by omega) x x0 x1 px ax bx hx
theorem GI_least {g : Int → Int} (hg : Wf g) {p : Int} (hA : shA g p) {m : Int → Int} {M : Nat} (h : GI g p 48 m M) : LeastIs g p (lC g p 48 + lU g m p (g 2)) := by
  obtain ⟨a, b, c, d⟩ := h
  have n := Wf_n hg
  have v : vld (lP g p) (lA g) (lB g) (lK g p) (g 2).toNat m := ⟨fun x x0 x1 => a x x0 (by omega), b⟩
  exact ⟨m, _, v, grd_ctf (fun x x0 x1 px => by have z := lAB hg hA x0 (by omega) px; exact ⟨z.1, z.2.2.1⟩) v c, rfl⟩
