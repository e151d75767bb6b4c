/-! the reference's way to seat: one gets a slot, others may change theirs -/
def win (a b k sn : Int → Int) (x : Int) : Prop := ∀ t : Int, a x ≤ t → t ≤ b x → 0 < k t → sn t = 1
def Nw (a b k : Int → Int) (n : Nat) (so sn sn' : Int → Int) : Prop := (∀ t : Int, 0 ≤ t → t < 48 → sn t = 1 → sn' t = 1) ∧ (∀ t : Int, 0 ≤ t → t < 48 → sn' t = 1 → sn t = 1 ∨ (0 < k t ∧ ctm so n t = k t ∧ ∀ x : Int, 0 ≤ x → x < n → so x = t → win a b k sn' x))
def Cls (P : Int → Prop) (a b k : Int → Int) (n : Nat) (so : Int → Int) (T : Int → Prop) : Prop := (∀ t : Int, 0 ≤ t → t < 48 → T t → 0 < k t → ctm so n t = k t) ∧ (∀ x : Int, 0 ≤ x → x < n → P x → T (so x) → ∀ t : Int, a x ≤ t → t ≤ b x → 0 < k t → T t) ∧ ¬ T (-1)
def Mvd (P : Int → Prop) (a b k : Int → Int) (n : Nat) (so so' : Int → Int) : Prop := ∀ T : Int → Prop, Cls P a b k n so T → ∀ y : Int, 0 ≤ y → y < n → so' y = so y ∨ (¬ T (so y) ∧ ¬ T (so' y))
def b01f (sn : Int → Int) : Prop := ∀ t : Int, 0 ≤ t → t < 48 → sn t = 0 ∨ sn t = 1
def cnt (n : Nat) (so tk : Int → Int) : Prop := ∀ t : Int, 0 ≤ t → t < 48 → tk t = ctm so n t
/-- it got none: nothing has changed but what is seen -/
def GSf (a b k : Int → Int) (n : Nat) (tk so sn : Int → Int) (s0 : Int) (tk' so' sn' : Int → Int) : Prop := tk' = tk ∧ so' = so ∧ b01f sn' ∧ Nw a b k n so sn sn' ∧ win a b k sn' s0
/-- it got one -/
def GSt (P : Int → Prop) (a b k : Int → Int) (n : Nat) (so sn : Int → Int) (s0 : Int) (tk' so' : Int → Int) : Prop :=
  vld P a b k n so' ∧ (∀ t : Int, 0 ≤ t → t < 48 → tk' t = ctm so' n t + bI (so s0 = t)) ∧ Mvd P a b k n so so' ∧
  (∀ y : Int, 0 ≤ y → y < n → ¬ y = s0 → (so y = -1 ∨ sn (so y) = 1) → so' y = so y) ∧ (∀ y : Int, 0 ≤ y → y < n → ¬ y = s0 → so' y = -1 → so y = -1) ∧ (0 ≤ so' s0 ∧ so' s0 < 48 ∧ ¬ sn (so' s0) = 1) ∧ (∀ y : Int, 0 ≤ y → y < n → so' y = so y ∨ ¬ sn (so' y) = 1)
/-- there is room at t now -/
def L1s (P : Int → Prop) (a b k : Int → Int) (n : Nat) (so sn : Int → Int) (t : Int) (tk2 so2 : Int → Int) : Prop :=
  vld P a b k n so2 ∧ cnt n so2 tk2 ∧ Mvd P a b k n so so2 ∧ (∀ y : Int, 0 ≤ y → y < n → (so y = -1 ∨ sn (so y) = 1) → so2 y = so y) ∧ (∀ y : Int, 0 ≤ y → y < n → so2 y = -1 → so y = -1) ∧ ctm so2 n t < k t ∧ (∀ T : Int → Prop, Cls P a b k n so T → ¬ T t) ∧ (∀ y : Int, 0 ≤ y → y < n → so2 y = so y ∨ ¬ sn (so2 y) = 1)
/-- none of the first x that are at t can go -/
def L0s (a b k : Int → Int) (n : Nat) (tk so sn1 : Int → Int) (t x : Int) (sn2 : Int → Int) : Prop :=
  k t ≤ tk t ∧ b01f sn2 ∧ Nw a b k n so (up sn1 t 1) sn2 ∧ (∀ y : Int, 0 ≤ y → y < x → so y = t → win a b k sn2 y)
section GS
variable {P : Int → Prop} {a b k : Int → Int} {n : Nat} {tk so sn sn1 sn2 sn3 tk2 so2 tk3 so3 : Int → Int} {s0 t x : Int}
theorem Nw_rf : Nw a b k n so sn sn := ⟨fun _ _ _ h => h, fun _ _ _ h => Or.inl h⟩
theorem Nw_tr (h1 : Nw a b k n so sn sn1) (h2 : Nw a b k n so sn1 sn2) (hw : ∀ x : Int, 0 ≤ x → x < n → so x = -1 ∨ (0 ≤ a x ∧ b x < 48)) : Nw a b k n so sn sn2 := ⟨fun t t0 t1 q => h2.1 t t0 t1 (h1.1 t t0 t1 q), fun t t0 t1 q => by
  rcases h2.2 t t0 t1 q with z | z
  · rcases h1.2 t t0 t1 z with y | ⟨y1, y2, y3⟩
    · exact Or.inl y
    · refine Or.inr ⟨y1, y2, fun x x0 x1 e u u0 u1 u2 => ?_⟩
      rcases hw x x0 x1 with w | w
      · omega
      · exact h2.1 u (by omega) (by omega) (y3 x x0 x1 e u u0 u1 u2)
  · exact Or.inr z⟩
theorem L1_0 (hv : vld P a b k n so) (hc : cnt n so tk) (t0 : 0 ≤ t) (t1 : t < 48) (hlt : ¬ k t ≤ tk t) : L1s P a b k n so sn t tk so := by
  have e := hc t t0 t1
  refine ⟨hv, hc, fun _ _ _ _ _ => Or.inl rfl, fun _ _ _ _ => rfl, fun _ _ _ q => q, by omega, fun T hT q => ?_, fun _ _ _ => Or.inl rfl⟩
  have := ctm_nn so n t
  have := hT.1 t t0 t1 q (by omega)
  omega
theorem L0_0 (h : k t ≤ tk t) (h1 : b01f sn1) (t0 : 0 ≤ t) : L0s a b k n tk so sn1 t 0 (up sn1 t 1) := ⟨h, fun u u0 u1 => by
  by_cases e : u = t
  · rw [e, up_s]; exact Or.inr rfl
  · rw [up_n _ _ e]; exact h1 u u0 u1, Nw_rf, fun y y0 y1 => absurd y1 (by omega)⟩
theorem L0_skip (h : L0s a b k n tk so sn1 t x sn2) (hx : ¬ so x = t) : L0s a b k n tk so sn1 t (x + 1) sn2 := ⟨h.1, h.2.1, h.2.2.1, fun y y0 y1 e => by
  by_cases c : y = x
  · rw [c] at e; exact absurd e hx
  · exact h.2.2.2 y y0 (by omega) e⟩
theorem L0_fail (hw : ∀ x : Int, 0 ≤ x → x < n → so x = -1 ∨ (0 ≤ a x ∧ b x < 48)) (t0 : 0 ≤ t) (xn : x ≤ n) (h : L0s a b k n tk so sn1 t x sn2) (hf : GSf a b k n tk so sn2 x tk3 so3 sn3) : L0s a b k n tk so sn1 t (x + 1) sn3 := by
  obtain ⟨h1, h2, h3, h4⟩ := h
  obtain ⟨f1, f2, f3, f4, f5⟩ := hf
  refine ⟨h1, f3, Nw_tr h3 f4 hw, fun y y0 y1 e => ?_⟩
  by_cases c : y = x
  · rw [c]; exact f5
  · intro u u0 u1 u2
    rcases hw y y0 (by omega) with w | w
    · omega
    · exact f4.1 u (by omega) (by omega) (h4 y y0 (by omega) e u u0 u1 u2)
theorem L0_done (hc : cnt n so tk) (hv : vld P a b k n so) (hw : ∀ x : Int, 0 ≤ x → x < n → so x = -1 ∨ (0 ≤ a x ∧ b x < 48)) (t0 : 0 ≤ t) (t1 : t < 48) (kp : 0 < k t) (hN : Nw a b k n so sn sn1) (h : L0s a b k n tk so sn1 t x sn2) (hx : (n : Int) ≤ x) : Nw a b k n so sn sn2 ∧ sn2 t = 1 ∧ (∀ u : Int, 0 ≤ u → u < 48 → sn1 u = 1 → sn2 u = 1) := by
  obtain ⟨h1, h2, h3, h4⟩ := h
  have m1 : ∀ u : Int, 0 ≤ u → u < 48 → sn1 u = 1 → sn2 u = 1 := fun u u0 u1 q => h3.1 u u0 u1 (by
    by_cases e : u = t
    · rw [e, up_s]
    · rw [up_n _ _ e]; exact q)
  refine ⟨⟨fun u u0 u1 q => m1 u u0 u1 (hN.1 u u0 u1 q), fun u u0 u1 q => ?_⟩, h3.1 t t0 t1 (up_s _ _ _), m1⟩
  by_cases e : u = t
  · subst e
    have q1 := hc u t0 t1
    have q2 := hv.2 u t0 t1
    exact Or.inr ⟨kp, by omega, fun y y0 y1 ey => h4 y y0 (by omega) ey⟩
  · rcases h3.2 u u0 u1 q with z | z
    · rw [up_n _ _ e] at z
      rcases hN.2 u u0 u1 z with y | ⟨y1, y2, y3⟩
      · exact Or.inl y
      · refine Or.inr ⟨y1, y2, fun x x0 x1 ex v v0 v1 v2 => ?_⟩
        rcases hw x x0 x1 with w | w
        · omega
        · exact m1 v (by omega) (by omega) (y3 x x0 x1 ex v v0 v1 v2)
    · exact Or.inr z
theorem L1_of (hN : Nw a b k n so sn sn1) (t0 : 0 ≤ t) (t1 : t < 48) (nt : ¬ sn1 t = 1) (x0 : 0 ≤ x) (x1 : x < n) (ex : so x = t) (kp : 0 < k t) (hv : vld P a b k n so) (h : L0s a b k n tk so sn1 t x sn2) (hg : GSt P a b k n so sn2 x tk3 so3) : L1s P a b k n so sn t (up tk3 t (tk3 t - 1)) so3 := by
  obtain ⟨h1, h2, h3, h4⟩ := h
  obtain ⟨g1, g2, g3, g4, g5, ⟨g6, g7, g8⟩, g9⟩ := hg
  have st : sn2 t = 1 := h3.1 t t0 t1 (up_s _ _ _)
  have ne : ¬ so3 x = t := fun q => g8 (by rw [q]; exact st)
  have nsn : ¬ sn t = 1 := fun q => nt (hN.1 t t0 t1 q)
  have m2 : ∀ u : Int, 0 ≤ u → u < 48 → sn u = 1 → sn2 u = 1 := fun u u0 u1 q => h3.1 u u0 u1 (by
    by_cases e : u = t
    · rw [e, up_s]
    · rw [up_n _ _ e]; exact hN.1 u u0 u1 q)
  refine ⟨g1, fun u u0 u1 => ?_, g3, fun y y0 y1 hy => ?_, fun y y0 y1 hy => ?_, ?_, fun T hT q => ?_, fun y y0 y1 => ?_⟩
  · by_cases e : u = t
    · rw [e, up_s, g2 t t0 t1, bI_t ex]; omega
    · rw [up_n _ _ e, g2 u u0 u1, bI_f (by omega)]; omega
  · by_cases c : y = x
    · rw [c, ex] at hy
      rcases hy with z | z
      · omega
      · exact absurd z nsn
    · refine g4 y y0 y1 c ?_
      rcases hy with z | z
      · exact Or.inl z
      · rcases hv.1 y y0 y1 with w | w
        · exact Or.inl w
        · exact Or.inr (m2 (so y) (by omega) (by omega) z)
  · by_cases c : y = x
    · rw [c] at hy; omega
    · exact g5 y y0 y1 c hy
  · have w : sm (fun y => bI (so3 y = t) + bI (True ∧ x = y)) n ≤ sm (fun y => bI (so y = t)) n := sm_le (fun y y0 y1 => by
      show bI (so3 y = t) + bI (True ∧ x = y) ≤ bI (so y = t)
      by_cases c : x = y
      · rw [bI_t (P := True ∧ x = y) ⟨trivial, c⟩, ← c, bI_f (P := so3 x = t) ne, bI_t (P := so x = t) ex]; omega
      · rw [bI_f (P := True ∧ x = y) (fun q => c q.2)]
        by_cases d : so3 y = t
        · rcases g9 y y0 y1 with e | e
          · rw [← e]; omega
          · rw [d] at e; exact absurd st e
        · rw [bI_f d]
          have := bI_rng (so y = t)
          omega)
    rw [sm_add (fun y => bI (so3 y = t)) (fun y => bI (True ∧ x = y)) n, sm_pick (Q := fun _ => True) (z := x) n, bI_t (P := (0 ≤ x ∧ x < (n : Int)) ∧ True) ⟨⟨x0, x1⟩, trivial⟩] at w
    have w : ctm so3 n t + 1 ≤ ctm so n t := w
    have q3 := hv.2 t t0 t1
    omega
  · rcases g3 T hT x x0 x1 with z | z
    · rw [ex] at z; exact ne z
    · rw [ex] at z; exact z.1 q
  · by_cases c : so3 y = so y
    · exact Or.inl c
    · rcases g1.1 y y0 y1 with w | w
      · exfalso
        by_cases d : y = x
        · rw [d] at w; omega
        · have := g5 y y0 y1 d w; omega
      · refine Or.inr (fun q => ?_)
        rcases g9 y y0 y1 with e | e
        · exact c e
        · exact e (m2 _ (by omega) (by omega) q)
theorem GSt_of (h : L1s P a b k n so sn t tk2 so2) (t0 : 0 ≤ t) (t1 : t < 48) (nt : ¬ sn t = 1) (x0 : 0 ≤ s0) (x1 : s0 < n) (px : P s0) (ta : a s0 ≤ t) (tb : t ≤ b s0) (kp : 0 < k t) (hs : so s0 = -1 ∨ sn (so s0) = 1) : GSt P a b k n so sn s0 (up tk2 t (tk2 t + 1)) (up so2 s0 t) := by
  obtain ⟨l1, l2, l3, l4, l5, l6, l7, l8⟩ := h
  have e2 := l4 s0 x0 x1 hs
  have ne : ¬ so s0 = t := fun q => by
    rcases hs with z | z
    · omega
    · rw [q] at z; exact nt z
  have cu : ∀ u : Int, ctm (up so2 s0 t) n u = ctm so2 n u - bI (so s0 = u) + bI (t = u) := fun u => by rw [ctm_up x0 x1, e2]
  refine ⟨⟨fun y y0 y1 => ?_, fun u u0 u1 => ?_⟩, fun u u0 u1 => ?_, fun T hT y y0 y1 => ?_, fun y y0 y1 c hy => ?_, fun y y0 y1 c hy => ?_, ?_, fun y y0 y1 => ?_⟩
  · by_cases c : y = s0
    · rw [c, up_s]; exact Or.inr ⟨px, ta, tb, t0, t1, kp⟩
    · rw [up_n _ _ c]; exact l1.1 y y0 y1
  · rw [cu u]
    have q := l1.2 u u0 u1
    have r := bI_rng (so s0 = u)
    by_cases c : t = u
    · rw [bI_t c, ← c]
      rw [← c] at r
      omega
    · rw [bI_f c]; omega
  · rw [cu u]
    have q := l2 u u0 u1
    by_cases c : u = t
    · rw [c, up_s, bI_t (P := t = t) rfl]
      rw [c] at q
      omega
    · rw [up_n _ _ c, bI_f (P := t = u) (fun z => c z.symm)]
      omega
  · by_cases c : y = s0
    · rw [c, up_s]
      exact Or.inr ⟨fun q => l7 T hT (hT.2.1 s0 x0 x1 px q t ta tb kp), l7 T hT⟩
    · rw [up_n _ _ c]; exact l3 T hT y y0 y1
  · rw [up_n _ _ c]; exact l4 y y0 y1 hy
  · rw [up_n _ _ c] at hy; exact l5 y y0 y1 hy
  · rw [up_s]; exact ⟨t0, t1, nt⟩
  · by_cases c : y = s0
    · rw [c, up_s]; exact Or.inr nt
    · rw [up_n _ _ c]; exact l8 y y0 y1
/-- how many are not seen -/
noncomputable def Un (sn : Int → Int) : Int := sm (fun t => bI (¬ sn t = 1)) 48
theorem Un_rng (sn : Int → Int) : 0 ≤ Un sn ∧ Un sn ≤ 48 := by
  have h := sm_rng (f := fun t => bI (¬ sn t = 1)) (a := 0) (b := 1) (n := 48) (fun x _ _ => bI_rng _)
  unfold Un
  omega
theorem Un_le (h : ∀ t : Int, 0 ≤ t → t < 48 → sn t = 1 → sn1 t = 1) : Un sn1 ≤ Un sn := sm_le (fun t t0 t1 => by
  show bI (¬ sn1 t = 1) ≤ bI (¬ sn t = 1)
  by_cases c : sn t = 1
  · rw [bI_f (P := ¬ sn1 t = 1) (fun q => q (h t t0 (by omega) c))]
    exact (bI_rng _).1
  · rw [bI_t c]
    exact (bI_rng _).2)
theorem Un_up (t0 : 0 ≤ t) (t1 : t < 48) (h : ¬ sn t = 1) : Un (up sn t 1) = Un sn - 1 := by
  have q := sm_one (f := fun u => bI (¬ up sn t 1 u = 1)) (h := fun u => bI (¬ sn u = 1)) (k := t) t0 (n := 48) (by omega) (fun j _ _ hj => by show bI (¬ up sn t 1 j = 1) = bI (¬ sn j = 1); rw [up_n _ _ hj])
  have q : sm (fun u => bI (¬ up sn t 1 u = 1)) 48 - sm (fun u => bI (¬ sn u = 1)) 48 = bI (¬ up sn t 1 t = 1) - bI (¬ sn t = 1) := q
  rw [bI_f (P := ¬ up sn t 1 t = 1) (fun z => z (up_s _ _ _)), bI_t (P := ¬ sn t = 1) h] at q
  unfold Un
  omega
/-- what holds between the shifts: those below i that have none find all of T full -/
def LSs (P : Int → Prop) (a b k : Int → Int) (n : Nat) (so tk : Int → Int) (i : Int) : Prop :=
  vld P a b k n so ∧ cnt n so tk ∧ (∀ x : Int, i ≤ x → x < n → so x = -1) ∧ ∃ T : Int → Prop, Cls P a b k n so T ∧ ∀ x : Int, 0 ≤ x → x < i → P x → so x = -1 → ∀ t : Int, a x ≤ t → t ≤ b x → 0 < k t → T t
theorem LS_0 (h : ∀ x : Int, 0 ≤ x → x < n → so x = -1) (hk : ∀ t : Int, 0 ≤ t → t < 48 → tk t = 0) : LSs P a b k n so tk 0 := by
  have z : ∀ t : Int, 0 ≤ t → ctm so n t = 0 := fun t t0 => ctm_0 (fun x x0 x1 q => by have := h x x0 x1; omega)
  exact ⟨⟨fun x x0 x1 => Or.inl (h x x0 x1), fun t t0 _ => by rw [z t t0]; omega⟩, fun t t0 t1 => by rw [z t t0, hk t t0 t1], fun x x0 x1 => h x x0 x1, fun _ => False, ⟨fun _ _ _ q => q.elim, fun _ _ _ _ q => q.elim, fun q => q⟩, fun x x0 x1 => absurd x1 (by omega)⟩
theorem LS_skip {i : Int} (h : LSs P a b k n so tk i) (hp : ¬ P i) : LSs P a b k n so tk (i + 1) := by
  obtain ⟨h1, h2, h3, T, h4, h5⟩ := h
  exact ⟨h1, h2, fun x x0 x1 => h3 x (by omega) x1, T, h4, fun x x0 x1 px => by
    by_cases c : x = i
    · rw [c] at px; exact absurd px hp
    · exact h5 x x0 (by omega) px⟩
theorem LS_yes {i : Int} (i0 : 0 ≤ i) (i1 : i < n) (h : LSs P a b k n so tk i) (hg : GSt P a b k n so sn i tk3 so3) : LSs P a b k n so3 tk3 (i + 1) ∧ (∀ x : Int, 0 ≤ x → x < n → ¬ x = i → (so3 x = -1 ↔ so x = -1)) ∧ ¬ so3 i = -1 := by
  obtain ⟨h1, h2, h3, T, h4, h5⟩ := h
  obtain ⟨g1, g2, g3, g4, g5, ⟨g6, g7, g8⟩, g9⟩ := hg
  have ei := h3 i (by omega) i1
  have eq : ∀ x : Int, 0 ≤ x → x < n → ¬ x = i → (so3 x = -1 ↔ so x = -1) := fun x x0 x1 c => ⟨g5 x x0 x1 c, fun q => by rw [g4 x x0 x1 c (Or.inl q)]; exact q⟩
  have ct : ∀ t : Int, 0 ≤ t → T t → ctm so3 n t = ctm so n t := fun t t0 ht => sm_cong (fun x x0 x1 => by
    rcases g3 T h4 x x0 x1 with z | z
    · show bI (so3 x = t) = bI (so x = t); rw [z]
    · show bI (so3 x = t) = bI (so x = t)
      rw [bI_f (fun q => z.2 (by rw [q]; exact ht)), bI_f (fun q => z.1 (by rw [q]; exact ht))])
  have back : ∀ x : Int, 0 ≤ x → x < n → T (so3 x) → T (so x) := fun x x0 x1 q => by
    rcases g3 T h4 x x0 x1 with z | z
    · rw [← z]; exact q
    · exact absurd q z.2
  refine ⟨⟨g1, fun t t0 t1 => ?_, fun x x0 x1 => ?_, T, ⟨fun t t0 t1 ht kp => ?_, fun x x0 x1 px hx => h4.2.1 x x0 x1 px (back x x0 x1 hx), h4.2.2⟩, fun x x0 x1 px hx => ?_⟩, eq, by omega⟩
  · rw [g2 t t0 t1, bI_f (by omega)]; omega
  · exact (eq x (by omega) x1 (by omega)).mpr (h3 x (by omega) x1)
  · rw [ct t t0 ht]; exact h4.1 t t0 t1 ht kp
  · by_cases c : x = i
    · rw [c] at hx; omega
    · exact h5 x x0 (by omega) px ((eq x x0 (by omega) c).mp hx)
theorem LS_no {i : Int} (hw : ∀ x : Int, 0 ≤ x → x < n → P x → 0 ≤ a x ∧ b x < 48) (i0 : 0 ≤ i) (i1 : i < n) (pi : P i) (hz : ∀ t : Int, 0 ≤ t → t < 48 → sn t = 0) (h : LSs P a b k n so tk i) (hg : GSf a b k n tk so sn i tk3 so3 sn3) : LSs P a b k n so tk (i + 1) := by
  obtain ⟨h1, h2, h3, T, h4, h5⟩ := h
  obtain ⟨f1, f2, f3, f4, f5⟩ := hg
  have sd : ∀ t : Int, 0 ≤ t → t < 48 → sn3 t = 1 → 0 < k t ∧ ctm so n t = k t ∧ ∀ x : Int, 0 ≤ x → x < n → so x = t → win a b k sn3 x := fun t t0 t1 q => by
    rcases f4.2 t t0 t1 q with z | z
    · have := hz t t0 t1; omega
    · exact z
  refine ⟨h1, h2, fun x x0 x1 => h3 x (by omega) x1, fun t => T t ∨ (0 ≤ t ∧ t < 48 ∧ sn3 t = 1), ⟨fun t t0 t1 ht kp => ?_, fun x x0 x1 px hx t ta tb kp => ?_, fun q => ?_⟩, fun x x0 x1 px hx t ta tb kp => ?_⟩
  · rcases ht with z | z
    · exact h4.1 t t0 t1 z kp
    · exact (sd t t0 t1 z.2.2).2.1
  · have w := hw x x0 x1 px
    rcases hx with z | z
    · exact Or.inl (h4.2.1 x x0 x1 px z t ta tb kp)
    · exact Or.inr ⟨by omega, by omega, (sd _ z.1 z.2.1 z.2.2).2.2 x x0 x1 rfl t ta tb kp⟩
  · rcases q with z | z
    · exact h4.2.2 z
    · omega
  · by_cases c : x = i
    · have w := hw x x0 (by omega) px
      rw [c] at ta tb w
      exact Or.inr ⟨by omega, by omega, f5 t ta tb kp⟩
    · exact Or.inl (h5 x x0 (by omega) px hx t ta tb kp)
end GS
theorem LS_least {g so tk : Int → Int} {p : Int} (h : LSs (lP g p) (lA g) (lB g) (lK g p) (g 2).toNat so tk (g 2)) (h2 : 0 ≤ g 2) : LeastIs g p (lC g p 48 + lU g so p (g 2)) := by
  obtain ⟨h1, -, -, T, h4, h5⟩ := h
  refine ⟨so, T, h1, ⟨h4.1, fun x x0 x1 px hx => ?_⟩, rfl⟩
  rcases hx with z | z
  · exact h5 x x0 (by omega) px z
  · exact h4.2.1 x x0 x1 px z
theorem lU_s {g m : Int → Int} {p i : Int} (h : 0 ≤ i) : lU g m p (i + 1) = lU g m p i + bI (lP g p i ∧ m i = -1) := smI_s _ h
theorem lU_cong {g m m' : Int → Int} {p i : Int} (h : ∀ x : Int, 0 ≤ x → x < i → (m x = -1 ↔ m' x = -1)) : lU g m p i = lU g m' p i := smI_cong (fun x x0 x1 => bI_iff ⟨fun q => ⟨q.1, (h x x0 x1).mp q.2⟩, fun q => ⟨q.1, (h x x0 x1).mpr q.2⟩⟩)
