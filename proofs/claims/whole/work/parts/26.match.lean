/-! places for pauses that have one slot each: two ways that both seat as many as can be -/
theorem sm_comm (f : Int → Int → Int) (m : Nat) : ∀ n : Nat, sm (fun x => sm (fun t => f x t) m) n = sm (fun t => sm (fun x => f x t) n) m
  | 0 => by
    show (0 : Int) = sm (fun _ => (0 : Int)) m
    exact (sm_zero (fun _ _ _ => rfl)).symm
  | n + 1 => by
    show sm (fun x => sm (fun t => f x t) m) n + sm (fun t => f n t) m = sm (fun t => sm (fun x => f x t) n + f n t) m
    rw [sm_add (fun t => sm (fun x => f x t) n) (fun t => f n t) m, sm_comm f m n]
theorem sm_pick {Q : Int → Prop} {z : Int} : ∀ n : Nat, sm (fun t => bI (Q t ∧ z = t)) n = bI ((0 ≤ z ∧ z < n) ∧ Q z)
  | 0 => by
    show (0 : Int) = _
    rw [bI_f (fun q => by omega)]
  | n + 1 => by
    show sm (fun t => bI (Q t ∧ z = t)) n + bI (Q n ∧ z = (n : Int)) = _
    rw [sm_pick n]
    by_cases e : z = (n : Int)
    · subst e
      rw [bI_f (P := (0 ≤ (n : Int) ∧ (n : Int) < (n : Int)) ∧ Q n) (fun q => by omega)]
      by_cases c : Q n
      · rw [bI_t ⟨c, rfl⟩, bI_t ⟨by omega, c⟩]; rfl
      · rw [bI_f (fun q => c q.1), bI_f (fun q => c q.2)]; rfl
    · rw [bI_f (P := Q n ∧ z = (n : Int)) (fun q => e q.2)]
      rw [bI_iff (P := (0 ≤ z ∧ z < ((n + 1 : Nat) : Int)) ∧ Q z) (Q := (0 ≤ z ∧ z < (n : Int)) ∧ Q z) ⟨fun q => ⟨by omega, q.2⟩, fun q => ⟨by omega, q.2⟩⟩]
      omega
/-- how many of the first n are at t -/
noncomputable def ctm (m : Int → Int) (n : Nat) (t : Int) : Int := sm (fun x => bI (m x = t)) n
/-- P x: x takes part; its slots are a x to b x; k t: the room of a slot -/
def vld (P : Int → Prop) (a b k : Int → Int) (n : Nat) (m : Int → Int) : Prop := (∀ x : Int, 0 ≤ x → x < n → m x = -1 ∨ (P x ∧ a x ≤ m x ∧ m x ≤ b x ∧ 0 ≤ m x ∧ m x < 48 ∧ 0 < k (m x))) ∧ ∀ t : Int, 0 ≤ t → t < 48 → ctm m n t ≤ max (k t) 0
/-- T is full, and who is in it or nowhere finds no room out of it -/
def ctf (P : Int → Prop) (a b k : Int → Int) (n : Nat) (m : Int → Int) (T : Int → Prop) : Prop := (∀ t : Int, 0 ≤ t → t < 48 → T t → 0 < k t → ctm m n t = k t) ∧ (∀ x : Int, 0 ≤ x → x < n → P x → (m x = -1 ∨ T (m x)) → ∀ t : Int, a x ≤ t → t ≤ b x → 0 < k t → T t)
theorem seat_le {P : Int → Prop} {a b k : Int → Int} {n : Nat} {m1 m2 : Int → Int} {T : Int → Prop} (h1 : vld P a b k n m1) (h2 : vld P a b k n m2) (hT : ctf P a b k n m1 T) : sm (fun x => bI (¬ m2 x = -1)) n ≤ sm (fun x => bI (¬ m1 x = -1)) n := by
  have s1 : sm (fun x => bI (¬ m2 x = -1)) n ≤ sm (fun x => bI (¬ m2 x = -1 ∧ T (m2 x)) + bI (¬ m1 x = -1 ∧ ¬ T (m1 x))) n := sm_le (fun x x0 x1 => by
    have p1 := bI_rng (¬ m2 x = -1 ∧ T (m2 x))
    have p2 := bI_rng (¬ m1 x = -1 ∧ ¬ T (m1 x))
    by_cases c : m2 x = -1
    · rw [bI_f (P := ¬ m2 x = -1) (fun q => q c)]; omega
    · have p3 := bI_rng (¬ m2 x = -1)
      by_cases ct : T (m2 x)
      · rw [bI_t (P := ¬ m2 x = -1 ∧ T (m2 x)) ⟨c, ct⟩]; omega
      · rcases h2.1 x x0 x1 with q | ⟨q1, q2, q3, q4, q5, q6⟩
        · exact absurd q c
        · have no : ¬ (m1 x = -1 ∨ T (m1 x)) := fun z => ct (hT.2 x x0 x1 q1 z _ q2 q3 q6)
          rw [bI_t (P := ¬ m1 x = -1 ∧ ¬ T (m1 x)) ⟨fun z => no (Or.inl z), fun z => no (Or.inr z)⟩]
          omega)
  have s2 : sm (fun x => bI (¬ m2 x = -1 ∧ T (m2 x))) n ≤ sm (fun x => bI (¬ m1 x = -1 ∧ T (m1 x))) n := by
    have e : ∀ {m : Int → Int}, vld P a b k n m → sm (fun x => bI (¬ m x = -1 ∧ T (m x))) n = sm (fun t => sm (fun x => bI (T t ∧ m x = t)) n) 48 := fun {m} hm => by
      rw [← sm_comm (fun x t => bI (T t ∧ m x = t)) 48 n]
      refine sm_cong (fun x x0 x1 => ?_)
      rw [sm_pick (Q := T) (z := m x) 48]
      refine bI_iff ⟨fun q => ?_, fun q => ⟨by omega, q.2⟩⟩
      rcases hm.1 x x0 x1 with z | z
      · exact absurd z q.1
      · exact ⟨by omega, q.2⟩
    rw [e h1, e h2]
    refine sm_le (fun t t0 t1 => ?_)
    by_cases c : T t
    · have e2 : ∀ m : Int → Int, sm (fun x => bI (T t ∧ m x = t)) n = ctm m n t := fun m => sm_cong (fun x _ _ => bI_iff ⟨fun q => q.2, fun q => ⟨c, q⟩⟩)
      rw [e2, e2]
      have q2 := h2.2 t t0 (by omega)
      by_cases cp : 0 < k t
      · rw [hT.1 t t0 (by omega) c cp]; omega
      · have q1 : 0 * (n : Int) ≤ ctm m1 n t := (sm_rng (f := fun x => bI (m1 x = t)) (a := 0) (b := 1) (n := n) (fun x _ _ => bI_rng _)).1
        omega
    · rw [sm_zero (f := fun x => bI (T t ∧ m2 x = t)) (fun x _ _ => bI_f (fun q => c q.1)), sm_zero (f := fun x => bI (T t ∧ m1 x = t)) (fun x _ _ => bI_f (fun q => c q.1))]
      exact Int.le_refl _
  have s3 : sm (fun x => bI (¬ m1 x = -1 ∧ T (m1 x)) + bI (¬ m1 x = -1 ∧ ¬ T (m1 x))) n = sm (fun x => bI (¬ m1 x = -1)) n := sm_cong (fun x _ _ => by
    by_cases c : m1 x = -1
    · rw [bI_f (P := ¬ m1 x = -1) (fun q => q c), bI_f (fun q => q.1 c), bI_f (fun q => q.1 c)]; rfl
    · by_cases ct : T (m1 x)
      · rw [bI_t (P := ¬ m1 x = -1) c, bI_t ⟨c, ct⟩, bI_f (fun q => q.2 ct)]; rfl
      · rw [bI_t (P := ¬ m1 x = -1) c, bI_f (fun q => ct q.2), bI_t ⟨c, ct⟩]; rfl)
  rw [sm_add (fun x => bI (¬ m2 x = -1 ∧ T (m2 x))) (fun x => bI (¬ m1 x = -1 ∧ ¬ T (m1 x))) n] at s1
  rw [sm_add (fun x => bI (¬ m1 x = -1 ∧ T (m1 x))) (fun x => bI (¬ m1 x = -1 ∧ ¬ T (m1 x))) n] at s3
  omega
/-- slot by slot, who must go first goes first: what holds behind the slots below u -/
def grd (P : Int → Prop) (a b k : Int → Int) (n : Nat) (m : Int → Int) (u : Int) : Prop := ∀ t : Int, 0 ≤ t → t < u → ∀ x : Int, 0 ≤ x → x < n → P x → a x ≤ t → t ≤ b x → (m x = -1 ∨ t < m x) → ctm m n t = max (k t) 0 ∧ ∀ y : Int, 0 ≤ y → y < n → m y = t → b y ≤ b x
theorem grd_ctf {P : Int → Prop} {a b k : Int → Int} {n : Nat} {m : Int → Int} (hw : ∀ x : Int, 0 ≤ x → x < n → P x → 0 ≤ a x ∧ b x < 48) (hv : vld P a b k n m) (hg : grd P a b k n m 48) : ctf P a b k n m (fun t => ∃ u : Int, 0 ≤ u ∧ u < n ∧ P u ∧ m u = -1 ∧ t ≤ b u ∧ ∀ t' : Int, t ≤ t' → t' ≤ b u → 0 ≤ t' → ctm m n t' = max (k t') 0 ∧ ∀ y : Int, 0 ≤ y → y < n → m y = t' → b y ≤ b u) := by
  refine ⟨fun t t0 t1 hT kp => ?_, fun x x0 x1 px hx t ta tb kp => ?_⟩
  · obtain ⟨u, u0, u1, pu, mu, tu, h⟩ := hT
    have := (h t (Int.le_refl _) tu t0).1
    omega
  · rcases hx with hx | ⟨u, u0, u1, pu, mu, tu, h⟩
    · have w := hw x x0 x1 px
      exact ⟨x, x0, x1, px, hx, tb, fun t' p q r => hg t' r (by omega) x x0 x1 px (by omega) q (Or.inl hx)⟩
    · rcases hv.1 x x0 x1 with z | ⟨z1, z2, z3, z4, z5, z6⟩
      · have w := hw x x0 x1 px
        exact ⟨x, x0, x1, px, z, tb, fun t' p q r => hg t' r (by omega) x x0 x1 px (by omega) q (Or.inl z)⟩
      · have bx := (h (m x) (Int.le_refl _) tu z4).2 x x0 x1 rfl
        refine ⟨u, u0, u1, pu, mu, by omega, fun t' p q r => ?_⟩
        by_cases c : m x ≤ t'
        · exact h t' c q r
        · have e := hg t' r (by omega) x x0 x1 px (by omega) (by omega) (Or.inr (by omega))
          exact ⟨e.1, fun y y0 y1 ym => Int.le_trans (e.2 y y0 y1 ym) bx⟩
