/-! what the row of a plan says: g by the places of the reference's row -/
def sm (f : Int → Int) : Nat → Int
  | 0 => 0
  | n + 1 => sm f n + f n
def smI (f : Int → Int) (i : Int) : Int := sm f i.toNat
theorem smI_0 (f : Int → Int) : smI f 0 = 0 := rfl
theorem smI_s (f : Int → Int) {i : Int} (h : 0 ≤ i) : smI f (i + 1) = smI f i + f i := by
  unfold smI
  rw [show (i + 1).toNat = i.toNat + 1 by omega]
  show sm f i.toNat + f ((i.toNat : Nat) : Int) = _
  rw [Int.toNat_of_nonneg h]
theorem sm_cong {f g : Int → Int} : ∀ {n : Nat}, (∀ k : Int, 0 ≤ k → k < n → f k = g k) → sm f n = sm g n
  | 0, _ => rfl
  | n + 1, h => by
    show sm f n + f n = sm g n + g n
    rw [sm_cong (n := n) (fun k h0 h1 => h k h0 (by omega)), h n (by omega) (by omega)]
theorem smI_cong {f g : Int → Int} {i : Int} (h : ∀ k : Int, 0 ≤ k → k < i → f k = g k) : smI f i = smI g i := sm_cong (fun k h0 h1 => h k h0 (by omega))
theorem sm_rng {f : Int → Int} {a b : Int} : ∀ {n : Nat}, (∀ k : Int, 0 ≤ k → k < n → a ≤ f k ∧ f k ≤ b) → a * n ≤ sm f n ∧ sm f n ≤ b * n
  | 0, _ => by simp [sm]
  | n + 1, h => by
    have h1 := sm_rng (n := n) (fun k h0 h1 => h k h0 (by omega))
    have h2 := h n (by omega) (by omega)
    show a * ((n + 1 : Nat) : Int) ≤ sm f n + f n ∧ sm f n + f n ≤ b * ((n + 1 : Nat) : Int)
    rw [show ((n + 1 : Nat) : Int) = (n : Int) + 1 by omega, Int.mul_add, Int.mul_add, Int.mul_one, Int.mul_one]
    omega
theorem smI_rng {f : Int → Int} {a b i : Int} (hi : 0 ≤ i) (h : ∀ k : Int, 0 ≤ k → k < i → a ≤ f k ∧ f k ≤ b) : a * i ≤ smI f i ∧ smI f i ≤ b * i := by
  have h1 := sm_rng (f := f) (a := a) (b := b) (n := i.toNat) (fun k h0 h1 => h k h0 (by omega))
  rw [Int.toNat_of_nonneg hi] at h1
  exact h1
theorem sm_le {f g : Int → Int} : ∀ {n : Nat}, (∀ k : Int, 0 ≤ k → k < n → f k ≤ g k) → sm f n ≤ sm g n
  | 0, _ => Int.le_refl 0
  | n + 1, h => by
    have h1 := sm_le (n := n) (fun k h0 h1 => h k h0 (by omega))
    have h2 := h n (by omega) (by omega)
    show sm f n + f n ≤ sm g n + g n
    omega
theorem sm_sub (f g : Int → Int) : ∀ n : Nat, sm (fun k => f k - g k) n = sm f n - sm g n
  | 0 => rfl
  | n + 1 => by
    have h := sm_sub f g n
    show sm (fun k => f k - g k) n + (f n - g n) = sm f n + f n - (sm g n + g n)
    omega
theorem sm_add (f g : Int → Int) : ∀ n : Nat, sm (fun k => f k + g k) n = sm f n + sm g n
  | 0 => rfl
  | n + 1 => by
    have h := sm_add f g n
    show sm (fun k => f k + g k) n + (f n + g n) = sm f n + f n + (sm g n + g n)
    omega
/-- shifts on duty -/
noncomputable def dq (g : Int → Int) (p t s : Int) : Int := bI (g (148 + 5 * s) = p ∧ g (149 + 5 * s) ≤ t ∧ t ≤ g (150 + 5 * s))
noncomputable def onD (g : Int → Int) (p t : Int) : Int := smI (dq g p t) (g 2)
def pau (g : Int → Int) (k t : Int) : Prop := ¬ g (192 + 5 * k) - 1 = -1 ∧ g (192 + 5 * k) - 1 ≤ t ∧ t ≤ g (192 + 5 * k) - 1 + g (189 + 5 * k) - 1
noncomputable def pq (g : Int → Int) (p t k : Int) : Int := bI (g (148 + 5 * g (188 + 5 * k)) = p ∧ pau g k t)
noncomputable def cov (g : Int → Int) (p t : Int) : Int := onD g p t - smI (pq g p t) (g 3)
noncomputable def sh (g : Int → Int) (p t : Int) : Int := max (g (4 + 48 * p + t) - cov g p t) 0
noncomputable def shI (g : Int → Int) (t : Int) : Int := smI (fun p => sh g p t) (g 0)
noncomputable def SF (g : Int → Int) : Int := smI (shI g) 48
/-- another pause of the shift is in the way -/
def tch (g : Int → Int) (k t x : Int) : Prop := ¬ x = k ∧ g (188 + 5 * x) = g (188 + 5 * k) ∧ ¬ g (192 + 5 * x) - 1 = -1 ∧ t ≤ g (192 + 5 * x) - 1 + g (189 + 5 * x) ∧ g (192 + 5 * x) - 1 ≤ t + g (189 + 5 * k)
def tchs (g : Int → Int) (k t : Int) : Prop := ∃ x : Int, 0 ≤ x ∧ x < g 3 ∧ tch g k t x
noncomputable def wy (g : Int → Int) (k t : Int) : Int := 1 - bI (g (190 + 5 * k) ≤ t ∧ t ≤ g (191 + 5 * k)) * (1 - 2 * bI (tchs g k t))
theorem wy_1 {g : Int → Int} {k t : Int} (h : ¬ (g (190 + 5 * k) ≤ t ∧ t ≤ g (191 + 5 * k))) : wy g k t = 1 := by unfold wy; rw [bI_f h]; omega
theorem wy_2 {g : Int → Int} {k t : Int} (h : g (190 + 5 * k) ≤ t ∧ t ≤ g (191 + 5 * k)) (h2 : tchs g k t) : wy g k t = 2 := by unfold wy; rw [bI_t h, bI_t h2]; omega
theorem wy_0 {g : Int → Int} {k t : Int} (h : g (190 + 5 * k) ≤ t ∧ t ≤ g (191 + 5 * k)) (h2 : ¬ tchs g k t) : wy g k t = 0 := by unfold wy; rw [bI_t h, bI_f h2]; omega
theorem wy_rng (g : Int → Int) (k t : Int) : 0 ≤ wy g k t ∧ wy g k t ≤ 2 := by
  by_cases h : g (190 + 5 * k) ≤ t ∧ t ≤ g (191 + 5 * k)
  · by_cases h2 : tchs g k t
    · rw [wy_2 h h2]; omega
    · rw [wy_0 h h2]; omega
  · rw [wy_1 h]; omega
/-- a row that a text can tell, and places that the plan allows -/
def Wf (g : Int → Int) : Prop :=
  (1 ≤ g 0 ∧ g 0 ≤ 3) ∧ (1 ≤ g 1 ∧ g 1 ≤ 4) ∧ (0 ≤ g 2 ∧ g 2 ≤ 8) ∧ (0 ≤ g 3 ∧ g 3 ≤ 24) ∧
  (∀ c : Int, 0 ≤ c → c < 144 → 0 ≤ g (4 + c) ∧ g (4 + c) ≤ 90) ∧
  (∀ c : Int, 48 * g 0 ≤ c → c < 144 → g (4 + c) = 0) ∧
  (∀ s : Int, 0 ≤ s → s < g 2 → 0 ≤ g (148 + 5 * s) ∧ g (148 + 5 * s) < g 0 ∧ 0 ≤ g (149 + 5 * s) ∧ g (149 + 5 * s) ≤ g (150 + 5 * s) ∧ g (150 + 5 * s) < 48 ∧ 0 ≤ g (151 + 5 * s) ∧ g (151 + 5 * s) ≤ 3 ∧ 0 ≤ g (152 + 5 * s) ∧ g (152 + 5 * s) + g (151 + 5 * s) ≤ g 3) ∧
  (∀ k : Int, 0 ≤ k → k < g 3 → 0 ≤ g (188 + 5 * k) ∧ g (188 + 5 * k) < g 2 ∧ 1 ≤ g (189 + 5 * k) ∧ g (189 + 5 * k) ≤ 4 ∧ g (149 + 5 * g (188 + 5 * k)) ≤ g (190 + 5 * k) ∧ g (190 + 5 * k) ≤ g (191 + 5 * k) ∧ g (191 + 5 * k) + g (189 + 5 * k) ≤ g (150 + 5 * g (188 + 5 * k)) + 1 ∧ g (152 + 5 * g (188 + 5 * k)) ≤ k ∧ k < g (152 + 5 * g (188 + 5 * k)) + g (151 + 5 * g (188 + 5 * k))) ∧
  (∀ s k : Int, 0 ≤ s → s < g 2 → g (152 + 5 * s) ≤ k → k < g (152 + 5 * s) + g (151 + 5 * s) → g (188 + 5 * k) = s) ∧
  (∀ k : Int, 0 ≤ k → k < 24 → g (192 + 5 * k) = 0 ∨ (k < g 3 ∧ g (190 + 5 * k) ≤ g (192 + 5 * k) - 1 ∧ g (192 + 5 * k) - 1 ≤ g (191 + 5 * k)))
theorem Wf_n {g : Int → Int} (h : Wf g) : 1 ≤ g 0 ∧ g 0 ≤ 3 ∧ 1 ≤ g 1 ∧ g 1 ≤ 4 ∧ 0 ≤ g 2 ∧ g 2 ≤ 8 ∧ 0 ≤ g 3 ∧ g 3 ≤ 24 := ⟨h.1.1, h.1.2, h.2.1.1, h.2.1.2, h.2.2.1.1, h.2.2.1.2, h.2.2.2.1.1, h.2.2.2.1.2⟩
theorem Wf_need {g : Int → Int} (h : Wf g) {c : Int} (h0 : 0 ≤ c) (h1 : c < 144) : 0 ≤ g (4 + c) ∧ g (4 + c) ≤ 90 := h.2.2.2.2.1 c h0 h1
theorem Wf_needP {g : Int → Int} (h : Wf g) {p t : Int} (h0 : 0 ≤ p) (h1 : p < 3) (h2 : 0 ≤ t) (h3 : t < 48) : 0 ≤ g (4 + 48 * p + t) ∧ g (4 + 48 * p + t) ≤ 90 := by
  have := Wf_need h (c := 48 * p + t) (by omega) (by omega)
  rw [show 4 + (48 * p + t) = 4 + 48 * p + t by omega] at this
  exact this
theorem Wf_sh {g : Int → Int} (h : Wf g) {s : Int} (h0 : 0 ≤ s) (h1 : s < g 2) : 0 ≤ g (148 + 5 * s) ∧ g (148 + 5 * s) < g 0 ∧ 0 ≤ g (149 + 5 * s) ∧ g (149 + 5 * s) ≤ g (150 + 5 * s) ∧ g (150 + 5 * s) < 48 ∧ 0 ≤ g (151 + 5 * s) ∧ g (151 + 5 * s) ≤ 3 ∧ 0 ≤ g (152 + 5 * s) ∧ g (152 + 5 * s) + g (151 + 5 * s) ≤ g 3 := h.2.2.2.2.2.2.1 s h0 h1
theorem Wf_pa {g : Int → Int} (h : Wf g) {k : Int} (h0 : 0 ≤ k) (h1 : k < g 3) : 0 ≤ g (188 + 5 * k) ∧ g (188 + 5 * k) < g 2 ∧ 1 ≤ g (189 + 5 * k) ∧ g (189 + 5 * k) ≤ 4 ∧ g (149 + 5 * g (188 + 5 * k)) ≤ g (190 + 5 * k) ∧ g (190 + 5 * k) ≤ g (191 + 5 * k) ∧ g (191 + 5 * k) + g (189 + 5 * k) ≤ g (150 + 5 * g (188 + 5 * k)) + 1 ∧ g (152 + 5 * g (188 + 5 * k)) ≤ k ∧ k < g (152 + 5 * g (188 + 5 * k)) + g (151 + 5 * g (188 + 5 * k)) := h.2.2.2.2.2.2.2.1 k h0 h1
theorem Wf_at {g : Int → Int} (h : Wf g) {k : Int} (h0 : 0 ≤ k) (h1 : k < 24) : g (192 + 5 * k) = 0 ∨ (k < g 3 ∧ g (190 + 5 * k) ≤ g (192 + 5 * k) - 1 ∧ g (192 + 5 * k) - 1 ≤ g (191 + 5 * k)) := h.2.2.2.2.2.2.2.2.2 k h0 h1
/-- the bounds of a pause, all in one -/
theorem Wf_p {g : Int → Int} (h : Wf g) {k : Int} (h0 : 0 ≤ k) (h1 : k < g 3) : 0 ≤ g (188 + 5 * k) ∧ g (188 + 5 * k) < 8 ∧ 1 ≤ g (189 + 5 * k) ∧ g (189 + 5 * k) ≤ 4 ∧ 0 ≤ g (190 + 5 * k) ∧ g (190 + 5 * k) ≤ g (191 + 5 * k) ∧ g (191 + 5 * k) + g (189 + 5 * k) ≤ 48 ∧ 0 ≤ g (192 + 5 * k) ∧ g (192 + 5 * k) ≤ 48 ∧ g (188 + 5 * k) < g 2 := by
  have a := Wf_pa h h0 h1
  have b := Wf_sh h a.1 a.2.1
  have n := Wf_n h
  have t := Wf_at h h0 (by omega)
  omega
theorem dq_rng (g : Int → Int) (p t s : Int) : 0 ≤ dq g p t s ∧ dq g p t s ≤ 1 := bI_rng _
theorem pq_rng (g : Int → Int) (p t s : Int) : 0 ≤ pq g p t s ∧ pq g p t s ≤ 1 := bI_rng _
theorem onDi_rng {g : Int → Int} (p t : Int) {i : Int} (hi : 0 ≤ i) : 0 ≤ smI (dq g p t) i ∧ smI (dq g p t) i ≤ i := by
  have := smI_rng (f := dq g p t) (a := 0) (b := 1) hi (fun k _ _ => dq_rng g p t k)
  omega
theorem pqi_rng {g : Int → Int} (p t : Int) {i : Int} (hi : 0 ≤ i) : 0 ≤ smI (pq g p t) i ∧ smI (pq g p t) i ≤ i := by
  have := smI_rng (f := pq g p t) (a := 0) (b := 1) hi (fun k _ _ => pq_rng g p t k)
  omega
theorem cov_rng {g : Int → Int} (h : Wf g) (p t : Int) : -24 ≤ cov g p t ∧ cov g p t ≤ 8 := by
  have n := Wf_n h
  have a := onDi_rng (g := g) p t (i := g 2) (by omega)
  have b := pqi_rng (g := g) p t (i := g 3) (by omega)
  unfold cov onD
  omega
theorem sh_rng {g : Int → Int} (h : Wf g) {p t : Int} (h0 : 0 ≤ p) (h1 : p < 3) (h2 : 0 ≤ t) (h3 : t < 48) : 0 ≤ sh g p t ∧ sh g p t ≤ 114 := by
  have a := Wf_needP h h0 h1 h2 h3
  have b := cov_rng h p t
  unfold sh
  omega
theorem shIi_rng {g : Int → Int} (h : Wf g) {t : Int} (h2 : 0 ≤ t) (h3 : t < 48) {i : Int} (hi : 0 ≤ i) (h4 : i ≤ 3) : 0 ≤ smI (fun p => sh g p t) i ∧ smI (fun p => sh g p t) i ≤ 114 * i := by
  have := smI_rng (f := fun p => sh g p t) (a := 0) (b := 114) hi (fun k a b => sh_rng h a (by omega) h2 h3)
  omega
theorem shI_rng {g : Int → Int} (h : Wf g) {t : Int} (h2 : 0 ≤ t) (h3 : t < 48) : 0 ≤ shI g t ∧ shI g t ≤ 342 := by
  have n := Wf_n h
  have := shIi_rng h h2 h3 (i := g 0) (by omega) (by omega)
  unfold shI
  omega
theorem SFi_rng {g : Int → Int} (h : Wf g) {i : Int} (hi : 0 ≤ i) (h4 : i ≤ 48) : 0 ≤ smI (shI g) i ∧ smI (shI g) i ≤ 342 * i := by
  have := smI_rng (f := shI g) (a := 0) (b := 342) hi (fun k a b => shI_rng h a (by omega))
  omega
theorem SF_rng {g : Int → Int} (h : Wf g) : 0 ≤ SF g ∧ SF g ≤ 16416 := by
  have := SFi_rng h (i := 48) (by omega) (by omega)
  unfold SF
  omega
theorem fa_step {P : Int → Prop} {a i : Int} (h : ∀ x : Int, a ≤ x → x < i → P x) (hi : P i) : ∀ x : Int, a ≤ x → x < i + 1 → P x := fun x p q => by
  by_cases e : x = i
  · rw [e]; exact hi
  · exact h x p (by omega)
