/-! the reference's token: where it stands behind 'go', against the tokens of the text -/
def wvf (b : Int → Int) (s : Int) : Nat → Int
  | 0 => 0
  | k + 1 => 27 * wvf b s k + b (s + k) - 96
def wvb (b : Int → Int) (s i : Int) : Int := wvf b s (i - s).toNat
theorem wvb_s {b : Int → Int} {s i : Int} (h : s ≤ i) : wvb b s (i + 1) = 27 * wvb b s i + b i - 96 := by
  unfold wvb
  rw [show (i + 1 - s).toNat = (i - s).toNat + 1 by omega]
  show 27 * wvf b s (i - s).toNat + b (s + (((i - s).toNat : Nat) : Int)) - 96 = _
  rw [show s + (((i - s).toNat : Nat) : Int) = i by omega]
theorem wvb_0 (b : Int → Int) (s : Int) : wvb b s s = 0 := by
  unfold wvb
  rw [Int.sub_self]
  rfl
/-- its values letter by letter -/
theorem wvb_1 (b : Int → Int) (s : Int) : wvb b s (s + 1) = b s - 96 := by rw [wvb_s (by omega), wvb_0]; omega
theorem wvb_2 (b : Int → Int) (s : Int) : wvb b s (s + 2) = 27 * (b s - 96) + (b (s + 1) - 96) := by
  rw [show s + 2 = s + 1 + 1 by omega, wvb_s (by omega), wvb_1]; omega
theorem wvb_3 (b : Int → Int) (s : Int) : wvb b s (s + 3) = 729 * (b s - 96) + 27 * (b (s + 1) - 96) + (b (s + 2) - 96) := by
  rw [show s + 3 = s + 2 + 1 by omega, wvb_s (by omega), wvb_2]; omega
theorem wvb_4 (b : Int → Int) (s : Int) : wvb b s (s + 4) = 19683 * (b s - 96) + 729 * (b (s + 1) - 96) + 27 * (b (s + 2) - 96) + (b (s + 3) - 96) := by
  rw [show s + 4 = s + 3 + 1 by omega, wvb_s (by omega), wvb_3]; omega
theorem wvb_5 (b : Int → Int) (s : Int) : wvb b s (s + 5) = 531441 * (b s - 96) + 19683 * (b (s + 1) - 96) + 729 * (b (s + 2) - 96) + 27 * (b (s + 3) - 96) + (b (s + 4) - 96) := by
  rw [show s + 5 = s + 4 + 1 by omega, wvb_s (by omega), wvb_4]; omega
theorem wvb_6 (b : Int → Int) (s : Int) : wvb b s (s + 6) = 14348907 * (b s - 96) + 531441 * (b (s + 1) - 96) + 19683 * (b (s + 2) - 96) + 729 * (b (s + 3) - 96) + 27 * (b (s + 4) - 96) + (b (s + 5) - 96) := by
  rw [show s + 6 = s + 5 + 1 by omega, wvb_s (by omega), wvb_5]; omega
theorem sp5 {b : Int → Int} {s f c0 c1 c2 c3 c4 : Int} : spells b s f [c0, c1, c2, c3, c4] ↔ (f = s + 5 ∧ b s = c0 ∧ b (s + 1) = c1 ∧ b (s + 2) = c2 ∧ b (s + 3) = c3 ∧ b (s + 4) = c4) := by
  constructor
  · rintro ⟨h, k⟩
    have h : f - s = 5 := h
    have k0 : b (s + ((0 : Nat) : Int)) = c0 := k 0 (Nat.le_of_ble_eq_true rfl)
    have k1 : b (s + ((1 : Nat) : Int)) = c1 := k 1 (Nat.le_of_ble_eq_true rfl)
    have k2 : b (s + ((2 : Nat) : Int)) = c2 := k 2 (Nat.le_of_ble_eq_true rfl)
    have k3 : b (s + ((3 : Nat) : Int)) = c3 := k 3 (Nat.le_of_ble_eq_true rfl)
    have k4 : b (s + ((4 : Nat) : Int)) = c4 := k 4 (Nat.le_of_ble_eq_true rfl)
    rw [show s + ((0 : Nat) : Int) = s by omega] at k0
    exact ⟨by omega, k0, k1, k2, k3, k4⟩
  · rintro ⟨h, k0, k1, k2, k3, k4⟩
    refine ⟨by show f - s = 5; omega, fun k hk => ?_⟩
    have hk : k < 5 := hk
    rcases (show k = 0 ∨ k = 1 ∨ k = 2 ∨ k = 3 ∨ k = 4 by omega) with e | e | e | e | e <;> subst e
    · show b (s + ((0 : Nat) : Int)) = c0
      rw [show s + ((0 : Nat) : Int) = s by omega]; exact k0
    · exact k1
    · exact k2
    · exact k3
    · exact k4
theorem sp4 {b : Int → Int} {s f c0 c1 c2 c3 : Int} : spells b s f [c0, c1, c2, c3] ↔ (f = s + 4 ∧ b s = c0 ∧ b (s + 1) = c1 ∧ b (s + 2) = c2 ∧ b (s + 3) = c3) := by
  constructor
  · rintro ⟨h, k⟩
    have h : f - s = 4 := h
    have k0 : b (s + ((0 : Nat) : Int)) = c0 := k 0 (Nat.le_of_ble_eq_true rfl)
    have k1 : b (s + ((1 : Nat) : Int)) = c1 := k 1 (Nat.le_of_ble_eq_true rfl)
    have k2 : b (s + ((2 : Nat) : Int)) = c2 := k 2 (Nat.le_of_ble_eq_true rfl)
    have k3 : b (s + ((3 : Nat) : Int)) = c3 := k 3 (Nat.le_of_ble_eq_true rfl)
    rw [show s + ((0 : Nat) : Int) = s by omega] at k0
    exact ⟨by omega, k0, k1, k2, k3⟩
  · rintro ⟨h, k0, k1, k2, k3⟩
    refine ⟨by show f - s = 4; omega, fun k hk => ?_⟩
    have hk : k < 4 := hk
    rcases (show k = 0 ∨ k = 1 ∨ k = 2 ∨ k = 3 by omega) with e | e | e | e <;> subst e
    · show b (s + ((0 : Nat) : Int)) = c0
      rw [show s + ((0 : Nat) : Int) = s by omega]; exact k0
    · exact k1
    · exact k2
    · exact k3
/-- all letters: the value tells the word -/
def ltr (b : Int → Int) (s f : Int) : Prop := s < f ∧ ∀ j : Int, s ≤ j → j < f → 97 ≤ b j ∧ b j ≤ 122
theorem wv_cases {b : Int → Int} {s f : Int} (h : ltr b s f) : (f = s + 1 ∧ wvb b s (min f (s + 6)) = b s - 96) ∨ (f = s + 2 ∧ wvb b s (min f (s + 6)) = 27 * (b s - 96) + (b (s + 1) - 96)) ∨ (f = s + 3 ∧ wvb b s (min f (s + 6)) = 729 * (b s - 96) + 27 * (b (s + 1) - 96) + (b (s + 2) - 96)) ∨ (f = s + 4 ∧ wvb b s (min f (s + 6)) = 19683 * (b s - 96) + 729 * (b (s + 1) - 96) + 27 * (b (s + 2) - 96) + (b (s + 3) - 96)) ∨ (f = s + 5 ∧ wvb b s (min f (s + 6)) = 531441 * (b s - 96) + 19683 * (b (s + 1) - 96) + 729 * (b (s + 2) - 96) + 27 * (b (s + 3) - 96) + (b (s + 4) - 96)) ∨ (s + 6 ≤ f ∧ 14348907 ≤ wvb b s (min f (s + 6)) ∧ wvb b s (min f (s + 6)) < 400000000) := by
  obtain ⟨h0, h1⟩ := h
  rcases (show f = s + 1 ∨ f = s + 2 ∨ f = s + 3 ∨ f = s + 4 ∨ f = s + 5 ∨ s + 6 ≤ f by omega) with e | e | e | e | e | e
  · exact Or.inl ⟨e, by rw [show min f (s + 6) = s + 1 by omega, wvb_1]⟩
  · exact Or.inr (Or.inl ⟨e, by rw [show min f (s + 6) = s + 2 by omega, wvb_2]⟩)
  · exact Or.inr (Or.inr (Or.inl ⟨e, by rw [show min f (s + 6) = s + 3 by omega, wvb_3]⟩))
  · exact Or.inr (Or.inr (Or.inr (Or.inl ⟨e, by rw [show min f (s + 6) = s + 4 by omega, wvb_4]⟩)))
  · exact Or.inr (Or.inr (Or.inr (Or.inr (Or.inl ⟨e, by rw [show min f (s + 6) = s + 5 by omega, wvb_5]⟩))))
  · have a0 := h1 s (by omega) (by omega)
    have a1 := h1 (s + 1) (by omega) (by omega)
    have a2 := h1 (s + 2) (by omega) (by omega)
    have a3 := h1 (s + 3) (by omega) (by omega)
    have a4 := h1 (s + 4) (by omega) (by omega)
    have a5 := h1 (s + 5) (by omega) (by omega)
    refine Or.inr (Or.inr (Or.inr (Or.inr (Or.inr ⟨e, ?_⟩))))
    rw [show min f (s + 6) = s + 6 by omega, wvb_6]
    omega
theorem wv_bnd {b : Int → Int} {s f : Int} (h : ltr b s f) : 0 ≤ wvb b s (min f (s + 6)) ∧ wvb b s (min f (s + 6)) < 400000000 := by
  have a : ∀ j : Int, s ≤ j → j < f → 97 ≤ b j ∧ b j ≤ 122 := h.2
  rcases wv_cases h with ⟨e, q⟩ | ⟨e, q⟩ | ⟨e, q⟩ | ⟨e, q⟩ | ⟨e, q⟩ | ⟨e, q⟩
  · have a0 := a s (by omega) (by omega)
    omega
  · have a0 := a s (by omega) (by omega)
    have a1 := a (s + 1) (by omega) (by omega)
    omega
  · have a0 := a s (by omega) (by omega)
    have a1 := a (s + 1) (by omega) (by omega)
    have a2 := a (s + 2) (by omega) (by omega)
    omega
  · have a0 := a s (by omega) (by omega)
    have a1 := a (s + 1) (by omega) (by omega)
    have a2 := a (s + 2) (by omega) (by omega)
    have a3 := a (s + 3) (by omega) (by omega)
    omega
  · have a0 := a s (by omega) (by omega)
    have a1 := a (s + 1) (by omega) (by omega)
    have a2 := a (s + 2) (by omega) (by omega)
    have a3 := a (s + 3) (by omega) (by omega)
    have a4 := a (s + 4) (by omega) (by omega)
    omega
  · omega
theorem wv_5 {b : Int → Int} {s f c0 c1 c2 c3 c4 : Int} (h : ltr b s f) (r0 : 97 ≤ c0 ∧ c0 ≤ 122) (r1 : 97 ≤ c1 ∧ c1 ≤ 122) (r2 : 97 ≤ c2 ∧ c2 ≤ 122) (r3 : 97 ≤ c3 ∧ c3 ≤ 122) (r4 : 97 ≤ c4 ∧ c4 ≤ 122) : wvb b s (min f (s + 6)) = 531441 * (c0 - 96) + 19683 * (c1 - 96) + 729 * (c2 - 96) + 27 * (c3 - 96) + (c4 - 96) ↔ spells b s f [c0, c1, c2, c3, c4] := by
  rw [sp5]
  have a : ∀ j : Int, s ≤ j → j < f → 97 ≤ b j ∧ b j ≤ 122 := h.2
  rcases wv_cases h with ⟨e, q⟩ | ⟨e, q⟩ | ⟨e, q⟩ | ⟨e, q⟩ | ⟨e, q⟩ | ⟨e, q⟩
  · have a0 := a s (by omega) (by omega)
    exact ⟨fun z => by omega, fun z => by omega⟩
  · have a0 := a s (by omega) (by omega)
    have a1 := a (s + 1) (by omega) (by omega)
    exact ⟨fun z => by omega, fun z => by omega⟩
  · have a0 := a s (by omega) (by omega)
    have a1 := a (s + 1) (by omega) (by omega)
    have a2 := a (s + 2) (by omega) (by omega)
    exact ⟨fun z => by omega, fun z => by omega⟩
  · have a0 := a s (by omega) (by omega)
    have a1 := a (s + 1) (by omega) (by omega)
    have a2 := a (s + 2) (by omega) (by omega)
    have a3 := a (s + 3) (by omega) (by omega)
    exact ⟨fun z => by omega, fun z => by omega⟩
  · have a0 := a s (by omega) (by omega)
    have a1 := a (s + 1) (by omega) (by omega)
    have a2 := a (s + 2) (by omega) (by omega)
    have a3 := a (s + 3) (by omega) (by omega)
    have a4 := a (s + 4) (by omega) (by omega)
    refine ⟨fun z => ?_, fun z => by omega⟩
    have y0 : b s = c0 := by omega
    have y1 : b (s + 1) = c1 := by omega
    have y2 : b (s + 2) = c2 := by omega
    have y3 : b (s + 3) = c3 := by omega
    exact ⟨e, y0, y1, y2, y3, by omega⟩
  · exact ⟨fun z => by omega, fun z => by omega⟩
theorem wv_4 {b : Int → Int} {s f c0 c1 c2 c3 : Int} (h : ltr b s f) (r0 : 97 ≤ c0 ∧ c0 ≤ 122) (r1 : 97 ≤ c1 ∧ c1 ≤ 122) (r2 : 97 ≤ c2 ∧ c2 ≤ 122) (r3 : 97 ≤ c3 ∧ c3 ≤ 122) : wvb b s (min f (s + 6)) = 19683 * (c0 - 96) + 729 * (c1 - 96) + 27 * (c2 - 96) + (c3 - 96) ↔ spells b s f [c0, c1, c2, c3] := by
  rw [sp4]
  have a : ∀ j : Int, s ≤ j → j < f → 97 ≤ b j ∧ b j ≤ 122 := h.2
  rcases wv_cases h with ⟨e, q⟩ | ⟨e, q⟩ | ⟨e, q⟩ | ⟨e, q⟩ | ⟨e, q⟩ | ⟨e, q⟩
  · have a0 := a s (by omega) (by omega)
    exact ⟨fun z => by omega, fun z => by omega⟩
  · have a0 := a s (by omega) (by omega)
    have a1 := a (s + 1) (by omega) (by omega)
    exact ⟨fun z => by omega, fun z => by omega⟩
  · have a0 := a s (by omega) (by omega)
    have a1 := a (s + 1) (by omega) (by omega)
    have a2 := a (s + 2) (by omega) (by omega)
    exact ⟨fun z => by omega, fun z => by omega⟩
  · have a0 := a s (by omega) (by omega)
    have a1 := a (s + 1) (by omega) (by omega)
    have a2 := a (s + 2) (by omega) (by omega)
    have a3 := a (s + 3) (by omega) (by omega)
    refine ⟨fun z => ?_, fun z => by omega⟩
    have y0 : b s = c0 := by omega
    have y1 : b (s + 1) = c1 := by omega
    have y2 : b (s + 2) = c2 := by omega
    exact ⟨e, y0, y1, y2, by omega⟩
  · have a0 := a s (by omega) (by omega)
    have a1 := a (s + 1) (by omega) (by omega)
    have a2 := a (s + 2) (by omega) (by omega)
    have a3 := a (s + 3) (by omega) (by omega)
    have a4 := a (s + 4) (by omega) (by omega)
    exact ⟨fun z => by omega, fun z => by omega⟩
  · exact ⟨fun z => by omega, fun z => by omega⟩
theorem bI_eqv {P Q : Prop} (h : bI P = bI Q) : P ↔ Q := by
  by_cases p : P
  · by_cases q : Q
    · exact ⟨fun _ => q, fun _ => p⟩
    · rw [bI_t p, bI_f q] at h; omega
  · by_cases q : Q
    · rw [bI_f p, bI_t q] at h; omega
    · exact ⟨fun z => absurd z p, fun z => absurd z q⟩
/-- are all of a run of the kind of its first -/
noncomputable def gdf (b : Int → Int) (i k : Int) : Int := bI (∀ j : Int, i ≤ j → j < k → (isLe (b j) ↔ isLe (b i)))
theorem gd_0 (b : Int → Int) (i : Int) : gdf b i i = 1 := bI_t (fun j a c => by omega)
theorem gd_s0 {b : Int → Int} {i k : Int} (h : gdf b i k = 0) : gdf b i (k + 1) = 0 := bI_f (fun q => (bI_0.mp h) (fun j a c => q j a (by omega)))
theorem gd_s1 {b : Int → Int} {i k : Int} (h0 : i ≤ k) (h : ¬ bI (isLe (b k)) = bI (isLe (b i))) : gdf b i (k + 1) = 0 := bI_f (fun q => h (bI_iff (q k h0 (by omega))))
theorem gd_s2 {b : Int → Int} {i k : Int} (h1 : ¬ gdf b i k = 0) (h : bI (isLe (b k)) = bI (isLe (b i))) : gdf b i (k + 1) = 1 := bI_t (fun j a c => by
  by_cases e : j = k
  · rw [e]; exact bI_eqv h
  · exact (Classical.byContradiction fun z => h1 (bI_0.mpr z)) j a (by omega))
def tA (n : Int) (b : Int → Int) (k : Int) : Int := if k < n then b k else 0
theorem tA_t {n : Int} {b : Int → Int} {k : Int} (h : k < n) : tA n b k = b k := if_pos h
theorem tA_f {n : Int} {b : Int → Int} {k : Int} (h : ¬ k < n) : tA n b k = 0 := if_neg h
theorem tA_rn {n : Int} {b : Int → Int} {k : Int} (h : isRn (tA n b k)) : k < n ∧ isRn (b k) := by
  by_cases c : k < n
  · rw [tA_t c] at h; exact ⟨c, h⟩
  · rw [tA_f c] at h
    rcases h with z | z
    · have z : (97 : Int) ≤ 0 ∧ (0 : Int) ≤ 122 := z
      omega
    · have z : (48 : Int) ≤ 0 ∧ (0 : Int) ≤ 57 := z
      omega
theorem tA_rng {n : Int} {b : Int → Int} (hb : ∀ k : Int, 0 ≤ k → k < 640 → 0 ≤ b k ∧ b k < 256) (hn : n ≤ 640) {k : Int} (h : 0 ≤ k) : 0 ≤ tA n b k ∧ tA n b k < 256 := by
  by_cases c : k < n
  · rw [tA_t c]; exact hb k h (by omega)
  · rw [tA_f c]; omega
theorem isDL {c : Int} (h : isDi c) : ¬ isLe c := fun q => by
  have h : 48 ≤ c ∧ c ≤ 57 := h
  have q : 97 ≤ c ∧ c ≤ 122 := q
  omega
section KD
variable {b : Int → Int} {n i : Int}
theorem tk_run (h : i < n) (hr : isRn (b i)) : i < tkE b n i ∧ tkE b n i ≤ n ∧ ∀ j : Int, i ≤ j → j < tkE b n i → isRn (b j) := by
  have r := skp_r (P := isRn) (b := b) (n := n) (i := i + 1) (by omega)
  rw [tkE_rn ⟨h, hr⟩]
  refine ⟨by omega, r.2.1, fun j a c => ?_⟩
  by_cases e : j = i
  · rw [e]; exact hr
  · exact r.2.2.1 j (by omega) c
theorem tkE_skp (h : i < n) (hr : isRn (b i)) : tkE b n i = skp isRn b n i := by rw [tkE_rn ⟨h, hr⟩, ← skp_s h hr]
theorem kd_bad (h : i < n) (hr : isRn (b i)) (hg : gdf b i (tkE b n i) = 0) : tkK b n i = 0 := by
  obtain ⟨f0, f1, fr⟩ := tk_run h hr
  have d := dgs_all (b := b) (s := i) _ (i := tkE b n i) rfl (by omega)
  have hg := bI_0.mp hg
  refine tkK_0 hr (fun q => hg (fun j a c => ?_)) (fun q => hg (fun j a c => ?_))
  · have z := d.2.mp q
    exact ⟨fun _ => (fr i (by omega) f0).resolve_right (z i (by omega) f0), fun _ => (fr j a c).resolve_right (z j a c)⟩
  · have z := d.1.mp q.1
    exact ⟨fun y => absurd y (isDL (z j a c)), fun y => absurd y (isDL (z i (by omega) f0))⟩
theorem kd_w (h : i < n) (hl : isLe (b i)) (hg : ¬ gdf b i (tkE b n i) = 0) : tkK b n i = 1 ∧ ltr b i (tkE b n i) := by
  obtain ⟨f0, f1, fr⟩ := tk_run h (Or.inl hl)
  have hg : ∀ j : Int, i ≤ j → j < tkE b n i → (isLe (b j) ↔ isLe (b i)) := Classical.byContradiction fun z => hg (bI_0.mpr z)
  have d := dgs_all (b := b) (s := i) _ (i := tkE b n i) rfl (by omega)
  exact ⟨tkK_1 (Or.inl hl) (d.2.mpr (fun j a c q => isDL q ((hg j a c).mpr hl))), f0, fun j a c => (hg j a c).mpr hl⟩
theorem kd_d (h : i < n) (hl : ¬ isLe (b i)) (hr : isRn (b i)) (hg : ¬ gdf b i (tkE b n i) = 0) : (∀ j : Int, i ≤ j → j < tkE b n i → isDi (b j)) ∧ (tkE b n i - i ≤ 2 → tkK b n i = 2) ∧ (¬ tkE b n i - i ≤ 2 → tkK b n i = 0) := by
  obtain ⟨f0, f1, fr⟩ := tk_run h hr
  have hg : ∀ j : Int, i ≤ j → j < tkE b n i → (isLe (b j) ↔ isLe (b i)) := Classical.byContradiction fun z => hg (bI_0.mpr z)
  have al : ∀ j : Int, i ≤ j → j < tkE b n i → isDi (b j) := fun j a c => (fr j a c).resolve_left (fun z => hl ((hg j a c).mp z))
  have d := dgs_all (b := b) (s := i) _ (i := tkE b n i) rfl (by omega)
  have e := d.1.mpr al
  exact ⟨al, fun q => tkK_2 hr (by omega) ⟨e, q⟩, fun q => tkK_0 hr (by omega) (fun z => q z.2)⟩
theorem nmb_rng (h : i < tkE b n i) (h2 : tkE b n i - i ≤ 2) (al : ∀ j : Int, i ≤ j → j < tkE b n i → isDi (b j)) : 0 ≤ nmb b i (tkE b n i) ∧ nmb b i (tkE b n i) ≤ 99 := by
  have a0 : 48 ≤ b i ∧ b i ≤ 57 := al i (by omega) h
  rcases (show tkE b n i = i + 1 ∨ tkE b n i = i + 1 + 1 by omega) with e | e
  · rw [e, nmb_s (by omega), nmb_0]; omega
  · have a1 : 48 ≤ b (i + 1) ∧ b (i + 1) ≤ 57 := al (i + 1) (by omega) (by omega)
    rw [e, nmb_s (by omega), nmb_s (by omega), nmb_0]; omega
end KD
/-- what the fields say of the token from s on -/
def TK (b : Int → Int) (n s zs zn wz : Int) : Prop := (tkK b n s = 0 ∧ zs = 1) ∨ (tkK b n s = 1 ∧ zs = 2 ∧ wz = wvb b s (min (tkE b n s) (s + 6)) ∧ ltr b s (tkE b n s)) ∨ (tkK b n s = 2 ∧ zs = 3 ∧ zn = nmb b s (tkE b n s) ∧ 0 ≤ zn ∧ zn ≤ 99) ∨ (tkK b n s = 3 ∧ zs = 4)
def LA (b : Int → Int) (n e zt zf zs zn wz : Int) : Prop := (0 ≤ e ∧ e ≤ n) ∧ (((n ≤ tkS b n e ∨ 600 ≤ tkS b n e) ∧ ((600 < n ∧ zf = 600 ∧ zs = 1) ∨ (n ≤ 600 ∧ zf = n ∧ zs = 0))) ∨ (¬ (n ≤ tkS b n e ∨ 600 ≤ tkS b n e) ∧ zf = tkS b n e ∧ zt = tkE b n (tkS b n e) ∧ TK b n (tkS b n e) zs zn wz))
theorem stp_0 {b : Int → Int} {n s : Int} {σ : PS} (h : tkK b n s = 0) : stp b n s σ = .inl 1 := by
  unfold stp
  rw [if_neg (by omega), if_neg (by omega), if_neg (by omega)]
theorem stp_1 {b : Int → Int} {n s : Int} {σ : PS} (h : tkK b n s = 1) : stp b n s σ = wdS (wid b s (tkE b n s)) σ := by
  unfold stp
  rw [if_pos h]
theorem stp_2 {b : Int → Int} {n s : Int} {σ : PS} (h : tkK b n s = 2) : stp b n s σ = nuS (nmb b s (tkE b n s)) σ := by
  unfold stp
  rw [if_neg (by omega), if_pos h]
theorem stp_3 {b : Int → Int} {n s : Int} {σ : PS} (h : tkK b n s = 3) : stp b n s σ = siS σ := by
  unfold stp
  rw [if_neg (by omega), if_neg (by omega), if_pos h]
section LK
variable {b : Int → Int} {n e zt zf zs zn wz q ins po fr to ln ea nds li w : Int} {g : Int → Int}
theorem wd_no (h0 : ¬ (q = 0 ∧ w = 1)) (h1 : ¬ (q = 1 ∧ w = 2)) (h2 : ¬ ((q = 1 ∨ q = 2) ∧ w = 3)) (h3 : ¬ (q = 3 ∧ w = 4)) : wdS w (q, ins, po, fr, to, ln, ea, nds, li, g) = .inl 1 := by
  show (if q = 0 ∧ w = 1 then _ else if q = 1 ∧ w = 2 then _ else if (q = 1 ∨ q = 2) ∧ w = 3 then _ else if q = 3 ∧ w = 4 then _ else _) = _
  rw [if_neg h0, if_neg h1, if_neg h2, if_neg h3]
theorem si_no (h : ¬ q = 4 ∧ ¬ q = 3) : siS (q, ins, po, fr, to, ln, ea, nds, li, g) = .inl 1 := by
  show (if ¬ q = 4 ∧ ¬ q = 3 then _ else _) = _
  rw [if_pos h]
theorem si_yes (h : ¬ (¬ q = 4 ∧ ¬ q = 3)) : siS (q, ins, po, fr, to, ln, ea, nds, li, g) = .inr (if ins = 1 then 2 else 1, ins, po, fr, to, ln, ea, nds, li + 1, if ins = 1 then up g 2 (g 2 + 1) else g) := by
  show (if ¬ q = 4 ∧ ¬ q = 3 then _ else _) = _
  rw [if_neg h]
theorem nu_no (h : q < 5) : nuS w (q, ins, po, fr, to, ln, ea, nds, li, g) = .inl 1 := by
  show (if q < 5 then _ else _) = _
  rw [if_pos h]
theorem cl_bad (h : ¬ q = 1 ∧ ¬ q = 2) (hz : (600 < n ∧ zf = 600 ∧ zs = 1) ∨ (n ≤ 600 ∧ zf = n ∧ zs = 0)) : clS n (q, ins, po, fr, to, ln, ea, nds, li, g) = .inl (1, zf) := by
  show (if 600 < n then _ else if ¬ q = 1 ∧ ¬ q = 2 then _ else _) = _
  rcases hz with ⟨h6, hf, hs⟩ | ⟨h6, hf, hs⟩
  · rw [if_pos h6, hf]
  · rw [if_neg (by omega), if_pos h, hf]
theorem cl_end (h : q = 1 ∨ q = 2) (hz : (600 < n ∧ zf = 600 ∧ zs = 1) ∨ (n ≤ 600 ∧ zf = n ∧ zs = 0)) : (zs = 0 → clS n (q, ins, po, fr, to, ln, ea, nds, li, g) = .inr (li, g)) ∧ (¬ zs = 0 → clS n (q, ins, po, fr, to, ln, ea, nds, li, g) = .inl (1, zf)) := by
  show (zs = 0 → (if 600 < n then _ else if ¬ q = 1 ∧ ¬ q = 2 then _ else _) = _) ∧ (¬ zs = 0 → (if 600 < n then _ else if ¬ q = 1 ∧ ¬ q = 2 then _ else _) = _)
  rcases hz with ⟨h6, hf, hs⟩ | ⟨h6, hf, hs⟩
  · exact ⟨fun z => by omega, fun _ => by rw [if_pos h6, hf]⟩
  · exact ⟨fun _ => by rw [if_neg (by omega), if_neg (by omega)], fun z => by omega⟩
theorem wid_p {s f : Int} (h : spells b s f [112, 111, 115, 116, 115]) : wid b s f = 1 := by
  have h' := sp5.mp h
  unfold wid
  rw [bI_t h, bI_f (fun q => by have := sp4.mp q; omega), bI_f (fun q => by have := sp5.mp q; omega), bI_f (fun q => by have := sp5.mp q; omega)]
  rfl
theorem wid_n {s f : Int} (h : spells b s f [110, 101, 101, 100]) : wid b s f = 2 := by
  have h' := sp4.mp h
  unfold wid
  rw [bI_t h, bI_f (fun q => by have := sp5.mp q; omega), bI_f (fun q => by have := sp5.mp q; omega), bI_f (fun q => by have := sp5.mp q; omega)]
  rfl
theorem wid_s {s f : Int} (h : spells b s f [115, 104, 105, 102, 116]) : wid b s f = 3 := by
  have h' := sp5.mp h
  unfold wid
  rw [bI_t h, bI_f (fun q => by have := sp5.mp q; omega), bI_f (fun q => by have := sp4.mp q; omega), bI_f (fun q => by have := sp5.mp q; omega)]
  rfl
theorem wid_a {s f : Int} (h : spells b s f [112, 97, 117, 115, 101]) : wid b s f = 4 := by
  have h' := sp5.mp h
  unfold wid
  rw [bI_t h, bI_f (fun q => by have := sp5.mp q; omega), bI_f (fun q => by have := sp4.mp q; omega), bI_f (fun q => by have := sp5.mp q; omega)]
  rfl
theorem wid_inv {s f : Int} : (wid b s f = 1 → spells b s f [112, 111, 115, 116, 115]) ∧ (wid b s f = 2 → spells b s f [110, 101, 101, 100]) ∧ (wid b s f = 3 → spells b s f [115, 104, 105, 102, 116]) ∧ (wid b s f = 4 → spells b s f [112, 97, 117, 115, 101]) := by
  by_cases h1 : spells b s f [112, 111, 115, 116, 115]
  · have e := wid_p h1
    exact ⟨fun _ => h1, fun q => by omega, fun q => by omega, fun q => by omega⟩
  · by_cases h2 : spells b s f [110, 101, 101, 100]
    · have e := wid_n h2
      exact ⟨fun q => by omega, fun _ => h2, fun q => by omega, fun q => by omega⟩
    · by_cases h3 : spells b s f [115, 104, 105, 102, 116]
      · have e := wid_s h3
        exact ⟨fun q => by omega, fun q => by omega, fun _ => h3, fun q => by omega⟩
      · by_cases h4 : spells b s f [112, 97, 117, 115, 101]
        · have e := wid_a h4
          exact ⟨fun q => by omega, fun q => by omega, fun q => by omega, fun _ => h4⟩
        · have e : wid b s f = 0 := by
            unfold wid
            rw [bI_f h1, bI_f h2, bI_f h3, bI_f h4]
            rfl
          exact ⟨fun q => by omega, fun q => by omega, fun q => by omega, fun q => by omega⟩
/-- the four words by their values -/
theorem wid_v {s : Int} (hl : ltr b s (tkE b n s)) (hw : wz = wvb b s (min (tkE b n s) (s + 6))) : (wid b s (tkE b n s) = 1 ↔ wz = 8812711) ∧ (wid b s (tkE b n s) = 2 ↔ wz = 279346) ∧ (wid b s (tkE b n s) = 3 ↔ wz = 10261586) ∧ (wid b s (tkE b n s) = 4 ↔ wz = 8538566) := by
  have a1 := wv_5 (c0 := 112) (c1 := 111) (c2 := 115) (c3 := 116) (c4 := 115) hl (by omega) (by omega) (by omega) (by omega) (by omega)
  have a2 := wv_4 (c0 := 110) (c1 := 101) (c2 := 101) (c3 := 100) hl (by omega) (by omega) (by omega) (by omega)
  have a3 := wv_5 (c0 := 115) (c1 := 104) (c2 := 105) (c3 := 102) (c4 := 116) hl (by omega) (by omega) (by omega) (by omega) (by omega)
  have a4 := wv_5 (c0 := 112) (c1 := 97) (c2 := 117) (c3 := 115) (c4 := 101) hl (by omega) (by omega) (by omega) (by omega) (by omega)
  rw [← hw] at a1 a2 a3 a4
  have v := wid_inv (b := b) (s := s) (f := tkE b n s)
  exact ⟨⟨fun z => by have := a1.mpr (v.1 z); omega, fun z => wid_p (a1.mp (by omega))⟩, ⟨fun z => by have := a2.mpr (v.2.1 z); omega, fun z => wid_n (a2.mp (by omega))⟩, ⟨fun z => by have := a3.mpr (v.2.2.1 z); omega, fun z => wid_s (a3.mp (by omega))⟩, ⟨fun z => by have := a4.mpr (v.2.2.2 z); omega, fun z => wid_a (a4.mp (by omega))⟩⟩
theorem LA_zt (h : LA b n e zt zf zs zn wz) (hz : 2 ≤ zs) : 0 ≤ zt ∧ zt ≤ n ∧ e < zt := by
  obtain ⟨he, ⟨hend, hz2⟩ | ⟨hne, hf, ht, hk⟩⟩ := h
  · omega
  · have r := skp_r (P := isBl) (b := b) (n := n) (i := e) he.2
    have r1 : e ≤ tkS b n e := r.1
    have t := tkE_r (b := b) (n := n) (s := tkS b n e) (by omega)
    omega
theorem LA_zs (h : LA b n e zt zf zs zn wz) : 0 ≤ zs ∧ zs ≤ 4 ∧ 0 ≤ zf ∧ zf ≤ max n 600 := by
  obtain ⟨he, ⟨hend, hz2⟩ | ⟨hne, hf, ht, hk⟩⟩ := h
  · omega
  · have r := skp_r (P := isBl) (b := b) (n := n) (i := e) he.2
    have r1 : e ≤ tkS b n e := r.1
    rcases hk with z | z | z | z
    · omega
    · have := z.2.1; omega
    · omega
    · omega
theorem LA_zn (h : LA b n e zt zf zs zn wz) (hz : zs = 3) : 0 ≤ zn ∧ zn ≤ 99 := by
  obtain ⟨he, ⟨hend, hz2⟩ | ⟨hne, hf, ht, hk⟩⟩ := h
  · omega
  · rcases hk with z | z | z | z
    · omega
    · have := z.2.1; omega
    · exact z.2.2.2
    · omega
theorem LA_wz (h : LA b n e zt zf zs zn wz) (hz : zs = 2) : 0 ≤ wz ∧ wz < 400000000 := by
  obtain ⟨he, ⟨hend, hz2⟩ | ⟨hne, hf, ht, hk⟩⟩ := h
  · omega
  · rcases hk with z | z | z | z
    · omega
    · rw [z.2.2.1]; exact wv_bnd z.2.2.2
    · omega
    · omega
/-- where a number is wanted -/
theorem LA_num (h : LA b n e zt zf zs zn wz) (h5 : 5 ≤ q) : (¬ zs = 3 → runT b n (q, ins, po, fr, to, ln, ea, nds, li, g) e = .inl (1, zf)) ∧ (zs = 3 → (zn < loS (q, ins, po, fr, to, ln, ea, nds, li, g) ∨ hiS (q, ins, po, fr, to, ln, ea, nds, li, g) < zn) → runT b n (q, ins, po, fr, to, ln, ea, nds, li, g) e = .inl (2, zf)) ∧ (zs = 3 → ¬ (zn < loS (q, ins, po, fr, to, ln, ea, nds, li, g) ∨ hiS (q, ins, po, fr, to, ln, ea, nds, li, g) < zn) → runT b n (q, ins, po, fr, to, ln, ea, nds, li, g) e = runT b n (kpS zn (q, ins, po, fr, to, ln, ea, nds, li, g)) zt) := by
  obtain ⟨he, ⟨hend, hz2⟩ | ⟨hne, hf, ht, hk⟩⟩ := h
  · exact ⟨fun _ => by rw [run_e hend]; exact cl_bad ⟨by omega, by omega⟩ hz2, fun z => by omega, fun z => by omega⟩
  · rcases hk with ⟨k1, k2⟩ | ⟨k1, k2, k3, k4⟩ | ⟨k1, k2, k3, k4⟩ | ⟨k1, k2⟩
    · exact ⟨fun _ => by rw [hf]; exact run_bad he.2 hne (stp_0 k1), fun z => by omega, fun z => by omega⟩
    · exact ⟨fun _ => by rw [hf]; exact run_bad he.2 hne (by rw [stp_1 k1]; exact wd_no (by omega) (by omega) (by omega) (by omega)), fun z => by omega, fun z => by omega⟩
    · refine ⟨fun z => absurd k2 z, fun _ z => ?_, fun _ z => ?_⟩
      · rw [hf]
        refine run_bad he.2 hne ?_
        rw [stp_2 k1, ← k3]
        show (if q < 5 then _ else if zn < loS (q, ins, po, fr, to, ln, ea, nds, li, g) ∨ hiS (q, ins, po, fr, to, ln, ea, nds, li, g) < zn then _ else _) = _
        rw [if_neg (by omega), if_pos z]
      · rw [ht]
        refine run_go he.2 hne ?_
        rw [stp_2 k1, ← k3]
        show (if q < 5 then _ else if zn < loS (q, ins, po, fr, to, ln, ea, nds, li, g) ∨ hiS (q, ins, po, fr, to, ln, ea, nds, li, g) < zn then _ else _) = _
        rw [if_neg (by omega), if_neg z]
    · exact ⟨fun _ => by rw [hf]; exact run_bad he.2 hne (by rw [stp_3 k1]; exact si_no ⟨by omega, by omega⟩), fun z => by omega, fun z => by omega⟩
/-- where the sign is wanted -/
theorem LA_sgn (h : LA b n e zt zf zs zn wz) (hq : q = 4 ∨ q = 3) (hw : q = 3 → ¬ (zs = 2 ∧ wz = 8538566)) : (¬ zs = 4 → runT b n (q, ins, po, fr, to, ln, ea, nds, li, g) e = .inl (1, zf)) ∧ (zs = 4 → runT b n (q, ins, po, fr, to, ln, ea, nds, li, g) e = runT b n (if ins = 1 then 2 else 1, ins, po, fr, to, ln, ea, nds, li + 1, if ins = 1 then up g 2 (g 2 + 1) else g) zt) := by
  obtain ⟨he, ⟨hend, hz2⟩ | ⟨hne, hf, ht, hk⟩⟩ := h
  · exact ⟨fun _ => by rw [run_e hend]; exact cl_bad ⟨by omega, by omega⟩ hz2, fun z => by omega⟩
  · rcases hk with ⟨k1, k2⟩ | ⟨k1, k2, k3, k4⟩ | ⟨k1, k2, k3, k4⟩ | ⟨k1, k2⟩
    · exact ⟨fun _ => by rw [hf]; exact run_bad he.2 hne (stp_0 k1), fun z => by omega⟩
    · refine ⟨fun _ => by rw [hf]; exact run_bad he.2 hne (by rw [stp_1 k1]; exact wd_no (by omega) (by omega) (by omega) (fun z => hw z.1 ⟨k2, (wid_v k4 k3).2.2.2.mp z.2⟩)), fun z => by omega⟩
    · exact ⟨fun _ => by rw [hf]; exact run_bad he.2 hne (by rw [stp_2 k1]; exact nu_no (by omega)), fun z => by omega⟩
    · exact ⟨fun z => absurd k2 z, fun _ => by rw [ht]; exact run_go he.2 hne (by rw [stp_3 k1]; exact si_yes (by omega))⟩
/-- a word that may come, or one too many -/
theorem LA_wd (h : LA b n e zt zf zs zn wz) (hz : zs = 2) (hw : (w = 1 ∧ wz = 8812711) ∨ (w = 2 ∧ wz = 279346) ∨ (w = 3 ∧ wz = 10261586) ∨ (w = 4 ∧ wz = 8538566)) {σ : PS} : (∀ k : Int, wdS w σ = .inl k → runT b n σ e = .inl (k, zf)) ∧ (∀ τ : PS, wdS w σ = .inr τ → runT b n σ e = runT b n τ zt) := by
  obtain ⟨he, ⟨hend, hz2⟩ | ⟨hne, hf, ht, hk⟩⟩ := h
  · omega
  · rcases hk with ⟨k1, k2⟩ | ⟨k1, k2, k3, k4⟩ | ⟨k1, k2, k3, k4⟩ | ⟨k1, k2⟩
    · omega
    · have v := wid_v (n := n) k4 k3
      have ew : wid b (tkS b n e) (tkE b n (tkS b n e)) = w := by
        rcases hw with z | z | z | z
        · rw [z.1]; exact v.1.mpr z.2
        · rw [z.1]; exact v.2.1.mpr z.2
        · rw [z.1]; exact v.2.2.1.mpr z.2
        · rw [z.1]; exact v.2.2.2.mpr z.2
      exact ⟨fun k y => by rw [hf]; exact run_bad he.2 hne (by rw [stp_1 k1, ew]; exact y), fun τ y => by rw [ht]; exact run_go he.2 hne (by rw [stp_1 k1, ew]; exact y)⟩
    · omega
    · omega
/-- no word that may come -/
theorem LA_no (h : LA b n e zt zf zs zn wz) (hq : q = 0 ∨ q = 1 ∨ q = 2) (h0 : q = 0 → ¬ (zs = 2 ∧ wz = 8812711)) (h1 : q = 1 → ¬ (zs = 2 ∧ wz = 279346)) (h2 : q = 1 ∨ q = 2 → ¬ (zs = 2 ∧ wz = 10261586)) : (q = 0 ∨ ¬ zs = 0 → runT b n (q, ins, po, fr, to, ln, ea, nds, li, g) e = .inl (1, zf)) ∧ (¬ q = 0 → zs = 0 → runT b n (q, ins, po, fr, to, ln, ea, nds, li, g) e = .inr (li, g)) := by
  obtain ⟨he, ⟨hend, hz2⟩ | ⟨hne, hf, ht, hk⟩⟩ := h
  · refine ⟨fun y => ?_, fun y z => ?_⟩
    · rw [run_e hend]
      by_cases c : q = 0
      · exact cl_bad ⟨by omega, by omega⟩ hz2
      · exact (cl_end (by omega) hz2).2 (by omega)
    · rw [run_e hend]
      exact (cl_end (by omega) hz2).1 z
  · rcases hk with ⟨k1, k2⟩ | ⟨k1, k2, k3, k4⟩ | ⟨k1, k2, k3, k4⟩ | ⟨k1, k2⟩
    · exact ⟨fun _ => by rw [hf]; exact run_bad he.2 hne (stp_0 k1), fun _ z => by omega⟩
    · have v := wid_v (n := n) k4 k3
      exact ⟨fun _ => by rw [hf]; exact run_bad he.2 hne (by rw [stp_1 k1]; exact wd_no (fun z => h0 z.1 ⟨k2, v.1.mp z.2⟩) (fun z => h1 z.1 ⟨k2, v.2.1.mp z.2⟩) (fun z => h2 z.1 ⟨k2, v.2.2.1.mp z.2⟩) (by omega)), fun _ z => by omega⟩
    · exact ⟨fun _ => by rw [hf]; exact run_bad he.2 hne (by rw [stp_2 k1]; exact nu_no (by omega)), fun _ z => by omega⟩
    · exact ⟨fun _ => by rw [hf]; exact run_bad he.2 hne (by rw [stp_3 k1]; exact si_no ⟨by omega, by omega⟩), fun _ z => by omega⟩
end LK
