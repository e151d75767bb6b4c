/-! tokens of a text: b the bytes, n how many -/
def isBl (c : Int) : Prop := c = 32 ∨ c = 10
def isLe (c : Int) : Prop := 97 ≤ c ∧ c ≤ 122
def isDi (c : Int) : Prop := 48 ≤ c ∧ c ≤ 57
def isRn (c : Int) : Prop := isLe c ∨ isDi c
theorem isRn_59 {c : Int} (h : isRn c) : ¬ c = 59 := by
  intro q
  rcases h with z | z
  · have z : 97 ≤ c ∧ c ≤ 122 := z
    omega
  · have z : 48 ≤ c ∧ c ≤ 57 := z
    omega
/-- the first place from i on where P ends -/
noncomputable def sk (P : Int → Prop) (b : Int → Int) (n : Int) : Nat → Int → Int
  | 0, i => i
  | f + 1, i => @ite _ (i < n ∧ P (b i)) (Classical.propDecidable _) (sk P b n f (i + 1)) i
noncomputable def skp (P : Int → Prop) (b : Int → Int) (n i : Int) : Int := sk P b n (n - i).toNat i
theorem skp_s {P : Int → Prop} {b : Int → Int} {n i : Int} (h : i < n) (hp : P (b i)) : skp P b n i = skp P b n (i + 1) := by
  unfold skp
  rw [show (n - i).toNat = (n - (i + 1)).toNat + 1 by omega]
  exact if_pos ⟨h, hp⟩
theorem skp_e {P : Int → Prop} {b : Int → Int} {n i : Int} (h : ¬ (i < n ∧ P (b i))) : skp P b n i = i := by
  unfold skp
  cases e : (n - i).toNat with
  | zero => rfl
  | succ f => exact if_neg h
theorem skp_ok {P : Int → Prop} {b : Int → Int} {n : Int} : ∀ (f : Nat) (i : Int), (n - i).toNat = f → i ≤ n → i ≤ skp P b n i ∧ skp P b n i ≤ n ∧ (∀ j : Int, i ≤ j → j < skp P b n i → P (b j)) ∧ (skp P b n i < n → ¬ P (b (skp P b n i)))
  | 0, i, e, h => by
    rw [skp_e (by omega)]
    exact ⟨by omega, by omega, fun j a c => by omega, fun c => by omega⟩
  | f + 1, i, e, h => by
    by_cases c : P (b i)
    · have ih := skp_ok (P := P) (b := b) (n := n) f (i + 1) (by omega) (by omega)
      rw [skp_s (by omega) c]
      refine ⟨by omega, ih.2.1, fun j a d => ?_, ih.2.2.2⟩
      by_cases q : j = i
      · rw [q]; exact c
      · exact ih.2.2.1 j (by omega) d
    · rw [skp_e (fun q => c q.2)]
      exact ⟨by omega, h, fun j a d => by omega, fun _ => c⟩
theorem skp_r {P : Int → Prop} {b : Int → Int} {n i : Int} (h : i ≤ n) : i ≤ skp P b n i ∧ skp P b n i ≤ n ∧ (∀ j : Int, i ≤ j → j < skp P b n i → P (b j)) ∧ (skp P b n i < n → ¬ P (b (skp P b n i))) := skp_ok _ i rfl h
/-- where the token from e on begins, and where it ends -/
noncomputable def tkS (b : Int → Int) (n e : Int) : Int := skp isBl b n e
noncomputable def tkE (b : Int → Int) (n s : Int) : Int := @ite _ (s < n ∧ isRn (b s)) (Classical.propDecidable _) (skp isRn b n (s + 1)) (s + 1)
theorem tkE_rn {b : Int → Int} {n s : Int} (h : s < n ∧ isRn (b s)) : tkE b n s = skp isRn b n (s + 1) := if_pos h
theorem tkE_no {b : Int → Int} {n s : Int} (h : ¬ (s < n ∧ isRn (b s))) : tkE b n s = s + 1 := if_neg h
theorem tkE_r {b : Int → Int} {n s : Int} (h : s < n) : s < tkE b n s ∧ tkE b n s ≤ n := by
  by_cases c : s < n ∧ isRn (b s)
  · rw [tkE_rn c]
    have r := skp_r (P := isRn) (b := b) (n := n) (i := s + 1) (by omega)
    omega
  · rw [tkE_no c]; omega
/-- digits among the places s to f -/
noncomputable def dgs (b : Int → Int) (s i : Int) : Int := sm (fun j => bI (isDi (b (s + j)))) (i - s).toNat
theorem dgs_s {b : Int → Int} {s i : Int} (h : s ≤ i) : dgs b s (i + 1) = dgs b s i + bI (isDi (b i)) := by
  unfold dgs
  rw [show (i + 1 - s).toNat = (i - s).toNat + 1 by omega]
  show sm (fun j => bI (isDi (b (s + j)))) (i - s).toNat + bI (isDi (b (s + (((i - s).toNat : Nat) : Int)))) = _
  rw [show s + (((i - s).toNat : Nat) : Int) = i by omega]
theorem dgs_0 (b : Int → Int) (s : Int) : dgs b s s = 0 := by
  unfold dgs
  rw [Int.sub_self]
  rfl
theorem dgs_rng {b : Int → Int} {s i : Int} (h : s ≤ i) : 0 ≤ dgs b s i ∧ dgs b s i ≤ i - s := by
  have r := sm_rng (f := fun j => bI (isDi (b (s + j)))) (a := 0) (b := 1) (n := (i - s).toNat) (fun k _ _ => bI_rng _)
  unfold dgs
  omega
theorem dgs_all {b : Int → Int} {s : Int} : ∀ (f : Nat) {i : Int}, (i - s).toNat = f → s ≤ i → ((dgs b s i = i - s ↔ ∀ j : Int, s ≤ j → j < i → isDi (b j)) ∧ (dgs b s i = 0 ↔ ∀ j : Int, s ≤ j → j < i → ¬ isDi (b j)))
  | 0, i, e, h => by
    have e2 : i = s := by omega
    subst e2
    rw [dgs_0]
    exact ⟨⟨fun _ j a c => by omega, fun _ => by omega⟩, ⟨fun _ j a c => by omega, fun _ => rfl⟩⟩
  | f + 1, i, e, h => by
    obtain ⟨i', rfl⟩ : ∃ i', i = i' + 1 := ⟨i - 1, by omega⟩
    have ih := dgs_all (b := b) (s := s) f (i := i') (by omega) (by omega)
    have r := dgs_rng (b := b) (s := s) (i := i') (by omega)
    rw [dgs_s (by omega)]
    by_cases c : isDi (b i')
    · rw [bI_t c]
      refine ⟨⟨fun q j a d => ?_, fun q => ?_⟩, ⟨fun q => by omega, fun q => absurd c (q i' (by omega) (by omega))⟩⟩
      · by_cases z : j = i'
        · rw [z]; exact c
        · exact ih.1.mp (by omega) j a (by omega)
      · have := ih.1.mpr (fun j a d => q j a (by omega))
        omega
    · rw [bI_f c]
      refine ⟨⟨fun q => by omega, fun q => absurd (q i' (by omega) (by omega)) c⟩, ⟨fun q j a d => ?_, fun q => ?_⟩⟩
      · by_cases z : j = i'
        · rw [z]; exact c
        · exact ih.2.mp (by omega) j a (by omega)
      · have := ih.2.mpr (fun j a d => q j a (by omega))
        omega
/-- the kind of the token that begins at s: 0 none, 1 word, 2 number, 3 the sign (s below n) -/
noncomputable def tkK (b : Int → Int) (n s : Int) : Int := @ite _ (b s = 59) (Classical.propDecidable _) 3 (@ite _ (isRn (b s)) (Classical.propDecidable _) (@ite _ (dgs b s (tkE b n s) = 0) (Classical.propDecidable _) 1 (@ite _ (dgs b s (tkE b n s) = tkE b n s - s ∧ tkE b n s - s ≤ 2) (Classical.propDecidable _) 2 0)) 0)
theorem tkK_3 {b : Int → Int} {n s : Int} (h : b s = 59) : tkK b n s = 3 := if_pos h
theorem tkK_x {b : Int → Int} {n s : Int} (h : ¬ b s = 59) (h2 : ¬ isRn (b s)) : tkK b n s = 0 := by
  unfold tkK
  rw [if_neg h, if_neg h2]
theorem tkK_1 {b : Int → Int} {n s : Int} (h2 : isRn (b s)) (h : dgs b s (tkE b n s) = 0) : tkK b n s = 1 := by
  unfold tkK
  rw [if_neg (isRn_59 h2), if_pos h2, if_pos h]
theorem tkK_2 {b : Int → Int} {n s : Int} (h2 : isRn (b s)) (h0 : ¬ dgs b s (tkE b n s) = 0) (h : dgs b s (tkE b n s) = tkE b n s - s ∧ tkE b n s - s ≤ 2) : tkK b n s = 2 := by
  unfold tkK
  rw [if_neg (isRn_59 h2), if_pos h2, if_neg h0, if_pos h]
theorem tkK_0 {b : Int → Int} {n s : Int} (h2 : isRn (b s)) (h0 : ¬ dgs b s (tkE b n s) = 0) (h : ¬ (dgs b s (tkE b n s) = tkE b n s - s ∧ tkE b n s - s ≤ 2)) : tkK b n s = 0 := by
  unfold tkK
  rw [if_neg (isRn_59 h2), if_pos h2, if_neg h0, if_neg h]
theorem tkK_rng (b : Int → Int) (n s : Int) : 0 ≤ tkK b n s ∧ tkK b n s ≤ 3 := by
  by_cases h : b s = 59
  · rw [tkK_3 h]; omega
  · by_cases h2 : isRn (b s)
    · by_cases h3 : dgs b s (tkE b n s) = 0
      · rw [tkK_1 h2 h3]; omega
      · by_cases h4 : dgs b s (tkE b n s) = tkE b n s - s ∧ tkE b n s - s ≤ 2
        · rw [tkK_2 h2 h3 h4]; omega
        · rw [tkK_0 h2 h3 h4]; omega
    · rw [tkK_x h h2]; omega
/-- the number that the places from s on spell, k of them -/
def nmf (b : Int → Int) (s : Int) : Nat → Int
  | 0 => 0
  | k + 1 => nmf b s k * 10 + b (s + k) - 48
def nmb (b : Int → Int) (s i : Int) : Int := nmf b s (i - s).toNat
theorem nmb_s {b : Int → Int} {s i : Int} (h : s ≤ i) : nmb b s (i + 1) = nmb b s i * 10 + b i - 48 := by
  unfold nmb
  rw [show (i + 1 - s).toNat = (i - s).toNat + 1 by omega]
  show nmf b s (i - s).toNat * 10 + b (s + (((i - s).toNat : Nat) : Int)) - 48 = _
  rw [show s + (((i - s).toNat : Nat) : Int) = i by omega]
theorem nmb_0 (b : Int → Int) (s : Int) : nmb b s s = 0 := by
  unfold nmb
  rw [Int.sub_self]
  rfl
/-- the places from s to f spell a word -/
def spells (b : Int → Int) (s f : Int) (w : List Int) : Prop := f - s = (w.length : Int) ∧ ∀ k : Nat, k < w.length → b (s + k) = w.getD k 0
