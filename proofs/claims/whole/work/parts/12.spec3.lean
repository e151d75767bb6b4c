/-! what the public calls answer, of a row g -/
noncomputable def wst (g : Int → Int) : Nat → Int × Int
  | 0 => (-1, 0)
  | n + 1 => if shI g n ≤ (wst g n).2 then wst g n else ((n : Int), shI g n)
noncomputable def worstOf (g : Int → Int) : Int := (wst g 48).1
theorem wst_s {g : Int → Int} {i : Int} (h : 0 ≤ i) : wst g (i + 1).toNat = if shI g i ≤ (wst g i.toNat).2 then wst g i.toNat else (i, shI g i) := by
  rw [show (i + 1).toNat = i.toNat + 1 by omega]
  show (if shI g ((i.toNat : Nat) : Int) ≤ _ then _ else _) = _
  rw [Int.toNat_of_nonneg h]
theorem wst_rng {g : Int → Int} (h : Wf g) : ∀ n : Nat, n ≤ 48 → (-1 ≤ (wst g n).1 ∧ (wst g n).1 < 48 ∧ 0 ≤ (wst g n).2 ∧ (wst g n).2 ≤ 342)
  | 0, _ => by show -1 ≤ (-1 : Int) ∧ (-1 : Int) < 48 ∧ (0 : Int) ≤ 0 ∧ (0 : Int) ≤ 342; omega
  | n + 1, hn => by
    have ih := wst_rng h n (by omega)
    have s := shI_rng h (t := (n : Int)) (by omega) (by omega)
    show -1 ≤ (ite _ _ _ : Int × Int).1 ∧ (ite _ _ _ : Int × Int).1 < 48 ∧ 0 ≤ (ite _ _ _ : Int × Int).2 ∧ (ite _ _ _ : Int × Int).2 ≤ 342
    by_cases c : shI g n ≤ (wst g n).2
    · rw [if_pos c]; exact ih
    · rw [if_neg c]; exact ⟨by show -1 ≤ (n : Int); omega, by show (n : Int) < 48; omega, s.1, s.2⟩
noncomputable def nowF (g : Int → Int) (sm ta w : Int) : Int := if w = 0 then g 0 else if w = 1 then g 2 else if w = 2 then g 3 else if w = 3 then plc g else if w = 4 then SF g else if w = 5 then g 1 else if w = 6 then sm else if w = 7 then ta else -1
noncomputable def slotF (g : Int → Int) (p t w : Int) : Int := if (0 ≤ p ∧ p < g 0) ∧ (0 ≤ t ∧ t < 48) then (if w = 0 then g (4 + 48 * p + t) else if w = 1 then cov g p t else if w = 2 then sh g p t else -1) else -1
noncomputable def whyF (g : Int → Int) (k t : Int) : Int := if (0 ≤ k ∧ k < g 3) ∧ (0 ≤ t ∧ t < 48) then wy g k t else -1
noncomputable def wouldF (g : Int → Int) (k t : Int) : Int := if ((0 ≤ k ∧ k < g 3) ∧ (0 ≤ t ∧ t < 48)) ∧ wy g k t = 0 then SF (lie g k t) else -1
noncomputable def bestF (g : Int → Int) (k : Int) : Int := if 0 ≤ k ∧ k < g 3 then bestOf g k else -1
/-- a shift's fact: none, where it throws -/
def shiftF (g : Int → Int) (s w : Int) : Option Int := if (0 ≤ s ∧ s < g 2) ∧ (0 ≤ w ∧ w ≤ 4) then some (if w = 4 ∧ g (151 + 5 * s) = 0 then -1 else g (148 + 5 * s + w)) else none
def pauseF (g : Int → Int) (k w : Int) : Option Int := if (0 ≤ k ∧ k < g 3) ∧ (0 ≤ w ∧ w ≤ 4) then some (if w = 4 then g (192 + 5 * k) - 1 else g (188 + 5 * k + w)) else none
/-- rows that are kept -/
def snapN (sm : Int) : Int := if sm = 10 then 10 else sm + 1
def shf (f : Int → Int) (i : Int) : Int → Int := fun k => if 0 ≤ k ∧ k < i then f (k + 308) else f k
def cpf (f g : Int → Int) (b i : Int) : Int → Int := fun k => if b ≤ k ∧ k < b + i then g (k - b) else f k
def snapF (sm : Int) (snaps now : Int → Int) : Int → Int := if sm = 10 then cpf (shf snaps 2772) now 2772 308 else cpf snaps now (308 * sm) 308
theorem shf_0 (f : Int → Int) : shf f 0 = f := by
  funext k
  unfold shf
  rw [if_neg (by omega)]
theorem shf_s {f : Int → Int} {i : Int} (h : 0 ≤ i) : up (shf f i) i (shf f i (i + 308)) = shf f (i + 1) := by
  funext k
  by_cases e : k = i
  · subst e
    rw [up_s]
    unfold shf
    rw [if_neg (by omega), if_pos (by omega)]
  · rw [up_n _ _ e]
    unfold shf
    by_cases c : 0 ≤ k ∧ k < i
    · rw [if_pos c, if_pos (by omega)]
    · rw [if_neg c, if_neg (by omega)]
theorem cpf_0 (f g : Int → Int) (b : Int) : cpf f g b 0 = f := by
  funext k
  unfold cpf
  rw [if_neg (by omega)]
theorem cpf_s {f g : Int → Int} {b i : Int} (h : 0 ≤ i) : up (cpf f g b i) (b + i) (g i) = cpf f g b (i + 1) := by
  funext k
  by_cases e : k = b + i
  · subst e
    rw [up_s]
    unfold cpf
    rw [if_pos (by omega)]
    exact congrArg g (by omega)
  · rw [up_n _ _ e]
    unfold cpf
    by_cases c : b ≤ k ∧ k < b + i
    · rw [if_pos c, if_pos (by omega)]
    · rw [if_neg c, if_neg (by omega)]
/-- acts: the answer, and what stands behind it: how many rows are kept, the row, the rows kept -/
noncomputable def placeF (sm : Int) (now snaps : Int → Int) (k t : Int) : Int × Int × (Int → Int) × (Int → Int) :=
  if ((0 ≤ k ∧ k < now 3) ∧ (0 ≤ t ∧ t < 48)) ∧ ¬ now (192 + 5 * k) - 1 = t then
    (if 0 < wy now k t then (wy now k t, sm, now, snaps) else (0, snapN sm, lie now k t, snapF sm snaps now))
  else (-1, sm, now, snaps)
noncomputable def takeF (sm : Int) (now snaps : Int → Int) (k : Int) : Int × Int × (Int → Int) × (Int → Int) :=
  if (0 ≤ k ∧ k < now 3) ∧ ¬ now (192 + 5 * k) - 1 = -1 then (now (192 + 5 * k) - 1, snapN sm, lie now k (-1), snapF sm snaps now) else (-1, sm, now, snaps)
noncomputable def fstep (s : Int × (Int → Int)) (k : Int) : Int × (Int → Int) := if ¬ s.2 (192 + 5 * k) - 1 = -1 then s else if bestOf s.2 k = -2 then s else (s.1 + 1, lie s.2 k (bestOf s.2 k))
noncomputable def flg (g : Int → Int) : Nat → Int × (Int → Int)
  | 0 => (0, g)
  | n + 1 => fstep (flg g n) n
theorem flg_s {g : Int → Int} {i : Int} (h : 0 ≤ i) : flg g (i + 1).toNat = fstep (flg g i.toNat) i := by
  rw [show (i + 1).toNat = i.toNat + 1 by omega]
  show fstep _ ((i.toNat : Nat) : Int) = _
  rw [Int.toNat_of_nonneg h]
noncomputable def fillF (sm : Int) (now snaps : Int → Int) : Int × Int × (Int → Int) × (Int → Int) := ((flg now (now 3).toNat).1, snapN sm, (flg now (now 3).toNat).2, snapF sm snaps now)
/-- what of a row no act changes -/
def SameP (g h : Int → Int) : Prop := ∀ j : Int, (∀ k : Int, 0 ≤ k → k < 24 → j ≠ 192 + 5 * k) → h j = g j
theorem SameP_rf (g : Int → Int) : SameP g g := fun _ _ => rfl
theorem SameP_lie {g h : Int → Int} (e : SameP g h) {k t : Int} (h0 : 0 ≤ k) (h1 : k < 24) : SameP g (lie h k t) := fun j hj => by
  rw [lie_o (hj k h0 h1)]
  exact e j hj
theorem SameP_lo {g h : Int → Int} (e : SameP g h) {j : Int} (hj : j < 192) : h j = g j := e j (fun k h0 _ => by omega)
theorem fstep_ok {g : Int → Int} {s : Int × (Int → Int)} (hw : Wf s.2) (he : SameP g s.2) {k : Int} (h0 : 0 ≤ k) (h1 : k < g 3) : Wf (fstep s k).2 ∧ SameP g (fstep s k).2 := by
  have e3 := SameP_lo he (j := 3) (by omega)
  have n := Wf_n hw
  unfold fstep
  by_cases c : ¬ s.2 (192 + 5 * k) - 1 = -1
  · rw [if_pos c]; exact ⟨hw, he⟩
  · rw [if_neg c]
    by_cases c2 : bestOf s.2 k = -2
    · rw [if_pos c2]; exact ⟨hw, he⟩
    · rw [if_neg c2]
      have r := bestOf_rng hw h0 (by omega)
      exact ⟨Wf_lie hw h0 (by omega) (Or.inr (by omega)), SameP_lie he h0 (by omega)⟩
theorem flg_ok {g : Int → Int} (h : Wf g) : ∀ n : Nat, (n : Int) ≤ g 3 → Wf (flg g n).2 ∧ SameP g (flg g n).2 ∧ 0 ≤ (flg g n).1 ∧ (flg g n).1 ≤ n
  | 0, _ => ⟨h, SameP_rf g, by show (0 : Int) ≤ 0; omega, by show (0 : Int) ≤ ((0 : Nat) : Int); omega⟩
  | n + 1, hn => by
    obtain ⟨a, b, c, d⟩ := flg_ok h n (by omega)
    have f := fstep_ok a b (k := (n : Int)) (by omega) (by omega)
    refine ⟨f.1, f.2, ?_⟩
    show 0 ≤ (fstep (flg g n) n).1 ∧ (fstep (flg g n) n).1 ≤ ((n + 1 : Nat) : Int)
    unfold fstep
    by_cases c1 : ¬ (flg g n).2 (192 + 5 * (n : Int)) - 1 = -1
    · rw [if_pos c1]; omega
    · rw [if_neg c1]
      by_cases c2 : bestOf (flg g n).2 n = -2
      · rw [if_pos c2]; omega
      · rw [if_neg c2]
        show 0 ≤ (flg g n).1 + 1 ∧ (flg g n).1 + 1 ≤ _
        omega
noncomputable def mv (g : Int → Int) : Int → Int := lie g (betterOf g / 100) (betterOf g % 100)
noncomputable def stl (g : Int → Int) : Nat → Int × (Int → Int)
  | 0 => (0, g)
  | n + 1 => if betterOf (stl g n).2 = -2 then stl g n else ((n : Int) + 1, mv (stl g n).2)
noncomputable def settleF (sm : Int) (now snaps : Int → Int) : Int × Int × (Int → Int) × (Int → Int) := if betterOf now = -2 then (-1, sm, now, snaps) else ((stl now 40).1, snapN sm, (stl now 40).2, snapF sm snaps now)
theorem mv_ok {g h : Int → Int} (hw : Wf h) (he : SameP g h) (hb : ¬ betterOf h = -2) : Wf (mv h) ∧ SameP g (mv h) ∧ ∃ k t : Int, betterOf h = 100 * k + t ∧ 0 ≤ k ∧ k < h 3 ∧ 0 ≤ t ∧ t < 48 ∧ mv h = lie h k t := by
  have n := Wf_n hw
  rcases betterOf_rng hw with a | ⟨k, t, a, b, c, d, f, i, j⟩
  · exact absurd a hb
  · have p := Wf_p hw b c
    have e : mv h = lie h k t := by
      unfold mv
      rw [a, show (100 * k + t) / 100 = k by omega, show (100 * k + t) % 100 = t by omega]
    rw [e]
    exact ⟨Wf_lie hw b c (Or.inr ⟨d, f⟩), SameP_lie he b (by omega), k, t, a, b, c, by omega, by omega, rfl⟩
theorem stl_ok {g : Int → Int} (h : Wf g) : ∀ n : Nat, Wf (stl g n).2 ∧ SameP g (stl g n).2 ∧ 0 ≤ (stl g n).1 ∧ (stl g n).1 ≤ n
  | 0 => ⟨h, SameP_rf g, by show (0 : Int) ≤ 0; omega, by show (0 : Int) ≤ ((0 : Nat) : Int); omega⟩
  | n + 1 => by
    obtain ⟨a, b, c, d⟩ := stl_ok h n
    show Wf (ite _ _ _ : Int × (Int → Int)).2 ∧ SameP g (ite _ _ _ : Int × (Int → Int)).2 ∧ 0 ≤ (ite _ _ _ : Int × (Int → Int)).1 ∧ (ite _ _ _ : Int × (Int → Int)).1 ≤ ((n + 1 : Nat) : Int)
    by_cases c1 : betterOf (stl g n).2 = -2
    · rw [if_pos c1]; exact ⟨a, b, c, by omega⟩
    · rw [if_neg c1]
      have m := mv_ok a b c1
      exact ⟨m.1, m.2.1, by show 0 ≤ (n : Int) + 1; omega, by show (n : Int) + 1 ≤ ((n + 1 : Nat) : Int); omega⟩
/-- once there is no move, it stays so -/
theorem stl_stop {g : Int → Int} {n : Nat} (h : betterOf (stl g n).2 = -2) : ∀ d : Nat, stl g (n + d) = stl g n
  | 0 => rfl
  | d + 1 => by
    have ih := stl_stop h d
    show (if betterOf (stl g (n + d)).2 = -2 then stl g (n + d) else _) = stl g n
    rw [ih, if_pos h]
def cp0 (f g : Int → Int) (i : Int) : Int → Int := fun k => if 0 ≤ k ∧ k < i then g k else f k
theorem cp0_0 (f g : Int → Int) : cp0 f g 0 = f := by
  funext k
  unfold cp0
  rw [if_neg (by omega)]
theorem cp0_s {f g : Int → Int} {i : Int} (h : 0 ≤ i) : up (cp0 f g i) i (g i) = cp0 f g (i + 1) := by
  funext k
  by_cases e : k = i
  · subst e
    rw [up_s]
    unfold cp0
    rw [if_pos (by omega)]
  · rw [up_n _ _ e]
    unfold cp0
    by_cases c : 0 ≤ k ∧ k < i
    · rw [if_pos c, if_pos (by omega)]
    · rw [if_neg c, if_neg (by omega)]
def undoF (sm : Int) (now snaps : Int → Int) : Int × Int × (Int → Int) × (Int → Int) := if sm = 0 then (-1, sm, now, snaps) else (sm - 1, sm - 1, cp0 now (fun k => snaps (308 * (sm - 1) + k)) 308, snaps)
