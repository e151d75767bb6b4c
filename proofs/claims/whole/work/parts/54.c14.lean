def DrW (q : Nat → Nat) (C : Nat → ClassId) (w : va_W) (dp dw dl dn ds dk : Int) (a5 : Int → Int) : Prop := (∃ k : Nat, w[k]? = some (q 4, .inr (1, [.int (iI dp), .int (iI dw), .int (iI dl), .int (iI dn), .int (iI ds), .int (iI dk), .ref (q 5), .ref (q 6), .ref (q 7), .ref (q 8), .ref (q 9), .ref (q 10), .ref (q 11), .ref (q 12), .ref (q 13), .ref (q 14), .ref (q 15)]))) ∧ (∃ k : Nat, w[k]? = some (q 10, .inl (C 1, 8, .inl (aI a5))))
def wDr (q : Nat → Nat) (C : Nat → ClassId) (dp dw dl dn ds dk : Int) (a0 a1 a2 a3 a4 a5 a6 a7 a8 a9 aA : Int → Int) : va_W := [(q 4, .inr (1, [.int (iI dp), .int (iI dw), .int (iI dl), .int (iI dn), .int (iI ds), .int (iI dk), .ref (q 5), .ref (q 6), .ref (q 7), .ref (q 8), .ref (q 9), .ref (q 10), .ref (q 11), .ref (q 12), .ref (q 13), .ref (q 14), .ref (q 15)])), (q 5, .inl (C 1, 144, .inl (aI a0))), (q 6, .inl (C 1, 144, .inl (aI a1))), (q 7, .inl (C 1, 8, .inl (aI a2))), (q 8, .inl (C 1, 8, .inl (aI a3))), (q 9, .inl (C 1, 8, .inl (aI a4))), (q 10, .inl (C 1, 8, .inl (aI a5))), (q 11, .inl (C 1, 8, .inl (aI a6))), (q 12, .inl (C 1, 24, .inl (aI a7))), (q 13, .inl (C 1, 24, .inl (aI a8))), (q 14, .inl (C 1, 24, .inl (aI a9))), (q 15, .inl (C 1, 24, .inl (aI aA)))]
def wPl (q : Nat → Nat) (C : Nat → ClassId) (pp0 pw0 pl0 pn0 ps0 pk0 : Int) (p0 p1 p2 p3 p4 p5 p6 p7 p8 p9 pA : Int → Int) : va_W := [(q 16, .inr (1, [.int (iI pp0), .int (iI pw0), .int (iI pl0), .int (iI pn0), .int (iI ps0), .int (iI pk0), .ref (q 17), .ref (q 18), .ref (q 19), .ref (q 20), .ref (q 21), .ref (q 22), .ref (q 23), .ref (q 24), .ref (q 25), .ref (q 26), .ref (q 27)])), (q 17, .inl (C 1, 144, .inl (aI p0))), (q 18, .inl (C 1, 144, .inl (aI p1))), (q 19, .inl (C 1, 8, .inl (aI p2))), (q 20, .inl (C 1, 8, .inl (aI p3))), (q 21, .inl (C 1, 8, .inl (aI p4))), (q 22, .inl (C 1, 8, .inl (aI p5))), (q 23, .inl (C 1, 8, .inl (aI p6))), (q 24, .inl (C 1, 24, .inl (aI p7))), (q 25, .inl (C 1, 24, .inl (aI p8))), (q 26, .inl (C 1, 24, .inl (aI p9))), (q 27, .inl (C 1, 24, .inl (aI pA)))]
def adc (f : Int → Int) (a b m : Int) : Int → Int := fun k => if a ≤ k ∧ k ≤ b then f k + m else f k
theorem adc_in {f : Int → Int} {a b m k : Int} (h : a ≤ k ∧ k ≤ b) : adc f a b m k = f k + m := if_pos h
theorem adc_out {f : Int → Int} {a b m k : Int} (h : ¬ (a ≤ k ∧ k ≤ b)) : adc f a b m k = f k := if_neg h
theorem adc_0 (f : Int → Int) (a m : Int) : adc f a (a - 1) m = f := by
  funext j
  exact if_neg (by omega)
theorem adc_s {f : Int → Int} {a t m : Int} (h : a ≤ t) : up (adc f a (t - 1) m) t (adc f a (t - 1) m t + m) = adc f a (t + 1 - 1) m := by
  funext j
  by_cases e : j = t
  · subst e
    rw [up_s, adc_out (by omega), adc_in (by omega)]
  · rw [up_n _ _ e]
    by_cases x : a ≤ j ∧ j ≤ t - 1
    · rw [adc_in x, adc_in (by omega)]
    · rw [adc_out x, adc_out (by omega)]
/-- the draft against the row of the text as far as it is read -/
def DrP (g : Int → Int) (st dp dw ds dk : Int) (a0 a1 a2 a3 a4 a5 a6 a7 a8 a9 aA : Int → Int) : Prop :=
  (¬ (st = 0 ∨ st = 5) → dp = g 0) ∧ (¬ (st = 0 ∨ st = 5 ∨ st = 6) → dw = g 1) ∧ (ds = g 2 + prg st ∧ dk = g 3) ∧ (∀ c : Int, 0 ≤ c → c < 144 → a0 c = g (4 + c)) ∧ (∀ c : Int, 0 ≤ c → c < 144 → a1 c = dtc (up g 2 (g 2 + prg st)) c) ∧
  (∀ s : Int, 0 ≤ s → s < g 2 + prg st → a2 s = g (148 + 5 * s) ∧ a3 s = g (149 + 5 * s) ∧ a4 s = g (150 + 5 * s) ∧ a5 s = g (151 + 5 * s) ∧ a6 s = g (152 + 5 * s)) ∧
  (∀ k : Int, 0 ≤ k → k < g 3 → a7 k = g (188 + 5 * k) ∧ a8 k = g (189 + 5 * k) ∧ a9 k = g (190 + 5 * k) ∧ aA k = g (191 + 5 * k))
theorem dtc_congr {g h : Int → Int} (e2 : h 2 = g 2) (e : ∀ s : Int, 0 ≤ s → s < g 2 → h (148 + 5 * s) = g (148 + 5 * s) ∧ h (149 + 5 * s) = g (149 + 5 * s) ∧ h (150 + 5 * s) = g (150 + 5 * s)) (c : Int) : dtc h c = dtc g c := by
  unfold dtc onD
  rw [e2]
  exact smI_cong (fun s a b => by
    obtain ⟨x, y, z⟩ := e s a b
    unfold dq
    rw [x, y, z])
section DRP
variable {g h : Int → Int} {st st' dp dp' dw dw' ds dk : Int} {a0 a1 a2 a3 a4 a5 a6 a7 a8 a9 aA : Int → Int}
theorem DrP_congr (H : DrP g st dp dw ds dk a0 a1 a2 a3 a4 a5 a6 a7 a8 a9 aA) (e2 : h 2 = g 2) (e3 : h 3 = g 3) (ep : prg st' = prg st) (hn : ∀ c : Int, 0 ≤ c → c < 144 → h (4 + c) = g (4 + c)) (hs : ∀ s j : Int, 0 ≤ s → s < g 2 + prg st → 148 + 5 * s ≤ j → j ≤ 152 + 5 * s → h j = g j) (hk : ∀ k j : Int, 0 ≤ k → k < g 3 → 188 + 5 * k ≤ j → j ≤ 191 + 5 * k → h j = g j) (h0 : ¬ (st' = 0 ∨ st' = 5) → dp' = h 0) (h1 : ¬ (st' = 0 ∨ st' = 5 ∨ st' = 6) → dw' = h 1) : DrP h st' dp' dw' ds dk a0 a1 a2 a3 a4 a5 a6 a7 a8 a9 aA := by
  obtain ⟨b1, b2, b3, b4, b5, b6, b7⟩ := H
  unfold DrP
  rw [ep, e2, e3]
  refine ⟨h0, h1, b3, fun c c0 c1 => by rw [hn c c0 c1]; exact b4 c c0 c1, fun c c0 c1 => ?_, fun s s0 s1 => ?_, fun k k0 k1 => ?_⟩
  · rw [b5 c c0 c1]
    refine (dtc_congr (by rw [up_s, up_s]) (fun s s0 s1 => ?_) c).symm
    rw [up_s] at s1
    rw [up_n _ _ (by omega), up_n _ _ (by omega), up_n _ _ (by omega), up_n _ _ (by omega), up_n _ _ (by omega), up_n _ _ (by omega)]
    exact ⟨hs s _ s0 s1 (by omega) (by omega), hs s _ s0 s1 (by omega) (by omega), hs s _ s0 s1 (by omega) (by omega)⟩
  · rw [hs s (148 + 5 * s) s0 s1 (by omega) (by omega), hs s (149 + 5 * s) s0 s1 (by omega) (by omega), hs s (150 + 5 * s) s0 s1 (by omega) (by omega), hs s (151 + 5 * s) s0 s1 (by omega) (by omega), hs s (152 + 5 * s) s0 s1 (by omega) (by omega)]
    exact b6 s s0 s1
  · rw [hk k (188 + 5 * k) k0 k1 (by omega) (by omega), hk k (189 + 5 * k) k0 k1 (by omega) (by omega), hk k (190 + 5 * k) k0 k1 (by omega) (by omega), hk k (191 + 5 * k) k0 k1 (by omega) (by omega)]
    exact b7 k k0 k1
/-- one place is written that it doesn't speak of -/
theorem DrP_up {z v : Int} (H : DrP g st dp dw ds dk a0 a1 a2 a3 a4 a5 a6 a7 a8 a9 aA) (ep : prg st' = prg st) (hz : z = 0 ∨ z = 1 ∨ (148 + 5 * (g 2 + prg st) ≤ z ∧ z < 188) ∨ 188 + 5 * g 3 ≤ z) (hg : 0 ≤ g 2 + prg st ∧ g 2 + prg st ≤ 8 ∧ 0 ≤ g 3) (h0 : ¬ (st' = 0 ∨ st' = 5) → dp' = up g z v 0) (h1 : ¬ (st' = 0 ∨ st' = 5 ∨ st' = 6) → dw' = up g z v 1) : DrP (up g z v) st' dp' dw' ds dk a0 a1 a2 a3 a4 a5 a6 a7 a8 a9 aA := DrP_congr H (up_n _ _ (by omega)) (up_n _ _ (by omega)) ep (fun c c0 c1 => up_n _ _ (by omega)) (fun s j s0 s1 j0 j1 => up_n _ _ (by omega)) (fun k j k0 k1 j0 j1 => up_n _ _ (by omega)) h0 h1
/-- a shift is added -/
theorem DrP_9 {po fr m : Int} (H : DrP g 9 dp dw ds dk a0 a1 a2 a3 a4 a5 a6 a7 a8 a9 aA) (hg : 0 ≤ g 2 ∧ g 2 < 8 ∧ 0 ≤ g 3 ∧ g 3 ≤ 24) (e1 : g (148 + 5 * g 2) = po) (e2 : g (149 + 5 * g 2) = fr) (e3 : g (151 + 5 * g 2) = 0) (hp : 0 ≤ po ∧ po < 3) (hf : 0 ≤ fr ∧ fr ≤ m ∧ m < 48) : DrP (up (up g (150 + 5 * g 2) m) (152 + 5 * g 2) (g 3)) 3 dp dw (ds + 1) dk a0 (adc a1 (po * 48 + fr) (po * 48 + m) 1) (up a2 ds po) (up a3 ds fr) (up a4 ds m) (up a5 ds 0) (up a6 ds dk) a7 a8 a9 aA := by
  obtain ⟨b1, b2, b3, b4, b5, b6, b7⟩ := H
  have p9 : prg 9 = 0 := prg_0 (by omega)
  have p3 : prg 3 = 1 := prg_1 (by omega)
  rw [p9] at b3 b5 b6
  obtain ⟨f, hf9⟩ : ∃ f, f = up (up g (150 + 5 * g 2) m) (152 + 5 * g 2) (g 3) := ⟨_, rfl⟩
  have en : ∀ j : Int, ¬ j = 150 + 5 * g 2 → ¬ j = 152 + 5 * g 2 → f j = g j := fun j a b => by rw [hf9, up_n _ _ b, up_n _ _ a]
  have f0 : f 0 = g 0 := en 0 (by omega) (by omega)
  have f1 : f 1 = g 1 := en 1 (by omega) (by omega)
  have f2 : f 2 = g 2 := en 2 (by omega) (by omega)
  have f3 : f 3 = g 3 := en 3 (by omega) (by omega)
  have f150 : f (150 + 5 * g 2) = m := by rw [hf9, up_n _ _ (by omega), up_s]
  have f152 : f (152 + 5 * g 2) = g 3 := by rw [hf9, up_s]
  rw [← hf9]
  unfold DrP
  rw [p3, f0, f1, f2, f3]
  refine ⟨fun _ => b1 (by omega), fun _ => b2 (by omega), by omega, fun c c0 c1 => by rw [en (4 + c) (by omega) (by omega)]; exact b4 c c0 c1, fun c c0 c1 => ?_, fun s s0 s1 => ?_, fun k k0 k1 => ?_⟩
  · have b := b5 c c0 c1
    have q1 : dtc (up f 2 (g 2 + 1)) c = dtc (up g 2 (g 2 + 0)) c + bI (po = c / 48 ∧ fr ≤ c % 48 ∧ c % 48 ≤ m) := by
      unfold dtc onD
      rw [up_s, up_s, smI_s _ hg.1, Int.add_zero]
      have x1 : smI (dq (up f 2 (g 2 + 1)) (c / 48) (c % 48)) (g 2) = smI (dq (up g 2 (g 2)) (c / 48) (c % 48)) (g 2) := smI_cong (fun s s0 s1 => by
        unfold dq
        rw [up_n _ _ (by omega), up_n _ _ (by omega), up_n _ _ (by omega), up_n _ _ (by omega), up_n _ _ (by omega), up_n _ _ (by omega), en (148 + 5 * s) (by omega) (by omega), en (149 + 5 * s) (by omega) (by omega), en (150 + 5 * s) (by omega) (by omega)])
      rw [x1]
      have x2 : dq (up f 2 (g 2 + 1)) (c / 48) (c % 48) (g 2) = bI (po = c / 48 ∧ fr ≤ c % 48 ∧ c % 48 ≤ m) := by
        unfold dq
        rw [up_n _ _ (by omega), up_n _ _ (by omega), up_n _ _ (by omega), en (148 + 5 * g 2) (by omega) (by omega), en (149 + 5 * g 2) (by omega) (by omega), f150, e1, e2]
      rw [x2]
    rw [q1, ← b]
    by_cases x : po * 48 + fr ≤ c ∧ c ≤ po * 48 + m
    · rw [adc_in x, bI_t (by omega)]
    · rw [adc_out x, bI_f (by omega)]
      omega
  · by_cases e : s = g 2
    · rw [show ds = s by omega, up_s, up_s, up_s, up_s, up_s, e, en (148 + 5 * g 2) (by omega) (by omega), en (149 + 5 * g 2) (by omega) (by omega), en (151 + 5 * g 2) (by omega) (by omega), f150, f152]
      exact ⟨e1.symm, e2.symm, rfl, e3.symm, b3.2⟩
    · rw [up_n _ _ (by omega), up_n _ _ (by omega), up_n _ _ (by omega), up_n _ _ (by omega), up_n _ _ (by omega), en (148 + 5 * s) (by omega) (by omega), en (149 + 5 * s) (by omega) (by omega), en (150 + 5 * s) (by omega) (by omega), en (151 + 5 * s) (by omega) (by omega), en (152 + 5 * s) (by omega) (by omega)]
      exact b6 s s0 (by omega)
  · rw [en (188 + 5 * k) (by omega) (by omega), en (189 + 5 * k) (by omega) (by omega), en (190 + 5 * k) (by omega) (by omega), en (191 + 5 * k) (by omega) (by omega)]
    exact b7 k k0 k1
/-- a need is added -/
theorem DrP_10 {po fr to m : Int} (H : DrP g 10 dp dw ds dk a0 a1 a2 a3 a4 a5 a6 a7 a8 a9 aA) (hg : 0 ≤ g 2 ∧ g 2 ≤ 8 ∧ 0 ≤ g 3) (hp : 0 ≤ po ∧ po < 3) (hf : 0 ≤ fr ∧ fr ≤ to ∧ to < 48) : DrP (adn g po fr to m) 4 dp dw ds dk (adc a0 (po * 48 + fr) (po * 48 + to) m) a1 a2 a3 a4 a5 a6 a7 a8 a9 aA := by
  have en : ∀ j : Int, j < 4 ∨ 148 ≤ j → adn g po fr to m j = g j := fun j a => adn_out (by omega)
  have p10 : prg 10 = 0 := prg_0 (by omega)
  have p4 : prg 4 = 0 := prg_0 (by omega)
  obtain ⟨b1, b2, b3, b4, b5, b6, b7⟩ := H
  unfold DrP
  rw [p4]
  rw [p10] at b3 b5 b6
  rw [en 0 (by omega), en 1 (by omega), en 2 (by omega), en 3 (by omega)]
  refine ⟨fun _ => b1 (by omega), fun _ => b2 (by omega), b3, fun c c0 c1 => ?_, fun c c0 c1 => ?_, fun s s0 s1 => ?_, fun k k0 k1 => ?_⟩
  · have b := b4 c c0 c1
    by_cases x : po * 48 + fr ≤ c ∧ c ≤ po * 48 + to
    · rw [adc_in x, adn_in (by omega), b]
    · rw [adc_out x, adn_out (by omega), b]
  · rw [b5 c c0 c1]
    refine (dtc_congr (by rw [up_s, up_s]) (fun s s0 s1 => ?_) c).symm
    rw [up_s] at s1
    rw [up_n _ _ (by omega), up_n _ _ (by omega), up_n _ _ (by omega), up_n _ _ (by omega), up_n _ _ (by omega), up_n _ _ (by omega)]
    exact ⟨en _ (by omega), en _ (by omega), en _ (by omega)⟩
  · rw [en (148 + 5 * s) (by omega), en (149 + 5 * s) (by omega), en (150 + 5 * s) (by omega), en (151 + 5 * s) (by omega), en (152 + 5 * s) (by omega)]
    exact b6 s s0 s1
  · rw [en (188 + 5 * k) (by omega), en (189 + 5 * k) (by omega), en (190 + 5 * k) (by omega), en (191 + 5 * k) (by omega)]
    exact b7 k k0 k1
/-- a pause is added -/
theorem DrP_13 {ln ea m : Int} (H : DrP g 13 dp dw ds dk a0 a1 a2 a3 a4 a5 a6 a7 a8 a9 aA) (hg : 0 ≤ g 2 ∧ g 2 < 8 ∧ 0 ≤ g 3 ∧ g 3 < 24) (e1 : g (189 + 5 * g 3) = ln) (e2 : g (190 + 5 * g 3) = ea) : DrP (finP g m) 3 dp dw ds (dk + 1) a0 a1 a2 a3 a4 (up a5 (ds - 1) (a5 (ds - 1) + 1)) a6 (up a7 dk (ds - 1)) (up a8 dk ln) (up a9 dk ea) (up aA dk m) := by
  obtain ⟨b1, b2, b3, b4, b5, b6, b7⟩ := H
  have p13 : prg 13 = 1 := prg_1 (by omega)
  have p3 : prg 3 = 1 := prg_1 (by omega)
  rw [p13] at b3 b5 b6
  obtain ⟨q3, q151, q188, q191, en⟩ := finP_at (g := g) (m := m) ⟨hg.1, hg.2.1⟩ ⟨hg.2.2.1, hg.2.2.2⟩
  unfold DrP
  rw [p3, q3, en 0 (by omega) (by omega) (by omega) (by omega), en 1 (by omega) (by omega) (by omega) (by omega), en 2 (by omega) (by omega) (by omega) (by omega)]
  refine ⟨fun _ => b1 (by omega), fun _ => b2 (by omega), by omega, fun c c0 c1 => by rw [en (4 + c) (by omega) (by omega) (by omega) (by omega)]; exact b4 c c0 c1, fun c c0 c1 => ?_, fun s s0 s1 => ?_, fun k k0 k1 => ?_⟩
  · rw [b5 c c0 c1]
    refine (dtc_congr (by rw [up_s, up_s]) (fun s s0 s1 => ?_) c).symm
    rw [up_s] at s1
    rw [up_n _ _ (by omega), up_n _ _ (by omega), up_n _ _ (by omega), up_n _ _ (by omega), up_n _ _ (by omega), up_n _ _ (by omega)]
    exact ⟨en _ (by omega) (by omega) (by omega) (by omega), en _ (by omega) (by omega) (by omega) (by omega), en _ (by omega) (by omega) (by omega) (by omega)⟩
  · obtain ⟨x1, x2, x3, x4, x5⟩ := b6 s s0 s1
    rw [en (148 + 5 * s) (by omega) (by omega) (by omega) (by omega), en (149 + 5 * s) (by omega) (by omega) (by omega) (by omega), en (150 + 5 * s) (by omega) (by omega) (by omega) (by omega), en (152 + 5 * s) (by omega) (by omega) (by omega) (by omega)]
    refine ⟨x1, x2, x3, ?_, x5⟩
    by_cases e : s = g 2
    · rw [show ds - 1 = s by omega, up_s, e, q151, ← e, x4]
    · rw [up_n _ _ (by omega), en (151 + 5 * s) (by omega) (by omega) (by omega) (by omega)]
      exact x4
  · rw [en (189 + 5 * k) (by omega) (by omega) (by omega) (by omega), en (190 + 5 * k) (by omega) (by omega) (by omega) (by omega)]
    by_cases e : k = g 3
    · rw [show dk = k by omega, up_s, up_s, up_s, up_s, e, q188, q191, e1, e2]
      exact ⟨by omega, rfl, rfl, rfl⟩
    · rw [up_n _ _ (by omega), up_n _ _ (by omega), up_n _ _ (by omega), up_n _ _ (by omega), en (188 + 5 * k) (by omega) (by omega) (by omega) (by omega), en (191 + 5 * k) (by omega) (by omega) (by omega) (by omega)]
      exact b7 k k0 (by omega)
/-- a shift's line ends -/
theorem DrP_3 (H : DrP g 3 dp dw ds dk a0 a1 a2 a3 a4 a5 a6 a7 a8 a9 aA) (hg : 0 ≤ g 2 ∧ 0 ≤ g 3) : DrP (up g 2 (g 2 + 1)) 2 dp dw ds dk a0 a1 a2 a3 a4 a5 a6 a7 a8 a9 aA := by
  obtain ⟨b1, b2, b3, b4, b5, b6, b7⟩ := H
  have p2 : prg 2 = 0 := prg_0 (by omega)
  have p3 : prg 3 = 1 := prg_1 (by omega)
  rw [p3] at b3 b5 b6
  have en : ∀ j : Int, ¬ j = 2 → up g 2 (g 2 + 1) j = g j := fun j a => up_n _ _ a
  unfold DrP
  rw [p2, up_s, up_up, en 0 (by omega), en 1 (by omega), en 3 (by omega), Int.add_zero]
  refine ⟨fun _ => b1 (by omega), fun _ => b2 (by omega), b3, fun c c0 c1 => by rw [en (4 + c) (by omega)]; exact b4 c c0 c1, b5, fun s s0 s1 => ?_, fun k k0 k1 => ?_⟩
  · rw [en (148 + 5 * s) (by omega), en (149 + 5 * s) (by omega), en (150 + 5 * s) (by omega), en (151 + 5 * s) (by omega), en (152 + 5 * s) (by omega)]
    exact b6 s s0 s1
  · rw [en (188 + 5 * k) (by omega), en (189 + 5 * k) (by omega), en (190 + 5 * k) (by omega), en (191 + 5 * k) (by omega)]
    exact b7 k k0 k1
end DRP
set_option maxHeartbeats 4000000 in
set_option maxRecDepth 100000 in
theorem c_X1_hasAllNeeds {l : Launch} {D : va_G} {C : Nat → ClassId} {q : Nat → Nat} {w : va_W} {dp dw dl dn ds dk : Int} {a5 : Int → Int} (hd9 : DrW q C w dp dw dl dn ds dk a5) (hr : 0 ≤ dn ∧ dn ≤ 10) : CR l yX1_hasAllNeeds wsX1_hasAllNeeds 0 0 D C [.ref (q 4)] (w) (.int (iI (bI (10 ≤ dn)))) := by
  obtain ⟨⟨k4, h4⟩, ⟨k10, h10⟩⟩ := id hd9
  refine CRZ_of (cc := cX1_hasAllNeeds) (maxL := 1) (by decide) rfl (Nat.le_of_ble_eq_true rfl) (bI_01 _) ?_
  intro p e s m below meth c Q ls hx hb hml hown hts hK hNW hl hP hret
  have hl : lv_has ls 1 [(0, .ref (q 4))] := hl
  refine lv_aload_n hx hb dX1_hasAllNeeds_0 rfl (lv_at hl 0 rfl) ?_
  refine va_get (D := D) (ci := 1) (v := .int (iI (dn))) (C := RX1) (T := TX1) (N := 17) hx hb hts (by decide +kernel) hown hK hP k4 h4 rfl 3 (by decide) (hts (.fieldLink RX1 55 "BreakSetter$Plan" "needs" "I") (by decide +kernel)) (fun _ h9 => h9) rfl dX1_hasAllNeeds_1 ?_
  refine lv_bipush (v := iI (10)) hx hb dX1_hasAllNeeds_4 (by decide) ?_
  refine j_icmp_lt (tgt := 13) hx hb dX1_hasAllNeeds_6 rfl ⟨by omega, by omega⟩ ⟨by decide, by decide⟩ (fun c6 => ?_) (fun c6 => ?_)
  · skip
    refine lv_iconst (v := iI (0)) hx hb dX1_hasAllNeeds_13 rfl ?_
    exact hret ls 14 _ dX1_hasAllNeeds_14 (by rw [bI_f (by omega)])
  · skip
    refine lv_iconst (v := iI (1)) hx hb dX1_hasAllNeeds_9 rfl ?_
    refine lv_goto (tgt := 14) hx hb dX1_hasAllNeeds_10 rfl ?_
    exact hret ls 14 _ dX1_hasAllNeeds_14 (by rw [bI_t (by omega)])

set_option maxHeartbeats 4000000 in
set_option maxRecDepth 100000 in
theorem c_X1_hasAllShifts {l : Launch} {D : va_G} {C : Nat → ClassId} {q : Nat → Nat} {w : va_W} {dp dw dl dn ds dk : Int} {a5 : Int → Int} (hd9 : DrW q C w dp dw dl dn ds dk a5) (hr : 0 ≤ ds ∧ ds ≤ 10) : CR l yX1_hasAllShifts wsX1_hasAllShifts 0 0 D C [.ref (q 4)] (w) (.int (iI (bI (8 ≤ ds)))) := by
  obtain ⟨⟨k4, h4⟩, ⟨k10, h10⟩⟩ := id hd9
  refine CRZ_of (cc := cX1_hasAllShifts) (maxL := 1) (by decide) rfl (Nat.le_of_ble_eq_true rfl) (bI_01 _) ?_
  intro p e s m below meth c Q ls hx hb hml hown hts hK hNW hl hP hret
  have hl : lv_has ls 1 [(0, .ref (q 4))] := hl
  refine lv_aload_n hx hb dX1_hasAllShifts_0 rfl (lv_at hl 0 rfl) ?_
  refine va_get (D := D) (ci := 1) (v := .int (iI (ds))) (C := RX1) (T := TX1) (N := 17) hx hb hts (by decide +kernel) hown hK hP k4 h4 rfl 4 (by decide) (hts (.fieldLink RX1 58 "BreakSetter$Plan" "shifts" "I") (by decide +kernel)) (fun _ h9 => h9) rfl dX1_hasAllShifts_1 ?_
  refine lv_bipush (v := iI (8)) hx hb dX1_hasAllShifts_4 (by decide) ?_
  refine j_icmp_lt (tgt := 13) hx hb dX1_hasAllShifts_6 rfl ⟨by omega, by omega⟩ ⟨by decide, by decide⟩ (fun c6 => ?_) (fun c6 => ?_)
  · skip
    refine lv_iconst (v := iI (0)) hx hb dX1_hasAllShifts_13 rfl ?_
    exact hret ls 14 _ dX1_hasAllShifts_14 (by rw [bI_f (by omega)])
  · skip
    refine lv_iconst (v := iI (1)) hx hb dX1_hasAllShifts_9 rfl ?_
    refine lv_goto (tgt := 14) hx hb dX1_hasAllShifts_10 rfl ?_
    exact hret ls 14 _ dX1_hasAllShifts_14 (by rw [bI_t (by omega)])

set_option maxHeartbeats 4000000 in
set_option maxRecDepth 100000 in
theorem c_X1_hasAllPausesOfLatestShift {l : Launch} {D : va_G} {C : Nat → ClassId} {q : Nat → Nat} {w : va_W} {dp dw dl dn ds dk : Int} {a5 : Int → Int} (hd9 : DrW q C w dp dw dl dn ds dk a5) (hr : 1 ≤ ds ∧ ds ≤ 8) (hk : 0 ≤ dk ∧ dk ≤ 24) (ha : (0 ≤ a5 (ds - 1) ∧ a5 (ds - 1) ≤ 3) ∧ (24 ≤ dk → 3 ≤ a5 (ds - 1))) : CR l yX1_hasAllPausesOfLatestShift wsX1_hasAllPausesOfLatestShift 0 0 D C [.ref (q 4)] (w) (.int (iI (bI (3 ≤ a5 (ds - 1))))) := by
  obtain ⟨⟨k4, h4⟩, ⟨k10, h10⟩⟩ := id hd9
  refine CRZ_of (cc := cX1_hasAllPausesOfLatestShift) (maxL := 1) (by decide) rfl (Nat.le_of_ble_eq_true rfl) (bI_01 _) ?_
  intro p e s m below meth c Q ls hx hb hml hown hts hK hNW hl hP hret
  have hl : lv_has ls 1 [(0, .ref (q 4))] := hl
  refine lv_aload_n hx hb dX1_hasAllPausesOfLatestShift_0 rfl (lv_at hl 0 rfl) ?_
  refine va_get (D := D) (ci := 1) (v := .int (iI (ds))) (C := RX1) (T := TX1) (N := 17) hx hb hts (by decide +kernel) hown hK hP k4 h4 rfl 4 (by decide) (hts (.fieldLink RX1 58 "BreakSetter$Plan" "shifts" "I") (by decide +kernel)) (fun _ h9 => h9) rfl dX1_hasAllPausesOfLatestShift_1 ?_
  refine j_if_eq (tgt := 31) hx hb dX1_hasAllPausesOfLatestShift_4 rfl ⟨by omega, by omega⟩ (fun c4 => ?_) (fun c4 => ?_)
  · skip
    exact absurd c4 (by omega)
  · skip
    refine lv_aload_n hx hb dX1_hasAllPausesOfLatestShift_7 rfl (lv_at hl 0 rfl) ?_
    refine va_get (D := D) (ci := 1) (v := .int (iI (dk))) (C := RX1) (T := TX1) (N := 17) hx hb hts (by decide +kernel) hown hK hP k4 h4 rfl 5 (by decide) (hts (.fieldLink RX1 61 "BreakSetter$Plan" "pauses" "I") (by decide +kernel)) (fun _ h9 => h9) rfl dX1_hasAllPausesOfLatestShift_8 ?_
    refine lv_bipush (v := iI (24)) hx hb dX1_hasAllPausesOfLatestShift_11 (by decide) ?_
    refine j_icmp_ge (tgt := 31) hx hb dX1_hasAllPausesOfLatestShift_13 rfl ⟨by omega, by omega⟩ ⟨by decide, by decide⟩ (fun c13 => ?_) (fun c13 => ?_)
    · skip
      refine lv_iconst (v := iI (1)) hx hb dX1_hasAllPausesOfLatestShift_31 rfl ?_
      refine lv_goto (tgt := 36) hx hb dX1_hasAllPausesOfLatestShift_32 rfl ?_
      exact hret ls 36 _ dX1_hasAllPausesOfLatestShift_36 (by rw [bI_t (by omega)])
    · skip
      refine lv_aload_n hx hb dX1_hasAllPausesOfLatestShift_16 rfl (lv_at hl 0 rfl) ?_
      refine va_get (D := D) (ci := 1) (v := .ref (q 10)) (C := RX1) (T := TX1) (N := 17) hx hb hts (by decide +kernel) hown hK hP k4 h4 rfl 11 (by decide) (hts (.fieldLink RX1 34 "BreakSetter$Plan" "shiftPauses" "[I") (by decide +kernel)) (fun _ h9 => h9) rfl dX1_hasAllPausesOfLatestShift_17 ?_
      refine lv_aload_n hx hb dX1_hasAllPausesOfLatestShift_20 rfl (lv_at hl 0 rfl) ?_
      refine va_get (D := D) (ci := 1) (v := .int (iI (ds))) (C := RX1) (T := TX1) (N := 17) hx hb hts (by decide +kernel) hown hK hP k4 h4 rfl 4 (by decide) (hts (.fieldLink RX1 58 "BreakSetter$Plan" "shifts" "I") (by decide +kernel)) (fun _ h9 => h9) rfl dX1_hasAllPausesOfLatestShift_21 ?_
      refine lv_iconst (v := iI (1)) hx hb dX1_hasAllPausesOfLatestShift_24 rfl ?_
      refine j_isub hx hb dX1_hasAllPausesOfLatestShift_25 ?_
      refine j_iald hx hb hK hP k10 1 h10 rfl ⟨by omega, by omega⟩ (Nat.le_of_ble_eq_true rfl) dX1_hasAllPausesOfLatestShift_26 ?_
      refine lv_iconst (v := iI (3)) hx hb dX1_hasAllPausesOfLatestShift_27 rfl ?_
      refine j_icmp_lt (tgt := 35) hx hb dX1_hasAllPausesOfLatestShift_28 rfl ⟨by omega, by omega⟩ ⟨by decide, by decide⟩ (fun c28 => ?_) (fun c28 => ?_)
      · skip
        refine lv_iconst (v := iI (0)) hx hb dX1_hasAllPausesOfLatestShift_35 rfl ?_
        exact hret ls 36 _ dX1_hasAllPausesOfLatestShift_36 (by rw [bI_f (by omega)])
      · skip
        refine lv_iconst (v := iI (1)) hx hb dX1_hasAllPausesOfLatestShift_31 rfl ?_
        refine lv_goto (tgt := 36) hx hb dX1_hasAllPausesOfLatestShift_32 rfl ?_
        exact hret ls 36 _ dX1_hasAllPausesOfLatestShift_36 (by rw [bI_t (by omega)])

set_option maxHeartbeats 4000000 in
set_option maxRecDepth 100000 in
theorem c_X1_addToCells {l : Launch} {D : va_G} {C : Nat → ClassId} {a : Nat} {f : Int → Int} {x1 x2 vv : Int} (h1 : 0 ≤ x1) (h2 : x1 ≤ x2) (h3 : x2 < 144) : CV (S := Unit) l yX1_addToCells wsX1_addToCells 0 0 D C [.ref a, .int (iI (x1)), .int (iI (x2)), .int (iI (vv))] (wA1 a C 144 f) (fun _ => wA1 a C 144 (adc f x1 x2 vv)) (fun _ => True) := by
  refine CV_of (cc := cX1_addToCells) (maxL := 5) (by decide) rfl (Nat.le_of_ble_eq_true rfl) ?_
  intro p e s m below meth c A Q ls hx hb hml hown hts hK hNW hA hl hP hD hS hret
  have hl : lv_has ls 5 [(0, .ref a), (1, .int (iI (x1))), (2, .int (iI (x2))), (3, .int (iI (vv)))] := hl
  refine lv_iload_n hx hb dX1_addToCells_0 rfl (lv_at hl 1 rfl) ?_
  refine lv_istore (lv' := [(4, .int (iI (x1))), (0, .ref a), (1, .int (iI (x1))), (2, .int (iI (x2))), (3, .int (iI (vv)))]) hx hb dX1_addToCells_1 hl (by decide) rfl (fun ls hl => ?_)
  have L3 : ∀ (n : Nat) (i : Int) (f2 : Int → Int) (ls : Array Slot) (H : Heap) (locs : List Loc), (x1 ≤ i ∧ i ≤ x2 + 1) → (f2 = adc f x1 (i - 1) vv) → ((x2 + 1 - i).toNat < n) → (lv_has ls 5 [(4, .int (iI (i))), (0, .ref a), (1, .int (iI (x1))), (2, .int (iI (x2))), (3, .int (iI (vv)))]) → (va_P D vwCl (wA1 a C 144 f2) H) → (va_D A (wA1 a C 144 f2)) → (va_S A s.heap H locs) → W p l e (rmN 0 0) s m ([.ref a, .int (iI (x1)), .int (iI (x2)), .int (iI (vv))] : List Value).toArray below meth c H locs 0 0 Q (F0 m 3 ls []) := by
    intro n
    induction n with
    | zero => intro i f2 ls H locs i1 i2 hn; exact absurd hn (Nat.not_lt_zero _)
    | succ n ih3 =>
      intro i f2 ls H locs i1 i2 hn hl hP hD hS
      have hn3 := hn
      refine lv_iload hx hb dX1_addToCells_3 (lv_at hl 0 rfl) ?_
      refine lv_iload_n hx hb dX1_addToCells_5 rfl (lv_at hl 3 rfl) ?_
      refine j_icmp_gt (tgt := 30) hx hb dX1_addToCells_6 rfl ⟨by omega, by omega⟩ ⟨by omega, by omega⟩ (fun c6 => ?_) (fun c6 => ?_)
      · skip
        have e6 : i = x2 + 1 := by omega
        subst i2
        subst e6
        rw [show x2 + 1 - 1 = x2 by omega] at hP hD
        exact hret H locs ls 30 () dX1_addToCells_30 trivial hP hD hS
      · skip
        refine lv_iload hx hb dX1_addToCells_9 (lv_at hl 0 rfl) ?_
        refine lv_aload_n hx hb dX1_addToCells_11 rfl (lv_at hl 1 rfl) ?_
        refine va_alen hx hb hK hP 0 1 rfl rfl (v := iI (144)) rfl dX1_addToCells_12 ?_
        refine j_icmp_ge (tgt := 30) hx hb dX1_addToCells_13 rfl ⟨by omega, by omega⟩ ⟨by decide, by decide⟩ (fun c13 => ?_) (fun c13 => ?_)
        · skip
          exact absurd c13 (by omega)
        · skip
          refine lv_aload_n hx hb dX1_addToCells_16 rfl (lv_at hl 1 rfl) ?_
          refine lv_iload hx hb dX1_addToCells_17 (lv_at hl 0 rfl) ?_
          refine lv_dup2_11 hx hb dX1_addToCells_19 rfl rfl ?_
          refine j_iald hx hb hK hP 0 1 rfl rfl ⟨by omega, by omega⟩ (Nat.le_of_ble_eq_true rfl) dX1_addToCells_20 ?_
          refine lv_iload_n hx hb dX1_addToCells_21 rfl (lv_at hl 4 rfl) ?_
          refine j_iadd hx hb dX1_addToCells_22 ?_
          refine j_iast hx hb hK hP hD hS 0 1 rfl rfl ⟨by omega, by omega⟩ (Nat.le_of_ble_eq_true rfl) dX1_addToCells_23 (fun H locs hP hD hS => ?_)
          have hP : va_P D vwCl (wA1 a C 144 (up f2 i ((f2 i) + vv))) H := hP
          have hD : va_D A (wA1 a C 144 (up f2 i ((f2 i) + vv))) := hD
          refine j_iinc (k := 0) (lv' := [(4, .int (iI (i + 1))), (0, .ref a), (1, .int (iI (x1))), (2, .int (iI (x2))), (3, .int (iI (vv)))]) hx hb dX1_addToCells_24 hl rfl (by decide) rfl (fun ls hl => ?_)
          refine lv_goto (tgt := 3) hx hb dX1_addToCells_27 rfl ?_
          exact ih3 (i + 1) (up f2 i ((f2 i) + vv)) ls H locs (by omega) (by rw [i2]; exact adc_s i1.1) (by omega) (lv_sub hl [0, 1, 2, 3, 4] rfl) hP hD hS
  exact L3 _ x1 f ls s.heap [] (by omega) (adc_0 _ _ _).symm (Nat.lt_succ_self _) (lv_sub hl [0, 1, 2, 3, 4] rfl) hP hD hS

set_option maxHeartbeats 4000000 in
set_option maxRecDepth 100000 in
theorem c_X1_clear {l : Launch} {D : va_G} {C : Nat → ClassId} {q : Nat → Nat} {dp dw dl dn ds dk : Int} {a0 a1 a2 a3 a4 a5 a6 a7 a8 a9 aA : Int → Int}  : CV (S := Unit) l yX1_clear wsX1_clear 1 23 D C [.ref (q 4)] (wDr q C dp dw dl dn ds dk a0 a1 a2 a3 a4 a5 a6 a7 a8 a9 aA) (fun _ => wDr q C 1 1 0 0 0 0 (flf a0 0 144) (flf a1 0 144) a2 a3 a4 a5 a6 a7 a8 a9 aA) (fun _ => True) := by
  refine CV_of (cc := cX1_clear) (maxL := 1) (by decide) rfl (Nat.le_of_ble_eq_true rfl) ?_
  intro p e s m below meth c A Q ls hx hb hml hown hts hK hNW hA hl hP hD hS hret
  have hl : lv_has ls 1 [(0, .ref (q 4))] := hl
  refine lv_aload_n hx hb dX1_clear_0 rfl (lv_at hl 0 rfl) ?_
  refine lv_iconst (v := iI (1)) hx hb dX1_clear_1 rfl ?_
  refine va_put (D := D) (ci := 1) (v := .int (iI (1))) (ty := .int) (C := RX1) (T := TX1) (N := 17) hx hb hts (by decide +kernel) tyX1 tyX1_ok nmX1 hown hK hP hD hS 0 rfl rfl 0 (by decide) (hts (.fieldLink RX1 9 "BreakSetter$Plan" "posts" "I") (by decide +kernel)) (fun _ h9 => h9) rfl (by decide +kernel) rfl rfl (Nat.le_of_ble_eq_true rfl) dX1_clear_2 (fun H locs hP hD hS => ?_)
  have hP : va_P D vwCl (wDr q C 1 dw dl dn ds dk a0 a1 a2 a3 a4 a5 a6 a7 a8 a9 aA) H := hP
  have hD : va_D A (wDr q C 1 dw dl dn ds dk a0 a1 a2 a3 a4 a5 a6 a7 a8 a9 aA) := hD
  refine lv_aload_n hx hb dX1_clear_5 rfl (lv_at hl 0 rfl) ?_
  refine lv_iconst (v := iI (1)) hx hb dX1_clear_6 rfl ?_
  refine va_put (D := D) (ci := 1) (v := .int (iI (1))) (ty := .int) (C := RX1) (T := TX1) (N := 17) hx hb hts (by decide +kernel) tyX1 tyX1_ok nmX1 hown hK hP hD hS 0 rfl rfl 1 (by decide) (hts (.fieldLink RX1 15 "BreakSetter$Plan" "walk" "I") (by decide +kernel)) (fun _ h9 => h9) rfl (by decide +kernel) rfl rfl (Nat.le_of_ble_eq_true rfl) dX1_clear_7 (fun H locs hP hD hS => ?_)
  have hP : va_P D vwCl (wDr q C 1 1 dl dn ds dk a0 a1 a2 a3 a4 a5 a6 a7 a8 a9 aA) H := hP
  have hD : va_D A (wDr q C 1 1 dl dn ds dk a0 a1 a2 a3 a4 a5 a6 a7 a8 a9 aA) := hD
  refine lv_aload_n hx hb dX1_clear_10 rfl (lv_at hl 0 rfl) ?_
  refine lv_iconst (v := iI (0)) hx hb dX1_clear_11 rfl ?_
  refine va_put (D := D) (ci := 1) (v := .int (iI (0))) (ty := .int) (C := RX1) (T := TX1) (N := 17) hx hb hts (by decide +kernel) tyX1 tyX1_ok nmX1 hown hK hP hD hS 0 rfl rfl 2 (by decide) (hts (.fieldLink RX1 52 "BreakSetter$Plan" "lines" "I") (by decide +kernel)) (fun _ h9 => h9) rfl (by decide +kernel) rfl rfl (Nat.le_of_ble_eq_true rfl) dX1_clear_12 (fun H locs hP hD hS => ?_)
  have hP : va_P D vwCl (wDr q C 1 1 0 dn ds dk a0 a1 a2 a3 a4 a5 a6 a7 a8 a9 aA) H := hP
  have hD : va_D A (wDr q C 1 1 0 dn ds dk a0 a1 a2 a3 a4 a5 a6 a7 a8 a9 aA) := hD
  refine lv_aload_n hx hb dX1_clear_15 rfl (lv_at hl 0 rfl) ?_
  refine lv_iconst (v := iI (0)) hx hb dX1_clear_16 rfl ?_
  refine va_put (D := D) (ci := 1) (v := .int (iI (0))) (ty := .int) (C := RX1) (T := TX1) (N := 17) hx hb hts (by decide +kernel) tyX1 tyX1_ok nmX1 hown hK hP hD hS 0 rfl rfl 3 (by decide) (hts (.fieldLink RX1 55 "BreakSetter$Plan" "needs" "I") (by decide +kernel)) (fun _ h9 => h9) rfl (by decide +kernel) rfl rfl (Nat.le_of_ble_eq_true rfl) dX1_clear_17 (fun H locs hP hD hS => ?_)
  have hP : va_P D vwCl (wDr q C 1 1 0 0 ds dk a0 a1 a2 a3 a4 a5 a6 a7 a8 a9 aA) H := hP
  have hD : va_D A (wDr q C 1 1 0 0 ds dk a0 a1 a2 a3 a4 a5 a6 a7 a8 a9 aA) := hD
  refine lv_aload_n hx hb dX1_clear_20 rfl (lv_at hl 0 rfl) ?_
  refine lv_iconst (v := iI (0)) hx hb dX1_clear_21 rfl ?_
  refine va_put (D := D) (ci := 1) (v := .int (iI (0))) (ty := .int) (C := RX1) (T := TX1) (N := 17) hx hb hts (by decide +kernel) tyX1 tyX1_ok nmX1 hown hK hP hD hS 0 rfl rfl 4 (by decide) (hts (.fieldLink RX1 58 "BreakSetter$Plan" "shifts" "I") (by decide +kernel)) (fun _ h9 => h9) rfl (by decide +kernel) rfl rfl (Nat.le_of_ble_eq_true rfl) dX1_clear_22 (fun H locs hP hD hS => ?_)
  have hP : va_P D vwCl (wDr q C 1 1 0 0 0 dk a0 a1 a2 a3 a4 a5 a6 a7 a8 a9 aA) H := hP
  have hD : va_D A (wDr q C 1 1 0 0 0 dk a0 a1 a2 a3 a4 a5 a6 a7 a8 a9 aA) := hD
  refine lv_aload_n hx hb dX1_clear_25 rfl (lv_at hl 0 rfl) ?_
  refine lv_iconst (v := iI (0)) hx hb dX1_clear_26 rfl ?_
  refine va_put (D := D) (ci := 1) (v := .int (iI (0))) (ty := .int) (C := RX1) (T := TX1) (N := 17) hx hb hts (by decide +kernel) tyX1 tyX1_ok nmX1 hown hK hP hD hS 0 rfl rfl 5 (by decide) (hts (.fieldLink RX1 61 "BreakSetter$Plan" "pauses" "I") (by decide +kernel)) (fun _ h9 => h9) rfl (by decide +kernel) rfl rfl (Nat.le_of_ble_eq_true rfl) dX1_clear_27 (fun H locs hP hD hS => ?_)
  have hP : va_P D vwCl (wDr q C 1 1 0 0 0 0 a0 a1 a2 a3 a4 a5 a6 a7 a8 a9 aA) H := hP
  have hD : va_D A (wDr q C 1 1 0 0 0 0 a0 a1 a2 a3 a4 a5 a6 a7 a8 a9 aA) := hD
  refine lv_aload_n hx hb dX1_clear_30 rfl (lv_at hl 0 rfl) ?_
  refine va_get (D := D) (ci := 1) (v := .ref (q 5)) (C := RX1) (T := TX1) (N := 17) hx hb hts (by decide +kernel) hown hK hP 0 rfl rfl 6 (by decide) (hts (.fieldLink RX1 18 "BreakSetter$Plan" "need" "[I") (by decide +kernel)) (fun _ h9 => h9) rfl dX1_clear_31 ?_
  refine lv_iconst (v := iI (0)) hx hb dX1_clear_34 rfl ?_
  refine CV_callS (As := [.ref (q 5), .int (iI (0))]) (rest := []) (wr := (wDr q C 1 1 0 0 0 0 a0 a1 a2 a3 a4 a5 a6 a7 a8 a9 aA).eraseIdx 1) (wn := fun _ => wDr q C 1 1 0 0 0 0 (flf a0 0 144) a1 a2 a3 a4 a5 a6 a7 a8 a9 aA) ⟨hx, hb, hml, hown, hts⟩ (c_fill144 (a := q 5) (f := a0) (vv := 0)) (va_cwS 2 hts gX1_clear_J7_fill_53178 rfl rfl rfl (by decide +kernel) ⟨Nat.le_of_ble_eq_true rfl, Nat.le_of_ble_eq_true rfl⟩) hK hNW hP hD hS hA [1] [0, 2, 3, 4, 5, 6, 7, 8, 9, 10, 11] [0, 11, 1, 2, 3, 4, 5, 6, 7, 8, 9, 10] rfl rfl rfl rfl (by decide) rfl (fun _ => rfl) rfl hl.1 rfl (Nat.le_of_ble_eq_true rfl) dX1_clear_35 ⟨Nat.zero_le _, Nat.zero_le _⟩ (fun u9 H locs hw9 hP hD hS => ?_)
  have hP : va_P D vwCl (wDr q C 1 1 0 0 0 0 (flf a0 0 144) a1 a2 a3 a4 a5 a6 a7 a8 a9 aA) H := hP
  have hD : va_D A (wDr q C 1 1 0 0 0 0 (flf a0 0 144) a1 a2 a3 a4 a5 a6 a7 a8 a9 aA) := hD
  refine lv_aload_n hx hb dX1_clear_38 rfl (lv_at hl 0 rfl) ?_
  refine va_get (D := D) (ci := 1) (v := .ref (q 6)) (C := RX1) (T := TX1) (N := 17) hx hb hts (by decide +kernel) hown hK hP 0 rfl rfl 7 (by decide) (hts (.fieldLink RX1 22 "BreakSetter$Plan" "duty" "[I") (by decide +kernel)) (fun _ h9 => h9) rfl dX1_clear_39 ?_
  refine lv_iconst (v := iI (0)) hx hb dX1_clear_42 rfl ?_
  refine CV_callS (As := [.ref (q 6), .int (iI (0))]) (rest := []) (wr := (wDr q C 1 1 0 0 0 0 (flf a0 0 144) a1 a2 a3 a4 a5 a6 a7 a8 a9 aA).eraseIdx 2) (wn := fun _ => wDr q C 1 1 0 0 0 0 (flf a0 0 144) (flf a1 0 144) a2 a3 a4 a5 a6 a7 a8 a9 aA) ⟨hx, hb, hml, hown, hts⟩ (c_fill144 (a := q 6) (f := a1) (vv := 0)) (va_cwS 2 hts gX1_clear_J7_fill_53178 rfl rfl rfl (by decide +kernel) ⟨Nat.le_of_ble_eq_true rfl, Nat.le_of_ble_eq_true rfl⟩) hK hNW hP hD hS hA [2] [0, 1, 3, 4, 5, 6, 7, 8, 9, 10, 11] [0, 1, 11, 2, 3, 4, 5, 6, 7, 8, 9, 10] rfl rfl rfl rfl (by decide) rfl (fun _ => rfl) rfl hl.1 rfl (Nat.le_of_ble_eq_true rfl) dX1_clear_43 ⟨Nat.zero_le _, Nat.zero_le _⟩ (fun u9 H locs hw9 hP hD hS => ?_)
  have hP : va_P D vwCl (wDr q C 1 1 0 0 0 0 (flf a0 0 144) (flf a1 0 144) a2 a3 a4 a5 a6 a7 a8 a9 aA) H := hP
  have hD : va_D A (wDr q C 1 1 0 0 0 0 (flf a0 0 144) (flf a1 0 144) a2 a3 a4 a5 a6 a7 a8 a9 aA) := hD
  exact hret H locs ls 46 () dX1_clear_46 trivial hP hD hS

set_option maxHeartbeats 4000000 in
set_option maxRecDepth 100000 in
theorem c_X1_addNeed {l : Launch} {D : va_G} {C : Nat → ClassId} {q : Nat → Nat} {dp dw dl dn ds dk : Int} {a0 a1 a2 a3 a4 a5 a6 a7 a8 a9 aA : Int → Int} {po fr to mm : Int} (hp : 0 ≤ po ∧ po < 3) (hf : 0 ≤ fr ∧ fr ≤ to ∧ to < 48) : CV (S := Unit) l yX1_addNeed wsX1_addNeed 1 24 D C [.ref (q 4), .int (iI (po)), .int (iI (fr)), .int (iI (to)), .int (iI (mm))] (wDr q C dp dw dl dn ds dk a0 a1 a2 a3 a4 a5 a6 a7 a8 a9 aA) (fun _ => wDr q C dp dw dl (dn + 1) ds dk (adc a0 (po * 48 + fr) (po * 48 + to) mm) a1 a2 a3 a4 a5 a6 a7 a8 a9 aA) (fun _ => True) := by
  refine CV_of (cc := cX1_addNeed) (maxL := 5) (by decide) rfl (Nat.le_of_ble_eq_true rfl) ?_
  intro p e s m below meth c A Q ls hx hb hml hown hts hK hNW hA hl hP hD hS hret
  have hl : lv_has ls 5 [(0, .ref (q 4)), (1, .int (iI (po))), (2, .int (iI (fr))), (3, .int (iI (to))), (4, .int (iI (mm)))] := hl
  refine lv_aload_n hx hb dX1_addNeed_0 rfl (lv_at hl 0 rfl) ?_
  refine lv_dup hx hb dX1_addNeed_1 rfl ?_
  refine va_get (D := D) (ci := 1) (v := .int (iI (dn))) (C := RX1) (T := TX1) (N := 17) hx hb hts (by decide +kernel) hown hK hP 0 rfl rfl 3 (by decide) (hts (.fieldLink RX1 55 "BreakSetter$Plan" "needs" "I") (by decide +kernel)) (fun _ h9 => h9) rfl dX1_addNeed_2 ?_
  refine lv_iconst (v := iI (1)) hx hb dX1_addNeed_5 rfl ?_
  refine j_iadd hx hb dX1_addNeed_6 ?_
  refine va_put (D := D) (ci := 1) (v := .int (iI (dn + 1))) (ty := .int) (C := RX1) (T := TX1) (N := 17) hx hb hts (by decide +kernel) tyX1 tyX1_ok nmX1 hown hK hP hD hS 0 rfl rfl 3 (by decide) (hts (.fieldLink RX1 55 "BreakSetter$Plan" "needs" "I") (by decide +kernel)) (fun _ h9 => h9) rfl (by decide +kernel) rfl rfl (Nat.le_of_ble_eq_true rfl) dX1_addNeed_7 (fun H locs hP hD hS => ?_)
  have hP : va_P D vwCl (wDr q C dp dw dl (dn + 1) ds dk a0 a1 a2 a3 a4 a5 a6 a7 a8 a9 aA) H := hP
  have hD : va_D A (wDr q C dp dw dl (dn + 1) ds dk a0 a1 a2 a3 a4 a5 a6 a7 a8 a9 aA) := hD
  refine lv_aload_n hx hb dX1_addNeed_10 rfl (lv_at hl 0 rfl) ?_
  refine va_get (D := D) (ci := 1) (v := .ref (q 5)) (C := RX1) (T := TX1) (N := 17) hx hb hts (by decide +kernel) hown hK hP 0 rfl rfl 6 (by decide) (hts (.fieldLink RX1 18 "BreakSetter$Plan" "need" "[I") (by decide +kernel)) (fun _ h9 => h9) rfl dX1_addNeed_11 ?_
  refine lv_iload_n hx hb dX1_addNeed_14 rfl (lv_at hl 1 rfl) ?_
  refine lv_iload_n hx hb dX1_addNeed_15 rfl (lv_at hl 2 rfl) ?_
  refine CR_callN (As := [.int (iI (po)), .int (iI (fr))]) (rest := [.ref (q 5)]) ⟨hx, hb, hml, hown, hts⟩ c_X6_cellOf ⟨va_cnB 2 hts ggX1_addNeed_X6_cellOf rfl rfl rfl hNW.1 (hts (.initialized RX6) (by decide +kernel)) (by decide +kernel) ⟨Nat.le_of_ble_eq_true rfl, Nat.le_of_ble_eq_true rfl⟩, hts (.static yX6_cellOf) (by decide +kernel), trivial⟩ hK hNW hP rfl hl.1 rfl (Nat.le_of_ble_eq_true rfl) dX1_addNeed_16 ⟨Nat.zero_le _, Nat.zero_le _⟩ ?_
  refine lv_iload_n hx hb dX1_addNeed_19 rfl (lv_at hl 1 rfl) ?_
  refine lv_iload_n hx hb dX1_addNeed_20 rfl (lv_at hl 3 rfl) ?_
  refine CR_callN (As := [.int (iI (po)), .int (iI (to))]) (rest := [.int (iI (po * 48 + fr)), .ref (q 5)]) ⟨hx, hb, hml, hown, hts⟩ c_X6_cellOf ⟨va_cnB 2 hts ggX1_addNeed_X6_cellOf rfl rfl rfl hNW.1 (hts (.initialized RX6) (by decide +kernel)) (by decide +kernel) ⟨Nat.le_of_ble_eq_true rfl, Nat.le_of_ble_eq_true rfl⟩, hts (.static yX6_cellOf) (by decide +kernel), trivial⟩ hK hNW hP rfl hl.1 rfl (Nat.le_of_ble_eq_true rfl) dX1_addNeed_21 ⟨Nat.zero_le _, Nat.zero_le _⟩ ?_
  refine lv_iload hx hb dX1_addNeed_24 (lv_at hl 4 rfl) ?_
  refine CV_callS (As := [.ref (q 5), .int (iI (po * 48 + fr)), .int (iI (po * 48 + to)), .int (iI (mm))]) (rest := []) (wr := (wDr q C dp dw dl (dn + 1) ds dk a0 a1 a2 a3 a4 a5 a6 a7 a8 a9 aA).eraseIdx 1) (wn := fun _ => wDr q C dp dw dl (dn + 1) ds dk (adc a0 (po * 48 + fr) (po * 48 + to) mm) a1 a2 a3 a4 a5 a6 a7 a8 a9 aA) ⟨hx, hb, hml, hown, hts⟩ (c_X1_addToCells (a := q 5) (f := a0) (by omega) (by omega) (by omega)) (va_cwS 4 hts gX1_addNeed_X1_addToCells rfl rfl rfl (by decide +kernel) ⟨Nat.le_of_ble_eq_true rfl, Nat.le_of_ble_eq_true rfl⟩) hK hNW hP hD hS hA [1] [0, 2, 3, 4, 5, 6, 7, 8, 9, 10, 11] [0, 11, 1, 2, 3, 4, 5, 6, 7, 8, 9, 10] rfl rfl rfl rfl (by decide) rfl (fun _ => rfl) rfl hl.1 rfl (Nat.le_of_ble_eq_true rfl) dX1_addNeed_26 ⟨Nat.zero_le _, Nat.zero_le _⟩ (fun u9 H locs hw9 hP hD hS => ?_)
  have hP : va_P D vwCl (wDr q C dp dw dl (dn + 1) ds dk (adc a0 (po * 48 + fr) (po * 48 + to) mm) a1 a2 a3 a4 a5 a6 a7 a8 a9 aA) H := hP
  have hD : va_D A (wDr q C dp dw dl (dn + 1) ds dk (adc a0 (po * 48 + fr) (po * 48 + to) mm) a1 a2 a3 a4 a5 a6 a7 a8 a9 aA) := hD
  exact hret H locs ls 29 () dX1_addNeed_29 trivial hP hD hS

set_option maxHeartbeats 4000000 in
set_option maxRecDepth 100000 in
theorem c_X1_addShift {l : Launch} {D : va_G} {C : Nat → ClassId} {q : Nat → Nat} {dp dw dl dn ds dk : Int} {a0 a1 a2 a3 a4 a5 a6 a7 a8 a9 aA : Int → Int} {po fr to : Int} (hs : 0 ≤ ds ∧ ds < 8) (hp : 0 ≤ po ∧ po < 3) (hf : 0 ≤ fr ∧ fr ≤ to ∧ to < 48) : CV (S := Unit) l yX1_addShift wsX1_addShift 1 24 D C [.ref (q 4), .int (iI (po)), .int (iI (fr)), .int (iI (to))] (wDr q C dp dw dl dn ds dk a0 a1 a2 a3 a4 a5 a6 a7 a8 a9 aA) (fun _ => wDr q C dp dw dl dn (ds + 1) dk a0 (adc a1 (po * 48 + fr) (po * 48 + to) 1) (up a2 ds po) (up a3 ds fr) (up a4 ds to) (up a5 ds 0) (up a6 ds dk) a7 a8 a9 aA) (fun _ => True) := by
  refine CV_of (cc := cX1_addShift) (maxL := 4) (by decide) rfl (Nat.le_of_ble_eq_true rfl) ?_
  intro p e s m below meth c A Q ls hx hb hml hown hts hK hNW hA hl hP hD hS hret
  have hl : lv_has ls 4 [(0, .ref (q 4)), (1, .int (iI (po))), (2, .int (iI (fr))), (3, .int (iI (to)))] := hl
  refine lv_aload_n hx hb dX1_addShift_0 rfl (lv_at hl 0 rfl) ?_
  refine CR_callV (As := []) (rest := []) ⟨hx, hb, hml, hown, hts⟩ (c_X1_hasAllShifts ⟨⟨0, rfl⟩, ⟨6, rfl⟩⟩ ⟨by omega, by omega⟩) (cwV 0 hts gX1_addShift_X1_hasAllShifts rfl rfl rfl (by decide +kernel) ⟨Nat.le_of_ble_eq_true rfl, Nat.le_of_ble_eq_true rfl⟩) (q0 := 0) rfl rfl rfl hK hNW hP rfl hl.1 rfl (Nat.le_of_ble_eq_true rfl) dX1_addShift_1 ⟨Nat.zero_le _, Nat.zero_le _⟩ ?_
  refine j_ifeqB (tgt := 8) hx hb dX1_addShift_4 rfl (fun c4 => ?_) (fun c4 => ?_)
  · skip
    refine lv_aload_n hx hb dX1_addShift_8 rfl (lv_at hl 0 rfl) ?_
    refine va_get (D := D) (ci := 1) (v := .ref (q 7)) (C := RX1) (T := TX1) (N := 17) hx hb hts (by decide +kernel) hown hK hP 0 rfl rfl 8 (by decide) (hts (.fieldLink RX1 25 "BreakSetter$Plan" "shiftPost" "[I") (by decide +kernel)) (fun _ h9 => h9) rfl dX1_addShift_9 ?_
    refine lv_aload_n hx hb dX1_addShift_12 rfl (lv_at hl 0 rfl) ?_
    refine va_get (D := D) (ci := 1) (v := .int (iI (ds))) (C := RX1) (T := TX1) (N := 17) hx hb hts (by decide +kernel) hown hK hP 0 rfl rfl 4 (by decide) (hts (.fieldLink RX1 58 "BreakSetter$Plan" "shifts" "I") (by decide +kernel)) (fun _ h9 => h9) rfl dX1_addShift_13 ?_
    refine lv_iload_n hx hb dX1_addShift_16 rfl (lv_at hl 1 rfl) ?_
    refine j_iast hx hb hK hP hD hS 3 1 rfl rfl ⟨by omega, by omega⟩ (Nat.le_of_ble_eq_true rfl) dX1_addShift_17 (fun H locs hP hD hS => ?_)
    have hP : va_P D vwCl (wDr q C dp dw dl dn ds dk a0 a1 (up a2 ds po) a3 a4 a5 a6 a7 a8 a9 aA) H := hP
    have hD : va_D A (wDr q C dp dw dl dn ds dk a0 a1 (up a2 ds po) a3 a4 a5 a6 a7 a8 a9 aA) := hD
    refine lv_aload_n hx hb dX1_addShift_18 rfl (lv_at hl 0 rfl) ?_
    refine va_get (D := D) (ci := 1) (v := .ref (q 8)) (C := RX1) (T := TX1) (N := 17) hx hb hts (by decide +kernel) hown hK hP 0 rfl rfl 9 (by decide) (hts (.fieldLink RX1 28 "BreakSetter$Plan" "shiftFrom" "[I") (by decide +kernel)) (fun _ h9 => h9) rfl dX1_addShift_19 ?_
    refine lv_aload_n hx hb dX1_addShift_22 rfl (lv_at hl 0 rfl) ?_
    refine va_get (D := D) (ci := 1) (v := .int (iI (ds))) (C := RX1) (T := TX1) (N := 17) hx hb hts (by decide +kernel) hown hK hP 0 rfl rfl 4 (by decide) (hts (.fieldLink RX1 58 "BreakSetter$Plan" "shifts" "I") (by decide +kernel)) (fun _ h9 => h9) rfl dX1_addShift_23 ?_
    refine lv_iload_n hx hb dX1_addShift_26 rfl (lv_at hl 2 rfl) ?_
    refine j_iast hx hb hK hP hD hS 4 1 rfl rfl ⟨by omega, by omega⟩ (Nat.le_of_ble_eq_true rfl) dX1_addShift_27 (fun H locs hP hD hS => ?_)
    have hP : va_P D vwCl (wDr q C dp dw dl dn ds dk a0 a1 (up a2 ds po) (up a3 ds fr) a4 a5 a6 a7 a8 a9 aA) H := hP
    have hD : va_D A (wDr q C dp dw dl dn ds dk a0 a1 (up a2 ds po) (up a3 ds fr) a4 a5 a6 a7 a8 a9 aA) := hD
    refine lv_aload_n hx hb dX1_addShift_28 rfl (lv_at hl 0 rfl) ?_
    refine va_get (D := D) (ci := 1) (v := .ref (q 9)) (C := RX1) (T := TX1) (N := 17) hx hb hts (by decide +kernel) hown hK hP 0 rfl rfl 10 (by decide) (hts (.fieldLink RX1 31 "BreakSetter$Plan" "shiftTo" "[I") (by decide +kernel)) (fun _ h9 => h9) rfl dX1_addShift_29 ?_
    refine lv_aload_n hx hb dX1_addShift_32 rfl (lv_at hl 0 rfl) ?_
    refine va_get (D := D) (ci := 1) (v := .int (iI (ds))) (C := RX1) (T := TX1) (N := 17) hx hb hts (by decide +kernel) hown hK hP 0 rfl rfl 4 (by decide) (hts (.fieldLink RX1 58 "BreakSetter$Plan" "shifts" "I") (by decide +kernel)) (fun _ h9 => h9) rfl dX1_addShift_33 ?_
    refine lv_iload_n hx hb dX1_addShift_36 rfl (lv_at hl 3 rfl) ?_
    refine j_iast hx hb hK hP hD hS 5 1 rfl rfl ⟨by omega, by omega⟩ (Nat.le_of_ble_eq_true rfl) dX1_addShift_37 (fun H locs hP hD hS => ?_)
    have hP : va_P D vwCl (wDr q C dp dw dl dn ds dk a0 a1 (up a2 ds po) (up a3 ds fr) (up a4 ds to) a5 a6 a7 a8 a9 aA) H := hP
    have hD : va_D A (wDr q C dp dw dl dn ds dk a0 a1 (up a2 ds po) (up a3 ds fr) (up a4 ds to) a5 a6 a7 a8 a9 aA) := hD
    refine lv_aload_n hx hb dX1_addShift_38 rfl (lv_at hl 0 rfl) ?_
    refine va_get (D := D) (ci := 1) (v := .ref (q 10)) (C := RX1) (T := TX1) (N := 17) hx hb hts (by decide +kernel) hown hK hP 0 rfl rfl 11 (by decide) (hts (.fieldLink RX1 34 "BreakSetter$Plan" "shiftPauses" "[I") (by decide +kernel)) (fun _ h9 => h9) rfl dX1_addShift_39 ?_
    refine lv_aload_n hx hb dX1_addShift_42 rfl (lv_at hl 0 rfl) ?_
    refine va_get (D := D) (ci := 1) (v := .int (iI (ds))) (C := RX1) (T := TX1) (N := 17) hx hb hts (by decide +kernel) hown hK hP 0 rfl rfl 4 (by decide) (hts (.fieldLink RX1 58 "BreakSetter$Plan" "shifts" "I") (by decide +kernel)) (fun _ h9 => h9) rfl dX1_addShift_43 ?_
    refine lv_iconst (v := iI (0)) hx hb dX1_addShift_46 rfl ?_
    refine j_iast hx hb hK hP hD hS 6 1 rfl rfl ⟨by omega, by omega⟩ (Nat.le_of_ble_eq_true rfl) dX1_addShift_47 (fun H locs hP hD hS => ?_)
    have hP : va_P D vwCl (wDr q C dp dw dl dn ds dk a0 a1 (up a2 ds po) (up a3 ds fr) (up a4 ds to) (up a5 ds 0) a6 a7 a8 a9 aA) H := hP
    have hD : va_D A (wDr q C dp dw dl dn ds dk a0 a1 (up a2 ds po) (up a3 ds fr) (up a4 ds to) (up a5 ds 0) a6 a7 a8 a9 aA) := hD
    refine lv_aload_n hx hb dX1_addShift_48 rfl (lv_at hl 0 rfl) ?_
    refine va_get (D := D) (ci := 1) (v := .ref (q 11)) (C := RX1) (T := TX1) (N := 17) hx hb hts (by decide +kernel) hown hK hP 0 rfl rfl 12 (by decide) (hts (.fieldLink RX1 37 "BreakSetter$Plan" "shiftFirst" "[I") (by decide +kernel)) (fun _ h9 => h9) rfl dX1_addShift_49 ?_
    refine lv_aload_n hx hb dX1_addShift_52 rfl (lv_at hl 0 rfl) ?_
    refine va_get (D := D) (ci := 1) (v := .int (iI (ds))) (C := RX1) (T := TX1) (N := 17) hx hb hts (by decide +kernel) hown hK hP 0 rfl rfl 4 (by decide) (hts (.fieldLink RX1 58 "BreakSetter$Plan" "shifts" "I") (by decide +kernel)) (fun _ h9 => h9) rfl dX1_addShift_53 ?_
    refine lv_aload_n hx hb dX1_addShift_56 rfl (lv_at hl 0 rfl) ?_
    refine va_get (D := D) (ci := 1) (v := .int (iI (dk))) (C := RX1) (T := TX1) (N := 17) hx hb hts (by decide +kernel) hown hK hP 0 rfl rfl 5 (by decide) (hts (.fieldLink RX1 61 "BreakSetter$Plan" "pauses" "I") (by decide +kernel)) (fun _ h9 => h9) rfl dX1_addShift_57 ?_
    refine j_iast hx hb hK hP hD hS 7 1 rfl rfl ⟨by omega, by omega⟩ (Nat.le_of_ble_eq_true rfl) dX1_addShift_60 (fun H locs hP hD hS => ?_)
    have hP : va_P D vwCl (wDr q C dp dw dl dn ds dk a0 a1 (up a2 ds po) (up a3 ds fr) (up a4 ds to) (up a5 ds 0) (up a6 ds dk) a7 a8 a9 aA) H := hP
    have hD : va_D A (wDr q C dp dw dl dn ds dk a0 a1 (up a2 ds po) (up a3 ds fr) (up a4 ds to) (up a5 ds 0) (up a6 ds dk) a7 a8 a9 aA) := hD
    refine lv_aload_n hx hb dX1_addShift_61 rfl (lv_at hl 0 rfl) ?_
    refine lv_dup hx hb dX1_addShift_62 rfl ?_
    refine va_get (D := D) (ci := 1) (v := .int (iI (ds))) (C := RX1) (T := TX1) (N := 17) hx hb hts (by decide +kernel) hown hK hP 0 rfl rfl 4 (by decide) (hts (.fieldLink RX1 58 "BreakSetter$Plan" "shifts" "I") (by decide +kernel)) (fun _ h9 => h9) rfl dX1_addShift_63 ?_
    refine lv_iconst (v := iI (1)) hx hb dX1_addShift_66 rfl ?_
    refine j_iadd hx hb dX1_addShift_67 ?_
    refine va_put (D := D) (ci := 1) (v := .int (iI (ds + 1))) (ty := .int) (C := RX1) (T := TX1) (N := 17) hx hb hts (by decide +kernel) tyX1 tyX1_ok nmX1 hown hK hP hD hS 0 rfl rfl 4 (by decide) (hts (.fieldLink RX1 58 "BreakSetter$Plan" "shifts" "I") (by decide +kernel)) (fun _ h9 => h9) rfl (by decide +kernel) rfl rfl (Nat.le_of_ble_eq_true rfl) dX1_addShift_68 (fun H locs hP hD hS => ?_)
    have hP : va_P D vwCl (wDr q C dp dw dl dn (ds + 1) dk a0 a1 (up a2 ds po) (up a3 ds fr) (up a4 ds to) (up a5 ds 0) (up a6 ds dk) a7 a8 a9 aA) H := hP
    have hD : va_D A (wDr q C dp dw dl dn (ds + 1) dk a0 a1 (up a2 ds po) (up a3 ds fr) (up a4 ds to) (up a5 ds 0) (up a6 ds dk) a7 a8 a9 aA) := hD
    refine lv_aload_n hx hb dX1_addShift_71 rfl (lv_at hl 0 rfl) ?_
    refine va_get (D := D) (ci := 1) (v := .ref (q 6)) (C := RX1) (T := TX1) (N := 17) hx hb hts (by decide +kernel) hown hK hP 0 rfl rfl 7 (by decide) (hts (.fieldLink RX1 22 "BreakSetter$Plan" "duty" "[I") (by decide +kernel)) (fun _ h9 => h9) rfl dX1_addShift_72 ?_
    refine lv_iload_n hx hb dX1_addShift_75 rfl (lv_at hl 1 rfl) ?_
    refine lv_iload_n hx hb dX1_addShift_76 rfl (lv_at hl 2 rfl) ?_
    refine CR_callN (As := [.int (iI (po)), .int (iI (fr))]) (rest := [.ref (q 6)]) ⟨hx, hb, hml, hown, hts⟩ c_X6_cellOf ⟨va_cnB 2 hts ggX1_addShift_X6_cellOf rfl rfl rfl hNW.1 (hts (.initialized RX6) (by decide +kernel)) (by decide +kernel) ⟨Nat.le_of_ble_eq_true rfl, Nat.le_of_ble_eq_true rfl⟩, hts (.static yX6_cellOf) (by decide +kernel), trivial⟩ hK hNW hP rfl hl.1 rfl (Nat.le_of_ble_eq_true rfl) dX1_addShift_77 ⟨Nat.zero_le _, Nat.zero_le _⟩ ?_
    refine lv_iload_n hx hb dX1_addShift_80 rfl (lv_at hl 1 rfl) ?_
    refine lv_iload_n hx hb dX1_addShift_81 rfl (lv_at hl 3 rfl) ?_
    refine CR_callN (As := [.int (iI (po)), .int (iI (to))]) (rest := [.int (iI (po * 48 + fr)), .ref (q 6)]) ⟨hx, hb, hml, hown, hts⟩ c_X6_cellOf ⟨va_cnB 2 hts ggX1_addShift_X6_cellOf rfl rfl rfl hNW.1 (hts (.initialized RX6) (by decide +kernel)) (by decide +kernel) ⟨Nat.le_of_ble_eq_true rfl, Nat.le_of_ble_eq_true rfl⟩, hts (.static yX6_cellOf) (by decide +kernel), trivial⟩ hK hNW hP rfl hl.1 rfl (Nat.le_of_ble_eq_true rfl) dX1_addShift_82 ⟨Nat.zero_le _, Nat.zero_le _⟩ ?_
    refine lv_iconst (v := iI (1)) hx hb dX1_addShift_85 rfl ?_
    refine CV_callS (As := [.ref (q 6), .int (iI (po * 48 + fr)), .int (iI (po * 48 + to)), .int (iI (1))]) (rest := []) (wr := (wDr q C dp dw dl dn (ds + 1) dk a0 a1 (up a2 ds po) (up a3 ds fr) (up a4 ds to) (up a5 ds 0) (up a6 ds dk) a7 a8 a9 aA).eraseIdx 2) (wn := fun _ => wDr q C dp dw dl dn (ds + 1) dk a0 (adc a1 (po * 48 + fr) (po * 48 + to) 1) (up a2 ds po) (up a3 ds fr) (up a4 ds to) (up a5 ds 0) (up a6 ds dk) a7 a8 a9 aA) ⟨hx, hb, hml, hown, hts⟩ (c_X1_addToCells (a := q 6) (f := a1) (by omega) (by omega) (by omega)) (va_cwS 4 hts gX1_addShift_X1_addToCells rfl rfl rfl (by decide +kernel) ⟨Nat.le_of_ble_eq_true rfl, Nat.le_of_ble_eq_true rfl⟩) hK hNW hP hD hS hA [2] [0, 1, 3, 4, 5, 6, 7, 8, 9, 10, 11] [0, 1, 11, 2, 3, 4, 5, 6, 7, 8, 9, 10] rfl rfl rfl rfl (by decide) rfl (fun _ => rfl) rfl hl.1 rfl (Nat.le_of_ble_eq_true rfl) dX1_addShift_86 ⟨Nat.zero_le _, Nat.zero_le _⟩ (fun u9 H locs hw9 hP hD hS => ?_)
    have hP : va_P D vwCl (wDr q C dp dw dl dn (ds + 1) dk a0 (adc a1 (po * 48 + fr) (po * 48 + to) 1) (up a2 ds po) (up a3 ds fr) (up a4 ds to) (up a5 ds 0) (up a6 ds dk) a7 a8 a9 aA) H := hP
    have hD : va_D A (wDr q C dp dw dl dn (ds + 1) dk a0 (adc a1 (po * 48 + fr) (po * 48 + to) 1) (up a2 ds po) (up a3 ds fr) (up a4 ds to) (up a5 ds 0) (up a6 ds dk) a7 a8 a9 aA) := hD
    exact hret H locs ls 89 () dX1_addShift_89 trivial hP hD hS
  · skip
    exact absurd c4 (by omega)

set_option maxHeartbeats 4000000 in
set_option maxRecDepth 100000 in
theorem c_X1_addPause {l : Launch} {D : va_G} {C : Nat → ClassId} {q : Nat → Nat} {dp dw dl dn ds dk : Int} {a0 a1 a2 a3 a4 a5 a6 a7 a8 a9 aA : Int → Int} {ln ea la : Int} (hs : 1 ≤ ds ∧ ds ≤ 8) (hk : 0 ≤ dk ∧ dk < 24) (ha : 0 ≤ a5 (ds - 1) ∧ a5 (ds - 1) < 3) : CV (S := Unit) l yX1_addPause wsX1_addPause 1 20 D C [.ref (q 4), .int (iI (ln)), .int (iI (ea)), .int (iI (la))] (wDr q C dp dw dl dn ds dk a0 a1 a2 a3 a4 a5 a6 a7 a8 a9 aA) (fun _ => wDr q C dp dw dl dn ds (dk + 1) a0 a1 a2 a3 a4 (up a5 (ds - 1) (a5 (ds - 1) + 1)) a6 (up a7 dk (ds - 1)) (up a8 dk ln) (up a9 dk ea) (up aA dk la)) (fun _ => True) := by
  refine CV_of (cc := cX1_addPause) (maxL := 4) (by decide) rfl (Nat.le_of_ble_eq_true rfl) ?_
  intro p e s m below meth c A Q ls hx hb hml hown hts hK hNW hA hl hP hD hS hret
  have hl : lv_has ls 4 [(0, .ref (q 4)), (1, .int (iI (ln))), (2, .int (iI (ea))), (3, .int (iI (la)))] := hl
  refine lv_aload_n hx hb dX1_addPause_0 rfl (lv_at hl 0 rfl) ?_
  refine CR_callV (As := []) (rest := []) ⟨hx, hb, hml, hown, hts⟩ (c_X1_hasAllPausesOfLatestShift ⟨⟨0, rfl⟩, ⟨6, rfl⟩⟩ hs ⟨by omega, by omega⟩ ⟨⟨by omega, by omega⟩, by omega⟩) (cwV 0 hts gX1_addPause_X1_hasAllPausesOfLatestShift rfl rfl rfl (by decide +kernel) ⟨Nat.le_of_ble_eq_true rfl, Nat.le_of_ble_eq_true rfl⟩) (q0 := 0) rfl rfl rfl hK hNW hP rfl hl.1 rfl (Nat.le_of_ble_eq_true rfl) dX1_addPause_1 ⟨Nat.zero_le _, Nat.zero_le _⟩ ?_
  refine j_ifeqB (tgt := 8) hx hb dX1_addPause_4 rfl (fun c4 => ?_) (fun c4 => ?_)
  · skip
    refine lv_aload_n hx hb dX1_addPause_8 rfl (lv_at hl 0 rfl) ?_
    refine va_get (D := D) (ci := 1) (v := .ref (q 12)) (C := RX1) (T := TX1) (N := 17) hx hb hts (by decide +kernel) hown hK hP 0 rfl rfl 13 (by decide) (hts (.fieldLink RX1 40 "BreakSetter$Plan" "pauseShift" "[I") (by decide +kernel)) (fun _ h9 => h9) rfl dX1_addPause_9 ?_
    refine lv_aload_n hx hb dX1_addPause_12 rfl (lv_at hl 0 rfl) ?_
    refine va_get (D := D) (ci := 1) (v := .int (iI (dk))) (C := RX1) (T := TX1) (N := 17) hx hb hts (by decide +kernel) hown hK hP 0 rfl rfl 5 (by decide) (hts (.fieldLink RX1 61 "BreakSetter$Plan" "pauses" "I") (by decide +kernel)) (fun _ h9 => h9) rfl dX1_addPause_13 ?_
    refine lv_aload_n hx hb dX1_addPause_16 rfl (lv_at hl 0 rfl) ?_
    refine va_get (D := D) (ci := 1) (v := .int (iI (ds))) (C := RX1) (T := TX1) (N := 17) hx hb hts (by decide +kernel) hown hK hP 0 rfl rfl 4 (by decide) (hts (.fieldLink RX1 58 "BreakSetter$Plan" "shifts" "I") (by decide +kernel)) (fun _ h9 => h9) rfl dX1_addPause_17 ?_
    refine lv_iconst (v := iI (1)) hx hb dX1_addPause_20 rfl ?_
    refine j_isub hx hb dX1_addPause_21 ?_
    refine j_iast hx hb hK hP hD hS 8 1 rfl rfl ⟨by omega, by omega⟩ (Nat.le_of_ble_eq_true rfl) dX1_addPause_22 (fun H locs hP hD hS => ?_)
    have hP : va_P D vwCl (wDr q C dp dw dl dn ds dk a0 a1 a2 a3 a4 a5 a6 (up a7 dk (ds - 1)) a8 a9 aA) H := hP
    have hD : va_D A (wDr q C dp dw dl dn ds dk a0 a1 a2 a3 a4 a5 a6 (up a7 dk (ds - 1)) a8 a9 aA) := hD
    refine lv_aload_n hx hb dX1_addPause_23 rfl (lv_at hl 0 rfl) ?_
    refine va_get (D := D) (ci := 1) (v := .ref (q 13)) (C := RX1) (T := TX1) (N := 17) hx hb hts (by decide +kernel) hown hK hP 0 rfl rfl 14 (by decide) (hts (.fieldLink RX1 43 "BreakSetter$Plan" "pauseLong" "[I") (by decide +kernel)) (fun _ h9 => h9) rfl dX1_addPause_24 ?_
    refine lv_aload_n hx hb dX1_addPause_27 rfl (lv_at hl 0 rfl) ?_
    refine va_get (D := D) (ci := 1) (v := .int (iI (dk))) (C := RX1) (T := TX1) (N := 17) hx hb hts (by decide +kernel) hown hK hP 0 rfl rfl 5 (by decide) (hts (.fieldLink RX1 61 "BreakSetter$Plan" "pauses" "I") (by decide +kernel)) (fun _ h9 => h9) rfl dX1_addPause_28 ?_
    refine lv_iload_n hx hb dX1_addPause_31 rfl (lv_at hl 1 rfl) ?_
    refine j_iast hx hb hK hP hD hS 9 1 rfl rfl ⟨by omega, by omega⟩ (Nat.le_of_ble_eq_true rfl) dX1_addPause_32 (fun H locs hP hD hS => ?_)
    have hP : va_P D vwCl (wDr q C dp dw dl dn ds dk a0 a1 a2 a3 a4 a5 a6 (up a7 dk (ds - 1)) (up a8 dk ln) a9 aA) H := hP
    have hD : va_D A (wDr q C dp dw dl dn ds dk a0 a1 a2 a3 a4 a5 a6 (up a7 dk (ds - 1)) (up a8 dk ln) a9 aA) := hD
    refine lv_aload_n hx hb dX1_addPause_33 rfl (lv_at hl 0 rfl) ?_
    refine va_get (D := D) (ci := 1) (v := .ref (q 14)) (C := RX1) (T := TX1) (N := 17) hx hb hts (by decide +kernel) hown hK hP 0 rfl rfl 15 (by decide) (hts (.fieldLink RX1 46 "BreakSetter$Plan" "pauseEarly" "[I") (by decide +kernel)) (fun _ h9 => h9) rfl dX1_addPause_34 ?_
    refine lv_aload_n hx hb dX1_addPause_37 rfl (lv_at hl 0 rfl) ?_
    refine va_get (D := D) (ci := 1) (v := .int (iI (dk))) (C := RX1) (T := TX1) (N := 17) hx hb hts (by decide +kernel) hown hK hP 0 rfl rfl 5 (by decide) (hts (.fieldLink RX1 61 "BreakSetter$Plan" "pauses" "I") (by decide +kernel)) (fun _ h9 => h9) rfl dX1_addPause_38 ?_
    refine lv_iload_n hx hb dX1_addPause_41 rfl (lv_at hl 2 rfl) ?_
    refine j_iast hx hb hK hP hD hS 10 1 rfl rfl ⟨by omega, by omega⟩ (Nat.le_of_ble_eq_true rfl) dX1_addPause_42 (fun H locs hP hD hS => ?_)
    have hP : va_P D vwCl (wDr q C dp dw dl dn ds dk a0 a1 a2 a3 a4 a5 a6 (up a7 dk (ds - 1)) (up a8 dk ln) (up a9 dk ea) aA) H := hP
    have hD : va_D A (wDr q C dp dw dl dn ds dk a0 a1 a2 a3 a4 a5 a6 (up a7 dk (ds - 1)) (up a8 dk ln) (up a9 dk ea) aA) := hD
    refine lv_aload_n hx hb dX1_addPause_43 rfl (lv_at hl 0 rfl) ?_
    refine va_get (D := D) (ci := 1) (v := .ref (q 15)) (C := RX1) (T := TX1) (N := 17) hx hb hts (by decide +kernel) hown hK hP 0 rfl rfl 16 (by decide) (hts (.fieldLink RX1 49 "BreakSetter$Plan" "pauseLate" "[I") (by decide +kernel)) (fun _ h9 => h9) rfl dX1_addPause_44 ?_
    refine lv_aload_n hx hb dX1_addPause_47 rfl (lv_at hl 0 rfl) ?_
    refine va_get (D := D) (ci := 1) (v := .int (iI (dk))) (C := RX1) (T := TX1) (N := 17) hx hb hts (by decide +kernel) hown hK hP 0 rfl rfl 5 (by decide) (hts (.fieldLink RX1 61 "BreakSetter$Plan" "pauses" "I") (by decide +kernel)) (fun _ h9 => h9) rfl dX1_addPause_48 ?_
    refine lv_iload_n hx hb dX1_addPause_51 rfl (lv_at hl 3 rfl) ?_
    refine j_iast hx hb hK hP hD hS 11 1 rfl rfl ⟨by omega, by omega⟩ (Nat.le_of_ble_eq_true rfl) dX1_addPause_52 (fun H locs hP hD hS => ?_)
    have hP : va_P D vwCl (wDr q C dp dw dl dn ds dk a0 a1 a2 a3 a4 a5 a6 (up a7 dk (ds - 1)) (up a8 dk ln) (up a9 dk ea) (up aA dk la)) H := hP
    have hD : va_D A (wDr q C dp dw dl dn ds dk a0 a1 a2 a3 a4 a5 a6 (up a7 dk (ds - 1)) (up a8 dk ln) (up a9 dk ea) (up aA dk la)) := hD
    refine lv_aload_n hx hb dX1_addPause_53 rfl (lv_at hl 0 rfl) ?_
    refine va_get (D := D) (ci := 1) (v := .ref (q 10)) (C := RX1) (T := TX1) (N := 17) hx hb hts (by decide +kernel) hown hK hP 0 rfl rfl 11 (by decide) (hts (.fieldLink RX1 34 "BreakSetter$Plan" "shiftPauses" "[I") (by decide +kernel)) (fun _ h9 => h9) rfl dX1_addPause_54 ?_
    refine lv_aload_n hx hb dX1_addPause_57 rfl (lv_at hl 0 rfl) ?_
    refine va_get (D := D) (ci := 1) (v := .int (iI (ds))) (C := RX1) (T := TX1) (N := 17) hx hb hts (by decide +kernel) hown hK hP 0 rfl rfl 4 (by decide) (hts (.fieldLink RX1 58 "BreakSetter$Plan" "shifts" "I") (by decide +kernel)) (fun _ h9 => h9) rfl dX1_addPause_58 ?_
    refine lv_iconst (v := iI (1)) hx hb dX1_addPause_61 rfl ?_
    refine j_isub hx hb dX1_addPause_62 ?_
    refine lv_dup2_11 hx hb dX1_addPause_63 rfl rfl ?_
    refine j_iald hx hb hK hP 6 1 rfl rfl ⟨by omega, by omega⟩ (Nat.le_of_ble_eq_true rfl) dX1_addPause_64 ?_
    refine lv_iconst (v := iI (1)) hx hb dX1_addPause_65 rfl ?_
    refine j_iadd hx hb dX1_addPause_66 ?_
    refine j_iast hx hb hK hP hD hS 6 1 rfl rfl ⟨by omega, by omega⟩ (Nat.le_of_ble_eq_true rfl) dX1_addPause_67 (fun H locs hP hD hS => ?_)
    have hP : va_P D vwCl (wDr q C dp dw dl dn ds dk a0 a1 a2 a3 a4 (up a5 (ds - 1) ((a5 (ds - 1)) + 1)) a6 (up a7 dk (ds - 1)) (up a8 dk ln) (up a9 dk ea) (up aA dk la)) H := hP
    have hD : va_D A (wDr q C dp dw dl dn ds dk a0 a1 a2 a3 a4 (up a5 (ds - 1) ((a5 (ds - 1)) + 1)) a6 (up a7 dk (ds - 1)) (up a8 dk ln) (up a9 dk ea) (up aA dk la)) := hD
    refine lv_aload_n hx hb dX1_addPause_68 rfl (lv_at hl 0 rfl) ?_
    refine lv_dup hx hb dX1_addPause_69 rfl ?_
    refine va_get (D := D) (ci := 1) (v := .int (iI (dk))) (C := RX1) (T := TX1) (N := 17) hx hb hts (by decide +kernel) hown hK hP 0 rfl rfl 5 (by decide) (hts (.fieldLink RX1 61 "BreakSetter$Plan" "pauses" "I") (by decide +kernel)) (fun _ h9 => h9) rfl dX1_addPause_70 ?_
    refine lv_iconst (v := iI (1)) hx hb dX1_addPause_73 rfl ?_
    refine j_iadd hx hb dX1_addPause_74 ?_
    refine va_put (D := D) (ci := 1) (v := .int (iI (dk + 1))) (ty := .int) (C := RX1) (T := TX1) (N := 17) hx hb hts (by decide +kernel) tyX1 tyX1_ok nmX1 hown hK hP hD hS 0 rfl rfl 5 (by decide) (hts (.fieldLink RX1 61 "BreakSetter$Plan" "pauses" "I") (by decide +kernel)) (fun _ h9 => h9) rfl (by decide +kernel) rfl rfl (Nat.le_of_ble_eq_true rfl) dX1_addPause_75 (fun H locs hP hD hS => ?_)
    have hP : va_P D vwCl (wDr q C dp dw dl dn ds (dk + 1) a0 a1 a2 a3 a4 (up a5 (ds - 1) ((a5 (ds - 1)) + 1)) a6 (up a7 dk (ds - 1)) (up a8 dk ln) (up a9 dk ea) (up aA dk la)) H := hP
    have hD : va_D A (wDr q C dp dw dl dn ds (dk + 1) a0 a1 a2 a3 a4 (up a5 (ds - 1) ((a5 (ds - 1)) + 1)) a6 (up a7 dk (ds - 1)) (up a8 dk ln) (up a9 dk ea) (up aA dk la)) := hD
    exact hret H locs ls 78 () dX1_addPause_78 trivial hP hD hS
  · skip
    exact absurd c4 (by omega)

set_option maxHeartbeats 4000000 in
set_option maxRecDepth 100000 in
theorem c_X1_become {l : Launch} {D : va_G} {C : Nat → ClassId} {q : Nat → Nat} {dp dw dl dn ds dk : Int} {a0 a1 a2 a3 a4 a5 a6 a7 a8 a9 aA : Int → Int} {pp0 pw0 pl0 pn0 ps0 pk0 : Int} {p0 p1 p2 p3 p4 p5 p6 p7 p8 p9 pA : Int → Int}  : CV (S := Unit) l yX1_become wsX1_become 1 60 D C [.ref (q 16), .ref (q 4)] (wDr q C dp dw dl dn ds dk a0 a1 a2 a3 a4 a5 a6 a7 a8 a9 aA ++ wPl q C pp0 pw0 pl0 pn0 ps0 pk0 p0 p1 p2 p3 p4 p5 p6 p7 p8 p9 pA) (fun _ => wDr q C dp dw dl dn ds dk a0 a1 a2 a3 a4 a5 a6 a7 a8 a9 aA ++ wPl q C dp dw dl dn ds dk (cpy a0 p0 0 0 144) (cpy a1 p1 0 0 144) (cpy a2 p2 0 0 8) (cpy a3 p3 0 0 8) (cpy a4 p4 0 0 8) (cpy a5 p5 0 0 8) (cpy a6 p6 0 0 8) (cpy a7 p7 0 0 24) (cpy a8 p8 0 0 24) (cpy a9 p9 0 0 24) (cpy aA pA 0 0 24)) (fun _ => True) := by
  refine CV_of (cc := cX1_become) (maxL := 2) (by decide) rfl (Nat.le_of_ble_eq_true rfl) ?_
  intro p e s m below meth c A Q ls hx hb hml hown hts hK hNW hA hl hP hD hS hret
  have hl : lv_has ls 2 [(0, .ref (q 16)), (1, .ref (q 4))] := hl
  refine lv_aload_n hx hb dX1_become_0 rfl (lv_at hl 0 rfl) ?_
  refine lv_aload_n hx hb dX1_become_1 rfl (lv_at hl 1 rfl) ?_
  refine va_get (D := D) (ci := 1) (v := .int (iI (dp))) (C := RX1) (T := TX1) (N := 17) hx hb hts (by decide +kernel) hown hK hP 0 rfl rfl 0 (by decide) (hts (.fieldLink RX1 9 "BreakSetter$Plan" "posts" "I") (by decide +kernel)) (fun _ h9 => h9) rfl dX1_become_2 ?_
  refine va_put (D := D) (ci := 1) (v := .int (iI (dp))) (ty := .int) (C := RX1) (T := TX1) (N := 17) hx hb hts (by decide +kernel) tyX1 tyX1_ok nmX1 hown hK hP hD hS 12 rfl rfl 0 (by decide) (hts (.fieldLink RX1 9 "BreakSetter$Plan" "posts" "I") (by decide +kernel)) (fun _ h9 => h9) rfl (by decide +kernel) rfl rfl (Nat.le_of_ble_eq_true rfl) dX1_become_5 (fun H locs hP hD hS => ?_)
  have hP : va_P D vwCl (wDr q C dp dw dl dn ds dk a0 a1 a2 a3 a4 a5 a6 a7 a8 a9 aA ++ wPl q C dp pw0 pl0 pn0 ps0 pk0 p0 p1 p2 p3 p4 p5 p6 p7 p8 p9 pA) H := hP
  have hD : va_D A (wDr q C dp dw dl dn ds dk a0 a1 a2 a3 a4 a5 a6 a7 a8 a9 aA ++ wPl q C dp pw0 pl0 pn0 ps0 pk0 p0 p1 p2 p3 p4 p5 p6 p7 p8 p9 pA) := hD
  refine lv_aload_n hx hb dX1_become_8 rfl (lv_at hl 0 rfl) ?_
  refine lv_aload_n hx hb dX1_become_9 rfl (lv_at hl 1 rfl) ?_
  refine va_get (D := D) (ci := 1) (v := .int (iI (dw))) (C := RX1) (T := TX1) (N := 17) hx hb hts (by decide +kernel) hown hK hP 0 rfl rfl 1 (by decide) (hts (.fieldLink RX1 15 "BreakSetter$Plan" "walk" "I") (by decide +kernel)) (fun _ h9 => h9) rfl dX1_become_10 ?_
  refine va_put (D := D) (ci := 1) (v := .int (iI (dw))) (ty := .int) (C := RX1) (T := TX1) (N := 17) hx hb hts (by decide +kernel) tyX1 tyX1_ok nmX1 hown hK hP hD hS 12 rfl rfl 1 (by decide) (hts (.fieldLink RX1 15 "BreakSetter$Plan" "walk" "I") (by decide +kernel)) (fun _ h9 => h9) rfl (by decide +kernel) rfl rfl (Nat.le_of_ble_eq_true rfl) dX1_become_13 (fun H locs hP hD hS => ?_)
  have hP : va_P D vwCl (wDr q C dp dw dl dn ds dk a0 a1 a2 a3 a4 a5 a6 a7 a8 a9 aA ++ wPl q C dp dw pl0 pn0 ps0 pk0 p0 p1 p2 p3 p4 p5 p6 p7 p8 p9 pA) H := hP
  have hD : va_D A (wDr q C dp dw dl dn ds dk a0 a1 a2 a3 a4 a5 a6 a7 a8 a9 aA ++ wPl q C dp dw pl0 pn0 ps0 pk0 p0 p1 p2 p3 p4 p5 p6 p7 p8 p9 pA) := hD
  refine lv_aload_n hx hb dX1_become_16 rfl (lv_at hl 0 rfl) ?_
  refine lv_aload_n hx hb dX1_become_17 rfl (lv_at hl 1 rfl) ?_
  refine va_get (D := D) (ci := 1) (v := .int (iI (dl))) (C := RX1) (T := TX1) (N := 17) hx hb hts (by decide +kernel) hown hK hP 0 rfl rfl 2 (by decide) (hts (.fieldLink RX1 52 "BreakSetter$Plan" "lines" "I") (by decide +kernel)) (fun _ h9 => h9) rfl dX1_become_18 ?_
  refine va_put (D := D) (ci := 1) (v := .int (iI (dl))) (ty := .int) (C := RX1) (T := TX1) (N := 17) hx hb hts (by decide +kernel) tyX1 tyX1_ok nmX1 hown hK hP hD hS 12 rfl rfl 2 (by decide) (hts (.fieldLink RX1 52 "BreakSetter$Plan" "lines" "I") (by decide +kernel)) (fun _ h9 => h9) rfl (by decide +kernel) rfl rfl (Nat.le_of_ble_eq_true rfl) dX1_become_21 (fun H locs hP hD hS => ?_)
  have hP : va_P D vwCl (wDr q C dp dw dl dn ds dk a0 a1 a2 a3 a4 a5 a6 a7 a8 a9 aA ++ wPl q C dp dw dl pn0 ps0 pk0 p0 p1 p2 p3 p4 p5 p6 p7 p8 p9 pA) H := hP
  have hD : va_D A (wDr q C dp dw dl dn ds dk a0 a1 a2 a3 a4 a5 a6 a7 a8 a9 aA ++ wPl q C dp dw dl pn0 ps0 pk0 p0 p1 p2 p3 p4 p5 p6 p7 p8 p9 pA) := hD
  refine lv_aload_n hx hb dX1_become_24 rfl (lv_at hl 0 rfl) ?_
  refine lv_aload_n hx hb dX1_become_25 rfl (lv_at hl 1 rfl) ?_
  refine va_get (D := D) (ci := 1) (v := .int (iI (dn))) (C := RX1) (T := TX1) (N := 17) hx hb hts (by decide +kernel) hown hK hP 0 rfl rfl 3 (by decide) (hts (.fieldLink RX1 55 "BreakSetter$Plan" "needs" "I") (by decide +kernel)) (fun _ h9 => h9) rfl dX1_become_26 ?_
  refine va_put (D := D) (ci := 1) (v := .int (iI (dn))) (ty := .int) (C := RX1) (T := TX1) (N := 17) hx hb hts (by decide +kernel) tyX1 tyX1_ok nmX1 hown hK hP hD hS 12 rfl rfl 3 (by decide) (hts (.fieldLink RX1 55 "BreakSetter$Plan" "needs" "I") (by decide +kernel)) (fun _ h9 => h9) rfl (by decide +kernel) rfl rfl (Nat.le_of_ble_eq_true rfl) dX1_become_29 (fun H locs hP hD hS => ?_)
  have hP : va_P D vwCl (wDr q C dp dw dl dn ds dk a0 a1 a2 a3 a4 a5 a6 a7 a8 a9 aA ++ wPl q C dp dw dl dn ps0 pk0 p0 p1 p2 p3 p4 p5 p6 p7 p8 p9 pA) H := hP
  have hD : va_D A (wDr q C dp dw dl dn ds dk a0 a1 a2 a3 a4 a5 a6 a7 a8 a9 aA ++ wPl q C dp dw dl dn ps0 pk0 p0 p1 p2 p3 p4 p5 p6 p7 p8 p9 pA) := hD
  refine lv_aload_n hx hb dX1_become_32 rfl (lv_at hl 0 rfl) ?_
  refine lv_aload_n hx hb dX1_become_33 rfl (lv_at hl 1 rfl) ?_
  refine va_get (D := D) (ci := 1) (v := .int (iI (ds))) (C := RX1) (T := TX1) (N := 17) hx hb hts (by decide +kernel) hown hK hP 0 rfl rfl 4 (by decide) (hts (.fieldLink RX1 58 "BreakSetter$Plan" "shifts" "I") (by decide +kernel)) (fun _ h9 => h9) rfl dX1_become_34 ?_
  refine va_put (D := D) (ci := 1) (v := .int (iI (ds))) (ty := .int) (C := RX1) (T := TX1) (N := 17) hx hb hts (by decide +kernel) tyX1 tyX1_ok nmX1 hown hK hP hD hS 12 rfl rfl 4 (by decide) (hts (.fieldLink RX1 58 "BreakSetter$Plan" "shifts" "I") (by decide +kernel)) (fun _ h9 => h9) rfl (by decide +kernel) rfl rfl (Nat.le_of_ble_eq_true rfl) dX1_become_37 (fun H locs hP hD hS => ?_)
  have hP : va_P D vwCl (wDr q C dp dw dl dn ds dk a0 a1 a2 a3 a4 a5 a6 a7 a8 a9 aA ++ wPl q C dp dw dl dn ds pk0 p0 p1 p2 p3 p4 p5 p6 p7 p8 p9 pA) H := hP
  have hD : va_D A (wDr q C dp dw dl dn ds dk a0 a1 a2 a3 a4 a5 a6 a7 a8 a9 aA ++ wPl q C dp dw dl dn ds pk0 p0 p1 p2 p3 p4 p5 p6 p7 p8 p9 pA) := hD
  refine lv_aload_n hx hb dX1_become_40 rfl (lv_at hl 0 rfl) ?_
  refine lv_aload_n hx hb dX1_become_41 rfl (lv_at hl 1 rfl) ?_
  refine va_get (D := D) (ci := 1) (v := .int (iI (dk))) (C := RX1) (T := TX1) (N := 17) hx hb hts (by decide +kernel) hown hK hP 0 rfl rfl 5 (by decide) (hts (.fieldLink RX1 61 "BreakSetter$Plan" "pauses" "I") (by decide +kernel)) (fun _ h9 => h9) rfl dX1_become_42 ?_
  refine va_put (D := D) (ci := 1) (v := .int (iI (dk))) (ty := .int) (C := RX1) (T := TX1) (N := 17) hx hb hts (by decide +kernel) tyX1 tyX1_ok nmX1 hown hK hP hD hS 12 rfl rfl 5 (by decide) (hts (.fieldLink RX1 61 "BreakSetter$Plan" "pauses" "I") (by decide +kernel)) (fun _ h9 => h9) rfl (by decide +kernel) rfl rfl (Nat.le_of_ble_eq_true rfl) dX1_become_45 (fun H locs hP hD hS => ?_)
  have hP : va_P D vwCl (wDr q C dp dw dl dn ds dk a0 a1 a2 a3 a4 a5 a6 a7 a8 a9 aA ++ wPl q C dp dw dl dn ds dk p0 p1 p2 p3 p4 p5 p6 p7 p8 p9 pA) H := hP
  have hD : va_D A (wDr q C dp dw dl dn ds dk a0 a1 a2 a3 a4 a5 a6 a7 a8 a9 aA ++ wPl q C dp dw dl dn ds dk p0 p1 p2 p3 p4 p5 p6 p7 p8 p9 pA) := hD
  refine lv_aload_n hx hb dX1_become_48 rfl (lv_at hl 1 rfl) ?_
  refine va_get (D := D) (ci := 1) (v := .ref (q 5)) (C := RX1) (T := TX1) (N := 17) hx hb hts (by decide +kernel) hown hK hP 0 rfl rfl 6 (by decide) (hts (.fieldLink RX1 18 "BreakSetter$Plan" "need" "[I") (by decide +kernel)) (fun _ h9 => h9) rfl dX1_become_49 ?_
  refine lv_iconst (v := iI (0)) hx hb dX1_become_52 rfl ?_
  refine lv_aload_n hx hb dX1_become_53 rfl (lv_at hl 0 rfl) ?_
  refine va_get (D := D) (ci := 1) (v := .ref (q 17)) (C := RX1) (T := TX1) (N := 17) hx hb hts (by decide +kernel) hown hK hP 12 rfl rfl 6 (by decide) (hts (.fieldLink RX1 18 "BreakSetter$Plan" "need" "[I") (by decide +kernel)) (fun _ h9 => h9) rfl dX1_become_54 ?_
  refine lv_iconst (v := iI (0)) hx hb dX1_become_57 rfl ?_
  refine lv_sipush (v := iI (144)) hx hb dX1_become_58 (by decide) ?_
  refine j_copy hx hb (by rw [hml]; exact hl.1.symm) hown (hts (.methodLink RX1 70 arraycopyName) (by decide +kernel)) (hts (.native arraycopyName) (by decide +kernel)) (hts (.static arraycopyName) (by decide +kernel)) (hts (.initialized "java/lang/System") (by decide +kernel)) hK hP hD hS 1 13 rfl rfl (tt := true) rfl ⟨by omega, by omega, by omega⟩ ⟨by omega, by omega⟩ (by decide) (by decide) (Nat.le_of_ble_eq_true rfl) (Nat.le_of_ble_eq_true rfl) dX1_become_61 (fun H locs hP hD hS => ?_)
  have hP : va_P D vwCl (wDr q C dp dw dl dn ds dk a0 a1 a2 a3 a4 a5 a6 a7 a8 a9 aA ++ wPl q C dp dw dl dn ds dk (cpy a0 p0 0 0 144) p1 p2 p3 p4 p5 p6 p7 p8 p9 pA) H := hP
  have hD : va_D A (wDr q C dp dw dl dn ds dk a0 a1 a2 a3 a4 a5 a6 a7 a8 a9 aA ++ wPl q C dp dw dl dn ds dk (cpy a0 p0 0 0 144) p1 p2 p3 p4 p5 p6 p7 p8 p9 pA) := hD
  refine lv_aload_n hx hb dX1_become_64 rfl (lv_at hl 1 rfl) ?_
  refine va_get (D := D) (ci := 1) (v := .ref (q 6)) (C := RX1) (T := TX1) (N := 17) hx hb hts (by decide +kernel) hown hK hP 0 rfl rfl 7 (by decide) (hts (.fieldLink RX1 22 "BreakSetter$Plan" "duty" "[I") (by decide +kernel)) (fun _ h9 => h9) rfl dX1_become_65 ?_
  refine lv_iconst (v := iI (0)) hx hb dX1_become_68 rfl ?_
  refine lv_aload_n hx hb dX1_become_69 rfl (lv_at hl 0 rfl) ?_
  refine va_get (D := D) (ci := 1) (v := .ref (q 18)) (C := RX1) (T := TX1) (N := 17) hx hb hts (by decide +kernel) hown hK hP 12 rfl rfl 7 (by decide) (hts (.fieldLink RX1 22 "BreakSetter$Plan" "duty" "[I") (by decide +kernel)) (fun _ h9 => h9) rfl dX1_become_70 ?_
  refine lv_iconst (v := iI (0)) hx hb dX1_become_73 rfl ?_
  refine lv_sipush (v := iI (144)) hx hb dX1_become_74 (by decide) ?_
  refine j_copy hx hb (by rw [hml]; exact hl.1.symm) hown (hts (.methodLink RX1 70 arraycopyName) (by decide +kernel)) (hts (.native arraycopyName) (by decide +kernel)) (hts (.static arraycopyName) (by decide +kernel)) (hts (.initialized "java/lang/System") (by decide +kernel)) hK hP hD hS 2 14 rfl rfl (tt := true) rfl ⟨by omega, by omega, by omega⟩ ⟨by omega, by omega⟩ (by decide) (by decide) (Nat.le_of_ble_eq_true rfl) (Nat.le_of_ble_eq_true rfl) dX1_become_77 (fun H locs hP hD hS => ?_)
  have hP : va_P D vwCl (wDr q C dp dw dl dn ds dk a0 a1 a2 a3 a4 a5 a6 a7 a8 a9 aA ++ wPl q C dp dw dl dn ds dk (cpy a0 p0 0 0 144) (cpy a1 p1 0 0 144) p2 p3 p4 p5 p6 p7 p8 p9 pA) H := hP
  have hD : va_D A (wDr q C dp dw dl dn ds dk a0 a1 a2 a3 a4 a5 a6 a7 a8 a9 aA ++ wPl q C dp dw dl dn ds dk (cpy a0 p0 0 0 144) (cpy a1 p1 0 0 144) p2 p3 p4 p5 p6 p7 p8 p9 pA) := hD
  refine lv_aload_n hx hb dX1_become_80 rfl (lv_at hl 1 rfl) ?_
  refine va_get (D := D) (ci := 1) (v := .ref (q 7)) (C := RX1) (T := TX1) (N := 17) hx hb hts (by decide +kernel) hown hK hP 0 rfl rfl 8 (by decide) (hts (.fieldLink RX1 25 "BreakSetter$Plan" "shiftPost" "[I") (by decide +kernel)) (fun _ h9 => h9) rfl dX1_become_81 ?_
  refine lv_iconst (v := iI (0)) hx hb dX1_become_84 rfl ?_
  refine lv_aload_n hx hb dX1_become_85 rfl (lv_at hl 0 rfl) ?_
  refine va_get (D := D) (ci := 1) (v := .ref (q 19)) (C := RX1) (T := TX1) (N := 17) hx hb hts (by decide +kernel) hown hK hP 12 rfl rfl 8 (by decide) (hts (.fieldLink RX1 25 "BreakSetter$Plan" "shiftPost" "[I") (by decide +kernel)) (fun _ h9 => h9) rfl dX1_become_86 ?_
  refine lv_iconst (v := iI (0)) hx hb dX1_become_89 rfl ?_
  refine lv_bipush (v := iI (8)) hx hb dX1_become_90 (by decide) ?_
  refine j_copy hx hb (by rw [hml]; exact hl.1.symm) hown (hts (.methodLink RX1 70 arraycopyName) (by decide +kernel)) (hts (.native arraycopyName) (by decide +kernel)) (hts (.static arraycopyName) (by decide +kernel)) (hts (.initialized "java/lang/System") (by decide +kernel)) hK hP hD hS 3 15 rfl rfl (tt := true) rfl ⟨by omega, by omega, by omega⟩ ⟨by omega, by omega⟩ (by decide) (by decide) (Nat.le_of_ble_eq_true rfl) (Nat.le_of_ble_eq_true rfl) dX1_become_92 (fun H locs hP hD hS => ?_)
  have hP : va_P D vwCl (wDr q C dp dw dl dn ds dk a0 a1 a2 a3 a4 a5 a6 a7 a8 a9 aA ++ wPl q C dp dw dl dn ds dk (cpy a0 p0 0 0 144) (cpy a1 p1 0 0 144) (cpy a2 p2 0 0 8) p3 p4 p5 p6 p7 p8 p9 pA) H := hP
  have hD : va_D A (wDr q C dp dw dl dn ds dk a0 a1 a2 a3 a4 a5 a6 a7 a8 a9 aA ++ wPl q C dp dw dl dn ds dk (cpy a0 p0 0 0 144) (cpy a1 p1 0 0 144) (cpy a2 p2 0 0 8) p3 p4 p5 p6 p7 p8 p9 pA) := hD
  refine lv_aload_n hx hb dX1_become_95 rfl (lv_at hl 1 rfl) ?_
  refine va_get (D := D) (ci := 1) (v := .ref (q 8)) (C := RX1) (T := TX1) (N := 17) hx hb hts (by decide +kernel) hown hK hP 0 rfl rfl 9 (by decide) (hts (.fieldLink RX1 28 "BreakSetter$Plan" "shiftFrom" "[I") (by decide +kernel)) (fun _ h9 => h9) rfl dX1_become_96 ?_
  refine lv_iconst (v := iI (0)) hx hb dX1_become_99 rfl ?_
  refine lv_aload_n hx hb dX1_become_100 rfl (lv_at hl 0 rfl) ?_
  refine va_get (D := D) (ci := 1) (v := .ref (q 20)) (C := RX1) (T := TX1) (N := 17) hx hb hts (by decide +kernel) hown hK hP 12 rfl rfl 9 (by decide) (hts (.fieldLink RX1 28 "BreakSetter$Plan" "shiftFrom" "[I") (by decide +kernel)) (fun _ h9 => h9) rfl dX1_become_101 ?_
  refine lv_iconst (v := iI (0)) hx hb dX1_become_104 rfl ?_
  refine lv_bipush (v := iI (8)) hx hb dX1_become_105 (by decide) ?_
  refine j_copy hx hb (by rw [hml]; exact hl.1.symm) hown (hts (.methodLink RX1 70 arraycopyName) (by decide +kernel)) (hts (.native arraycopyName) (by decide +kernel)) (hts (.static arraycopyName) (by decide +kernel)) (hts (.initialized "java/lang/System") (by decide +kernel)) hK hP hD hS 4 16 rfl rfl (tt := true) rfl ⟨by omega, by omega, by omega⟩ ⟨by omega, by omega⟩ (by decide) (by decide) (Nat.le_of_ble_eq_true rfl) (Nat.le_of_ble_eq_true rfl) dX1_become_107 (fun H locs hP hD hS => ?_)
  have hP : va_P D vwCl (wDr q C dp dw dl dn ds dk a0 a1 a2 a3 a4 a5 a6 a7 a8 a9 aA ++ wPl q C dp dw dl dn ds dk (cpy a0 p0 0 0 144) (cpy a1 p1 0 0 144) (cpy a2 p2 0 0 8) (cpy a3 p3 0 0 8) p4 p5 p6 p7 p8 p9 pA) H := hP
  have hD : va_D A (wDr q C dp dw dl dn ds dk a0 a1 a2 a3 a4 a5 a6 a7 a8 a9 aA ++ wPl q C dp dw dl dn ds dk (cpy a0 p0 0 0 144) (cpy a1 p1 0 0 144) (cpy a2 p2 0 0 8) (cpy a3 p3 0 0 8) p4 p5 p6 p7 p8 p9 pA) := hD
  refine lv_aload_n hx hb dX1_become_110 rfl (lv_at hl 1 rfl) ?_
  refine va_get (D := D) (ci := 1) (v := .ref (q 9)) (C := RX1) (T := TX1) (N := 17) hx hb hts (by decide +kernel) hown hK hP 0 rfl rfl 10 (by decide) (hts (.fieldLink RX1 31 "BreakSetter$Plan" "shiftTo" "[I") (by decide +kernel)) (fun _ h9 => h9) rfl dX1_become_111 ?_
  refine lv_iconst (v := iI (0)) hx hb dX1_become_114 rfl ?_
  refine lv_aload_n hx hb dX1_become_115 rfl (lv_at hl 0 rfl) ?_
  refine va_get (D := D) (ci := 1) (v := .ref (q 21)) (C := RX1) (T := TX1) (N := 17) hx hb hts (by decide +kernel) hown hK hP 12 rfl rfl 10 (by decide) (hts (.fieldLink RX1 31 "BreakSetter$Plan" "shiftTo" "[I") (by decide +kernel)) (fun _ h9 => h9) rfl dX1_become_116 ?_
  refine lv_iconst (v := iI (0)) hx hb dX1_become_119 rfl ?_
  refine lv_bipush (v := iI (8)) hx hb dX1_become_120 (by decide) ?_
  refine j_copy hx hb (by rw [hml]; exact hl.1.symm) hown (hts (.methodLink RX1 70 arraycopyName) (by decide +kernel)) (hts (.native arraycopyName) (by decide +kernel)) (hts (.static arraycopyName) (by decide +kernel)) (hts (.initialized "java/lang/System") (by decide +kernel)) hK hP hD hS 5 17 rfl rfl (tt := true) rfl ⟨by omega, by omega, by omega⟩ ⟨by omega, by omega⟩ (by decide) (by decide) (Nat.le_of_ble_eq_true rfl) (Nat.le_of_ble_eq_true rfl) dX1_become_122 (fun H locs hP hD hS => ?_)
  have hP : va_P D vwCl (wDr q C dp dw dl dn ds dk a0 a1 a2 a3 a4 a5 a6 a7 a8 a9 aA ++ wPl q C dp dw dl dn ds dk (cpy a0 p0 0 0 144) (cpy a1 p1 0 0 144) (cpy a2 p2 0 0 8) (cpy a3 p3 0 0 8) (cpy a4 p4 0 0 8) p5 p6 p7 p8 p9 pA) H := hP
  have hD : va_D A (wDr q C dp dw dl dn ds dk a0 a1 a2 a3 a4 a5 a6 a7 a8 a9 aA ++ wPl q C dp dw dl dn ds dk (cpy a0 p0 0 0 144) (cpy a1 p1 0 0 144) (cpy a2 p2 0 0 8) (cpy a3 p3 0 0 8) (cpy a4 p4 0 0 8) p5 p6 p7 p8 p9 pA) := hD
  refine lv_aload_n hx hb dX1_become_125 rfl (lv_at hl 1 rfl) ?_
  refine va_get (D := D) (ci := 1) (v := .ref (q 10)) (C := RX1) (T := TX1) (N := 17) hx hb hts (by decide +kernel) hown hK hP 0 rfl rfl 11 (by decide) (hts (.fieldLink RX1 34 "BreakSetter$Plan" "shiftPauses" "[I") (by decide +kernel)) (fun _ h9 => h9) rfl dX1_become_126 ?_
  refine lv_iconst (v := iI (0)) hx hb dX1_become_129 rfl ?_
  refine lv_aload_n hx hb dX1_become_130 rfl (lv_at hl 0 rfl) ?_
  refine va_get (D := D) (ci := 1) (v := .ref (q 22)) (C := RX1) (T := TX1) (N := 17) hx hb hts (by decide +kernel) hown hK hP 12 rfl rfl 11 (by decide) (hts (.fieldLink RX1 34 "BreakSetter$Plan" "shiftPauses" "[I") (by decide +kernel)) (fun _ h9 => h9) rfl dX1_become_131 ?_
  refine lv_iconst (v := iI (0)) hx hb dX1_become_134 rfl ?_
  refine lv_bipush (v := iI (8)) hx hb dX1_become_135 (by decide) ?_
  refine j_copy hx hb (by rw [hml]; exact hl.1.symm) hown (hts (.methodLink RX1 70 arraycopyName) (by decide +kernel)) (hts (.native arraycopyName) (by decide +kernel)) (hts (.static arraycopyName) (by decide +kernel)) (hts (.initialized "java/lang/System") (by decide +kernel)) hK hP hD hS 6 18 rfl rfl (tt := true) rfl ⟨by omega, by omega, by omega⟩ ⟨by omega, by omega⟩ (by decide) (by decide) (Nat.le_of_ble_eq_true rfl) (Nat.le_of_ble_eq_true rfl) dX1_become_137 (fun H locs hP hD hS => ?_)
  have hP : va_P D vwCl (wDr q C dp dw dl dn ds dk a0 a1 a2 a3 a4 a5 a6 a7 a8 a9 aA ++ wPl q C dp dw dl dn ds dk (cpy a0 p0 0 0 144) (cpy a1 p1 0 0 144) (cpy a2 p2 0 0 8) (cpy a3 p3 0 0 8) (cpy a4 p4 0 0 8) (cpy a5 p5 0 0 8) p6 p7 p8 p9 pA) H := hP
  have hD : va_D A (wDr q C dp dw dl dn ds dk a0 a1 a2 a3 a4 a5 a6 a7 a8 a9 aA ++ wPl q C dp dw dl dn ds dk (cpy a0 p0 0 0 144) (cpy a1 p1 0 0 144) (cpy a2 p2 0 0 8) (cpy a3 p3 0 0 8) (cpy a4 p4 0 0 8) (cpy a5 p5 0 0 8) p6 p7 p8 p9 pA) := hD
  refine lv_aload_n hx hb dX1_become_140 rfl (lv_at hl 1 rfl) ?_
  refine va_get (D := D) (ci := 1) (v := .ref (q 11)) (C := RX1) (T := TX1) (N := 17) hx hb hts (by decide +kernel) hown hK hP 0 rfl rfl 12 (by decide) (hts (.fieldLink RX1 37 "BreakSetter$Plan" "shiftFirst" "[I") (by decide +kernel)) (fun _ h9 => h9) rfl dX1_become_141 ?_
  refine lv_iconst (v := iI (0)) hx hb dX1_become_144 rfl ?_
  refine lv_aload_n hx hb dX1_become_145 rfl (lv_at hl 0 rfl) ?_
  refine va_get (D := D) (ci := 1) (v := .ref (q 23)) (C := RX1) (T := TX1) (N := 17) hx hb hts (by decide +kernel) hown hK hP 12 rfl rfl 12 (by decide) (hts (.fieldLink RX1 37 "BreakSetter$Plan" "shiftFirst" "[I") (by decide +kernel)) (fun _ h9 => h9) rfl dX1_become_146 ?_
  refine lv_iconst (v := iI (0)) hx hb dX1_become_149 rfl ?_
  refine lv_bipush (v := iI (8)) hx hb dX1_become_150 (by decide) ?_
  refine j_copy hx hb (by rw [hml]; exact hl.1.symm) hown (hts (.methodLink RX1 70 arraycopyName) (by decide +kernel)) (hts (.native arraycopyName) (by decide +kernel)) (hts (.static arraycopyName) (by decide +kernel)) (hts (.initialized "java/lang/System") (by decide +kernel)) hK hP hD hS 7 19 rfl rfl (tt := true) rfl ⟨by omega, by omega, by omega⟩ ⟨by omega, by omega⟩ (by decide) (by decide) (Nat.le_of_ble_eq_true rfl) (Nat.le_of_ble_eq_true rfl) dX1_become_152 (fun H locs hP hD hS => ?_)
  have hP : va_P D vwCl (wDr q C dp dw dl dn ds dk a0 a1 a2 a3 a4 a5 a6 a7 a8 a9 aA ++ wPl q C dp dw dl dn ds dk (cpy a0 p0 0 0 144) (cpy a1 p1 0 0 144) (cpy a2 p2 0 0 8) (cpy a3 p3 0 0 8) (cpy a4 p4 0 0 8) (cpy a5 p5 0 0 8) (cpy a6 p6 0 0 8) p7 p8 p9 pA) H := hP
  have hD : va_D A (wDr q C dp dw dl dn ds dk a0 a1 a2 a3 a4 a5 a6 a7 a8 a9 aA ++ wPl q C dp dw dl dn ds dk (cpy a0 p0 0 0 144) (cpy a1 p1 0 0 144) (cpy a2 p2 0 0 8) (cpy a3 p3 0 0 8) (cpy a4 p4 0 0 8) (cpy a5 p5 0 0 8) (cpy a6 p6 0 0 8) p7 p8 p9 pA) := hD
  refine lv_aload_n hx hb dX1_become_155 rfl (lv_at hl 1 rfl) ?_
  refine va_get (D := D) (ci := 1) (v := .ref (q 12)) (C := RX1) (T := TX1) (N := 17) hx hb hts (by decide +kernel) hown hK hP 0 rfl rfl 13 (by decide) (hts (.fieldLink RX1 40 "BreakSetter$Plan" "pauseShift" "[I") (by decide +kernel)) (fun _ h9 => h9) rfl dX1_become_156 ?_
  refine lv_iconst (v := iI (0)) hx hb dX1_become_159 rfl ?_
  refine lv_aload_n hx hb dX1_become_160 rfl (lv_at hl 0 rfl) ?_
  refine va_get (D := D) (ci := 1) (v := .ref (q 24)) (C := RX1) (T := TX1) (N := 17) hx hb hts (by decide +kernel) hown hK hP 12 rfl rfl 13 (by decide) (hts (.fieldLink RX1 40 "BreakSetter$Plan" "pauseShift" "[I") (by decide +kernel)) (fun _ h9 => h9) rfl dX1_become_161 ?_
  refine lv_iconst (v := iI (0)) hx hb dX1_become_164 rfl ?_
  refine lv_bipush (v := iI (24)) hx hb dX1_become_165 (by decide) ?_
  refine j_copy hx hb (by rw [hml]; exact hl.1.symm) hown (hts (.methodLink RX1 70 arraycopyName) (by decide +kernel)) (hts (.native arraycopyName) (by decide +kernel)) (hts (.static arraycopyName) (by decide +kernel)) (hts (.initialized "java/lang/System") (by decide +kernel)) hK hP hD hS 8 20 rfl rfl (tt := true) rfl ⟨by omega, by omega, by omega⟩ ⟨by omega, by omega⟩ (by decide) (by decide) (Nat.le_of_ble_eq_true rfl) (Nat.le_of_ble_eq_true rfl) dX1_become_167 (fun H locs hP hD hS => ?_)
  have hP : va_P D vwCl (wDr q C dp dw dl dn ds dk a0 a1 a2 a3 a4 a5 a6 a7 a8 a9 aA ++ wPl q C dp dw dl dn ds dk (cpy a0 p0 0 0 144) (cpy a1 p1 0 0 144) (cpy a2 p2 0 0 8) (cpy a3 p3 0 0 8) (cpy a4 p4 0 0 8) (cpy a5 p5 0 0 8) (cpy a6 p6 0 0 8) (cpy a7 p7 0 0 24) p8 p9 pA) H := hP
  have hD : va_D A (wDr q C dp dw dl dn ds dk a0 a1 a2 a3 a4 a5 a6 a7 a8 a9 aA ++ wPl q C dp dw dl dn ds dk (cpy a0 p0 0 0 144) (cpy a1 p1 0 0 144) (cpy a2 p2 0 0 8) (cpy a3 p3 0 0 8) (cpy a4 p4 0 0 8) (cpy a5 p5 0 0 8) (cpy a6 p6 0 0 8) (cpy a7 p7 0 0 24) p8 p9 pA) := hD
  refine lv_aload_n hx hb dX1_become_170 rfl (lv_at hl 1 rfl) ?_
  refine va_get (D := D) (ci := 1) (v := .ref (q 13)) (C := RX1) (T := TX1) (N := 17) hx hb hts (by decide +kernel) hown hK hP 0 rfl rfl 14 (by decide) (hts (.fieldLink RX1 43 "BreakSetter$Plan" "pauseLong" "[I") (by decide +kernel)) (fun _ h9 => h9) rfl dX1_become_171 ?_
  refine lv_iconst (v := iI (0)) hx hb dX1_become_174 rfl ?_
  refine lv_aload_n hx hb dX1_become_175 rfl (lv_at hl 0 rfl) ?_
  refine va_get (D := D) (ci := 1) (v := .ref (q 25)) (C := RX1) (T := TX1) (N := 17) hx hb hts (by decide +kernel) hown hK hP 12 rfl rfl 14 (by decide) (hts (.fieldLink RX1 43 "BreakSetter$Plan" "pauseLong" "[I") (by decide +kernel)) (fun _ h9 => h9) rfl dX1_become_176 ?_
  refine lv_iconst (v := iI (0)) hx hb dX1_become_179 rfl ?_
  refine lv_bipush (v := iI (24)) hx hb dX1_become_180 (by decide) ?_
  refine j_copy hx hb (by rw [hml]; exact hl.1.symm) hown (hts (.methodLink RX1 70 arraycopyName) (by decide +kernel)) (hts (.native arraycopyName) (by decide +kernel)) (hts (.static arraycopyName) (by decide +kernel)) (hts (.initialized "java/lang/System") (by decide +kernel)) hK hP hD hS 9 21 rfl rfl (tt := true) rfl ⟨by omega, by omega, by omega⟩ ⟨by omega, by omega⟩ (by decide) (by decide) (Nat.le_of_ble_eq_true rfl) (Nat.le_of_ble_eq_true rfl) dX1_become_182 (fun H locs hP hD hS => ?_)
  have hP : va_P D vwCl (wDr q C dp dw dl dn ds dk a0 a1 a2 a3 a4 a5 a6 a7 a8 a9 aA ++ wPl q C dp dw dl dn ds dk (cpy a0 p0 0 0 144) (cpy a1 p1 0 0 144) (cpy a2 p2 0 0 8) (cpy a3 p3 0 0 8) (cpy a4 p4 0 0 8) (cpy a5 p5 0 0 8) (cpy a6 p6 0 0 8) (cpy a7 p7 0 0 24) (cpy a8 p8 0 0 24) p9 pA) H := hP
  have hD : va_D A (wDr q C dp dw dl dn ds dk a0 a1 a2 a3 a4 a5 a6 a7 a8 a9 aA ++ wPl q C dp dw dl dn ds dk (cpy a0 p0 0 0 144) (cpy a1 p1 0 0 144) (cpy a2 p2 0 0 8) (cpy a3 p3 0 0 8) (cpy a4 p4 0 0 8) (cpy a5 p5 0 0 8) (cpy a6 p6 0 0 8) (cpy a7 p7 0 0 24) (cpy a8 p8 0 0 24) p9 pA) := hD
  refine lv_aload_n hx hb dX1_become_185 rfl (lv_at hl 1 rfl) ?_
  refine va_get (D := D) (ci := 1) (v := .ref (q 14)) (C := RX1) (T := TX1) (N := 17) hx hb hts (by decide +kernel) hown hK hP 0 rfl rfl 15 (by decide) (hts (.fieldLink RX1 46 "BreakSetter$Plan" "pauseEarly" "[I") (by decide +kernel)) (fun _ h9 => h9) rfl dX1_become_186 ?_
  refine lv_iconst (v := iI (0)) hx hb dX1_become_189 rfl ?_
  refine lv_aload_n hx hb dX1_become_190 rfl (lv_at hl 0 rfl) ?_
  refine va_get (D := D) (ci := 1) (v := .ref (q 26)) (C := RX1) (T := TX1) (N := 17) hx hb hts (by decide +kernel) hown hK hP 12 rfl rfl 15 (by decide) (hts (.fieldLink RX1 46 "BreakSetter$Plan" "pauseEarly" "[I") (by decide +kernel)) (fun _ h9 => h9) rfl dX1_become_191 ?_
  refine lv_iconst (v := iI (0)) hx hb dX1_become_194 rfl ?_
  refine lv_bipush (v := iI (24)) hx hb dX1_become_195 (by decide) ?_
  refine j_copy hx hb (by rw [hml]; exact hl.1.symm) hown (hts (.methodLink RX1 70 arraycopyName) (by decide +kernel)) (hts (.native arraycopyName) (by decide +kernel)) (hts (.static arraycopyName) (by decide +kernel)) (hts (.initialized "java/lang/System") (by decide +kernel)) hK hP hD hS 10 22 rfl rfl (tt := true) rfl ⟨by omega, by omega, by omega⟩ ⟨by omega, by omega⟩ (by decide) (by decide) (Nat.le_of_ble_eq_true rfl) (Nat.le_of_ble_eq_true rfl) dX1_become_197 (fun H locs hP hD hS => ?_)
  have hP : va_P D vwCl (wDr q C dp dw dl dn ds dk a0 a1 a2 a3 a4 a5 a6 a7 a8 a9 aA ++ wPl q C dp dw dl dn ds dk (cpy a0 p0 0 0 144) (cpy a1 p1 0 0 144) (cpy a2 p2 0 0 8) (cpy a3 p3 0 0 8) (cpy a4 p4 0 0 8) (cpy a5 p5 0 0 8) (cpy a6 p6 0 0 8) (cpy a7 p7 0 0 24) (cpy a8 p8 0 0 24) (cpy a9 p9 0 0 24) pA) H := hP
  have hD : va_D A (wDr q C dp dw dl dn ds dk a0 a1 a2 a3 a4 a5 a6 a7 a8 a9 aA ++ wPl q C dp dw dl dn ds dk (cpy a0 p0 0 0 144) (cpy a1 p1 0 0 144) (cpy a2 p2 0 0 8) (cpy a3 p3 0 0 8) (cpy a4 p4 0 0 8) (cpy a5 p5 0 0 8) (cpy a6 p6 0 0 8) (cpy a7 p7 0 0 24) (cpy a8 p8 0 0 24) (cpy a9 p9 0 0 24) pA) := hD
  refine lv_aload_n hx hb dX1_become_200 rfl (lv_at hl 1 rfl) ?_
  refine va_get (D := D) (ci := 1) (v := .ref (q 15)) (C := RX1) (T := TX1) (N := 17) hx hb hts (by decide +kernel) hown hK hP 0 rfl rfl 16 (by decide) (hts (.fieldLink RX1 49 "BreakSetter$Plan" "pauseLate" "[I") (by decide +kernel)) (fun _ h9 => h9) rfl dX1_become_201 ?_
  refine lv_iconst (v := iI (0)) hx hb dX1_become_204 rfl ?_
  refine lv_aload_n hx hb dX1_become_205 rfl (lv_at hl 0 rfl) ?_
  refine va_get (D := D) (ci := 1) (v := .ref (q 27)) (C := RX1) (T := TX1) (N := 17) hx hb hts (by decide +kernel) hown hK hP 12 rfl rfl 16 (by decide) (hts (.fieldLink RX1 49 "BreakSetter$Plan" "pauseLate" "[I") (by decide +kernel)) (fun _ h9 => h9) rfl dX1_become_206 ?_
  refine lv_iconst (v := iI (0)) hx hb dX1_become_209 rfl ?_
  refine lv_bipush (v := iI (24)) hx hb dX1_become_210 (by decide) ?_
  refine j_copy hx hb (by rw [hml]; exact hl.1.symm) hown (hts (.methodLink RX1 70 arraycopyName) (by decide +kernel)) (hts (.native arraycopyName) (by decide +kernel)) (hts (.static arraycopyName) (by decide +kernel)) (hts (.initialized "java/lang/System") (by decide +kernel)) hK hP hD hS 11 23 rfl rfl (tt := true) rfl ⟨by omega, by omega, by omega⟩ ⟨by omega, by omega⟩ (by decide) (by decide) (Nat.le_of_ble_eq_true rfl) (Nat.le_of_ble_eq_true rfl) dX1_become_212 (fun H locs hP hD hS => ?_)
  have hP : va_P D vwCl (wDr q C dp dw dl dn ds dk a0 a1 a2 a3 a4 a5 a6 a7 a8 a9 aA ++ wPl q C dp dw dl dn ds dk (cpy a0 p0 0 0 144) (cpy a1 p1 0 0 144) (cpy a2 p2 0 0 8) (cpy a3 p3 0 0 8) (cpy a4 p4 0 0 8) (cpy a5 p5 0 0 8) (cpy a6 p6 0 0 8) (cpy a7 p7 0 0 24) (cpy a8 p8 0 0 24) (cpy a9 p9 0 0 24) (cpy aA pA 0 0 24)) H := hP
  have hD : va_D A (wDr q C dp dw dl dn ds dk a0 a1 a2 a3 a4 a5 a6 a7 a8 a9 aA ++ wPl q C dp dw dl dn ds dk (cpy a0 p0 0 0 144) (cpy a1 p1 0 0 144) (cpy a2 p2 0 0 8) (cpy a3 p3 0 0 8) (cpy a4 p4 0 0 8) (cpy a5 p5 0 0 8) (cpy a6 p6 0 0 8) (cpy a7 p7 0 0 24) (cpy a8 p8 0 0 24) (cpy a9 p9 0 0 24) (cpy aA pA 0 0 24)) := hD
  exact hret H locs ls 215 () dX1_become_215 trivial hP hD hS
