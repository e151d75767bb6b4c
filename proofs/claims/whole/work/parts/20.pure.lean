/-! the plan by cells: what the class keeps beside the row -/
noncomputable def dtc (g : Int → Int) (c : Int) : Int := onD g (c / 48) (c % 48)
noncomputable def cvc (g : Int → Int) (c : Int) : Int := cov g (c / 48) (c % 48)
noncomputable def shc (g : Int → Int) (c : Int) : Int := max (g (4 + c) - cvc g c) 0
theorem dtc_at {g : Int → Int} {p t : Int} (h2 : 0 ≤ t) (h3 : t < 48) : dtc g (p * 48 + t) = onD g p t := by
  unfold dtc
  rw [show (p * 48 + t) / 48 = p by omega, show (p * 48 + t) % 48 = t by omega]
theorem cvc_at {g : Int → Int} {p t : Int} (h2 : 0 ≤ t) (h3 : t < 48) : cvc g (p * 48 + t) = cov g p t := by
  unfold cvc
  rw [show (p * 48 + t) / 48 = p by omega, show (p * 48 + t) % 48 = t by omega]
theorem shc_at {g : Int → Int} {p t : Int} (h2 : 0 ≤ t) (h3 : t < 48) : shc g (p * 48 + t) = sh g p t := by
  unfold shc sh
  rw [cvc_at h2 h3, show 4 + (p * 48 + t) = 4 + 48 * p + t by omega]
theorem cvc_rng {g : Int → Int} (h : Wf g) (c : Int) : -24 ≤ cvc g c ∧ cvc g c ≤ 8 := cov_rng h _ _
theorem shc_rng {g : Int → Int} (h : Wf g) {c : Int} (h0 : 0 ≤ c) (h1 : c < 144) : 0 ≤ shc g c ∧ shc g c ≤ 114 := by
  have a := Wf_need h h0 h1
  have b := cvc_rng h c
  unfold shc
  omega
theorem sm_zero {f : Int → Int} : ∀ {n : Nat}, (∀ k : Int, 0 ≤ k → k < n → f k = 0) → sm f n = 0
  | 0, _ => rfl
  | n + 1, h => by
    show sm f n + f n = 0
    rw [sm_zero (n := n) (fun k h0 h1 => h k h0 (by omega)), h n (by omega) (by omega)]
    rfl
theorem sm_split (f : Int → Int) (a : Nat) : ∀ b : Nat, sm f (a + b) = sm f a + sm (fun k => f ((a : Int) + k)) b
  | 0 => by show sm f a = sm f a + 0; omega
  | b + 1 => by
    have ih := sm_split f a b
    show sm f (a + b) + f ((a + b : Nat) : Int) = sm f a + (sm (fun k => f ((a : Int) + k)) b + f ((a : Int) + (b : Int)))
    rw [ih, show ((a + b : Nat) : Int) = (a : Int) + (b : Int) by omega]
    omega
/-- two rows that differ at one place alone -/
theorem sm_one {f h : Int → Int} {k : Int} (h0 : 0 ≤ k) : ∀ {n : Nat}, k < n → (∀ j : Int, 0 ≤ j → j < n → j ≠ k → f j = h j) → sm f n - sm h n = f k - h k
  | 0, hk, _ => by omega
  | n + 1, hk, e => by
    show sm f n + f n - (sm h n + h n) = f k - h k
    by_cases c : k = (n : Int)
    · subst c
      rw [sm_cong (f := f) (g := h) (n := n) (fun j a b => e j a (by omega) (by omega))]
      omega
    · have ih := sm_one h0 (n := n) (by omega) (fun j a b q => e j a (by omega) q)
      have e1 := e n (by omega) (by omega) (fun q => c q.symm)
      omega
theorem onD_out {g : Int → Int} (h : Wf g) {p : Int} (hp : g 0 ≤ p) (t : Int) : onD g p t = 0 := by
  have n := Wf_n h
  unfold onD smI
  refine sm_zero (fun s a b => ?_)
  have q := Wf_sh h (s := s) a (by omega)
  exact bI_f (fun x => by omega)
theorem cov_out {g : Int → Int} (h : Wf g) {p : Int} (hp : g 0 ≤ p) (t : Int) : cov g p t = 0 := by
  have n := Wf_n h
  unfold cov
  rw [onD_out h hp t]
  have e : smI (pq g p t) (g 3) = 0 := by
    unfold smI
    refine sm_zero (fun k a b => ?_)
    have q := Wf_pa h (k := k) a (by omega)
    have r := Wf_sh h q.1 q.2.1
    exact bI_f (fun x => by omega)
  rw [e]
  rfl
theorem sh_out {g : Int → Int} (h : Wf g) {p t : Int} (hp : g 0 ≤ p) (hp3 : p < 3) (h2 : 0 ≤ t) (h3 : t < 48) : sh g p t = 0 := by
  have n := Wf_n h
  unfold sh
  rw [cov_out h hp t]
  have e := h.2.2.2.2.2.1 (48 * p + t) (by omega) (by omega)
  rw [show 4 + (48 * p + t) = 4 + 48 * p + t by omega] at e
  rw [e]
  omega
theorem shI_3 {g : Int → Int} (h : Wf g) {t : Int} (h2 : 0 ≤ t) (h3 : t < 48) : shI g t = sh g 0 t + sh g 1 t + sh g 2 t := by
  have n := Wf_n h
  unfold shI smI
  rcases (show g 0 = 1 ∨ g 0 = 2 ∨ g 0 = 3 by omega) with e | e | e
  · rw [e, sh_out h (p := 1) (by omega) (by omega) h2 h3, sh_out h (p := 2) (by omega) (by omega) h2 h3]
    show (0 : Int) + sh g ((0 : Nat) : Int) t = _
    rw [show ((0 : Nat) : Int) = 0 by omega]
    omega
  · rw [e, sh_out h (p := 2) (by omega) (by omega) h2 h3]
    show (0 : Int) + sh g ((0 : Nat) : Int) t + sh g ((1 : Nat) : Int) t = _
    rw [show ((0 : Nat) : Int) = 0 by omega, show ((1 : Nat) : Int) = 1 by omega]
    omega
  · rw [e]
    show (0 : Int) + sh g ((0 : Nat) : Int) t + sh g ((1 : Nat) : Int) t + sh g ((2 : Nat) : Int) t = _
    rw [show ((0 : Nat) : Int) = 0 by omega, show ((1 : Nat) : Int) = 1 by omega, show ((2 : Nat) : Int) = 2 by omega]
    omega
theorem SF_c {g : Int → Int} (h : Wf g) : SF g = sm (shc g) 144 := by
  have e1 := sm_split (shc g) 48 96
  have e2 := sm_split (fun k => shc g (((48 : Nat) : Int) + k)) 48 48
  rw [show (48 : Nat) + 96 = 144 from rfl] at e1
  rw [show (48 : Nat) + 48 = 96 from rfl] at e2
  rw [e1, e2]
  have a0 : sm (shc g) 48 = sm (fun t => sh g 0 t) 48 := sm_cong (fun k a b => by
    have := shc_at (g := g) (p := 0) (t := k) a (by omega)
    rw [show (0 : Int) * 48 + k = k by omega] at this
    exact this)
  have a1 : sm (fun k => shc g (((48 : Nat) : Int) + k)) 48 = sm (fun t => sh g 1 t) 48 := sm_cong (fun k a b => by
    have := shc_at (g := g) (p := 1) (t := k) a (by omega)
    rw [show (1 : Int) * 48 + k = ((48 : Nat) : Int) + k by omega] at this
    exact this)
  have a2 : sm (fun k => shc g (((48 : Nat) : Int) + (((48 : Nat) : Int) + k))) 48 = sm (fun t => sh g 2 t) 48 := sm_cong (fun k a b => by
    have := shc_at (g := g) (p := 2) (t := k) a (by omega)
    rw [show (2 : Int) * 48 + k = ((48 : Nat) : Int) + (((48 : Nat) : Int) + k) by omega] at this
    exact this)
  rw [a0, a1, a2]
  show sm (shI g) 48 = _
  rw [sm_cong (f := shI g) (g := fun t => (sh g 0 t + sh g 1 t) + sh g 2 t) (n := 48) (fun k a b => shI_3 h a (by omega)), sm_add (fun t => sh g 0 t + sh g 1 t) (fun t => sh g 2 t) 48, sm_add (fun t => sh g 0 t) (fun t => sh g 1 t) 48]
  omega
/-- the post of a pause -/
def pk (g : Int → Int) (k : Int) : Int := g (148 + 5 * g (188 + 5 * k))
theorem pk_rng {g : Int → Int} (h : Wf g) {k : Int} (h0 : 0 ≤ k) (h1 : k < g 3) : 0 ≤ pk g k ∧ pk g k < 3 := by
  have n := Wf_n h
  have q := Wf_pa h h0 h1
  have r := Wf_sh h q.1 q.2.1
  unfold pk
  omega
theorem pk_lie {g : Int → Int} {k t x : Int} (hk : 0 ≤ k) (hr : g (188 + 5 * x) < 8) : pk (lie g k t) x = pk g x := by
  unfold pk
  rw [lie_a.1, lie_lo hk (by omega)]
/-- a pause that is nowhere is laid at a slot: one less in its cells -/
theorem cov_lie {g : Int → Int} (h : Wf g) {k t : Int} (h0 : 0 ≤ k) (h1 : k < g 3) (hz : g (192 + 5 * k) = 0) (ht : 0 ≤ t) (p u : Int) : cov (lie g k t) p u = cov g p u - bI (pk g k = p ∧ t ≤ u ∧ u ≤ t + g (189 + 5 * k) - 1) := by
  have n := Wf_n h
  have eo : onD (lie g k t) p u = onD g p u := by
    unfold onD
    rw [lie_lo h0 (by omega)]
    unfold smI
    refine sm_cong (fun s a b => ?_)
    unfold dq
    rw [lie_lo h0 (by omega), lie_lo h0 (by omega), lie_lo h0 (by omega)]
  have e3 : lie g k t 3 = g 3 := lie_lo h0 (by omega)
  unfold cov
  rw [eo, e3]
  unfold smI
  have one := sm_one (f := pq (lie g k t) p u) (h := pq g p u) (k := k) h0 (n := (g 3).toNat) (by omega) (fun j a b q => by
    have w := Wf_p h (k := j) a (by omega)
    unfold pq pau
    rw [lie_a.1, lie_a.2.1, lie_x q, lie_lo h0 (by omega)])
  have ek : pq g p u k = 0 := bI_f (fun x => x.2.1 (by rw [hz]; rfl))
  have w := Wf_p h h0 h1
  have el : pq (lie g k t) p u k = bI (pk g k = p ∧ t ≤ u ∧ u ≤ t + g (189 + 5 * k) - 1) := by
    unfold pq pau
    rw [lie_a.1, lie_a.2.1, lie_s, lie_lo h0 (by omega), show t + 1 - 1 = t by omega]
    exact bI_iff ⟨fun x => ⟨x.1, x.2.2⟩, fun x => ⟨x.1, by omega, x.2⟩⟩
  omega
theorem cvc_lie {g : Int → Int} (h : Wf g) {k t : Int} (h0 : 0 ≤ k) (h1 : k < g 3) (hz : g (192 + 5 * k) = 0) (ht : 0 ≤ t) (ht2 : t + g (189 + 5 * k) ≤ 48) {c : Int} (c0 : 0 ≤ c) : cvc (lie g k t) c = cvc g c - bI (pk g k * 48 + t ≤ c ∧ c < pk g k * 48 + t + g (189 + 5 * k)) := by
  unfold cvc
  rw [cov_lie h h0 h1 hz ht, bI_iff (P := pk g k = c / 48 ∧ t ≤ c % 48 ∧ c % 48 ≤ t + g (189 + 5 * k) - 1) (Q := pk g k * 48 + t ≤ c ∧ c < pk g k * 48 + t + g (189 + 5 * k)) (by
    have w := Wf_p h h0 h1
    omega)]
/-- sums over a stretch of cells -/
theorem sm_span {f h : Int → Int} {a L : Nat} : ∀ {n : Nat}, a + L ≤ n → (∀ c : Int, 0 ≤ c → c < n → ¬ ((a : Int) ≤ c ∧ c < (a : Int) + L) → f c = h c) → sm f n - sm h n = sm (fun i => f ((a : Int) + i) - h ((a : Int) + i)) L := by
  intro n hn e
  obtain ⟨r, rfl⟩ : ∃ r, n = a + L + r := ⟨n - (a + L), by omega⟩
  rw [sm_split f (a + L) r, sm_split h (a + L) r, sm_split f a L, sm_split h a L]
  have e1 : sm f a = sm h a := sm_cong (fun k x y => e k x (by omega) (by omega))
  have e2 : sm (fun k => f (((a + L : Nat) : Int) + k)) r = sm (fun k => h (((a + L : Nat) : Int) + k)) r := sm_cong (fun k x y => e _ (by omega) (by omega) (by omega))
  rw [sm_sub (fun i => f ((a : Int) + i)) (fun i => h ((a : Int) + i)) L]
  omega
/-- by how much the shortfall grows when a pause that is nowhere is laid at t: over its cells -/
noncomputable def lossN (g : Int → Int) (a : Int) (L : Nat) : Int := sm (fun i => bI (cvc g (a + i) ≤ g (4 + (a + i)))) L
theorem SF_lie {g : Int → Int} (h : Wf g) {k t : Int} (h0 : 0 ≤ k) (h1 : k < g 3) (hz : g (192 + 5 * k) = 0) (ht : g (190 + 5 * k) ≤ t ∧ t ≤ g (191 + 5 * k)) : SF (lie g k t) = SF g + lossN g (pk g k * 48 + t) (g (189 + 5 * k)).toNat := by
  have w := Wf_p h h0 h1
  have pr := pk_rng h h0 h1
  rw [SF_c (Wf_lie h h0 h1 (Or.inr ht)), SF_c h]
  have sp := sm_span (f := shc (lie g k t)) (h := shc g) (a := (pk g k * 48 + t).toNat) (L := (g (189 + 5 * k)).toNat) (n := 144) (by omega) (fun c c0 c1 q => by
    unfold shc
    rw [cvc_lie h h0 h1 hz (by omega) (by omega) c0, bI_f (by omega), lie_lo h0 (by omega)]
    omega)
  have e : sm (fun i => shc (lie g k t) ((((pk g k * 48 + t).toNat : Nat) : Int) + i) - shc g ((((pk g k * 48 + t).toNat : Nat) : Int) + i)) (g (189 + 5 * k)).toNat = lossN g (pk g k * 48 + t) (g (189 + 5 * k)).toNat := by
    unfold lossN
    refine sm_cong (fun i i0 i1 => ?_)
    rw [show (((pk g k * 48 + t).toNat : Nat) : Int) = pk g k * 48 + t by omega]
    unfold shc
    rw [cvc_lie h h0 h1 hz (by omega) (by omega) (by omega), bI_t ⟨by omega, by omega⟩, lie_lo h0 (by omega)]
    by_cases q : cvc g (pk g k * 48 + t + i) ≤ g (4 + (pk g k * 48 + t + i))
    · rw [bI_t q]; omega
    · rw [bI_f q]; omega
  omega
noncomputable def wlo (g : Int → Int) (c : Int) : Int := bI (cvc g c < g (4 + c))
noncomputable def llo (g h : Int → Int) (c : Int) : Int := bI (cvc h c ≤ g (4 + c))
/-- a placed pause taken away, and laid where it was -/
theorem lie_re {g : Int → Int} {k : Int} : lie (lie g k (-1)) k (g (192 + 5 * k) - 1) = g := by
  rw [lie_lie]
  unfold lie
  rw [show g (192 + 5 * k) - 1 + 1 = g (192 + 5 * k) by omega]
  exact up_id rfl
theorem lie_idz {g : Int → Int} {k : Int} (hz : g (192 + 5 * k) = 0) : lie g k (-1) = g := by
  unfold lie
  exact up_id (by rw [hz]; rfl)
theorem cvc_re {g : Int → Int} (h : Wf g) {k : Int} (h0 : 0 ≤ k) (h1 : k < g 3) (hz : ¬ g (192 + 5 * k) - 1 = -1) {c : Int} (c0 : 0 ≤ c) : cvc g c = cvc (lie g k (-1)) c - bI (pk g k * 48 + (g (192 + 5 * k) - 1) ≤ c ∧ c < pk g k * 48 + (g (192 + 5 * k) - 1) + g (189 + 5 * k)) := by
  have w := Wf_p h h0 h1
  have n := Wf_n h
  have at_ := Wf_at h h0 (by omega)
  have wg := Wf_lie h h0 h1 (t := -1) (Or.inl rfl)
  have e := cvc_lie wg (k := k) (t := g (192 + 5 * k) - 1) h0 (by rw [lie_lo h0 (by omega)]; exact h1) (by rw [lie_s]; rfl) (by omega) (by rw [lie_a.2.1]; omega) c0
  rw [lie_re, pk_lie h0 (by omega), lie_a.2.1] at e
  exact e
/-- the shortfall without a placed pause -/
theorem SF_wo {g : Int → Int} (h : Wf g) {k : Int} (h0 : 0 ≤ k) (h1 : k < g 3) (hz : ¬ g (192 + 5 * k) - 1 = -1) : SF (lie g k (-1)) = SF g - sm (fun i => wlo g (pk g k * 48 + (g (192 + 5 * k) - 1) + i)) (g (189 + 5 * k)).toNat := by
  have w := Wf_p h h0 h1
  have n := Wf_n h
  have at_ := Wf_at h h0 (by omega)
  have pr := pk_rng h h0 h1
  have wg := Wf_lie h h0 h1 (t := -1) (Or.inl rfl)
  have e := SF_lie wg (k := k) (t := g (192 + 5 * k) - 1) h0 (by rw [lie_lo h0 (by omega)]; exact h1) (by rw [lie_s]; rfl) (by rw [lie_a.2.2.1, lie_a.2.2.2]; omega)
  rw [lie_re, pk_lie h0 (by omega), lie_a.2.1] at e
  have e2 : lossN (lie g k (-1)) (pk g k * 48 + (g (192 + 5 * k) - 1)) (g (189 + 5 * k)).toNat = sm (fun i => wlo g (pk g k * 48 + (g (192 + 5 * k) - 1) + i)) (g (189 + 5 * k)).toNat := by
    unfold lossN
    refine sm_cong (fun i i0 i1 => ?_)
    have c := cvc_re h h0 h1 hz (c := pk g k * 48 + (g (192 + 5 * k) - 1) + i) (by omega)
    rw [bI_t ⟨by omega, by omega⟩] at c
    unfold wlo
    rw [lie_lo h0 (by omega)]
    exact bI_iff (by omega)
  omega
/-- the best slot's score is kept with it -/
theorem bst_sc {g : Int → Int} (h : Wf g) {k : Int} (h0 : 0 ≤ k) (h1 : k < g 3) : ∀ n : Nat, (n : Int) ≤ g (191 + 5 * k) + 1 - g (190 + 5 * k) → ¬ (bst g k n).1 = -2 → (bst g k n).2 = SF (lie g k (bst g k n).1)
  | 0, _, q => absurd rfl q
  | n + 1, hn, q => by
    have ih := bst_sc h h0 h1 n (by omega)
    have q : ¬ (bstep (bst g k n) (wy g k (g (190 + 5 * k) + n)) (SF (lie g k (g (190 + 5 * k) + n))) (g (190 + 5 * k) + n)).1 = -2 := q
    show (bstep (bst g k n) (wy g k (g (190 + 5 * k) + n)) (SF (lie g k (g (190 + 5 * k) + n))) (g (190 + 5 * k) + n)).2 = SF (lie g k (bstep (bst g k n) (wy g k (g (190 + 5 * k) + n)) (SF (lie g k (g (190 + 5 * k) + n))) (g (190 + 5 * k) + n)).1)
    unfold bstep at q ⊢
    by_cases c1 : 0 < wy g k (g (190 + 5 * k) + n)
    · rw [if_pos c1] at q ⊢; exact ih q
    · rw [if_neg c1] at q ⊢
      by_cases c2 : ¬ (bst g k n).1 = -2 ∧ (bst g k n).2 ≤ SF (lie g k (g (190 + 5 * k) + n))
      · rw [if_pos c2] at q ⊢; exact ih q
      · rw [if_neg c2]
/-- the search for a move goes by the best slots -/
theorem btt_best {g : Int → Int} (h : Wf g) {k : Int} (h0 : 0 ≤ k) (h1 : k < g 3) (hp : ¬ g (192 + 5 * k) - 1 = -1) {s : Int × Int} (hs : s.2 ≤ SF g) : ∀ n : Nat, (n : Int) ≤ g (191 + 5 * k) + 1 - g (190 + 5 * k) → btt g k s n = if ¬ (bst g k n).1 = -2 ∧ (bst g k n).2 < s.2 then (100 * k + (bst g k n).1, (bst g k n).2) else s
  | 0, _ => by
    show s = _
    rw [if_neg (fun q => q.1 rfl)]
  | n + 1, hn => by
    have ih := btt_best h h0 h1 hp hs n (by omega)
    have y := wy_rng g k (g (190 + 5 * k) + n)
    have pl : g (190 + 5 * k) + (n : Int) = g (192 + 5 * k) - 1 → SF (lie g k (g (190 + 5 * k) + n)) = SF g := fun e => by
      rw [e]
      unfold lie
      rw [show g (192 + 5 * k) - 1 + 1 = g (192 + 5 * k) by omega, up_id rfl]
    show mstep (btt g k s n) _ _ _ _ _ = if ¬ (bstep (bst g k n) _ _ _).1 = -2 ∧ (bstep (bst g k n) _ _ _).2 < s.2 then (100 * k + (bstep (bst g k n) _ _ _).1, (bstep (bst g k n) _ _ _).2) else s
    rw [ih]
    have w := Wf_p h h0 h1
    have tn : 0 ≤ g (190 + 5 * k) + (n : Int) := by omega
    generalize g (190 + 5 * k) + (n : Int) = t at y pl tn ⊢
    generalize SF (lie g k t) = sc at pl ⊢
    generalize wy g k t = yy at y ⊢
    generalize bst g k n = b
    unfold mstep bstep
    by_cases cy : 0 < yy
    · rw [if_pos (Or.inr (Or.inl cy)), if_pos cy]
    · rw [if_neg cy]
      by_cases cb : ¬ b.1 = -2 ∧ b.2 < s.2
      · rw [if_pos cb]
        by_cases c2 : b.2 ≤ sc
        · rw [if_pos (Or.inr (Or.inr c2)), if_pos (c := ¬ b.1 = -2 ∧ b.2 ≤ sc) ⟨cb.1, c2⟩, if_pos cb]
        · have cp : ¬ t = g (192 + 5 * k) - 1 := fun q => by have := pl q; omega
          rw [if_neg (c := t = g (192 + 5 * k) - 1 ∨ 0 < yy ∨ (100 * k + b.1, b.2).2 ≤ sc) (fun q => q.elim cp (fun q => q.elim cy c2)), if_neg (c := ¬ b.1 = -2 ∧ b.2 ≤ sc) (fun q => c2 q.2)]
          show (100 * k + t, sc) = if ¬ t = -2 ∧ sc < s.2 then (100 * k + t, sc) else s
          rw [if_pos ⟨by omega, by omega⟩]
      · rw [if_neg cb]
        by_cases c2 : ¬ b.1 = -2 ∧ b.2 ≤ sc
        · rw [if_pos (c := ¬ b.1 = -2 ∧ b.2 ≤ sc) c2, if_neg (c := ¬ b.1 = -2 ∧ b.2 < s.2) cb, if_pos (Or.inr (Or.inr (by omega)))]
        · rw [if_neg (c := ¬ b.1 = -2 ∧ b.2 ≤ sc) c2]
          show _ = if ¬ t = -2 ∧ sc < s.2 then (100 * k + t, sc) else s
          by_cases c3 : s.2 ≤ sc
          · rw [if_pos (Or.inr (Or.inr c3)), if_neg (fun q => by omega)]
          · have cp : ¬ t = g (192 + 5 * k) - 1 := fun q => by have := pl q; omega
            rw [if_neg (c := t = g (192 + 5 * k) - 1 ∨ 0 < yy ∨ s.2 ≤ sc) (fun q => q.elim cp (fun q => q.elim cy c3))]
            rw [if_pos ⟨by omega, by omega⟩]
theorem btn_best {g : Int → Int} (h : Wf g) {k : Int} (h0 : 0 ≤ k) (h1 : k < g 3) {s : Int × Int} (hs : s.2 ≤ SF g) : btn g k s = if ¬ g (192 + 5 * k) - 1 = -1 ∧ ¬ bestOf g k = -2 ∧ SF (lie g k (bestOf g k)) < s.2 then (100 * k + bestOf g k, SF (lie g k (bestOf g k))) else s := by
  unfold btn
  have w := Wf_p h h0 h1
  by_cases c : g (192 + 5 * k) - 1 = -1
  · rw [if_pos c, if_neg (fun q => q.1 c)]
  · rw [if_neg c, btt_best h h0 h1 c hs _ (by omega)]
    have sc := bst_sc h h0 h1 (g (191 + 5 * k) + 1 - g (190 + 5 * k)).toNat (by omega)
    have eb : bestOf g k = (bst g k (g (191 + 5 * k) + 1 - g (190 + 5 * k)).toNat).1 := rfl
    rw [eb]
    generalize bst g k (g (191 + 5 * k) + 1 - g (190 + 5 * k)).toNat = B at sc ⊢
    by_cases cb : B.1 = -2
    · rw [if_neg (c := ¬ B.1 = -2 ∧ B.2 < s.2) (fun q => q.1 cb), if_neg (c := ¬ g (192 + 5 * k) - 1 = -1 ∧ ¬ B.1 = -2 ∧ SF (lie g k B.1) < s.2) (fun q => q.2.1 cb)]
    · rw [← sc cb]
      by_cases c3 : B.2 < s.2
      · rw [if_pos (c := ¬ B.1 = -2 ∧ B.2 < s.2) ⟨cb, c3⟩, if_pos (c := ¬ g (192 + 5 * k) - 1 = -1 ∧ ¬ B.1 = -2 ∧ B.2 < s.2) ⟨c, cb, c3⟩]
      · rw [if_neg (c := ¬ B.1 = -2 ∧ B.2 < s.2) (fun q => c3 q.2), if_neg (c := ¬ g (192 + 5 * k) - 1 = -1 ∧ ¬ B.1 = -2 ∧ B.2 < s.2) (fun q => c3 q.2.2)]
theorem btk_le {g : Int → Int} (h : Wf g) : ∀ n : Nat, (n : Int) ≤ g 3 → (btk g n).2 ≤ SF g
  | 0, _ => Int.le_refl _
  | n + 1, hn => by
    have ih := btk_le h n (by omega)
    show (btn g n (btk g n)).2 ≤ SF g
    rw [btn_best h (by omega) (by omega) ih]
    by_cases c : ¬ g (192 + 5 * (n : Int)) - 1 = -1 ∧ ¬ bestOf g n = -2 ∧ SF (lie g n (bestOf g n)) < (btk g n).2
    · rw [if_pos c]; exact Int.le_trans (Int.le_of_lt c.2.2) ih
    · rw [if_neg c]; exact ih
