/-! what holds at the law's entry -/
def g00 : Int → Int := up (up zf 0 1) 1 1
theorem g00_0 : g00 0 = 1 := rfl
theorem g00_1 : g00 1 = 1 := rfl
theorem g00_ge {j : Int} (h : 2 ≤ j) : g00 j = 0 := by
  unfold g00
  rw [up_n _ _ (by omega), up_n _ _ (by omega)]
  rfl
theorem g00_2 : g00 2 = 0 := g00_ge (by omega)
theorem g00_3 : g00 3 = 0 := g00_ge (by omega)
theorem Wf_00 : Wf g00 := by
  refine ⟨by rw [g00_0]; omega, by rw [g00_1]; omega, by rw [g00_2]; omega, by rw [g00_3]; omega, fun c h0 h1 => by rw [g00_ge (show 2 ≤ 4 + c by omega)]; omega, fun c h0 h1 => g00_ge (by rw [g00_0] at h0; omega), fun s h0 h1 => absurd h1 (by rw [g00_2]; omega), fun k h0 h1 => absurd h1 (by rw [g00_3]; omega), fun s k h0 h1 => absurd h1 (by rw [g00_2]; omega), fun k h0 h1 => Or.inl (g00_ge (by omega))⟩
theorem onD_00 (p t : Int) : onD g00 p t = 0 := by
  unfold onD
  rw [g00_2]
  rfl
theorem cov_00 (p t : Int) : cov g00 p t = 0 := by
  unfold cov
  rw [onD_00, g00_3]
  rfl
theorem sh_00 {p t : Int} (hp : 0 ≤ p) (ht : 0 ≤ t) : sh g00 p t = 0 := by
  unfold sh
  rw [cov_00, g00_ge (show 2 ≤ 4 + 48 * p + t by omega)]
  rfl
theorem shI_00 {t : Int} (ht : 0 ≤ t) : shI g00 t = 0 := by
  unfold shI
  have h := smI_rng (f := fun p => sh g00 p t) (a := 0) (b := 0) (i := g00 0) (by rw [g00_0]; omega) (fun k h0 _ => by show 0 ≤ sh g00 k t ∧ sh g00 k t ≤ 0; rw [sh_00 h0 ht]; omega)
  omega
theorem SF_00 : SF g00 = 0 := by
  unfold SF
  have h := smI_rng (f := shI g00) (a := 0) (b := 0) (i := 48) (by omega) (fun k h0 _ => by rw [shI_00 h0]; omega)
  omega
theorem Ro3_00 : Ro3 g00 (0, flf zf (-1) 24, zf) := ⟨SF_00.symm, fun k h0 h1 => by
  show flf zf (-1) 24 k = _
  unfold flf
  rw [if_pos ⟨h0, h1⟩, g00_ge (show 2 ≤ 192 + 5 * k by omega)]
  rfl, fun c h0 h1 => by
  show zf c = cvc g00 c
  unfold cvc
  rw [cov_00]
  rfl⟩
theorem PlW_00 (q : Nat → Nat) (C : Nat → ClassId) : PlW q C (wPl q C 1 1 0 0 0 0 zf zf zf zf zf zf zf zf zf zf zf) g00 := ⟨⟨0, 0, 0, by rw [g00_0, g00_1, g00_2, g00_3]; rfl⟩, ⟨1, zf, rfl, fun c h0 h1 => (g00_ge (show 2 ≤ 4 + c by omega)).symm⟩, ⟨2, zf, rfl, fun c h0 h1 => by unfold dtc; rw [onD_00]; rfl⟩, ⟨3, zf, rfl, fun s h0 h1 => absurd h1 (by rw [g00_2]; omega)⟩, ⟨4, zf, rfl, fun s h0 h1 => absurd h1 (by rw [g00_2]; omega)⟩, ⟨5, zf, rfl, fun s h0 h1 => absurd h1 (by rw [g00_2]; omega)⟩, ⟨6, zf, rfl, fun s h0 h1 => absurd h1 (by rw [g00_2]; omega)⟩, ⟨7, zf, rfl, fun s h0 h1 => absurd h1 (by rw [g00_2]; omega)⟩, ⟨8, zf, rfl, fun s h0 h1 => absurd h1 (by rw [g00_3]; omega)⟩, ⟨9, zf, rfl, fun s h0 h1 => absurd h1 (by rw [g00_3]; omega)⟩, ⟨10, zf, rfl, fun s h0 h1 => absurd h1 (by rw [g00_3]; omega)⟩, ⟨11, zf, rfl, fun s h0 h1 => absurd h1 (by rw [g00_3]; omega)⟩⟩
set_option maxRecDepth 20000 in
theorem st_K {args : Array Value} {s : State} (hts : ∀ w ∈ lw_tbl, w.before args s = true) : ∃ (D : va_G) (C : Nat → ClassId), va_K D vwCl (ty4 C) s := by
  obtain ⟨c0, i0, k0⟩ := u_known (C := RX0) (T := TX0) (N := 3) (n := 3) hts it_wsX00 (hts (.instantiable RX0 3) (by decide +kernel))
  obtain ⟨c1, i1, k1⟩ := u_known (C := RX1) (T := TX1) (N := 17) (n := 17) hts it_wsX10 (hts (.instantiable RX1 17) (by decide +kernel))
  obtain ⟨c2, i2, k2⟩ := u_known (C := RX2) (T := TX2) (N := 13) (n := 13) hts it_wsX20 (hts (.instantiable RX2 13) (by decide +kernel))
  obtain ⟨c3, i3, k3⟩ := u_known (C := RX3) (T := TX3) (N := 4) (n := 4) hts it_wsX30 (hts (.instantiable RX3 4) (by decide +kernel))
  obtain ⟨c4, i4, k4⟩ := u_known (C := RX4) (T := TX4) (N := 2) (n := 2) hts it_wsX40 (hts (.instantiable RX4 2) (by decide +kernel))
  obtain ⟨c5, i5, k5⟩ := u_known (C := RX5) (T := TX5) (N := 4) (n := 4) hts it_wsX50 (hts (.instantiable RX5 4) (by decide +kernel))
  obtain ⟨c6, i6, k6⟩ := u_known (C := RX6) (T := TX6) (N := 8) (n := 8) hts it_wsX60 (hts (.instantiable RX6 8) (by decide +kernel))
  obtain ⟨c7, i7, k7⟩ := u_known (C := RX7) (T := TX7) (N := 23) (n := 23) hts it_wsX70 (hts (.instantiable RX7 23) (by decide +kernel))
  obtain ⟨a0, b0, d0⟩ := ar_K (hts (.arrayClass .byte) (by decide +kernel))
  obtain ⟨a1, b1, d1⟩ := ar_K (hts (.arrayClass .int) (by decide +kernel))
  obtain ⟨a2, b2, d2⟩ := ar_K (hts (.arrayClass .boolean) (by decide +kernel))
  obtain ⟨a3, b3, d3⟩ := ar_K (hts (.arrayClass .long) (by decide +kernel))
  refine ⟨(fun k => match k with | 0 => c0 | 1 => c1 | 2 => c2 | 3 => c3 | 4 => c4 | 5 => c5 | 6 => c6 | _ => c7, fun k => match k with | 0 => i0 | 1 => i1 | 2 => i2 | 3 => i3 | 4 => i4 | 5 => i5 | 6 => i6 | _ => i7), fun k => match k with | 0 => a0 | 1 => a1 | 2 => a2 | _ => a3, fun k q hq => ?_, fun k q hq => ?_⟩
  · match k, hq with
    | 0, hq => cases hq; exact k0
    | 1, hq => cases hq; exact k1
    | 2, hq => cases hq; exact k2
    | 3, hq => cases hq; exact k3
    | 4, hq => cases hq; exact k4
    | 5, hq => cases hq; exact k5
    | 6, hq => cases hq; exact k6
    | 7, hq => cases hq; exact k7
    | k + 8, hq => simp [vwCl] at hq
  · match k, hq with
    | 0, hq => cases hq; exact ⟨b0, d0⟩
    | 1, hq => cases hq; exact ⟨b1, d1⟩
    | 2, hq => cases hq; exact ⟨b2, d2⟩
    | 3, hq => cases hq; exact ⟨b3, d3⟩
    | k + 4, hq => simp [ty4] at hq
set_option maxRecDepth 20000 in
theorem st_NW {args : Array Value} {s : State} (hts : ∀ w ∈ lw_tbl, w.before args s = true) : NW s := ⟨va_Nw.of rfl (hts (.methodLinkNest RX1 76 yX6_cellOf RX6) (by decide +kernel)), va_Nw.of rfl (hts (.methodLinkNest RX5 32 yX6_cellOf RX6) (by decide +kernel)), va_Nw.of rfl (hts (.methodLinkNest RX5 48 yX6_isSlot RX6) (by decide +kernel)), va_Nw.of rfl (hts (.methodLinkNest RX3 110 yX6_cellOf RX6) (by decide +kernel))⟩
def stT (i : Nat) : Term := .string RX2 ([102, 108, 118, 123].getD i 0)
set_option maxRecDepth 20000 in
theorem st_ma : ∀ i : Nat, i < 4 → Cond.exactly (stT i) "java/lang/String" ∈ flatC (Jvm.Cond.and given_1 narrow_1) := by decide +kernel
set_option maxRecDepth 20000 in
theorem st_mb : ∀ i : Nat, i < 4 → Cond.eq (.field (stT i) "java/lang/String" "coder" "B") (.int 0) ∈ flatC (Jvm.Cond.and given_1 narrow_1) := by decide +kernel
set_option maxRecDepth 20000 in
theorem st_mc : ∀ i : Nat, i < 4 → Cond.arrayOf (.field (stT i) "java/lang/String" "value" "[B") .byte ∈ flatC (Jvm.Cond.and given_1 narrow_1) := by decide +kernel
set_option maxRecDepth 20000 in
theorem st_md : ∀ i : Nat, i < 4 → Cond.eq (.length (.field (stT i) "java/lang/String" "value" "[B")) (.int (Int32.ofNat (stL.getD i 0))) ∈ flatC (Jvm.Cond.and given_1 narrow_1) := by decide +kernel
set_option maxRecDepth 20000 in
theorem st_me : ∀ i : Nat, i < 4 → ∀ j : Nat, j < stL.getD i 0 → Cond.eq (.elem (.field (stT i) "java/lang/String" "value" "[B") (.int (Int32.ofNat j))) (.int ((stB.getD i []).getD j 0)) ∈ flatC (Jvm.Cond.and given_1 narrow_1) := by decide +kernel
set_option maxRecDepth 20000 in
theorem st_mf : ∀ i : Nat, i < 4 → ∀ j : Nat, j < 4 → i ≠ j → (Cond.not (Cond.eq (stT i) (stT j)) ∈ flatC (Jvm.Cond.and given_1 narrow_1) ∨ Cond.not (Cond.eq (stT j) (stT i)) ∈ flatC (Jvm.Cond.and given_1 narrow_1)) := by decide +kernel
set_option maxRecDepth 20000 in
theorem st_XS {args : Array Value} {s : State} (hts : ∀ w ∈ lw_tbl, w.before args s = true) (hgv : (Jvm.Cond.and given_1 narrow_1).before args s = true) : ∃ K V : Nat → Nat, XS K V (fun q : Nat => s.heap.size ≤ q) s s.heap := by
  have hs := flat_of_before _ hgv
  have hA : ∀ a : Nat, a < s.heap.size → ¬ (fun q : Nat => s.heap.size ≤ q) a := fun a h => Nat.not_le.mpr h
  obtain ⟨K, V, hS, hev⟩ := vk_Sof (args := args) (s := s) (N := 4) (tm := stT) (len := stL) (byt := stB) (A := (fun q : Nat => s.heap.size ≤ q)) (by decide) (fun i h => hs _ (st_ma i h)) (fun i h => hs _ (st_mb i h)) (fun i h => hs _ (st_mc i h)) (fun i h => hs _ (st_md i h)) (fun i h j h2 => hs _ (st_me i h j h2)) (fun i j h h2 h3 => (st_mf i h j h2 h3).imp (hs _) (hs _)) hA
  refine ⟨K, V, hS, va_Zof (hts (.laysStatic "java/lang/String" "COMPACT_STRINGS" "Z") (by decide +kernel)) (hts (.initialized "java/lang/String") (by decide +kernel)) (va_eqt (hs (Cond.eq (.static "java/lang/String" "COMPACT_STRINGS" "Z") (.int 1)) (by decide +kernel))) hA, va_Zqof (hts (.laysStatic "jdk/internal/util/Preconditions" "SIOOBE_FORMATTER" "Ljava/util/function/BiFunction;") (by decide +kernel)) (hts (.initialized "jdk/internal/util/Preconditions") (by decide +kernel)) (hs (.isRef (.static "jdk/internal/util/Preconditions" "SIOOBE_FORMATTER" "Ljava/util/function/BiFunction;")) (by decide +kernel)) hA, ?_, ?_, ?_, ?_⟩
  · exact vk_R.of (hts (.stringRef RX2 102 "posts") (by decide +kernel)) (hev 0 (by decide))
  · exact vk_R.of (hts (.stringRef RX2 108 "need") (by decide +kernel)) (hev 1 (by decide))
  · exact vk_R.of (hts (.stringRef RX2 118 "shift") (by decide +kernel)) (hev 2 (by decide))
  · exact vk_R.of (hts (.stringRef RX2 123 "pause") (by decide +kernel)) (hev 3 (by decide))
set_option maxRecDepth 20000 in
theorem st_EX {args : Array Value} {s : State} (hts : ∀ w ∈ lw_tbl, w.before args s = true) (hgv : (Jvm.Cond.and given_1 narrow_1).before args s = true) : ∃ SA : Nat → Nat, EX SA (fun q : Nat => s.heap.size ≤ q) s s.heap := by
  have hs := flat_of_before _ hgv
  have hA : ∀ a : Nat, a < s.heap.size → ¬ (fun q : Nat => s.heap.size ≤ q) a := fun a h => Nat.not_le.mpr h
  obtain ⟨a0, -, -, -, e0, -⟩ := Cond.exactly_spec (args := args) (first := s) (o := none) (s := s) (idx := []) (t := .string RX6 122) (cls := "java/lang/String") (hs _ (by decide +kernel))
  obtain ⟨a1, -, -, -, e1, -⟩ := Cond.exactly_spec (args := args) (first := s) (o := none) (s := s) (idx := []) (t := .string RX6 143) (cls := "java/lang/String") (hs _ (by decide +kernel))
  obtain ⟨a2, -, -, -, e2, -⟩ := Cond.exactly_spec (args := args) (first := s) (o := none) (s := s) (idx := []) (t := .string RX6 148) (cls := "java/lang/String") (hs _ (by decide +kernel))
  obtain ⟨a3, -, -, -, e3, -⟩ := Cond.exactly_spec (args := args) (first := s) (o := none) (s := s) (idx := []) (t := .string RX6 165) (cls := "java/lang/String") (hs _ (by decide +kernel))
  refine ⟨fun k => match k with | 0 => a0 | 1 => a1 | 2 => a2 | _ => a3, vx_Zqof (hts (.laysStatic Bundle.tN "UNASSIGNED_STACK" Bundle.steD) (by decide +kernel)) (hts (.initialized Bundle.tN) (by decide +kernel)) (hs (.isRef (.static Bundle.tN "UNASSIGNED_STACK" Bundle.steD)) (by decide +kernel)) hA, vx_Zqof (hts (.laysStatic Bundle.tN "SUPPRESSED_SENTINEL" Bundle.listD) (by decide +kernel)) (hts (.initialized Bundle.tN) (by decide +kernel)) (hs (.isRef (.static Bundle.tN "SUPPRESSED_SENTINEL" Bundle.listD)) (by decide +kernel)) hA, ⟨?_, ?_, ?_, ?_⟩, ?_, ?_, ?_, ?_⟩
  · exact vk_R.of (hts (.stringRef RX6 122 "no such shift") (by decide +kernel)) e0
  · exact vk_R.of (hts (.stringRef RX6 143 "no such fact of a shift") (by decide +kernel)) e1
  · exact vk_R.of (hts (.stringRef RX6 148 "no such pause") (by decide +kernel)) e2
  · exact vk_R.of (hts (.stringRef RX6 165 "no such fact of a pause") (by decide +kernel)) e3
  · exact va_Nw.of rfl (hts (.declares (Bundle.initS "java/lang/RuntimeException")) (by decide +kernel))
  · exact va_Nw.of rfl (hts (.declares (Bundle.initS "java/lang/Exception")) (by decide +kernel))
  · exact va_Nw.of rfl (hts (.declares (Bundle.initS Bundle.tN)) (by decide +kernel))
  · exact va_Nw.of rfl (hts (.castable NSE NSE) (by decide +kernel))
theorem st_L (l : Launch) (h : l.flags = flags0) : l.stackTraces = false := by
  unfold Launch.stackTraces
  rw [h]
  decide +kernel
