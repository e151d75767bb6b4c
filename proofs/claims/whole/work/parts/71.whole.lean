def x00 : CS := (((0, 0, 0, 0, 0, 0, 0, 0, 0, 0, 0), (0, zf), (1, 1, 0, 0, 0, 0, zf, zf, zf, zf, zf, zf, zf, zf, zf, zf, zf), (1, 1, 0, 0, 0, 0, zf, zf, zf, zf, zf, zf, zf, zf, zf, zf, zf), (0, flf zf (-1) 24, zf), (zf, 0, 0), 0, (zf, zf)) : CS)
def y00 : MS := ((0, 0, 0, 0, zf, g00, zf, lI 0, fun _ => 0, fun _ => zf) : MS)
theorem INV_00 (q : Nat → Nat) (C : Nat → ClassId) : INV q C x00 y00 := ⟨rfl, rfl, ⟨Int.le_refl 0, by decide⟩, fun k _ _ => ⟨Int.le_refl 0, by show (0 : Int) < 256; decide⟩, rfl, rfl, ⟨Int.le_refl 0, by decide⟩, ⟨Int.le_refl 0, by decide⟩, Wf_00, PlW_00 q C, Ro3_00, HI_0 _ _ _ _⟩
theorem pL_0 (m a b c d e f g h k : va_W) : ((m ++ (a ++ (b ++ (c ++ (d ++ (e ++ (f ++ (g ++ h)))))))) ++ k).Perm (m ++ (a ++ b ++ c ++ d ++ e ++ f ++ g ++ (h ++ k))) := pmx (fun z => by simp only [List.count_append]; omega)
def qq0 (u v : Nat → Nat) : Nat → Nat := fun k => if k < 36 then u k else v k
theorem w7_eq (u v : Nat → Nat) (C : Nat → ClassId) : w7Z v C = yM (qq0 u v) C y00 := rfl
theorem w6_eq (u v : Nat → Nat) (C : Nat → ClassId) : w6Z u C = xRd (qq0 u v) C x00 ++ (xTp (qq0 u v) C x00 ++ (xDr (qq0 u v) C x00 ++ (xPl (qq0 u v) C x00 ++ (xRo (qq0 u v) C x00 ++ (xHi (qq0 u v) C x00 ++ (xBS (qq0 u v) C x00 ++ xWk (qq0 u v) C x00)))))) := rfl
theorem LW_00 (u v : Nat → Nat) (C : Nat → ClassId) (ol : Nat) (fo : Nat → Int64) : ((w7Z v C ++ w6Z u C) ++ wO ol C fo).Perm (LW (qq0 u v) C x00 y00 ol fo) := by
  rw [w7_eq u v C, w6_eq u v C]
  exact pL_0 _ _ _ _ _ _ _ _ _ _
theorem CN_callIp {p : Program} {l : Launch} {e : Env} {R : Room} {s : State} {m : MethodId} {args : Array Value} {below : List Frame} {meth : Method} {c : Code} {H : Heap} {locs : List Loc} {cells slots : Nat} {Q : State → Prop} {cc : ByteArray} {pc : Nat} {ls : Array Slot} {rest st0 : List Value} {S : Type} {y : MethodName} {wy Ts : List Cond} {fr lo mc ms n index nL maxLy : Nat} {D : va_G} {C : Nat → ClassId} {b : Nat} {As : List Value} {w wc wr : va_W} {w' wn : S → va_W} {own : String} {bytes : ByteArray} {A : Nat → Prop} {H0 : Heap} {post : S → Prop} (F : CallFix p m c cc nL s args Ts own) (hM : CN l y wy fr lo mc ms D C (.ref b :: As) wc w' post) (cw : CallB R s args own index y bytes maxLy none wy (rmC fr lo mc ms) mc ms n ∧ y.name = "<init>" ∧ (Cond.instanceMethod y).before args s = true) (hK : va_K D vwCl (ty4 C) s) (hNW : NW s) (hP : va_P D vwCl w H) (hD : va_D A w) (hS : va_S A H0 H locs) (hA : ∀ q, H0.size ≤ q → A q)
    (hp1 : w.Perm (wc ++ wr)) (hp2 : ∀ u, (w' u ++ wr).Perm (wn u)) (hn : As.length = n) (hsize : ls.size = nL) (hst : st0 = As.reverse ++ .ref b :: rest) (hW : (rest.map fun v => v.category).sum ≤ 8) (d : decode cc pc = .ok (.invokespecial index, 3)) (hf : cells + mc ≤ R.cells ∧ slots + ms ≤ R.slots)
    (k : ∀ (u : S) (H1 : Heap) (locs1 : List Loc), post u → va_P D vwCl (wn u) H1 → va_D A (wn u) → va_S A H0 H1 locs1 → W p l e R s m args below meth c H1 locs1 (cells + mc) (slots + ms) Q (F0 m (pc + 3) ls (rest))) : W p l e R s m args below meth c H locs cells slots Q (F0 m pc ls st0) := by
  have hP' := va_P_perm hp1 hP
  have hD' := va_D_perm hp1 hD
  have hPc : va_P D vwCl wc H := va_P_left hP'
  have hDc : va_D A wc := va_D_left hD'
  have hFc : ∀ q, va_A wc H.size q → A q := va_A_in hDc hS hA
  refine va_callv (va_runI (As := As) (rest := rest) F (hM H.size) cw ⟨wA_blind D C wc H.size _, fun U hU hW => ⟨rfl, by rw [hU], by rw [hU]; exact hPc, va_K.moved hW.alike hK, hDc.weaken (fun _ _ _ _ => trivial), NW_warm hNW hW⟩⟩ rfl hn hsize hst (lv_room hW) d hf) hS (fun q _ h => hFc q h) hFc (fun u t H1 locs1 ht hvm hw hB hz1 hk1 hS1 => ?_)
  obtain ⟨hP1, hK1, hD1⟩ := hB
  rw [ht] at hP1
  obtain ⟨hP2, hD2⟩ := va_beside hP' hD' hk1 hFc hP1 hD1
  exact k u H1 locs1 hw (va_P_perm (hp2 u) hP2) (va_D_perm (hp2 u) hD2) hS1
set_option maxHeartbeats 4000000 in
set_option maxRecDepth 100000 in
theorem whole_start {p : Program} {e : Env} {s : State} {m : MethodId} {below : List Frame} {meth : Method} {c : Code} (l : Launch) (hflags : l.flags = flags0) {b L : Nat} {xs : Nat → Int32} (hL : L ≤ 3072) (C0 : lw_At p s m meth c b L xs) : W p l e room_1 s m #[Value.ref b] below meth c s.heap [] 0 0 (lw_Z below #[Value.ref b] s) (entryFrame m ([Value.ref b] : List Value).toArray 7) := by
  obtain ⟨hx, hb, hr, hml, hown, htb, hX, hbl, hlocks, hgv⟩ := C0
  obtain ⟨D, C, hK⟩ := st_K htb
  obtain ⟨K, V, hXS⟩ := st_XS htb hgv
  obtain ⟨SA, hEX⟩ := st_EX htb hgv
  have hNW := st_NW htb
  have hown : s.vm.findClass RL = some m.cls := hown
  have hts : ∀ w ∈ wsL_ok, w.before #[Value.ref b] s = true := fun w h => htb w (it_ok w h)
  have E : LE p l s m c D C K V SA b L xs := ⟨hx, hb, hml, hown, hts, hK, hNW, hXS, hEX, hX, hbl, st_L l hflags, hL⟩
  have hA : ∀ q : Nat, s.heap.size ≤ q → (fun z : Nat => s.heap.size ≤ z) q := fun _ h => h
  have hS : va_S (fun z : Nat => s.heap.size ≤ z) s.heap s.heap [] := va_S.rf
  have hP : va_P D vwCl [] s.heap := va_P_nil
  have hD : va_D (fun z : Nat => s.heap.size ≤ z) [] := ⟨fun i j p q h => by simp at h, fun k q h => by simp at h⟩
  have hl := lv_entry ([.ref b]) (n := 7) (Nat.le_of_ble_eq_true rfl)
  rw [lg_entry_eq]
  generalize (lg_sl ([.ref b]) ++ List.replicate (7 - (lg_sl ([.ref b])).length) Slot.unset).toArray = ls at hl ⊢
  have hl : lv_has ls 7 [(0, .ref b)] := hl
  refine va_new (ci := 6) (fs := [.null, .null, .null, .null, .null, .null, .null, .int (iI 0)]) (C := RX6) (T := TX6) (N := 8) hx hb htb it_wsX60 tyX6 tyX6_ok hown (htb (.classLink RL 8 RX6) (by decide +kernel)) (htb (.instantiable RX6 8) (by decide +kernel)) (htb (.initialized RX6) (by decide +kernel)) hK hP hD hS hA rfl dfX6 (Nat.le_of_ble_eq_true rfl) (Nat.le_of_ble_eq_true rfl) dL_law_0 (fun h6 H hP hD hS => ?_)
  have hP : va_P D vwCl [(h6, .inr (6, [.null, .null, .null, .null, .null, .null, .null, .int (iI 0)]))] H := hP
  have hD : va_D (fun z : Nat => s.heap.size ≤ z) [(h6, .inr (6, [.null, .null, .null, .null, .null, .null, .null, .int (iI 0)]))] := hD
  refine W.widen (k := 1) (n := 8) (by omega) (by omega) ?_
  refine lv_dup hx hb dL_law_3 rfl ?_
  refine CN_callIp (As := []) (rest := [.ref h6]) (wc := [(h6, .inr (6, [.null, .null, .null, .null, .null, .null, .null, .int (iI 0)]))]) (wr := []) (wn := fun u => w6Z u C) ⟨hx, hb, hml, hown, hts⟩ (c_X6_init (h := h6)) (cwI 0 hts (gok gL_law_X6_init (by decide +kernel)) rfl rfl rfl (htb (.initialized RX6) (by decide +kernel)) (htb (.methodLink RL 18 yX6_init) (by decide +kernel)) (htb (.instanceMethod yX6_init) (by decide +kernel)) rfl (by decide +kernel) ⟨Nat.le_of_ble_eq_true rfl, Nat.le_of_ble_eq_true rfl⟩) hK hNW hP hD hS hA (List.Perm.refl _) (fun u => by rw [List.append_nil]) rfl hl.1 rfl (Nat.le_of_ble_eq_true rfl) dL_law_4 ⟨Nat.le_of_ble_eq_true rfl, Nat.le_of_ble_eq_true rfl⟩ (fun u H locs hu hP hD hS => ?_)
  refine lv_astore_n (lv' := [(1, .ref h6), (0, .ref b)]) hx hb dL_law_7 rfl hl (by decide) rfl (fun ls hl => ?_)
  refine va_new (ci := 7) (fs := [.int (iI 0), .null, .int (iI 0), .int (iI 0), .int (iI 0), .int (iI 0), .int (iI 0), .int (iI 0), .int (iI 0), .int (iI 0), .long (lI 0), .null, .null, .null, .int (iI 0), .int (iI 0), .int (iI 0), .int (iI 0), .null, .null, .null, .null, .null]) (C := RX7) (T := TX7) (N := 23) hx hb htb it_wsX70 tyX7 tyX7_ok hown (htb (.classLink RL 19 RX7) (by decide +kernel)) (htb (.instantiable RX7 23) (by decide +kernel)) (htb (.initialized RX7) (by decide +kernel)) hK hP hD hS hA rfl dfX7 (Nat.le_of_ble_eq_true rfl) (Nat.le_of_ble_eq_true rfl) dL_law_8 (fun h7 H hP hD hS => ?_)
  refine lv_dup hx hb dL_law_11 rfl ?_
  refine CN_callIp (As := []) (rest := [.ref h7]) (w := w6Z u C ++ [(h7, .inr (7, [.int (iI 0), .null, .int (iI 0), .int (iI 0), .int (iI 0), .int (iI 0), .int (iI 0), .int (iI 0), .int (iI 0), .int (iI 0), .long (lI 0), .null, .null, .null, .int (iI 0), .int (iI 0), .int (iI 0), .int (iI 0), .null, .null, .null, .null, .null]))]) (wc := [(h7, .inr (7, [.int (iI 0), .null, .int (iI 0), .int (iI 0), .int (iI 0), .int (iI 0), .int (iI 0), .int (iI 0), .int (iI 0), .int (iI 0), .long (lI 0), .null, .null, .null, .int (iI 0), .int (iI 0), .int (iI 0), .int (iI 0), .null, .null, .null, .null, .null]))]) (wr := w6Z u C) (wn := fun v => w7Z v C ++ w6Z u C) ⟨hx, hb, hml, hown, hts⟩ (c_X7_init (h := h7)) (cwI 0 hts (gok gL_law_X7_init (by decide +kernel)) rfl rfl rfl (htb (.initialized RX7) (by decide +kernel)) (htb (.methodLink RL 21 yX7_init) (by decide +kernel)) (htb (.instanceMethod yX7_init) (by decide +kernel)) rfl (by decide +kernel) ⟨Nat.le_of_ble_eq_true rfl, Nat.le_of_ble_eq_true rfl⟩) hK hNW hP hD hS hA List.perm_append_comm (fun v => List.Perm.refl _) rfl hl.1 rfl (Nat.le_of_ble_eq_true rfl) dL_law_12 ⟨Nat.le_of_ble_eq_true rfl, Nat.le_of_ble_eq_true rfl⟩ (fun v H locs hv hP hD hS => ?_)
  refine lv_astore_n (lv' := [(2, .ref h7), (1, .ref h6), (0, .ref b)]) hx hb dL_law_15 rfl hl (by decide) rfl (fun ls hl => ?_)
  refine lv_iconst (v := iI 1) hx hb dL_law_16 rfl ?_
  refine j_newL (z := 1) (N := 1) hx hb (htb (.arrayClass .long) (by decide +kernel)) hK hP hD hS hA rfl (by omega) (Nat.le_of_ble_eq_true rfl) (Nat.le_of_ble_eq_true rfl) dL_law_17 (fun ol H hP hD hS => ?_)
  refine lv_astore_n (lv' := [(3, .ref ol), (2, .ref h7), (1, .ref h6), (0, .ref b)]) hx hb dL_law_19 rfl hl (by decide) rfl (fun ls hl => ?_)
  refine lv_iconst (v := iI 0) hx hb dL_law_20 rfl ?_
  refine lv_istore (lv' := [(4, .int (iI 0)), (3, .ref ol), (2, .ref h7), (1, .ref h6), (0, .ref b)]) hx hb dL_law_21 hl (by decide) rfl (fun ls hl => ?_)
  refine W.widen (k := 100 + 0) (n := 8000 + 6 * 0) (Nat.le_of_ble_eq_true rfl) (Nat.le_of_ble_eq_true rfl) ?_
  have hl : lv_has ls 7 [(4, .int (iI 0)), (3, .ref ol), (2, .ref (v 36)), (1, .ref (u 0)), (0, .ref b)] := by rw [hu, hv]; exact hl
  exact law_loop E hr hlocks (q := qq0 u v) (ol := ol) (L + 1) 0 (by omega) (by omega) x00 y00 (fun _ => lI 0) H locs ls (INV_00 _ _) (lv_sub hl [4, 3, 2, 1, 0] rfl) (va_P_perm (LW_00 u v C ol (fun _ => lI 0)) hP) (va_D_perm (LW_00 u v C ol (fun _ => lI 0)) hD) hS
