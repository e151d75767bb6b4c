/-- a part of the text was read: what came of it -/
def RN (b : Int → Int) (n : Int) (σ : PS) (e fa z t' f' s' n' w' fa' zh' q' i' d' l' : Int) (g' : Int → Int) : Prop := (z = 0 ∧ runT b n σ e = .inl (fa', zh')) ∨ (z = 1 ∧ fa' = fa ∧ ∃ e' po fr to ln ea : Int, e < e' ∧ LA b n e' t' f' s' n' w' ∧ MI (q', i', po, fr, to, ln, ea, d', l', g') ∧ runT b n σ e = runT b n (q', i', po, fr, to, ln, ea, d', l', g') e')
theorem b01z {z : Int} (h : z = 0 ∨ z = 1) : iI z = 0 ∨ iI z = 1 := by
  rcases h with e | e
  · rw [e]; exact Or.inl rfl
  · rw [e]; exact Or.inr rfl
theorem adn_0 (g : Int → Int) (po fr m : Int) : adn g po fr (fr - 1) m = g := by
  funext j
  exact if_neg (by omega)
theorem adn_s {g : Int → Int} {po fr t m : Int} (h : fr ≤ t) : up (adn g po fr (t - 1) m) (4 + 48 * po + t) (adn g po fr (t - 1) m (4 + 48 * po + t) + m) = adn g po fr (t + 1 - 1) m := by
  funext j
  by_cases e : j = 4 + 48 * po + t
  · subst e
    rw [up_s, adn_out (by omega), adn_in (by omega)]
  · rw [up_n _ _ e]
    by_cases x : 4 + 48 * po + fr ≤ j ∧ j ≤ 4 + 48 * po + (t - 1)
    · rw [adn_in x, adn_in (by omega)]
    · rw [adn_out x, adn_out (by omega)]
set_option maxHeartbeats 4000000 in
set_option maxRecDepth 100000 in
theorem c_X7_readPosts {l : Launch} {D : va_G} {C : Nat → ClassId} {q : Nat → Nat} {th ta fa sm : Int} {tape now snaps : Int → Int} {wz zz zt zf zs zn zh zg zk zl : Int} {rd : Int → Int} {sa : Nat → Int → Int} (hb9 : ∀ k : Int, 0 ≤ k → k < 640 → 0 ≤ tape k ∧ tape k < 256) (hz : 0 ≤ zz ∧ zz ≤ 640) {e0 : Int} (hLA : LA tape zz e0 zt zf zs zn wz) {spo sfr sto sln sea sli : Int} (hM : MI (0, 0, spo, sfr, sto, sln, sea, zk, sli, rd)) : CI (S := Int × Int × Int × Int × Int × Int × Int × Int × (Int → Int)) l yX7_readPosts wsX7_readPosts 4 90 D C [.ref (q 36)] (wT q C th ta fa sm tape now snaps wz zz zt zf zs zn zh zg zk zl rd sa) (fun u => wT q C th ta (u.2.2.2.2.2.2.1) sm tape now snaps (u.2.2.2.2.1) zz (u.1) (u.2.1) (u.2.2.1) (u.2.2.2.1) (u.2.2.2.2.2.2.2.1) (u.2.2.2.2.2.1) zk zl (u.2.2.2.2.2.2.2.2) sa) (fun r u => ∃ z : Int, r = iI z ∧ RN tape zz (0, 0, spo, sfr, sto, sln, sea, zk, sli, rd) e0 fa z (u.1) (u.2.1) (u.2.2.1) (u.2.2.2.1) (u.2.2.2.2.1) (u.2.2.2.2.2.2.1) (u.2.2.2.2.2.2.2.1) 1 0 zk (sli + 1) (u.2.2.2.2.2.2.2.2)) := by
  refine CZ_of (cc := cX7_readPosts) (maxL := 1) (by decide) rfl (Nat.le_of_ble_eq_true rfl) ?_
  intro p e s m below meth c A Q ls hx hb hml hown hts hK hNW hA hl hP hD hS hret
  have hl : lv_has ls 1 [(0, .ref (q 36))] := hl
  have hq0 := LA_zs hLA
  refine lv_aload_n hx hb dX7_readPosts_0 rfl (lv_at hl 0 rfl) ?_
  refine lv_bipush (v := iI (112)) hx hb dX7_readPosts_1 (by decide) ?_
  refine lv_bipush (v := iI (111)) hx hb dX7_readPosts_3 (by decide) ?_
  refine lv_bipush (v := iI (115)) hx hb dX7_readPosts_5 (by decide) ?_
  refine lv_bipush (v := iI (116)) hx hb dX7_readPosts_7 (by decide) ?_
  refine lv_bipush (v := iI (115)) hx hb dX7_readPosts_9 (by decide) ?_
  refine CR_callS (As := [.int (iI (112)), .int (iI (111)), .int (iI (115)), .int (iI (116)), .int (iI (115))]) (rest := [.ref (q 36)]) ⟨hx, hb, hml, hown, hts⟩ (c_X7_five ⟨by decide, by decide⟩ ⟨by decide, by decide⟩ ⟨by decide, by decide⟩ ⟨by decide, by decide⟩ ⟨by decide, by decide⟩) (cwS 5 hts gX7_readPosts_X7_five rfl rfl rfl (by decide +kernel) ⟨Nat.le_of_ble_eq_true rfl, Nat.le_of_ble_eq_true rfl⟩) hK hNW hP rfl hl.1 rfl (Nat.le_of_ble_eq_true rfl) dX7_readPosts_11 ⟨Nat.zero_le _, Nat.zero_le _⟩ ?_
  refine CR_callV (As := [.long (lI (27 * (729 * (27 * (112 - 96) + 111 - 96) + (27 * (115 - 96) + 116 - 96)) + 115 - 96))]) (rest := []) ⟨hx, hb, hml, hown, hts⟩ (c_X7_isWord ⟨by omega, by omega⟩ (LA_wz hLA) ⟨by decide, by decide⟩) (cwV 1 hts gX7_readPosts_X7_isWord rfl rfl rfl (by decide +kernel) ⟨Nat.le_of_ble_eq_true rfl, Nat.le_of_ble_eq_true rfl⟩) (q0 := 0) rfl rfl rfl hK hNW hP rfl hl.1 rfl (Nat.le_of_ble_eq_true rfl) dX7_readPosts_14 ⟨Nat.zero_le _, Nat.zero_le _⟩ ?_
  refine j_ifneB (tgt := 26) hx hb dX7_readPosts_17 rfl (fun c17 => ?_) (fun c17 => ?_)
  · skip
    have w0 : runT tape zz (0, 0, spo, sfr, sto, sln, sea, zk, sli, rd) e0 = runT tape zz (5, 0, spo, sfr, sto, sln, sea, zk, sli, rd) zt := (LA_wd (w := 1) hLA c17.1 (Or.inl ⟨rfl, by omega⟩)).2 _ rfl
    have m0 := (MI_0 hM).2
    have zr := LA_zt hLA (by omega)
    refine lv_aload_n hx hb dX7_readPosts_26 rfl (lv_at hl 0 rfl) ?_
    refine CV_callV0 (As := []) (rest := []) ⟨hx, hb, hml, hown, hts⟩ (c_X7_go hb9 hz ⟨by omega, by omega⟩) (cwV 0 hts gX7_readPosts_X7_go rfl rfl rfl (by decide +kernel) ⟨Nat.le_of_ble_eq_true rfl, Nat.le_of_ble_eq_true rfl⟩) (q0 := 0) rfl rfl rfl hK hNW hP hD hS hA rfl hl.1 rfl (Nat.le_of_ble_eq_true rfl) dX7_readPosts_27 ⟨Nat.zero_le _, Nat.zero_le _⟩ (fun ⟨t27, f27, s27, n27, w27⟩ H locs hw9 hP hD hS => ?_)
    have hP : va_P D vwCl (wT q C th ta fa sm tape now snaps w27 zz t27 f27 s27 n27 zh zg zk zl rd sa) H := hP
    have hD : va_D A (wT q C th ta fa sm tape now snaps w27 zz t27 f27 s27 n27 zh zg zk zl rd sa) := hD
    have hLA27 : LA tape zz zt t27 f27 s27 n27 w27 := hw9
    have hq27 := LA_zs hLA27
    refine lv_aload_n hx hb dX7_readPosts_30 rfl (lv_at hl 0 rfl) ?_
    refine lv_iconst (v := iI (0)) hx hb dX7_readPosts_31 rfl ?_
    refine lv_iconst (v := iI (1)) hx hb dX7_readPosts_32 rfl ?_
    refine lv_iconst (v := iI (3)) hx hb dX7_readPosts_33 rfl ?_
    refine CI_callV0 (As := [.int (iI (0)), .int (iI (1)), .int (iI (3))]) (rest := []) ⟨hx, hb, hml, hown, hts⟩ (c_X7_told (σ := (5, 0, spo, sfr, sto, sln, sea, zk, sli, rd)) hb9 hz hLA27 (show (5 : Int) ≤ 5 by decide) rfl rfl ⟨by decide, by decide⟩ ⟨by decide, by decide⟩ ⟨by omega, by omega⟩) (cwV 3 hts gX7_readPosts_X7_told rfl rfl rfl (by decide +kernel) ⟨Nat.le_of_ble_eq_true rfl, Nat.le_of_ble_eq_true rfl⟩) (q0 := 0) rfl rfl rfl hK hNW hP hD hS hA rfl hl.1 rfl (Nat.le_of_ble_eq_true rfl) dX7_readPosts_34 ⟨Nat.zero_le _, Nat.zero_le _⟩ (fun r ⟨t34, f34, s34, n34, w34, g34, fa34, zh34, r34⟩ H locs hw9 hP hD hS => ?_)
    obtain ⟨z34, hr9, hw9, hv9⟩ := hw9
    subst hr9
    have hz34 : TP tape zz (5, 0, spo, sfr, sto, sln, sea, zk, sli, rd) zt t27 n27 1 3 fa z34 t34 f34 s34 n34 w34 g34 fa34 zh34 := hw9
    have hv34 : z34 = 1 → r34 = up rd 0 n27 := hv9
    have zb34 : z34 = 0 ∨ z34 = 1 := hz34.elim (fun z => Or.inl z.1) (fun z => Or.inr z.1)
    have hP : va_P D vwCl (wT q C th ta fa34 sm tape now snaps w34 zz t34 f34 s34 n34 zh34 g34 zk zl r34 sa) H := hP
    have hD : va_D A (wT q C th ta fa34 sm tape now snaps w34 zz t34 f34 s34 n34 zh34 g34 zk zl r34 sa) := hD
    refine j_if_eq (tgt := 61) hx hb dX7_readPosts_37 rfl ⟨by omega, by omega⟩ (fun c37 => ?_) (fun c37 => ?_)
    · skip
      have no34 := (hz34.resolve_right (fun z => by have := z.1; omega)).2
      refine lv_iconst (v := iI (0)) hx hb dX7_readPosts_61 rfl ?_
      exact hret H locs ls 62 _ (t34, f34, s34, n34, w34, g34, fa34, zh34, r34) dX7_readPosts_62 (Or.inl rfl) ⟨0, rfl, Or.inl ⟨rfl, w0.trans no34⟩⟩ hP hD hS
    · skip
      have ok34 := (hz34.resolve_left (fun z => by have := z.1; omega)).2
      have e34 : r34 = up rd 0 n27 := hv34 (by omega)
      have m1 := MI_5 m0 ok34.2.1 ok34.2.2.1
      rw [← e34] at m1
      have w1 : runT tape zz (0, 0, spo, sfr, sto, sln, sea, zk, sli, rd) e0 = runT tape zz (6, 0, spo, sfr, sto, sln, sea, zk, sli, r34) t27 := by rw [w0, e34]; exact ok34.2.2.2.2.2.2
      have q34 := LA_zs ok34.2.2.2.2.1
      refine lv_aload_n hx hb dX7_readPosts_40 rfl (lv_at hl 0 rfl) ?_
      refine lv_iconst (v := iI (1)) hx hb dX7_readPosts_41 rfl ?_
      refine lv_iconst (v := iI (1)) hx hb dX7_readPosts_42 rfl ?_
      refine lv_iconst (v := iI (4)) hx hb dX7_readPosts_43 rfl ?_
      refine CI_callV0 (As := [.int (iI (1)), .int (iI (1)), .int (iI (4))]) (rest := []) ⟨hx, hb, hml, hown, hts⟩ (c_X7_told (σ := (6, 0, spo, sfr, sto, sln, sea, zk, sli, r34)) hb9 hz ok34.2.2.2.2.1 (show (5 : Int) ≤ 6 by decide) rfl rfl ⟨by decide, by decide⟩ ⟨by decide, by decide⟩ ⟨by omega, by omega⟩) (cwV 3 hts gX7_readPosts_X7_told rfl rfl rfl (by decide +kernel) ⟨Nat.le_of_ble_eq_true rfl, Nat.le_of_ble_eq_true rfl⟩) (q0 := 0) rfl rfl rfl hK hNW hP hD hS hA rfl hl.1 rfl (Nat.le_of_ble_eq_true rfl) dX7_readPosts_44 ⟨Nat.zero_le _, Nat.zero_le _⟩ (fun r ⟨t44, f44, s44, n44, w44, g44, fa44, zh44, r44⟩ H locs hw9 hP hD hS => ?_)
      obtain ⟨z44, hr9, hw9, hv9⟩ := hw9
      subst hr9
      have hz44 : TP tape zz (6, 0, spo, sfr, sto, sln, sea, zk, sli, r34) t27 t34 n34 1 4 fa34 z44 t44 f44 s44 n44 w44 g44 fa44 zh44 := hw9
      have hv44 : z44 = 1 → r44 = up r34 1 n34 := hv9
      have zb44 : z44 = 0 ∨ z44 = 1 := hz44.elim (fun z => Or.inl z.1) (fun z => Or.inr z.1)
      have hP : va_P D vwCl (wT q C th ta fa44 sm tape now snaps w44 zz t44 f44 s44 n44 zh44 g44 zk zl r44 sa) H := hP
      have hD : va_D A (wT q C th ta fa44 sm tape now snaps w44 zz t44 f44 s44 n44 zh44 g44 zk zl r44 sa) := hD
      refine j_if_eq (tgt := 61) hx hb dX7_readPosts_47 rfl ⟨by omega, by omega⟩ (fun c47 => ?_) (fun c47 => ?_)
      · skip
        have no44 := (hz44.resolve_right (fun z => by have := z.1; omega)).2
        refine lv_iconst (v := iI (0)) hx hb dX7_readPosts_61 rfl ?_
        exact hret H locs ls 62 _ (t44, f44, s44, n44, w44, g44, fa44, zh44, r44) dX7_readPosts_62 (Or.inl rfl) ⟨0, rfl, Or.inl ⟨rfl, w1.trans no44⟩⟩ hP hD hS
      · skip
        have ok44 := (hz44.resolve_left (fun z => by have := z.1; omega)).2
        have e44 : r44 = up r34 1 n34 := hv44 (by omega)
        have m2 := MI_6 m1 ok44.2.1 ok44.2.2.1
        rw [← e44] at m2
        have w2 : runT tape zz (0, 0, spo, sfr, sto, sln, sea, zk, sli, rd) e0 = runT tape zz (4, 0, spo, sfr, sto, sln, sea, zk, sli, r44) t34 := by rw [w1, e44]; exact ok44.2.2.2.2.2.2
        have q44 := LA_zs ok44.2.2.2.2.1
        refine lv_aload_n hx hb dX7_readPosts_50 rfl (lv_at hl 0 rfl) ?_
        refine CI_callV0 (As := []) (rest := []) ⟨hx, hb, hml, hown, hts⟩ (c_X7_readEnd (sq := 4) (si := 0) (spo := spo) (sfr := sfr) (sto := sto) (sln := sln) (sea := sea) (snd := zk) (sli := sli) (sg := r44) hb9 hz ok44.2.2.2.2.1 (Or.inl rfl) (fun z => by omega)) (cwV 0 hts gX7_readPosts_X7_readEnd rfl rfl rfl (by decide +kernel) ⟨Nat.le_of_ble_eq_true rfl, Nat.le_of_ble_eq_true rfl⟩) (q0 := 0) rfl rfl rfl hK hNW hP hD hS hA rfl hl.1 rfl (Nat.le_of_ble_eq_true rfl) dX7_readPosts_51 ⟨Nat.zero_le _, Nat.zero_le _⟩ (fun r ⟨t51, f51, s51, n51, w51, fa51, zh51⟩ H locs hw9 hP hD hS => ?_)
        obtain ⟨z51, hr9, hw9⟩ := hw9
        subst hr9
        have hz51 : EP tape zz (4, 0, spo, sfr, sto, sln, sea, zk, sli, r44) t34 t44 fa44 z51 t51 f51 s51 n51 w51 fa51 zh51 (1, 0, spo, sfr, sto, sln, sea, zk, sli + 1, r44) := hw9
        have zb51 : z51 = 0 ∨ z51 = 1 := hz51.elim (fun z => Or.inl z.1) (fun z => Or.inr z.1)
        have hP : va_P D vwCl (wT q C th ta fa51 sm tape now snaps w51 zz t51 f51 s51 n51 zh51 g44 zk zl r44 sa) H := hP
        have hD : va_D A (wT q C th ta fa51 sm tape now snaps w51 zz t51 f51 s51 n51 zh51 g44 zk zl r44 sa) := hD
        refine j_if_eq (tgt := 61) hx hb dX7_readPosts_54 rfl ⟨by omega, by omega⟩ (fun c54 => ?_) (fun c54 => ?_)
        · skip
          have no51 := (hz51.resolve_right (fun z => by have := z.1; omega)).2
          refine lv_iconst (v := iI (0)) hx hb dX7_readPosts_61 rfl ?_
          exact hret H locs ls 62 _ (t51, f51, s51, n51, w51, g44, fa51, zh51, r44) dX7_readPosts_62 (Or.inl rfl) ⟨0, rfl, Or.inl ⟨rfl, w2.trans no51⟩⟩ hP hD hS
        · skip
          have ok51 := (hz51.resolve_left (fun z => by have := z.1; omega)).2
          have m3 := (MI_4 m2).2
          refine lv_iconst (v := iI (1)) hx hb dX7_readPosts_57 rfl ?_
          refine lv_goto (tgt := 62) hx hb dX7_readPosts_58 rfl ?_
          exact hret H locs ls 62 _ (t51, f51, s51, n51, w51, g44, fa51, zh51, r44) dX7_readPosts_62 (Or.inr rfl) ⟨1, rfl, Or.inr ⟨rfl, by show fa51 = fa; have := ok51.1; have := ok44.2.2.2.1; have := ok34.2.2.2.1; omega, t44, spo, sfr, sto, sln, sea, by have := ok34.2.2.2.2.2.1; have := ok44.2.2.2.2.2.1; have := ok51.2.2.1; omega, ok51.2.1, m3, w2.trans ok51.2.2.2⟩⟩ hP hD hS
  · skip
    refine lv_aload_n hx hb dX7_readPosts_20 rfl (lv_at hl 0 rfl) ?_
    refine lv_iconst (v := iI (1)) hx hb dX7_readPosts_21 rfl ?_
    refine CI_callV0 (As := [.int (iI (1))]) (rest := []) ⟨hx, hb, hml, hown, hts⟩ (c_X7_bad ⟨by omega, by omega⟩) (cwV 1 hts gX7_readPosts_X7_bad rfl rfl rfl (by decide +kernel) ⟨Nat.le_of_ble_eq_true rfl, Nat.le_of_ble_eq_true rfl⟩) (q0 := 0) rfl rfl rfl hK hNW hP hD hS hA rfl hl.1 rfl (Nat.le_of_ble_eq_true rfl) dX7_readPosts_22 ⟨Nat.zero_le _, Nat.zero_le _⟩ (fun r b22 H locs hw9 hP hD hS => ?_)
    obtain ⟨hr9, hb22⟩ := hw9
    subst hr9
    have hP : va_P D vwCl (wT q C th ta b22 sm tape now snaps wz zz zt zf zs zn zf zg zk zl rd sa) H := hP
    have hD : va_D A (wT q C th ta b22 sm tape now snaps wz zz zt zf zs zn zf zg zk zl rd sa) := hD
    exact hret H locs ls 25 _ (zt, zf, zs, zn, wz, zg, b22, zf, rd) dX7_readPosts_25 (Or.inl rfl) ⟨0, rfl, Or.inl ⟨rfl, by show _ = Sum.inl (b22, zf); rw [hb22, ite_self]; exact (LA_no hLA (Or.inl rfl) (fun _ z => c17 ⟨z.1, by omega⟩) (fun z => by omega) (fun z => by omega)).1 (Or.inl rfl)⟩⟩ hP hD hS

set_option maxHeartbeats 4000000 in
set_option maxRecDepth 100000 in
theorem c_X7_readNeed {l : Launch} {D : va_G} {C : Nat → ClassId} {q : Nat → Nat} {th ta fa sm : Int} {tape now snaps : Int → Int} {wz zz zt zf zs zn zh zg zk zl : Int} {rd : Int → Int} {sa : Nat → Int → Int} (hb9 : ∀ k : Int, 0 ≤ k → k < 640 → 0 ≤ tape k ∧ tape k < 256) (hz : 0 ≤ zz ∧ zz ≤ 640) {e0 : Int} (hLA : LA tape zz e0 zt zf zs zn wz) {spo sfr sto sln sea sli : Int} (hM : MI (1, 0, spo, sfr, sto, sln, sea, zk, sli, rd)) (hwd : zs = 2 ∧ wz = 279346) : CI (S := Int × Int × Int × Int × Int × Int × Int × Int × Int × (Int → Int)) l yX7_readNeed wsX7_readNeed 3 67 D C [.ref (q 36)] (wT q C th ta fa sm tape now snaps wz zz zt zf zs zn zh zg zk zl rd sa) (fun u => wT q C th ta (u.2.2.2.2.2.2.1) sm tape now snaps (u.2.2.2.2.1) zz (u.1) (u.2.1) (u.2.2.1) (u.2.2.2.1) (u.2.2.2.2.2.2.2.1) (u.2.2.2.2.2.1) (u.2.2.2.2.2.2.2.2.1) zl (u.2.2.2.2.2.2.2.2.2) sa) (fun r u => ∃ z : Int, r = iI z ∧ RN tape zz (1, 0, spo, sfr, sto, sln, sea, zk, sli, rd) e0 fa z (u.1) (u.2.1) (u.2.2.1) (u.2.2.2.1) (u.2.2.2.2.1) (u.2.2.2.2.2.2.1) (u.2.2.2.2.2.2.2.1) 1 0 (u.2.2.2.2.2.2.2.2.1) (sli + 1) (u.2.2.2.2.2.2.2.2.2)) := by
  refine CZ_of (cc := cX7_readNeed) (maxL := 5) (by decide) rfl (Nat.le_of_ble_eq_true rfl) ?_
  intro p e s m below meth c A Q ls hx hb hml hown hts hK hNW hA hl hP hD hS hret
  have hl : lv_has ls 5 [(0, .ref (q 36))] := hl
  have hq0 := LA_zs hLA
  have h0 := hM.1.2.2.2.2.2.1 (by omega)
  have h10 := hM.1.2.2.1
  have lw := LA_wd (w := 2) hLA hwd.1 (Or.inr (Or.inl ⟨rfl, hwd.2⟩)) (σ := (1, 0, spo, sfr, sto, sln, sea, zk, sli, rd))
  refine lv_aload_n hx hb dX7_readNeed_0 rfl (lv_at hl 0 rfl) ?_
  refine va_get (D := D) (ci := 7) (v := .int (iI (zk))) (C := RX7) (T := TX7) (N := 23) hx hb hts (by decide +kernel) hown hK hP 0 rfl rfl 16 (by decide) (hts (.fieldLink RX7 131 "BreakSetterModel" "needs" "I") (by decide +kernel)) (fun _ h9 => h9) rfl dX7_readNeed_1 ?_
  refine lv_bipush (v := iI (10)) hx hb dX7_readNeed_4 (by decide) ?_
  refine j_icmp_ne (tgt := 15) hx hb dX7_readNeed_6 rfl ⟨by omega, by omega⟩ ⟨by decide, by decide⟩ (fun c6 => ?_) (fun c6 => ?_)
  · skip
    have w0 : runT tape zz (1, 0, spo, sfr, sto, sln, sea, zk, sli, rd) e0 = runT tape zz (7, 0, spo, sfr, sto, sln, sea, zk, sli, rd) zt := lw.2 _ (if_neg (show ¬ 10 ≤ zk by omega))
    have m0 := (MI_1n hM (by omega)).2
    have zr := LA_zt hLA (by omega)
    refine lv_aload_n hx hb dX7_readNeed_15 rfl (lv_at hl 0 rfl) ?_
    refine CV_callV0 (As := []) (rest := []) ⟨hx, hb, hml, hown, hts⟩ (c_X7_go hb9 hz ⟨by omega, by omega⟩) (cwV 0 hts gX7_readNeed_X7_go rfl rfl rfl (by decide +kernel) ⟨Nat.le_of_ble_eq_true rfl, Nat.le_of_ble_eq_true rfl⟩) (q0 := 0) rfl rfl rfl hK hNW hP hD hS hA rfl hl.1 rfl (Nat.le_of_ble_eq_true rfl) dX7_readNeed_16 ⟨Nat.zero_le _, Nat.zero_le _⟩ (fun ⟨t16, f16, s16, n16, w16⟩ H locs hw9 hP hD hS => ?_)
    have hP : va_P D vwCl (wT q C th ta fa sm tape now snaps w16 zz t16 f16 s16 n16 zh zg zk zl rd sa) H := hP
    have hD : va_D A (wT q C th ta fa sm tape now snaps w16 zz t16 f16 s16 n16 zh zg zk zl rd sa) := hD
    have hLA16 : LA tape zz zt t16 f16 s16 n16 w16 := hw9
    have hq16 := LA_zs hLA16
    refine lv_aload_n hx hb dX7_readNeed_19 rfl (lv_at hl 0 rfl) ?_
    refine lv_iconst (v := iI (0)) hx hb dX7_readNeed_20 rfl ?_
    refine lv_aload_n hx hb dX7_readNeed_21 rfl (lv_at hl 0 rfl) ?_
    refine va_get (D := D) (ci := 7) (v := .ref (q 39)) (C := RX7) (T := TX7) (N := 23) hx hb hts (by decide +kernel) hown hK hP 0 rfl rfl 12 (by decide) (hts (.fieldLink RX7 77 "BreakSetterModel" "read" "[I") (by decide +kernel)) (fun _ h9 => h9) rfl dX7_readNeed_22 ?_
    refine lv_iconst (v := iI (0)) hx hb dX7_readNeed_25 rfl ?_
    refine j_iald hx hb hK hP 3 1 rfl rfl ⟨by omega, by omega⟩ (Nat.le_of_ble_eq_true rfl) dX7_readNeed_26 ?_
    refine lv_iconst (v := iI (1)) hx hb dX7_readNeed_27 rfl ?_
    refine j_isub hx hb dX7_readNeed_28 ?_
    refine CI_callV0 (As := [.int (iI (0)), .int (iI ((rd 0) - 1))]) (rest := []) ⟨hx, hb, hml, hown, hts⟩ (c_X7_takes (σ := (7, 0, spo, sfr, sto, sln, sea, zk, sli, rd)) hb9 hz hLA16 (show (5 : Int) ≤ 7 by decide) rfl rfl ⟨by decide, by decide⟩ ⟨by omega, by omega⟩) (cwV 2 hts gX7_readNeed_X7_takes rfl rfl rfl (by decide +kernel) ⟨Nat.le_of_ble_eq_true rfl, Nat.le_of_ble_eq_true rfl⟩) (q0 := 0) rfl rfl rfl hK hNW hP hD hS hA rfl hl.1 rfl (Nat.le_of_ble_eq_true rfl) dX7_readNeed_29 ⟨Nat.zero_le _, Nat.zero_le _⟩ (fun r ⟨t29, f29, s29, n29, w29, g29, fa29, zh29⟩ H locs hw9 hP hD hS => ?_)
    obtain ⟨z29, hr9, hw9⟩ := hw9
    subst hr9
    have hz29 : TP tape zz (7, 0, spo, sfr, sto, sln, sea, zk, sli, rd) zt t16 n16 0 ((rd 0) - 1) fa z29 t29 f29 s29 n29 w29 g29 fa29 zh29 := hw9
    have zb29 : z29 = 0 ∨ z29 = 1 := hz29.elim (fun z => Or.inl z.1) (fun z => Or.inr z.1)
    have hP : va_P D vwCl (wT q C th ta fa29 sm tape now snaps w29 zz t29 f29 s29 n29 zh29 g29 zk zl rd sa) H := hP
    have hD : va_D A (wT q C th ta fa29 sm tape now snaps w29 zz t29 f29 s29 n29 zh29 g29 zk zl rd sa) := hD
    refine j_if_ne (tgt := 37) hx hb dX7_readNeed_32 rfl ⟨by omega, by omega⟩ (fun c32 => ?_) (fun c32 => ?_)
    · skip
      have ok29 := (hz29.resolve_left (fun z => c32 z.1)).2
      have m1 := MI_7o m0 ok29.2.1 ok29.2.2.1
      have w1 : runT tape zz (1, 0, spo, sfr, sto, sln, sea, zk, sli, rd) e0 = runT tape zz (8, 0, n16, sfr, sto, sln, sea, zk, sli, rd) t16 := by rw [w0]; exact ok29.2.2.2.2.2.2
      have q29 := LA_zs ok29.2.2.2.2.1
      have y29 := ok29.1
      have x29 := ok29.2.1
      have v29 := ok29.2.2.1
      refine lv_aload_n hx hb dX7_readNeed_37 rfl (lv_at hl 0 rfl) ?_
      refine va_get (D := D) (ci := 7) (v := .int (iI (g29))) (C := RX7) (T := TX7) (N := 23) hx hb hts (by decide +kernel) hown hK hP 0 rfl rfl 15 (by decide) (hts (.fieldLink RX7 106 "BreakSetterModel" "got" "I") (by decide +kernel)) (fun _ h9 => h9) rfl dX7_readNeed_38 ?_
      refine lv_istore_n (lv' := [(1, .int (iI (g29))), (0, .ref (q 36))]) hx hb dX7_readNeed_41 rfl hl (by decide) rfl (fun ls hl => ?_)
      refine lv_aload_n hx hb dX7_readNeed_42 rfl (lv_at hl 1 rfl) ?_
      refine lv_iconst (v := iI (0)) hx hb dX7_readNeed_43 rfl ?_
      refine lv_bipush (v := iI (47)) hx hb dX7_readNeed_44 (by decide) ?_
      refine CI_callV0 (As := [.int (iI (0)), .int (iI (47))]) (rest := []) ⟨hx, hb, hml, hown, hts⟩ (c_X7_takes (σ := (8, 0, n16, sfr, sto, sln, sea, zk, sli, rd)) hb9 hz ok29.2.2.2.2.1 (show (5 : Int) ≤ 8 by decide) rfl rfl ⟨by decide, by decide⟩ ⟨by decide, by decide⟩) (cwV 2 hts gX7_readNeed_X7_takes rfl rfl rfl (by decide +kernel) ⟨Nat.le_of_ble_eq_true rfl, Nat.le_of_ble_eq_true rfl⟩) (q0 := 0) rfl rfl rfl hK hNW hP hD hS hA rfl hl.1 rfl (Nat.le_of_ble_eq_true rfl) dX7_readNeed_46 ⟨Nat.zero_le _, Nat.zero_le _⟩ (fun r ⟨t46, f46, s46, n46, w46, g46, fa46, zh46⟩ H locs hw9 hP hD hS => ?_)
      obtain ⟨z46, hr9, hw9⟩ := hw9
      subst hr9
      have hz46 : TP tape zz (8, 0, n16, sfr, sto, sln, sea, zk, sli, rd) t16 t29 n29 0 47 fa29 z46 t46 f46 s46 n46 w46 g46 fa46 zh46 := hw9
      have zb46 : z46 = 0 ∨ z46 = 1 := hz46.elim (fun z => Or.inl z.1) (fun z => Or.inr z.1)
      have hP : va_P D vwCl (wT q C th ta fa46 sm tape now snaps w46 zz t46 f46 s46 n46 zh46 g46 zk zl rd sa) H := hP
      have hD : va_D A (wT q C th ta fa46 sm tape now snaps w46 zz t46 f46 s46 n46 zh46 g46 zk zl rd sa) := hD
      refine j_if_ne (tgt := 54) hx hb dX7_readNeed_49 rfl ⟨by omega, by omega⟩ (fun c49 => ?_) (fun c49 => ?_)
      · skip
        have ok46 := (hz46.resolve_left (fun z => c49 z.1)).2
        have m2 := MI_8o m1 ok46.2.1 ok46.2.2.1
        have w2 : runT tape zz (1, 0, spo, sfr, sto, sln, sea, zk, sli, rd) e0 = runT tape zz (9, 0, n16, n29, sto, sln, sea, zk, sli, rd) t29 := by rw [w1]; exact ok46.2.2.2.2.2.2
        have q46 := LA_zs ok46.2.2.2.2.1
        have y46 := ok46.1
        have x46 := ok46.2.1
        have v46 := ok46.2.2.1
        refine lv_aload_n hx hb dX7_readNeed_54 rfl (lv_at hl 1 rfl) ?_
        refine va_get (D := D) (ci := 7) (v := .int (iI (g46))) (C := RX7) (T := TX7) (N := 23) hx hb hts (by decide +kernel) hown hK hP 0 rfl rfl 15 (by decide) (hts (.fieldLink RX7 106 "BreakSetterModel" "got" "I") (by decide +kernel)) (fun _ h9 => h9) rfl dX7_readNeed_55 ?_
        refine lv_istore_n (lv' := [(2, .int (iI (g46))), (1, .int (iI (g29))), (0, .ref (q 36))]) hx hb dX7_readNeed_58 rfl hl (by decide) rfl (fun ls hl => ?_)
        refine lv_aload_n hx hb dX7_readNeed_59 rfl (lv_at hl 2 rfl) ?_
        refine lv_iload_n hx hb dX7_readNeed_60 rfl (lv_at hl 0 rfl) ?_
        refine lv_bipush (v := iI (47)) hx hb dX7_readNeed_61 (by decide) ?_
        refine CI_callV0 (As := [.int (iI (g46)), .int (iI (47))]) (rest := []) ⟨hx, hb, hml, hown, hts⟩ (c_X7_takes (σ := (9, 0, n16, n29, sto, sln, sea, zk, sli, rd)) hb9 hz ok46.2.2.2.2.1 (show (5 : Int) ≤ 9 by decide) ok46.1.symm rfl ⟨by omega, by omega⟩ ⟨by decide, by decide⟩) (cwV 2 hts gX7_readNeed_X7_takes rfl rfl rfl (by decide +kernel) ⟨Nat.le_of_ble_eq_true rfl, Nat.le_of_ble_eq_true rfl⟩) (q0 := 0) rfl rfl rfl hK hNW hP hD hS hA rfl hl.1 rfl (Nat.le_of_ble_eq_true rfl) dX7_readNeed_63 ⟨Nat.zero_le _, Nat.zero_le _⟩ (fun r ⟨t63, f63, s63, n63, w63, g63, fa63, zh63⟩ H locs hw9 hP hD hS => ?_)
        obtain ⟨z63, hr9, hw9⟩ := hw9
        subst hr9
        have hz63 : TP tape zz (9, 0, n16, n29, sto, sln, sea, zk, sli, rd) t29 t46 n46 g46 47 fa46 z63 t63 f63 s63 n63 w63 g63 fa63 zh63 := hw9
        have zb63 : z63 = 0 ∨ z63 = 1 := hz63.elim (fun z => Or.inl z.1) (fun z => Or.inr z.1)
        have hP : va_P D vwCl (wT q C th ta fa63 sm tape now snaps w63 zz t63 f63 s63 n63 zh63 g63 zk zl rd sa) H := hP
        have hD : va_D A (wT q C th ta fa63 sm tape now snaps w63 zz t63 f63 s63 n63 zh63 g63 zk zl rd sa) := hD
        refine j_if_ne (tgt := 71) hx hb dX7_readNeed_66 rfl ⟨by omega, by omega⟩ (fun c66 => ?_) (fun c66 => ?_)
        · skip
          have ok63 := (hz63.resolve_left (fun z => c66 z.1)).2
          have m3 := MI_9o m2 (by have := ok63.2.1; omega) ok63.2.2.1
          have w3 : runT tape zz (1, 0, spo, sfr, sto, sln, sea, zk, sli, rd) e0 = runT tape zz (10, 0, n16, n29, n46, sln, sea, zk, sli, rd) t46 := by rw [w2]; exact ok63.2.2.2.2.2.2
          have q63 := LA_zs ok63.2.2.2.2.1
          have y63 := ok63.1
          have x63 := ok63.2.1
          have v63 := ok63.2.2.1
          refine lv_aload_n hx hb dX7_readNeed_71 rfl (lv_at hl 2 rfl) ?_
          refine va_get (D := D) (ci := 7) (v := .int (iI (g63))) (C := RX7) (T := TX7) (N := 23) hx hb hts (by decide +kernel) hown hK hP 0 rfl rfl 15 (by decide) (hts (.fieldLink RX7 106 "BreakSetterModel" "got" "I") (by decide +kernel)) (fun _ h9 => h9) rfl dX7_readNeed_72 ?_
          refine lv_istore_n (lv' := [(3, .int (iI (g63))), (2, .int (iI (g46))), (1, .int (iI (g29))), (0, .ref (q 36))]) hx hb dX7_readNeed_75 rfl hl (by decide) rfl (fun ls hl => ?_)
          refine lv_aload_n hx hb dX7_readNeed_76 rfl (lv_at hl 3 rfl) ?_
          refine lv_iconst (v := iI (0)) hx hb dX7_readNeed_77 rfl ?_
          refine lv_bipush (v := iI (9)) hx hb dX7_readNeed_78 (by decide) ?_
          refine CI_callV0 (As := [.int (iI (0)), .int (iI (9))]) (rest := []) ⟨hx, hb, hml, hown, hts⟩ (c_X7_takes (σ := (10, 0, n16, n29, n46, sln, sea, zk, sli, rd)) hb9 hz ok63.2.2.2.2.1 (show (5 : Int) ≤ 10 by decide) rfl rfl ⟨by decide, by decide⟩ ⟨by decide, by decide⟩) (cwV 2 hts gX7_readNeed_X7_takes rfl rfl rfl (by decide +kernel) ⟨Nat.le_of_ble_eq_true rfl, Nat.le_of_ble_eq_true rfl⟩) (q0 := 0) rfl rfl rfl hK hNW hP hD hS hA rfl hl.1 rfl (Nat.le_of_ble_eq_true rfl) dX7_readNeed_80 ⟨Nat.zero_le _, Nat.zero_le _⟩ (fun r ⟨t80, f80, s80, n80, w80, g80, fa80, zh80⟩ H locs hw9 hP hD hS => ?_)
          obtain ⟨z80, hr9, hw9⟩ := hw9
          subst hr9
          have hz80 : TP tape zz (10, 0, n16, n29, n46, sln, sea, zk, sli, rd) t46 t63 n63 0 9 fa63 z80 t80 f80 s80 n80 w80 g80 fa80 zh80 := hw9
          have zb80 : z80 = 0 ∨ z80 = 1 := hz80.elim (fun z => Or.inl z.1) (fun z => Or.inr z.1)
          have hP : va_P D vwCl (wT q C th ta fa80 sm tape now snaps w80 zz t80 f80 s80 n80 zh80 g80 zk zl rd sa) H := hP
          have hD : va_D A (wT q C th ta fa80 sm tape now snaps w80 zz t80 f80 s80 n80 zh80 g80 zk zl rd sa) := hD
          refine j_if_ne (tgt := 88) hx hb dX7_readNeed_83 rfl ⟨by omega, by omega⟩ (fun c83 => ?_) (fun c83 => ?_)
          · skip
            have ok80 := (hz80.resolve_left (fun z => c83 z.1)).2
            have m4 := MI_10 m3 ok80.2.1 ok80.2.2.1
            have w4 : runT tape zz (1, 0, spo, sfr, sto, sln, sea, zk, sli, rd) e0 = runT tape zz (4, 0, n16, n29, n46, sln, sea, (zk + 1), sli, (adn rd n16 n29 n46 n63)) t63 := by rw [w3]; exact ok80.2.2.2.2.2.2
            have q80 := LA_zs ok80.2.2.2.2.1
            refine lv_iload_n hx hb dX7_readNeed_88 rfl (lv_at hl 1 rfl) ?_
            refine lv_istore (lv' := [(4, .int (iI (g46))), (3, .int (iI (g63))), (2, .int (iI (g46))), (1, .int (iI (g29))), (0, .ref (q 36))]) hx hb dX7_readNeed_89 hl (by decide) rfl (fun ls hl => ?_)
            have L91 : ∀ (n : Nat) (t : Int) (r2 : Int → Int) (ls : Array Slot) (H : Heap) (locs : List Loc), (g46 ≤ t ∧ t ≤ g63 + 1) → (r2 = adn rd g29 g46 (t - 1) g80) → ((g63 + 1 - t).toNat < n) → (lv_has ls 5 [(4, .int (iI (t))), (3, .int (iI (g63))), (2, .int (iI (g46))), (1, .int (iI (g29))), (0, .ref (q 36))]) → (va_P D vwCl (wT q C th ta fa80 sm tape now snaps w80 zz t80 f80 s80 n80 zh80 g80 zk zl r2 sa) H) → (va_D A (wT q C th ta fa80 sm tape now snaps w80 zz t80 f80 s80 n80 zh80 g80 zk zl r2 sa)) → (va_S A s.heap H locs) → W p l e (rmN 3 67) s m ([.ref (q 36)] : List Value).toArray below meth c H locs 0 0 Q (F0 m 91 ls []) := by
              intro n
              induction n with
              | zero => intro t r2 ls H locs t1 h2 hn; exact absurd hn (Nat.not_lt_zero _)
              | succ n ih91 =>
                intro t r2 ls H locs t1 h2 hn hl hP hD hS
                have hn91 := hn
                refine lv_iload hx hb dX7_readNeed_91 (lv_at hl 0 rfl) ?_
                refine lv_iload_n hx hb dX7_readNeed_93 rfl (lv_at hl 1 rfl) ?_
                refine j_icmp_gt (tgt := 124) hx hb dX7_readNeed_94 rfl ⟨by omega, by omega⟩ ⟨by omega, by omega⟩ (fun c94 => ?_) (fun c94 => ?_)
                · skip
                  obtain rfl : t = g63 + 1 := by omega
                  have e80 : r2 = adn rd n16 n29 n46 n63 := by rw [h2, show g63 + 1 - 1 = g63 by omega, ok29.1, ok46.1, ok63.1, ok80.1]
                  rw [e80] at hP hD
                  have hl := lv_sub hl [1, 2, 3, 4] rfl
                  have hP : va_P D vwCl (wT q C th ta fa80 sm tape now snaps w80 zz t80 f80 s80 n80 zh80 g80 zk zl (adn rd n16 n29 n46 n63) sa) H := hP
                  have hD : va_D A (wT q C th ta fa80 sm tape now snaps w80 zz t80 f80 s80 n80 zh80 g80 zk zl (adn rd n16 n29 n46 n63) sa) := hD
                  refine lv_aload_n hx hb dX7_readNeed_124 rfl (lv_at hl 3 rfl) ?_
                  refine lv_dup hx hb dX7_readNeed_125 rfl ?_
                  refine va_get (D := D) (ci := 7) (v := .int (iI (zk))) (C := RX7) (T := TX7) (N := 23) hx hb hts (by decide +kernel) hown hK hP 0 rfl rfl 16 (by decide) (hts (.fieldLink RX7 131 "BreakSetterModel" "needs" "I") (by decide +kernel)) (fun _ h9 => h9) rfl dX7_readNeed_126 ?_
                  refine lv_iconst (v := iI (1)) hx hb dX7_readNeed_129 rfl ?_
                  refine j_iadd hx hb dX7_readNeed_130 ?_
                  refine va_put (D := D) (ci := 7) (v := .int (iI (zk + 1))) (ty := .int) (C := RX7) (T := TX7) (N := 23) hx hb hts (by decide +kernel) tyX7 tyX7_ok nmX7 hown hK hP hD hS 0 rfl rfl 16 (by decide) (hts (.fieldLink RX7 131 "BreakSetterModel" "needs" "I") (by decide +kernel)) (fun _ h9 => h9) rfl (by decide +kernel) rfl rfl (Nat.le_of_ble_eq_true rfl) dX7_readNeed_131 (fun H locs hP hD hS => ?_)
                  have hP : va_P D vwCl (wT q C th ta fa80 sm tape now snaps w80 zz t80 f80 s80 n80 zh80 g80 (zk + 1) zl (adn rd n16 n29 n46 n63) sa) H := hP
                  have hD : va_D A (wT q C th ta fa80 sm tape now snaps w80 zz t80 f80 s80 n80 zh80 g80 (zk + 1) zl (adn rd n16 n29 n46 n63) sa) := hD
                  refine lv_aload_n hx hb dX7_readNeed_134 rfl (lv_at hl 3 rfl) ?_
                  refine CI_callV0 (As := []) (rest := []) ⟨hx, hb, hml, hown, hts⟩ (c_X7_readEnd (sq := 4) (si := 0) (spo := n16) (sfr := n29) (sto := n46) (sln := sln) (sea := sea) (snd := (zk + 1)) (sli := sli) (sg := (adn rd n16 n29 n46 n63)) hb9 hz ok80.2.2.2.2.1 (Or.inl rfl) (fun z => by omega)) (cwV 0 hts gX7_readNeed_X7_readEnd rfl rfl rfl (by decide +kernel) ⟨Nat.le_of_ble_eq_true rfl, Nat.le_of_ble_eq_true rfl⟩) (q0 := 0) rfl rfl rfl hK hNW hP hD hS hA rfl hl.1 rfl (Nat.le_of_ble_eq_true rfl) dX7_readNeed_135 ⟨Nat.zero_le _, Nat.zero_le _⟩ (fun r ⟨t135, f135, s135, n135, w135, fa135, zh135⟩ H locs hw9 hP hD hS => ?_)
                  obtain ⟨z135, hr9, hw9⟩ := hw9
                  subst hr9
                  have hz135 : EP tape zz (4, 0, n16, n29, n46, sln, sea, (zk + 1), sli, (adn rd n16 n29 n46 n63)) t63 t80 fa80 z135 t135 f135 s135 n135 w135 fa135 zh135 (1, 0, n16, n29, n46, sln, sea, (zk + 1), sli + 1, (adn rd n16 n29 n46 n63)) := hw9
                  have zb135 : z135 = 0 ∨ z135 = 1 := hz135.elim (fun z => Or.inl z.1) (fun z => Or.inr z.1)
                  have hP : va_P D vwCl (wT q C th ta fa135 sm tape now snaps w135 zz t135 f135 s135 n135 zh135 g80 (zk + 1) zl (adn rd n16 n29 n46 n63) sa) H := hP
                  have hD : va_D A (wT q C th ta fa135 sm tape now snaps w135 zz t135 f135 s135 n135 zh135 g80 (zk + 1) zl (adn rd n16 n29 n46 n63) sa) := hD
                  have m5 := (MI_4 m4).2
                  exact hret H locs ls 138 _ (t135, f135, s135, n135, w135, g80, fa135, zh135, zk + 1, adn rd n16 n29 n46 n63) dX7_readNeed_138 (b01z zb135) ⟨z135, rfl, hz135.elim (fun z => Or.inl ⟨z.1, w4.trans z.2⟩) (fun z => Or.inr ⟨z.1, by show fa135 = fa; have := z.2.1; have := ok29.2.2.2.1; have := ok46.2.2.2.1; have := ok63.2.2.2.1; have := ok80.2.2.2.1; omega, t80, n16, n29, n46, sln, sea, by have := ok29.2.2.2.2.2.1; have := ok46.2.2.2.2.2.1; have := ok63.2.2.2.2.2.1; have := ok80.2.2.2.2.2.1; have := z.2.2.2.1; omega, z.2.2.1, m5, w4.trans z.2.2.2.2⟩)⟩ hP hD hS
                · skip
                  refine lv_aload_n hx hb dX7_readNeed_97 rfl (lv_at hl 4 rfl) ?_
                  refine va_get (D := D) (ci := 7) (v := .ref (q 39)) (C := RX7) (T := TX7) (N := 23) hx hb hts (by decide +kernel) hown hK hP 0 rfl rfl 12 (by decide) (hts (.fieldLink RX7 77 "BreakSetterModel" "read" "[I") (by decide +kernel)) (fun _ h9 => h9) rfl dX7_readNeed_98 ?_
                  refine lv_iconst (v := iI (4)) hx hb dX7_readNeed_101 rfl ?_
                  refine lv_bipush (v := iI (48)) hx hb dX7_readNeed_102 (by decide) ?_
                  refine lv_iload_n hx hb dX7_readNeed_104 rfl (lv_at hl 3 rfl) ?_
                  refine j_imul hx hb dX7_readNeed_105 ?_
                  refine j_iadd hx hb dX7_readNeed_106 ?_
                  refine lv_iload hx hb dX7_readNeed_107 (lv_at hl 0 rfl) ?_
                  refine j_iadd hx hb dX7_readNeed_109 ?_
                  refine lv_dup2_11 hx hb dX7_readNeed_110 rfl rfl ?_
                  refine j_iald hx hb hK hP 3 1 rfl rfl ⟨by omega, by omega⟩ (Nat.le_of_ble_eq_true rfl) dX7_readNeed_111 ?_
                  refine lv_aload_n hx hb dX7_readNeed_112 rfl (lv_at hl 4 rfl) ?_
                  refine va_get (D := D) (ci := 7) (v := .int (iI (g80))) (C := RX7) (T := TX7) (N := 23) hx hb hts (by decide +kernel) hown hK hP 0 rfl rfl 15 (by decide) (hts (.fieldLink RX7 106 "BreakSetterModel" "got" "I") (by decide +kernel)) (fun _ h9 => h9) rfl dX7_readNeed_113 ?_
                  refine j_iadd hx hb dX7_readNeed_116 ?_
                  refine j_iast hx hb hK hP hD hS 3 1 rfl rfl ⟨by omega, by omega⟩ (Nat.le_of_ble_eq_true rfl) dX7_readNeed_117 (fun H locs hP hD hS => ?_)
                  have hP : va_P D vwCl (wT q C th ta fa80 sm tape now snaps w80 zz t80 f80 s80 n80 zh80 g80 zk zl (up r2 ((4 + (48 * g29)) + t) ((r2 ((4 + (48 * g29)) + t)) + g80)) sa) H := hP
                  have hD : va_D A (wT q C th ta fa80 sm tape now snaps w80 zz t80 f80 s80 n80 zh80 g80 zk zl (up r2 ((4 + (48 * g29)) + t) ((r2 ((4 + (48 * g29)) + t)) + g80)) sa) := hD
                  refine j_iinc (k := 0) (lv' := [(4, .int (iI (t + 1))), (3, .int (iI (g63))), (2, .int (iI (g46))), (1, .int (iI (g29))), (0, .ref (q 36))]) hx hb dX7_readNeed_118 hl rfl (by decide) rfl (fun ls hl => ?_)
                  refine lv_goto (tgt := 91) hx hb dX7_readNeed_121 rfl ?_
                  exact ih91 (t + 1) (up r2 ((4 + (48 * g29)) + t) ((r2 ((4 + (48 * g29)) + t)) + g80)) ls H locs (by omega) (by rw [h2]; exact adn_s (by omega)) (by omega) (lv_sub hl [0, 1, 2, 3, 4] rfl) hP hD hS
            exact L91 _ g46 rd ls H locs (by have := ok46.1; have := ok63.1; have := ok63.2.1; omega) (adn_0 _ _ _ _).symm (Nat.lt_succ_self _) (lv_sub hl [0, 1, 2, 3, 4] rfl) hP hD hS
          · skip
            have no80 := (hz80.resolve_right (fun z => by have := z.1; omega)).2
            refine lv_iconst (v := iI (0)) hx hb dX7_readNeed_86 rfl ?_
            exact hret H locs ls 87 _ (t80, f80, s80, n80, w80, g80, fa80, zh80, zk, rd) dX7_readNeed_87 (Or.inl rfl) ⟨0, rfl, Or.inl ⟨rfl, w3.trans no80⟩⟩ hP hD hS
        · skip
          have no63 := (hz63.resolve_right (fun z => by have := z.1; omega)).2
          refine lv_iconst (v := iI (0)) hx hb dX7_readNeed_69 rfl ?_
          exact hret H locs ls 70 _ (t63, f63, s63, n63, w63, g63, fa63, zh63, zk, rd) dX7_readNeed_70 (Or.inl rfl) ⟨0, rfl, Or.inl ⟨rfl, w2.trans no63⟩⟩ hP hD hS
      · skip
        have no46 := (hz46.resolve_right (fun z => by have := z.1; omega)).2
        refine lv_iconst (v := iI (0)) hx hb dX7_readNeed_52 rfl ?_
        exact hret H locs ls 53 _ (t46, f46, s46, n46, w46, g46, fa46, zh46, zk, rd) dX7_readNeed_53 (Or.inl rfl) ⟨0, rfl, Or.inl ⟨rfl, w1.trans no46⟩⟩ hP hD hS
    · skip
      have no29 := (hz29.resolve_right (fun z => by have := z.1; omega)).2
      refine lv_iconst (v := iI (0)) hx hb dX7_readNeed_35 rfl ?_
      exact hret H locs ls 36 _ (t29, f29, s29, n29, w29, g29, fa29, zh29, zk, rd) dX7_readNeed_36 (Or.inl rfl) ⟨0, rfl, Or.inl ⟨rfl, w0.trans no29⟩⟩ hP hD hS
  · skip
    refine lv_aload_n hx hb dX7_readNeed_9 rfl (lv_at hl 0 rfl) ?_
    refine lv_iconst (v := iI (3)) hx hb dX7_readNeed_10 rfl ?_
    refine CI_callV0 (As := [.int (iI (3))]) (rest := []) ⟨hx, hb, hml, hown, hts⟩ (c_X7_bad ⟨by omega, by omega⟩) (cwV 1 hts gX7_readNeed_X7_bad rfl rfl rfl (by decide +kernel) ⟨Nat.le_of_ble_eq_true rfl, Nat.le_of_ble_eq_true rfl⟩) (q0 := 0) rfl rfl rfl hK hNW hP hD hS hA rfl hl.1 rfl (Nat.le_of_ble_eq_true rfl) dX7_readNeed_11 ⟨Nat.zero_le _, Nat.zero_le _⟩ (fun r b11 H locs hw9 hP hD hS => ?_)
    obtain ⟨hr9, hb11⟩ := hw9
    subst hr9
    have hP : va_P D vwCl (wT q C th ta b11 sm tape now snaps wz zz zt zf zs zn zf zg zk zl rd sa) H := hP
    have hD : va_D A (wT q C th ta b11 sm tape now snaps wz zz zt zf zs zn zf zg zk zl rd sa) := hD
    exact hret H locs ls 14 _ (zt, zf, zs, zn, wz, zg, b11, zf, zk, rd) dX7_readNeed_14 (Or.inl rfl) ⟨0, rfl, Or.inl ⟨rfl, by show _ = Sum.inl (b11, zf); rw [hb11, if_neg (by omega)]; exact lw.1 3 (if_pos (show 10 ≤ zk by omega))⟩⟩ hP hD hS
