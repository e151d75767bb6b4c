theorem bI_01 (P : Prop) : iI (bI P) = 0 ∨ iI (bI P) = 1 := by
  by_cases h : P
  · rw [bI_t h]; exact Or.inr rfl
  · rw [bI_f h]; exact Or.inl rfl
section JR2
variable {p : Program} {l : Launch} {e : Env} {R : Room} {s : State} {m : MethodId} {args : Array Value} {below : List Frame} {meth : Method} {c : Code} {H : Heap} {locs : List Loc} {cells slots : Nat} {Q : State → Prop}
variable {cc : ByteArray} {pc : Nat} {ls : Array Slot} {rest : List Value}
theorem j_swIn (hx : p.tables.exec = Jvm.exec) (hb : c.code = cc) {z k : Int} {dflt lo hi : Int} {offs : Array Int} {len : Nat} {off : Int} {tgt : Nat} (d : decode cc pc = .ok (.tableswitch dflt lo hi offs, len)) (hz : z = k) (h1 : ¬ (iI k).toInt < lo) (h2 : ¬ hi < (iI k).toInt) (ho : offs[((iI k).toInt - lo).toNat]? = some off) (ht : (pc : Int) + off = (tgt : Int)) (kk : W p l e R s m args below meth c H locs cells slots Q (F0 m tgt ls rest)) : W p l e R s m args below meth c H locs cells slots Q (F0 m pc ls (.int (iI z) :: rest)) := by
  subst hz
  exact lv_tableIn hx hb d h1 h2 ho ht kk
theorem j_swOut (hx : p.tables.exec = Jvm.exec) (hb : c.code = cc) {z : Int} {dflt lo hi : Int} {offs : Array Int} {len : Nat} {tgt : Nat} (d : decode cc pc = .ok (.tableswitch dflt lo hi offs, len)) (rx : R32 z) (h : ¬ (lo ≤ z ∧ z ≤ hi)) (ht : (pc : Int) + dflt = (tgt : Int)) (kk : W p l e R s m args below meth c H locs cells slots Q (F0 m tgt ls rest)) : W p l e R s m args below meth c H locs cells slots Q (F0 m pc ls (.int (iI z) :: rest)) := lv_tableOut hx hb d (by rw [iI_toInt rx]; omega) ht kk
theorem j_mmax (hx : p.tables.exec = Jvm.exec) (hb : c.code = cc) (hml : c.maxLocals = ls.size) {own : String} {index : Nat} (hown : s.vm.findClass own = some m.cls) (hlink : (Cond.methodLink own index Lib.Math.max.name).before args s = true) (hstat : (Cond.static Lib.Math.max.name).before args s = true) (hini : (Cond.initialized "java/lang/Math").before args s = true) (hcode : (Cond.code Lib.Math.max.name Lib.Math.max.code 2 (some .int)).before args s = true)
    (hframes : 1 ≤ R.frames) (hlocals : (rest.map fun v => v.category).sum + 13 ≤ R.locals) (hc : cells ≤ R.cells) (hs : slots ≤ R.slots) {x y : Int} (rx : R32 x) (ry : R32 y) (d : decode cc pc = .ok (.invokestatic index, 3))
    (kk : W p l e R s m args below meth c H locs cells slots Q (F0 m (pc + 3) ls (.int (iI (max x y)) :: rest))) : W p l e R s m args below meth c H locs cells slots Q (F0 m pc ls (.int (iI y) :: .int (iI x) :: rest)) :=
  va_mmax hx hb hml hown hlink hstat hini hcode hframes hlocals hc hs d (W_wen (by
    first
      | (by_cases h : x < y
         · rw [if_pos ((iI_lt rx ry).mpr h)]; exact congrArg iI (by omega)
         · rw [if_neg (fun q => h ((iI_lt rx ry).mp q))]; exact congrArg iI (by omega))
      | (by_cases h : x ≤ y
         · rw [if_pos ((iI_le rx ry).mpr h)]; exact congrArg iI (by omega)
         · rw [if_neg (fun q => h ((iI_le rx ry).mp q))]; exact congrArg iI (by omega))
      | (by_cases h : y < x
         · rw [if_pos ((iI_lt ry rx).mpr h)]; exact congrArg iI (by omega)
         · rw [if_neg (fun q => h ((iI_lt ry rx).mp q))]; exact congrArg iI (by omega))) kk)
theorem j_mmin (hx : p.tables.exec = Jvm.exec) (hb : c.code = cc) (hml : c.maxLocals = ls.size) {own : String} {index : Nat} (hown : s.vm.findClass own = some m.cls) (hlink : (Cond.methodLink own index Lib.Math.min.name).before args s = true) (hstat : (Cond.static Lib.Math.min.name).before args s = true) (hini : (Cond.initialized "java/lang/Math").before args s = true) (hcode : (Cond.code Lib.Math.min.name Lib.Math.min.code 2 (some .int)).before args s = true)
    (hframes : 1 ≤ R.frames) (hlocals : (rest.map fun v => v.category).sum + 13 ≤ R.locals) (hc : cells ≤ R.cells) (hs : slots ≤ R.slots) {x y : Int} (rx : R32 x) (ry : R32 y) (d : decode cc pc = .ok (.invokestatic index, 3))
    (kk : W p l e R s m args below meth c H locs cells slots Q (F0 m (pc + 3) ls (.int (iI (min x y)) :: rest))) : W p l e R s m args below meth c H locs cells slots Q (F0 m pc ls (.int (iI y) :: .int (iI x) :: rest)) :=
  va_mmin hx hb hml hown hlink hstat hini hcode hframes hlocals hc hs d (W_wen (by
    first
      | (by_cases h : x < y
         · rw [if_pos ((iI_lt rx ry).mpr h)]; exact congrArg iI (by omega)
         · rw [if_neg (fun q => h ((iI_lt rx ry).mp q))]; exact congrArg iI (by omega))
      | (by_cases h : x ≤ y
         · rw [if_pos ((iI_le rx ry).mpr h)]; exact congrArg iI (by omega)
         · rw [if_neg (fun q => h ((iI_le rx ry).mp q))]; exact congrArg iI (by omega))
      | (by_cases h : y < x
         · rw [if_pos ((iI_lt ry rx).mpr h)]; exact congrArg iI (by omega)
         · rw [if_neg (fun q => h ((iI_lt ry rx).mp q))]; exact congrArg iI (by omega))) kk)
variable {D : va_G} {cl : List vw_C} {A : Nat → Prop} {a : Nat} {tys : List (ClassId × FieldType)} {ws : va_W} {H0 : Heap}
theorem j_zast (hx : p.tables.exec = Jvm.exec) (hb : c.code = cc) (hK : va_K D cl tys s) (hP : va_P D cl ws H) (hD : va_D A ws) (hS : va_S A H0 H locs) (q0 t0 : Nat) {cA : ClassId} {n : Nat} {f : Int → Int} (ha : ws[q0]? = some (a, .inl (cA, n, .inl (aI f)))) (ht : tys[t0]? = some (cA, .boolean)) {z v : Int} (h0 : 0 ≤ z ∧ z < (n : Int)) (hn : n ≤ 100000) {x : Int32} (hv : vp_nar .boolean x = iI v) (d : decode cc pc = .ok (.bastore, 1)) (kk : ∀ (H1 : Heap) (locs1 : List Loc), va_P D cl (ws.set q0 (a, .inl (cA, n, .inl (aI (up f z v))))) H1 → va_D A (ws.set q0 (a, .inl (cA, n, .inl (aI (up f z v))))) → va_S A H0 H1 locs1 → W p l e R s m args below meth c H1 locs1 cells slots Q (F0 m (pc + 1) ls rest)) : W p l e R s m args below meth c H locs cells slots Q (F0 m pc ls (.int x :: .int (iI z) :: .ref a :: rest)) := va_zast hx hb hK hP hD hS q0 t0 ha ht (iI_in h0.1 h0.2 (by omega)) d (fun H1 locs1 => by rw [hv, aI_up h0.1 (by omega)]; exact kk H1 locs1)
theorem j_bast (hx : p.tables.exec = Jvm.exec) (hb : c.code = cc) (hK : va_K D cl tys s) (hP : va_P D cl ws H) (hD : va_D A ws) (hS : va_S A H0 H locs) (q0 t0 : Nat) {cA : ClassId} {n : Nat} {f : Int → Int} (ha : ws[q0]? = some (a, .inl (cA, n, .inl (aI f)))) (ht : tys[t0]? = some (cA, .byte)) {z v : Int} (h0 : 0 ≤ z ∧ z < (n : Int)) (hn : n ≤ 100000) {x : Int32} (hv : vp_nar .byte x = iI v) (d : decode cc pc = .ok (.bastore, 1)) (kk : ∀ (H1 : Heap) (locs1 : List Loc), va_P D cl (ws.set q0 (a, .inl (cA, n, .inl (aI (up f z v))))) H1 → va_D A (ws.set q0 (a, .inl (cA, n, .inl (aI (up f z v))))) → va_S A H0 H1 locs1 → W p l e R s m args below meth c H1 locs1 cells slots Q (F0 m (pc + 1) ls rest)) : W p l e R s m args below meth c H locs cells slots Q (F0 m pc ls (.int x :: .int (iI z) :: .ref a :: rest)) := va_bast hx hb hK hP hD hS q0 t0 ha ht (iI_in h0.1 h0.2 (by omega)) d (fun H1 locs1 => by rw [hv, aI_up h0.1 (by omega)]; exact kk H1 locs1)
end JR2
