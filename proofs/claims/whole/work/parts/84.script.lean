/-! the law's script: its rows, its places -/
section LW2
variable {p : Program} {l : Launch} {e : Env} {R : Room} {s : State} {m : MethodId} {args : Array Value} {below : List Frame} {meth : Method} {c : Code} {Q : State → Prop}
variable {D : va_G} {cl : List vw_C} {Z : Nat × Cell} {tys : List (ClassId × FieldType)} {A : Nat → Prop} {H0 : Heap} {nL : Nat} {cc : ByteArray} {Ts : List Cond} {own : String}
variable {ad : mg_Ad} {C : mg_Ct} {L : List (Option Value)} {cells slots pc : Nat} {st : List Value}
theorem mg_sld (K : mg_K p m c cc nL s args Ts own D cl Z tys) {b n : Nat} {xs : Nat → Int32} (hX : va_X b n xs s H0) (hbl : b < H0.size) (hbA : ¬ A b) {i : Nat} (hi : i < n) (hn : n ≤ 3072) (hd : decode cc pc = .ok (.iaload, 1)) (k : mg_G p l e R s m args below meth c D cl Z A H0 nL Q ad C L cells slots (.int (xs i) :: st) (pc + 1)) : mg_G p l e R s m args below meth c D cl Z A H0 nL Q ad C L cells slots (.int (Int32.ofNat i) :: va_rf (some b) :: st) pc :=
  fun H locs ls hW hS hL => va_sld K.1.1 K.1.2.1 hX hbl hbA hS (mi_vn (by omega) hi) hd (by rw [mi_tn (by omega)]; exact k H locs ls hW hS hL)
theorem mg_slen (K : mg_K p m c cc nL s args Ts own D cl Z tys) {b n : Nat} {xs : Nat → Int32} (hX : va_X b n xs s H0) (hbl : b < H0.size) (hbA : ¬ A b) (hd : decode cc pc = .ok (.arraylength, 1)) (k : mg_G p l e R s m args below meth c D cl Z A H0 nL Q ad C L cells slots (.int (Int32.ofNat n) :: st) (pc + 1)) : mg_G p l e R s m args below meth c D cl Z A H0 nL Q ad C L cells slots (va_rf (some b) :: st) pc :=
  fun H locs ls hW hS hL => va_slen K.1.1 K.1.2.1 hX hbl hbA hS hd (k H locs ls hW hS hL)
end LW2
theorem mi_pl (i c : Nat) : Int32.ofNat i + Int32.ofNat c = Int32.ofNat (i + c) := (Int32.ofNat_add i c).symm
/-- the law's test of its end -/
theorem mi_end {i n : Nat} (hi : i ≤ n + 6) (hn : n ≤ 3072) : (Int32.ofNat n - 6 < Int32.ofNat i) ↔ n < i + 6 := by
  rw [Int32.lt_iff_toInt_lt, Int32.toInt_sub, mi_ti (by omega), mi_ti (by omega)]
  have e : (6 : Int32).toInt = 6 := rfl
  rw [e, Int.bmod_eq_of_le (by omega) (by omega)]
  omega
