/-! the law's loop -/
section LW8
variable {p : Program} {l : Launch} {e : Env} {R : Room} {s : State} {m : MethodId} {args : Array Value} {below : List Frame} {meth : Method} {c : Code} {Q : State → Prop}
variable {D : va_G} {Z : Nat × Cell} {tys : List (ClassId × FieldType)} {A : Nat → Prop} {H0 : Heap} {ad : mg_Ad} {cells slots : Nat}
theorem lw_loop (K : mg_K p m c mc_W_law 7 s args mb_B mn_RW D mn_cl Z tys) (hty : tys.map (·.2) = ma_ty) (hA : ∀ q, H0.size ≤ q → A q) (hR : 11 ≤ R.frames ∧ 390 ≤ R.locals) {b n : Nat} {xs : Nat → Int32} (hX : va_X b n xs s H0) (hbl : b < H0.size) (hbA : ¬ A b) (hn : n ≤ 3072) (hfl : l.flags = pinnedFlags ++ [noTraceFlag]) (hE : ∀ (ad : mg_Ad) (g : ca_S) (h : rb_S) (o : Int64) (i cells slots : Nat), cells ≤ R.cells → slots ≤ R.slots → mg_G p l e R s m args below meth c D mn_cl Z A H0 7 Q ad (mr_C tys ma_sh ad (ma_R g (rb_R h o))) [some (va_rf (some b)), some (va_rf (some (ad 0 0))), some (va_rf (some (ad 20 0))), some (va_rf (some (ad 40 0))), some (.int (Int32.ofNat i))] cells slots [] 852) : ∀ (f i : Nat) (ad : mg_Ad) (g : ca_S) (h : rb_S) (o : Int64) (cells slots : Nat), i ≤ n + 6 → n < i + 6 * f + 6 → cells + f ≤ R.cells → slots + 8 * f ≤ R.slots → sm_T g h → mg_G p l e R s m args below meth c D mn_cl Z A H0 7 Q ad (mr_C tys ma_sh ad (ma_R g (rb_R h o))) [some (va_rf (some b)), some (va_rf (some (ad 0 0))), some (va_rf (some (ad 20 0))), some (va_rf (some (ad 40 0))), some (.int (Int32.ofNat i))] cells slots [] 23 := by
  intro f
  induction f with
  | zero =>
    intro i ad g h o cells slots hi hf hc hs T
    refine mg_iload K md_W_law_23 rfl ?_
    refine mg_aload_n K md_W_law_25 rfl ?_
    refine mg_slen K hX hbl hbA md_W_law_26 ?_
    refine mg_bipush K (v := 6) md_W_law_27 (by decide) ?_
    refine mg_isub K md_W_law_29 ?_
    refine mg_icmp_gt K 852 md_W_law_30 rfl (fun _ => hE ad g h o i cells slots (by omega) (by omega)) (fun z => absurd ((mi_end hi hn).mpr (by omega)) z)
  | succ f ih =>
    intro i ad g h o cells slots hi hf hc hs T
    refine mg_iload K md_W_law_23 rfl ?_
    refine mg_aload_n K md_W_law_25 rfl ?_
    refine mg_slen K hX hbl hbA md_W_law_26 ?_
    refine mg_bipush K (v := 6) md_W_law_27 (by decide) ?_
    refine mg_isub K md_W_law_29 ?_
    refine mg_icmp_gt K 852 md_W_law_30 rfl (fun _ => hE ad g h o i cells slots (by omega) (by omega)) (fun z => ?_)
    have hle : i + 6 ≤ n := by have := mt (mi_end hi hn).mpr z; omega
    have kk : lw_N p l e R s m args below meth c Q D Z tys A H0 b i cells slots := fun ad g h o T => by
      refine mg_iinc K (v := Int32.ofNat (i + 6)) md_W_law_846 rfl (mi_pl i 6) (by decide) ?_
      refine mg_goto K 23 md_W_law_849 rfl ?_
      exact ih (i + 6) ad g h o (cells + 1) (slots + 8) (by omega) (by omega) (by omega) (by omega) T
    have hc1 : cells + 1 ≤ R.cells := by omega
    have hs1 : slots + 8 ≤ R.slots := by omega
    refine mg_aload_n K md_W_law_33 rfl ?_
    refine mg_iload K md_W_law_34 rfl ?_
    refine mg_sld (i := i) K hX hbl hbA (by omega) hn md_W_law_36 ?_
    refine mg_bipush K (v := 15) md_W_law_37 (by decide) ?_
    refine mg_iand K md_W_law_39 ?_
    by_cases h0 : (xs i &&& 15) = 0
    · refine mg_tabIn (off := 72) K 0 112 md_W_law_40 h0 (by decide) (by decide) (by decide) rfl ?_
      exact lw_receive K hty hA hR hX hbl hbA hn hle hc1 hs1 T kk hfl
    by_cases h1 : (xs i &&& 15) = 1
    · refine mg_tabIn (off := 176) K 1 216 md_W_law_40 h1 (by decide) (by decide) (by decide) rfl ?_
      exact lw_status K hty hA hR hX hbl hbA hn hle hc1 hs1 T kk hfl
    by_cases h2 : (xs i &&& 15) = 2
    · refine mg_tabIn (off := 244) K 2 284 md_W_law_40 h2 (by decide) (by decide) (by decide) rfl ?_
      exact lw_answer K hty hA hR hX hbl hbA hn hle hc1 hs1 T kk hfl
    by_cases h3 : (xs i &&& 15) = 3
    · refine mg_tabIn (off := 312) K 3 352 md_W_law_40 h3 (by decide) (by decide) (by decide) rfl ?_
      exact lw_point K hty hA hR hX hbl hbA hn hle hc1 hs1 T kk
    by_cases h4 : (xs i &&& 15) = 4
    · refine mg_tabIn (off := 337) K 4 377 md_W_law_40 h4 (by decide) (by decide) (by decide) rfl ?_
      exact lw_fails K hty hA hR hX hbl hbA hn hle hc1 hs1 T kk
    by_cases h5 : (xs i &&& 15) = 5
    · refine mg_tabIn (off := 390) K 5 430 md_W_law_40 h5 (by decide) (by decide) (by decide) rfl ?_
      exact lw_tick K hty hA hR hX hbl hbA hn hle hc1 hs1 T kk hfl
    by_cases h6 : (xs i &&& 15) = 6
    · refine mg_tabIn (off := 446) K 6 486 md_W_law_40 h6 (by decide) (by decide) (by decide) rfl ?_
      exact lw_skip K hty hA hR hX hbl hbA hn hle hc1 hs1 T kk hfl
    by_cases h7 : (xs i &&& 15) = 7
    · refine mg_tabIn (off := 502) K 7 542 md_W_law_40 h7 (by decide) (by decide) (by decide) rfl ?_
      exact lw_cut K hty hA hR hX hbl hbA hn hle hc1 hs1 T kk hfl
    by_cases h8 : (xs i &&& 15) = 8
    · refine mg_tabIn (off := 558) K 8 598 md_W_law_40 h8 (by decide) (by decide) (by decide) rfl ?_
      exact lw_replay K hty hA hR hX hbl hbA hn hle hc1 hs1 T kk hfl
    by_cases h9 : (xs i &&& 15) = 9
    · refine mg_tabIn (off := 626) K 9 666 md_W_law_40 h9 (by decide) (by decide) (by decide) rfl ?_
      exact lw_look K hty hA hR hX hbl hbA hn hle hc1 hs1 T kk hfl
    by_cases h10 : (xs i &&& 15) = 10
    · refine mg_tabIn (off := 694) K 10 734 md_W_law_40 h10 (by decide) (by decide) (by decide) rfl ?_
      exact lw_act K hty hA hR hX hbl hbA hn hle hc1 hs1 T kk
    by_cases h11 : (xs i &&& 15) = 11
    · refine mg_tabIn (off := 719) K 11 759 md_W_law_40 h11 (by decide) (by decide) (by decide) rfl ?_
      exact lw_dead K hty hA hR hX hbl hbA hn hle hc1 hs1 T kk
    by_cases h12 : (xs i &&& 15) = 12
    · refine mg_tabIn (off := 744) K 12 784 md_W_law_40 h12 (by decide) (by decide) (by decide) rfl ?_
      exact lw_of K hty hA hR hX hbl hbA hn hle hc1 hs1 T kk
    by_cases h13 : (xs i &&& 15) = 13
    · refine mg_tabIn (off := 781) K 13 821 md_W_law_40 h13 (by decide) (by decide) (by decide) rfl ?_
      exact lw_count K hty hA hR hX hbl hbA hn hle hc1 hs1 T kk
    have e0 : (xs i &&& 15).toInt ≠ 0 := fun z => h0 (Int32.toInt_inj.mp z)
    have e1 : (xs i &&& 15).toInt ≠ 1 := fun z => h1 (Int32.toInt_inj.mp z)
    have e2 : (xs i &&& 15).toInt ≠ 2 := fun z => h2 (Int32.toInt_inj.mp z)
    have e3 : (xs i &&& 15).toInt ≠ 3 := fun z => h3 (Int32.toInt_inj.mp z)
    have e4 : (xs i &&& 15).toInt ≠ 4 := fun z => h4 (Int32.toInt_inj.mp z)
    have e5 : (xs i &&& 15).toInt ≠ 5 := fun z => h5 (Int32.toInt_inj.mp z)
    have e6 : (xs i &&& 15).toInt ≠ 6 := fun z => h6 (Int32.toInt_inj.mp z)
    have e7 : (xs i &&& 15).toInt ≠ 7 := fun z => h7 (Int32.toInt_inj.mp z)
    have e8 : (xs i &&& 15).toInt ≠ 8 := fun z => h8 (Int32.toInt_inj.mp z)
    have e9 : (xs i &&& 15).toInt ≠ 9 := fun z => h9 (Int32.toInt_inj.mp z)
    have e10 : (xs i &&& 15).toInt ≠ 10 := fun z => h10 (Int32.toInt_inj.mp z)
    have e11 : (xs i &&& 15).toInt ≠ 11 := fun z => h11 (Int32.toInt_inj.mp z)
    have e12 : (xs i &&& 15).toInt ≠ 12 := fun z => h12 (Int32.toInt_inj.mp z)
    have e13 : (xs i &&& 15).toInt ≠ 13 := fun z => h13 (Int32.toInt_inj.mp z)
    refine mg_tabOut K 846 md_W_law_40 (by omega) rfl ?_
    refine mg_widen (ce := cells + 1) (sl := slots + 8) (by omega) (by omega) ?_
    exact kk ad g h o T
end LW8
