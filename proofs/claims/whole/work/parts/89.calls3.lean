/-! the law's steps with throws: look, receive -/
theorem cv_u15 {x : Int32} : cv_u x ↔ (¬ x < 0 ∧ ¬ 15 < x) := by
  refine and_congr_right (fun _ => not_congr ?_)
  rw [Int32.le_iff_toInt_le, Int32.lt_iff_toInt_lt]
  have a : (16 : Int32).toInt = 16 := rfl
  have b : (15 : Int32).toInt = 15 := rfl
  omega
theorem cv_f4 {x : Int32} : cv_f x ↔ (¬ x < 0 ∧ ¬ 4 < x) := by
  refine and_congr_right (fun _ => not_congr ?_)
  rw [Int32.le_iff_toInt_le, Int32.lt_iff_toInt_lt]
  have a : (5 : Int32).toInt = 5 := rfl
  have b : (4 : Int32).toInt = 4 := rfl
  omega
theorem cv_w3 {x : Int32} : (¬ x < 0 ∧ ¬ 4 ≤ x) ↔ (¬ x < 0 ∧ ¬ 3 < x) := by
  refine and_congr_right (fun _ => not_congr ?_)
  rw [Int32.le_iff_toInt_le, Int32.lt_iff_toInt_lt]
  have a : (4 : Int32).toInt = 4 := rfl
  have b : (3 : Int32).toInt = 3 := rfl
  omega
section LW7
variable {p : Program} {l : Launch} {e : Env} {R : Room} {s : State} {m : MethodId} {args : Array Value} {below : List Frame} {meth : Method} {c : Code} {Q : State → Prop}
variable {D : va_G} {Z : Nat × Cell} {tys : List (ClassId × FieldType)} {A : Nat → Prop} {H0 : Heap} {ad : mg_Ad} {cells slots : Nat}
theorem lw_look (K : mg_K p m c mc_W_law 7 s args mb_B mn_RW D mn_cl Z tys) (hty : tys.map (·.2) = ma_ty) (hA : ∀ q, H0.size ≤ q → A q) (hR : 11 ≤ R.frames ∧ 390 ≤ R.locals) {b n : Nat} {xs : Nat → Int32} (hX : va_X b n xs s H0) (hbl : b < H0.size) (hbA : ¬ A b) (hn : n ≤ 3072) {i : Nat} (hi : i + 6 ≤ n) (hc : cells + 1 ≤ R.cells) (hs : slots + 8 ≤ R.slots) {g : ca_S} {h : rb_S} {o : Int64} (T : sm_T g h) (kk : lw_N p l e R s m args below meth c Q D Z tys A H0 b i cells slots) (hfl : l.flags = pinnedFlags ++ [noTraceFlag]) : mg_G p l e R s m args below meth c D mn_cl Z A H0 7 Q ad (mr_C tys ma_sh ad (ma_R g (rb_R h o))) [some (va_rf (some b)), some (va_rf (some (ad 0 0))), some (va_rf (some (ad 20 0))), some (va_rf (some (ad 40 0))), some (.int (Int32.ofNat i))] cells slots [] 666 := by
  have hok : ca_ok g := by obtain ⟨_, _, _, _, S, -, -⟩ := T; exact S.1.2.2.2.2.2.1
  have ho : rb_ok h := by obtain ⟨_, _, _, _, S, -, -⟩ := T; exact S.1.2.2.2.2.2.2.1
  by_cases hv : (¬ xs (i + 1) < 0 ∧ ¬ 15 < xs (i + 1)) ∧ (¬ xs (i + 2) < 0 ∧ ¬ 3 < xs (i + 2))
  · obtain ⟨u, hu, e1⟩ := mi_in (n := 15) (by decide) hv.1
    have hw := cv_w3.mpr hv.2
    exact lx_look K hty hA hR hX hbl hbA hn hi hc hs kk (d := 3) (by omega) (ct_W_look hty (d := 3) (by omega) (by rw [e1]; exact ct_A_look hty g (rb_R h o) _ (by omega) hw.1 hw.2 hok)) (fun ad' => by rw [e1]; exact ct_B_look hty _ h _ _ (by omega) hv.2) (mg_u_s h 20 0 0) (fun _ => by rw [sm_look T (by omega)]) (sm_T0 T 0)
  · exact lx_look K hty hA hR hX hbl hbA hn hi hc hs kk (d := 3) (by omega) (th_W_look hty (th_A_look hfl hty g (rb_R h o) _ _ (fun z => hv ⟨cv_u15.mp z.1, cv_w3.mp z.2⟩))) (fun ad' => cx_B_look hty g h _ _ _ hv) (mg_u_s h 20 0 1) (fun z => absurd z (by decide)) (sm_T0 T 1)
theorem lw_receive (K : mg_K p m c mc_W_law 7 s args mb_B mn_RW D mn_cl Z tys) (hty : tys.map (·.2) = ma_ty) (hA : ∀ q, H0.size ≤ q → A q) (hR : 11 ≤ R.frames ∧ 390 ≤ R.locals) {b n : Nat} {xs : Nat → Int32} (hX : va_X b n xs s H0) (hbl : b < H0.size) (hbA : ¬ A b) (hn : n ≤ 3072) {i : Nat} (hi : i + 6 ≤ n) (hc : cells + 1 ≤ R.cells) (hs : slots + 8 ≤ R.slots) {g : ca_S} {h : rb_S} {o : Int64} (T : sm_T g h) (kk : lw_N p l e R s m args below meth c Q D Z tys A H0 b i cells slots) (hfl : l.flags = pinnedFlags ++ [noTraceFlag]) : mg_G p l e R s m args below meth c D mn_cl Z A H0 7 Q ad (mr_C tys ma_sh ad (ma_R g (rb_R h o))) [some (va_rf (some b)), some (va_rf (some (ad 0 0))), some (va_rf (some (ad 20 0))), some (va_rf (some (ad 40 0))), some (.int (Int32.ofNat i))] cells slots [] 112 := by
  have hok : ca_ok g := by obtain ⟨_, _, _, _, S, -, -⟩ := T; exact S.1.2.2.2.2.2.1
  have ho : rb_ok h := by obtain ⟨_, _, _, _, S, -, -⟩ := T; exact S.1.2.2.2.2.2.2.1
  by_cases hv : (¬ xs (i + 1) < 0 ∧ ¬ 4 ≤ xs (i + 1)) ∧ (¬ xs (i + 2) < 1 ∧ ¬ 24 < xs (i + 2)) ∧ (¬ xs (i + 3) < 0 ∧ ¬ 4 < xs (i + 3)) ∧ (¬ xs (i + 4) < 0 ∧ ¬ 15 < xs (i + 4)) ∧ (¬ xs (i + 5) < -1000 ∧ ¬ 1000 < xs (i + 5))
  · obtain ⟨s0, hs0, e1⟩ := mi_s4 hv.1
    obtain ⟨n0, n1, n24, e2⟩ := mi_n24 hv.2.1
    obtain ⟨f0, hf0, e3⟩ := mi_in (n := 4) (by decide) hv.2.2.1
    obtain ⟨u0, hu0, e4⟩ := mi_in (n := 15) (by decide) hv.2.2.2.1
    have hcf : cv_f (Int32.ofNat f0) := by rw [← e3]; exact cv_f4.mpr hv.2.2.1
    have hC := sm_recv T (xs (i + 5)) hs0 n1 n24 (by omega : f0 < 5) (by omega : u0 < 16)
    exact lx_receive K hty hA hR hX hbl hbA hn hi hc hs kk (d := 7) (by omega) (ct_W_receive hty (by rw [e1, e2, e3, e4]; exact ct_A_receive hty g (rb_R h o) _ _ hs0 n1 n24 hcf (by omega) hv.2.2.2.2 hok (ma_hq h o))) (fun ad' => by rw [e1, e2, e3, e4]; exact ct_B_receive hty _ h _ _ hs0 n1 n24 (by omega) (by omega) hv.2.2.2.2 ho) (rb_recv_0 h _ _ _ _) (fun _ => by rw [hC.1]) hC.2
  · exact lx_receive K hty hA hR hX hbl hbA hn hi hc hs kk (d := 7) (by omega) (th_W_receive hty (th_A_receive hfl _ _ _ _ _ _ (fun z => hv ⟨z.1, z.2.1, cv_f4.mp z.2.2.1, cv_u15.mp z.2.2.2.1, z.2.2.2.2⟩))) (fun ad' => cx_B_receive hty g h _ _ _ _ _ _ hv) (mg_u_s h 20 0 1) (fun z => absurd z (by decide)) (sm_T0 T 1)
end LW7
