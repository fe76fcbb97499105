/-! the law's steps with throws: each call -/
theorem mi_s4 {x : Int32} (h : ¬ x < 0 ∧ ¬ 4 ≤ x) : ∃ s : Nat, s < 4 ∧ x = Int32.ofNat s := by
  obtain ⟨u, hu, rfl⟩ := mi_ex h.1
  exact ⟨u, by have := mt (mi_le (a := 4) (b := u) (by omega) hu).mpr h.2; omega, rfl⟩
theorem mi_n24 {x : Int32} (h : ¬ x < 1 ∧ ¬ 24 < x) : ∃ n : Nat, 1 ≤ n ∧ n ≤ 24 ∧ x = Int32.ofNat n := by
  have h0 : ¬ x < 0 := fun z => h.1 (Int32.lt_trans z (by decide))
  obtain ⟨u, hu, rfl⟩ := mi_ex h0
  exact ⟨u, by have := mt (mi_lt (a := u) (b := 1) hu (by omega)).mpr h.1; omega, by have := mt (mi_lt (a := 24) (b := u) (by omega) hu).mpr h.2; omega, rfl⟩
theorem rb_cut_0 : ∀ (f m : Nat) (h : rb_S) (a : Nat), (rb_cutF m f h a).1 20 0 = h 20 0
  | 0, _, _, _ => rfl
  | f + 1, m, h, a => by
    show (if ¬ h 24 m = 0 ∧ h 29 m = 0 then rb_cutF (m + 1) f (mg_u h 29 m 6) (a + 1) else rb_cutF (m + 1) f h a).1 20 0 = _
    split
    · rw [rb_cut_0]; rfl
    · rw [rb_cut_0]
theorem sm_fr.rel (s : Nat) : ∀ (f n : Nat) (h : rb_S), sm_fr h (rb_relF s n f h)
  | 0, _, h => sm_fr.rf h
  | f + 1, n, h => by
    show sm_fr h (rb_relF s (n + 1) f (if ¬ h 24 (24 * s + n - 1) = 0 ∧ h 29 (24 * s + n - 1) = 0 ∧ n < rb_gap h s then rb_takes h (24 * s + n - 1) else h))
    split
    · next hz => exact (sm_fr.takes (by rw [hz.2.1]; decide)).tr (sm_fr.rel s f (n + 1) _)
    · exact sm_fr.rel s f (n + 1) h
theorem rb_skip_0 (h : rb_S) (s : Nat) (hs : s < 4) : (rb_skip h s).1 20 0 = 0 := by
  by_cases hm : rb_may h s = true
  · have e2 : rb_skip h s = (rb_rel (mg_u (mg_u h 20 0 0) 25 (24 * s + rb_gap h s - 1) 1) s, Int32.ofNat (rb_gap h s)) := if_pos hm
    have f := (sm_fr.rel s 24 1 (mg_u (mg_u h 20 0 0) 25 (24 * s + rb_gap h s - 1) 1)).2.2.2 0 (Or.inl rfl)
    simp only [e2]
    exact f
  · have e2 : rb_skip h s = (mg_u h 20 0 0, -1) := if_neg hm
    rw [e2]; rfl
section LW5
variable {p : Program} {l : Launch} {e : Env} {R : Room} {s : State} {m : MethodId} {args : Array Value} {below : List Frame} {meth : Method} {c : Code} {Q : State → Prop}
variable {D : va_G} {Z : Nat × Cell} {tys : List (ClassId × FieldType)} {A : Nat → Prop} {H0 : Heap} {ad : mg_Ad} {cells slots : Nat}
theorem lw_status (K : mg_K p m c mc_W_law 7 s args mb_B mn_RW D mn_cl Z tys) (hty : tys.map (·.2) = ma_ty) (hA : ∀ q, H0.size ≤ q → A q) (hR : 11 ≤ R.frames ∧ 390 ≤ R.locals) {b n : Nat} {xs : Nat → Int32} (hX : va_X b n xs s H0) (hbl : b < H0.size) (hbA : ¬ A b) (hn : n ≤ 3072) {i : Nat} (hi : i + 6 ≤ n) (hc : cells + 1 ≤ R.cells) (hs : slots + 8 ≤ R.slots) {g : ca_S} {h : rb_S} {o : Int64} (T : sm_T g h) (kk : lw_N p l e R s m args below meth c Q D Z tys A H0 b i cells slots) (hfl : l.flags = pinnedFlags ++ [noTraceFlag]) : mg_G p l e R s m args below meth c D mn_cl Z A H0 7 Q ad (mr_C tys ma_sh ad (ma_R g (rb_R h o))) [some (va_rf (some b)), some (va_rf (some (ad 0 0))), some (va_rf (some (ad 20 0))), some (va_rf (some (ad 40 0))), some (.int (Int32.ofNat i))] cells slots [] 216 := by
  have hok : ca_ok g := by obtain ⟨_, _, _, _, S, -, -⟩ := T; exact S.1.2.2.2.2.2.1
  have ho : rb_ok h := by obtain ⟨_, _, _, _, S, -, -⟩ := T; exact S.1.2.2.2.2.2.2.1
  by_cases hv : (¬ xs (i + 1) < 0 ∧ ¬ 4 ≤ xs (i + 1)) ∧ (¬ xs (i + 2) < 1 ∧ ¬ 24 < xs (i + 2))
  · obtain ⟨s0, hs0, e1⟩ := mi_s4 hv.1
    obtain ⟨n0, n1, n24, e2⟩ := mi_n24 hv.2
    exact lx_status K hty hA hR hX hbl hbA hn hi hc hs kk (d := 3) (by omega) (ct_W_status hty (d := 3) (by omega) (by rw [e1, e2]; exact ct_A_status hty g (rb_R h o) hs0 n1 n24 hok)) (fun ad' => by rw [e1, e2]; exact ct_B_status hty g h _ hs0 n1 n24) (mg_u_s h 20 0 0) (fun _ => by rw [(sm_stat T hs0 n1 n24).1]) (sm_T0 T 0)
  · exact lx_status K hty hA hR hX hbl hbA hn hi hc hs kk (d := 3) (by omega) (th_W_status hty (th_A_status hfl _ _ _ hv)) (fun ad' => cx_B_status hty g h _ _ _ hv) (mg_u_s h 20 0 1) (fun z => absurd z (by decide)) (sm_T0 T 1)
theorem lw_answer (K : mg_K p m c mc_W_law 7 s args mb_B mn_RW D mn_cl Z tys) (hty : tys.map (·.2) = ma_ty) (hA : ∀ q, H0.size ≤ q → A q) (hR : 11 ≤ R.frames ∧ 390 ≤ R.locals) {b n : Nat} {xs : Nat → Int32} (hX : va_X b n xs s H0) (hbl : b < H0.size) (hbA : ¬ A b) (hn : n ≤ 3072) {i : Nat} (hi : i + 6 ≤ n) (hc : cells + 1 ≤ R.cells) (hs : slots + 8 ≤ R.slots) {g : ca_S} {h : rb_S} {o : Int64} (T : sm_T g h) (kk : lw_N p l e R s m args below meth c Q D Z tys A H0 b i cells slots) (hfl : l.flags = pinnedFlags ++ [noTraceFlag]) : mg_G p l e R s m args below meth c D mn_cl Z A H0 7 Q ad (mr_C tys ma_sh ad (ma_R g (rb_R h o))) [some (va_rf (some b)), some (va_rf (some (ad 0 0))), some (va_rf (some (ad 20 0))), some (va_rf (some (ad 40 0))), some (.int (Int32.ofNat i))] cells slots [] 284 := by
  have hok : ca_ok g := by obtain ⟨_, _, _, _, S, -, -⟩ := T; exact S.1.2.2.2.2.2.1
  have ho : rb_ok h := by obtain ⟨_, _, _, _, S, -, -⟩ := T; exact S.1.2.2.2.2.2.2.1
  by_cases hv : (¬ xs (i + 1) < 0 ∧ ¬ 4 ≤ xs (i + 1)) ∧ (¬ xs (i + 2) < 1 ∧ ¬ 24 < xs (i + 2))
  · obtain ⟨s0, hs0, e1⟩ := mi_s4 hv.1
    obtain ⟨n0, n1, n24, e2⟩ := mi_n24 hv.2
    exact lx_answer K hty hA hR hX hbl hbA hn hi hc hs kk (d := 3) (by omega) (ct_W_answer hty (d := 3) (by omega) (by rw [e1, e2]; exact ct_A_answer hty g (rb_R h o) hs0 n1 n24 hok)) (fun ad' => by rw [e1, e2]; exact ct_B_answer hty g h _ hs0 n1 n24) (mg_u_s h 20 0 0) (fun _ => by rw [(sm_stat T hs0 n1 n24).2]) (sm_T0 T 0)
  · exact lx_answer K hty hA hR hX hbl hbA hn hi hc hs kk (d := 3) (by omega) (th_W_answer hty (th_A_answer hfl _ _ _ hv)) (fun ad' => cx_B_answer hty g h _ _ _ hv) (mg_u_s h 20 0 1) (fun z => absurd z (by decide)) (sm_T0 T 1)
theorem lw_cut (K : mg_K p m c mc_W_law 7 s args mb_B mn_RW D mn_cl Z tys) (hty : tys.map (·.2) = ma_ty) (hA : ∀ q, H0.size ≤ q → A q) (hR : 11 ≤ R.frames ∧ 390 ≤ R.locals) {b n : Nat} {xs : Nat → Int32} (hX : va_X b n xs s H0) (hbl : b < H0.size) (hbA : ¬ A b) (hn : n ≤ 3072) {i : Nat} (hi : i + 6 ≤ n) (hc : cells + 1 ≤ R.cells) (hs : slots + 8 ≤ R.slots) {g : ca_S} {h : rb_S} {o : Int64} (T : sm_T g h) (kk : lw_N p l e R s m args below meth c Q D Z tys A H0 b i cells slots) (hfl : l.flags = pinnedFlags ++ [noTraceFlag]) : mg_G p l e R s m args below meth c D mn_cl Z A H0 7 Q ad (mr_C tys ma_sh ad (ma_R g (rb_R h o))) [some (va_rf (some b)), some (va_rf (some (ad 0 0))), some (va_rf (some (ad 20 0))), some (va_rf (some (ad 40 0))), some (.int (Int32.ofNat i))] cells slots [] 542 := by
  have hok : ca_ok g := by obtain ⟨_, _, _, _, S, -, -⟩ := T; exact S.1.2.2.2.2.2.1
  have ho : rb_ok h := by obtain ⟨_, _, _, _, S, -, -⟩ := T; exact S.1.2.2.2.2.2.2.1
  by_cases hv : ¬ xs (i + 1) < 0 ∧ ¬ 4 ≤ xs (i + 1)
  · obtain ⟨s0, hs0, e1⟩ := mi_s4 hv
    have hC := sm_cut hs0 24 1 0 (by omega) (by omega) (sm_T0 T 0)
    rw [show 24 * s0 + 1 - 1 = 24 * s0 by omega] at hC
    exact lx_cut K hty hA hR hX hbl hbA hn hi hc hs kk (d := 3) (by omega) (ct_W_cut hty (d := 5) (by omega) (by rw [e1]; exact ct_A_cut hty g (rb_R h o) hs0 hok)) (fun ad' => by rw [e1]; exact ct_B_cut hty _ h _ hs0) (by rw [rb_cut_0]; exact mg_u_s h 20 0 0) (fun _ => by rw [hC.1]) hC.2
  · exact lx_cut K hty hA hR hX hbl hbA hn hi hc hs kk (d := 3) (by omega) (th_W_cut hty (th_A_cut hfl _ _ hv)) (fun ad' => cx_B_cut hty g h _ _ hv) (mg_u_s h 20 0 1) (fun z => absurd z (by decide)) (sm_T0 T 1)
theorem lw_skip (K : mg_K p m c mc_W_law 7 s args mb_B mn_RW D mn_cl Z tys) (hty : tys.map (·.2) = ma_ty) (hA : ∀ q, H0.size ≤ q → A q) (hR : 11 ≤ R.frames ∧ 390 ≤ R.locals) {b n : Nat} {xs : Nat → Int32} (hX : va_X b n xs s H0) (hbl : b < H0.size) (hbA : ¬ A b) (hn : n ≤ 3072) {i : Nat} (hi : i + 6 ≤ n) (hc : cells + 1 ≤ R.cells) (hs : slots + 8 ≤ R.slots) {g : ca_S} {h : rb_S} {o : Int64} (T : sm_T g h) (kk : lw_N p l e R s m args below meth c Q D Z tys A H0 b i cells slots) (hfl : l.flags = pinnedFlags ++ [noTraceFlag]) : mg_G p l e R s m args below meth c D mn_cl Z A H0 7 Q ad (mr_C tys ma_sh ad (ma_R g (rb_R h o))) [some (va_rf (some b)), some (va_rf (some (ad 0 0))), some (va_rf (some (ad 20 0))), some (va_rf (some (ad 40 0))), some (.int (Int32.ofNat i))] cells slots [] 486 := by
  have hok : ca_ok g := by obtain ⟨_, _, _, _, S, -, -⟩ := T; exact S.1.2.2.2.2.2.1
  have ho : rb_ok h := by obtain ⟨_, _, _, _, S, -, -⟩ := T; exact S.1.2.2.2.2.2.2.1
  by_cases hv : ¬ xs (i + 1) < 0 ∧ ¬ 4 ≤ xs (i + 1)
  · obtain ⟨s0, hs0, e1⟩ := mi_s4 hv
    have hC := sm_skip T hs0
    exact lx_skip K hty hA hR hX hbl hbA hn hi hc hs kk (d := 6) (by omega) (ct_W_skip hty (d := 6) (by omega) (by rw [e1]; exact ct_A_skip hty g (rb_R h o) hs0 hok)) (fun ad' => by rw [e1]; exact ct_B_skip hty _ h _ hs0 ho) (rb_skip_0 h s0 hs0) (fun _ => by rw [hC.1]) hC.2
  · exact lx_skip K hty hA hR hX hbl hbA hn hi hc hs kk (d := 6) (by omega) (th_W_skip hty (th_A_skip hfl _ _ hv)) (fun ad' => cx_B_skip hty g h _ _ hv) (mg_u_s h 20 0 1) (fun z => absurd z (by decide)) (sm_T0 T 1)
end LW5
