/-! the law's steps with throws: tick, replay, look, receive -/
theorem rb_again_0 (t : Int32) : ∀ (n : Nat) (h : rb_S), rb_again t n h 20 0 = h 20 0
  | 0, _ => rfl
  | n + 1, h => by
    cases e : rb_first h 4 (-1) t with
    | none => rw [rb_again_N e]
    | some j => rw [rb_again_S e, rb_again_0 t n, (sm_fr.takes (by rw [(rb_first_is e).2.2.1]; decide)).2.2.2 0 (Or.inl rfl)]
theorem rb_long_0 : ∀ (n : Nat) (h : rb_S), rb_long n h 20 0 = h 20 0
  | 0, _ => rfl
  | n + 1, h => by
    cases e : rb_first h 3 (-1) (h 20 16) with
    | none => rw [rb_long_N e]
    | some j =>
      rw [rb_long_S e]
      split
      · rfl
      · rw [rb_long_0 n]; rfl
theorem rb_tick_0 (h : rb_S) (t : Int32) : rb_tick h t 20 0 = 0 := by
  unfold rb_tick
  rw [rb_long_0, rb_again_0]
  rfl
theorem rb_comes_0 (h : rb_S) (m : Nat) : (rb_comes h m).1 20 0 = h 20 0 := by
  rcases rb_comes_c h m with ⟨e, -⟩ | ⟨e, -⟩
  · rw [e]; rfl
  · have a := (sm_fr.rel (m / 24) 24 1 (rb_takes (rb_put h m) m)).2.2.2 0 (Or.inl rfl)
    have b := (sm_fr.takes (h := rb_put h m) (m := m) (by rw [rb_put_29]; decide)).2.2.2 0 (Or.inl rfl)
    simp only [e]
    exact a.trans b
theorem rb_rep_0 (s : Nat) : ∀ (f n : Nat) (h : rb_S) (a : Nat), (rb_repF s n f h a).1 20 0 = h 20 0
  | 0, _, _, _ => rfl
  | f + 1, n, h, a => by
    show (if rb_rpP h (24 * s + n - 1) then rb_repF s (n + 1) f (rb_comes h (24 * s + n - 1)).1 (a + 1) else rb_repF s (n + 1) f h a).1 20 0 = _
    split
    · rw [rb_rep_0 s f, rb_comes_0]
    · rw [rb_rep_0 s f]
theorem rb_recv_0 (h : rb_S) (m f u : Nat) (v : Int32) : (rb_recv h m f u v).1 20 0 = 0 := by
  by_cases hq : rb_hs h m
  · rw [show rb_recv h m f u v = _ from if_pos hq]; rfl
  · rw [show rb_recv h m f u v = _ from if_neg hq]
    exact (rb_comes_0 _ _).trans rfl
section LW6
variable {p : Program} {l : Launch} {e : Env} {R : Room} {s : State} {m : MethodId} {args : Array Value} {below : List Frame} {meth : Method} {c : Code} {Q : State → Prop}
variable {D : va_G} {Z : Nat × Cell} {tys : List (ClassId × FieldType)} {A : Nat → Prop} {H0 : Heap} {ad : mg_Ad} {cells slots : Nat}
theorem lw_tick (K : mg_K p m c mc_W_law 7 s args mb_B mn_RW D mn_cl Z tys) (hty : tys.map (·.2) = ma_ty) (hA : ∀ q, H0.size ≤ q → A q) (hR : 11 ≤ R.frames ∧ 390 ≤ R.locals) {b n : Nat} {xs : Nat → Int32} (hX : va_X b n xs s H0) (hbl : b < H0.size) (hbA : ¬ A b) (hn : n ≤ 3072) {i : Nat} (hi : i + 6 ≤ n) (hc : cells + 1 ≤ R.cells) (hs : slots + 8 ≤ R.slots) {g : ca_S} {h : rb_S} {o : Int64} (T : sm_T g h) (kk : lw_N p l e R s m args below meth c Q D Z tys A H0 b i cells slots) (hfl : l.flags = pinnedFlags ++ [noTraceFlag]) : mg_G p l e R s m args below meth c D mn_cl Z A H0 7 Q ad (mr_C tys ma_sh ad (ma_R g (rb_R h o))) [some (va_rf (some b)), some (va_rf (some (ad 0 0))), some (va_rf (some (ad 20 0))), some (va_rf (some (ad 40 0))), some (.int (Int32.ofNat i))] cells slots [] 430 := by
  have hok : ca_ok g := by obtain ⟨_, _, _, _, S, -, -⟩ := T; exact S.1.2.2.2.2.2.1
  have ho : rb_ok h := by obtain ⟨_, _, _, _, S, -, -⟩ := T; exact S.1.2.2.2.2.2.2.1
  have hnow : ca_iv g 0 0 7 = h 20 1 := by obtain ⟨_, _, _, _, S, -, -⟩ := T; exact S.1.2.1
  by_cases hv : ¬ xs (i + 1) < h 20 1 ∧ ¬ 100000 < xs (i + 1)
  · obtain ⟨c1, c2, c3⟩ := sm_tick T hv.1 hv.2
    exact lx_tick K hty hA hR hX hbl hbA hn hi hc hs kk (d := 5) (by omega) (ct_W_tick hty (d := 6) (by omega) (ct_A_tick hty g (rb_R h o) _ hok (by rw [hnow]; exact hv.1) hv.2)) (fun ad' => ct_B_tick hty _ h _ _ hv ho c2) (rb_tick_0 h _) (fun _ => by rw [c3]) c1
  · exact lx_tick K hty hA hR hX hbl hbA hn hi hc hs kk (d := 5) (by omega) (th_W_tick hty (th_A_tick hfl g (rb_R h o) _ (by rw [hnow]; exact hv))) (fun ad' => cx_B_tick hty g h _ _ hv) (mg_u_s h 20 0 1) (fun z => absurd z (by decide)) (sm_T0 T 1)
theorem lw_replay (K : mg_K p m c mc_W_law 7 s args mb_B mn_RW D mn_cl Z tys) (hty : tys.map (·.2) = ma_ty) (hA : ∀ q, H0.size ≤ q → A q) (hR : 11 ≤ R.frames ∧ 390 ≤ R.locals) {b n : Nat} {xs : Nat → Int32} (hX : va_X b n xs s H0) (hbl : b < H0.size) (hbA : ¬ A b) (hn : n ≤ 3072) {i : Nat} (hi : i + 6 ≤ n) (hc : cells + 1 ≤ R.cells) (hs : slots + 8 ≤ R.slots) {g : ca_S} {h : rb_S} {o : Int64} (T : sm_T g h) (kk : lw_N p l e R s m args below meth c Q D Z tys A H0 b i cells slots) (hfl : l.flags = pinnedFlags ++ [noTraceFlag]) : mg_G p l e R s m args below meth c D mn_cl Z A H0 7 Q ad (mr_C tys ma_sh ad (ma_R g (rb_R h o))) [some (va_rf (some b)), some (va_rf (some (ad 0 0))), some (va_rf (some (ad 20 0))), some (va_rf (some (ad 40 0))), some (.int (Int32.ofNat i))] cells slots [] 598 := by
  have hok : ca_ok g := by obtain ⟨_, _, _, _, S, -, -⟩ := T; exact S.1.2.2.2.2.2.1
  have ho : rb_ok h := by obtain ⟨_, _, _, _, S, -, -⟩ := T; exact S.1.2.2.2.2.2.2.1
  by_cases hv : (¬ xs (i + 1) < 0 ∧ ¬ 4 ≤ xs (i + 1)) ∧ (¬ xs (i + 2) < 1 ∧ ¬ 24 < xs (i + 2))
  · obtain ⟨s0, hs0, e1⟩ := mi_s4 hv.1
    obtain ⟨n0, n1, n24, e2⟩ := mi_n24 hv.2
    have hC := sm_rep hs0 (25 - n0) n0 0 (by omega) n1 (sm_T0 T 0)
    exact lx_replay K hty hA hR hX hbl hbA hn hi hc hs kk (d := 7) (by omega) (ct_W_replay hty (d := 7) (by omega) (by rw [e1, e2]; exact ct_A_replay hty g (rb_R h o) hs0 n1 n24 hok)) (fun ad' => by rw [e1, e2]; exact ct_B_replay hty _ h _ hs0 n1 n24 ho) (by rw [rb_rep_0]; exact mg_u_s h 20 0 0) (fun _ => by rw [hC.1]) hC.2
  · exact lx_replay K hty hA hR hX hbl hbA hn hi hc hs kk (d := 7) (by omega) (th_W_replay hty (th_A_replay hfl _ _ _ hv)) (fun ad' => cx_B_replay hty g h _ _ _ hv) (mg_u_s h 20 0 1) (fun z => absurd z (by decide)) (sm_T0 T 1)
end LW6
