/-! the reference: ints by (kind, place): 20 its own fields, 21 .. 37 its arrays -/
abbrev rb_S : Type := Nat → Nat → Int32
def rb_fd : Nat → Option (Nat × Nat)
  | 2 => some (21, 0)
  | 3 => some (22, 0)
  | 4 => some (23, 0)
  | 5 => some (24, 0)
  | 6 => some (25, 0)
  | 7 => some (26, 0)
  | 8 => some (27, 0)
  | 9 => some (28, 0)
  | 10 => some (29, 0)
  | 11 => some (30, 0)
  | 12 => some (31, 0)
  | 13 => some (32, 0)
  | 14 => some (33, 0)
  | 15 => some (34, 0)
  | 17 => some (35, 0)
  | 19 => some (36, 0)
  | 21 => some (37, 0)
  | _ => none
def rb_R (h : rb_S) (o : Int64) : mr_St := (fun k i f => if i = 0 then h k f else 0, fun k i f => if k = 40 ∧ i = 0 ∧ f = 0 then o else 0, fun k _ f => if k = 20 then rb_fd f else none, fun k => if k < 38 then 1 else if k = 40 then 1 else 0)
theorem rb_sI (g : ca_S) (h : rb_S) (o : Int64) (k f : Nat) (v : Int32) (hk : 20 ≤ k) : mr_sI (ma_R g (rb_R h o)) k 0 f v = ma_R g (rb_R (mg_u h k f v) o) := by
  refine Prod.ext ?_ rfl
  funext a b c
  show mr_u3 (ma_iv g (rb_R h o)) k 0 f v a b c = ma_iv g (rb_R (mg_u h k f v) o) a b c
  by_cases hz : a = k ∧ b = 0 ∧ c = f
  · obtain ⟨rfl, rfl, rfl⟩ := hz
    rw [mr_u3_s]
    unfold ma_iv
    rw [if_neg (by omega), if_neg (by omega)]
    show v = if 0 = 0 then mg_u h a c v a c else 0
    rw [if_pos rfl, mg_u_s]
  · rw [mr_u3_n _ _ _ _ _ hz]
    unfold ma_iv
    by_cases h8 : a = 8
    · rw [if_pos h8, if_pos h8]
    · rw [if_neg h8, if_neg h8]
      by_cases h20 : a < 20
      · rw [if_pos h20, if_pos h20]
      · rw [if_neg h20, if_neg h20]
        show (if b = 0 then h a c else 0) = if b = 0 then mg_u h k f v a c else 0
        by_cases hb : b = 0
        · rw [if_pos hb, if_pos hb, mg_u_n _ _ _ _ (fun z => hz ⟨z.1, hb, z.2⟩)]
        · rw [if_neg hb, if_neg hb]
theorem rb_iv (g : ca_S) (h : rb_S) (o : Int64) (k f : Nat) (hk : 20 ≤ k) : mr_iv (ma_R g (rb_R h o)) k 0 f = h k f := by
  show ma_iv g (rb_R h o) k 0 f = _
  unfold ma_iv
  rw [if_neg (by omega), if_neg (by omega)]
  rfl
theorem rb_self (g : ca_S) (h : rb_S) (o : Int64) (k f : Nat) (v : Int32) (hk : 20 ≤ k) : mr_iv (ma_R g (rb_R (mg_u h k f v) o)) k 0 f = v := by rw [rb_iv _ _ _ _ _ hk, mg_u_s]
section RB0
variable {p : Program} {l : Launch} {e : Env} {R : Room} {s : State} {m : MethodId} {args : Array Value} {below : List Frame} {meth : Method} {c : Code} {Q : State → Prop}
variable {D : va_G} {cl : List vw_C} {Z : Nat × Cell} {tys : List (ClassId × FieldType)} {A : Nat → Prop} {H0 : Heap} {nL : Nat} {cc : ByteArray} {Ts : List Cond} {own : String}
variable {ad : mg_Ad} {C : mg_Ct} {L : List (Option Value)} {cells slots pc : Nat} {st : List Value}
theorem mg_idiv (K : mg_K p m c cc nL s args Ts own D cl Z tys) {x y : Int32} (hd : decode cc pc = .ok (.idiv, 1)) (hne : ¬ y = 0) (k : mg_G p l e R s m args below meth c D cl Z A H0 nL Q ad C L cells slots (.int (x / y) :: st) (pc + 1)) : mg_G p l e R s m args below meth c D cl Z A H0 nL Q ad C L cells slots (.int y :: .int x :: st) pc :=
  fun H locs ls hW hS hL => lv_idiv K.1.1 K.1.2.1 hd hne (k H locs ls hW hS hL)
theorem mg_irem (K : mg_K p m c cc nL s args Ts own D cl Z tys) {x y : Int32} (hd : decode cc pc = .ok (.irem, 1)) (hne : ¬ y = 0) (k : mg_G p l e R s m args below meth c D cl Z A H0 nL Q ad C L cells slots (.int (x - x / y * y) :: st) (pc + 1)) : mg_G p l e R s m args below meth c D cl Z A H0 nL Q ad C L cells slots (.int y :: .int x :: st) pc :=
  fun H locs ls hW hS hL => lv_irem K.1.1 K.1.2.1 hd hne (k H locs ls hW hS hL)
theorem mg_dup2 (K : mg_K p m c cc nL s args Ts own D cl Z tys) {va vb : Value} (hd : decode cc pc = .ok (.dup2, 1)) (hva : va.category = 1) (hvb : vb.category = 1) (k : mg_G p l e R s m args below meth c D cl Z A H0 nL Q ad C L cells slots (va :: vb :: va :: vb :: st) (pc + 1)) : mg_G p l e R s m args below meth c D cl Z A H0 nL Q ad C L cells slots (va :: vb :: st) pc :=
  fun H locs ls hW hS hL => lv_dup2_11 K.1.1 K.1.2.1 hd hva hvb (k H locs ls hW hS hL)
theorem mg_lcmp (K : mg_K p m c cc nL s args Ts own D cl Z tys) {x y : Int64} (hd : decode cc pc = .ok (.lcmp, 1)) (k : mg_G p l e R s m args below meth c D cl Z A H0 nL Q ad C L cells slots (.int (lg_cmp x y) :: st) (pc + 1)) : mg_G p l e R s m args below meth c D cl Z A H0 nL Q ad C L cells slots (.long y :: .long x :: st) pc :=
  fun H locs ls hW hS hL => W.lcmp K.1.1 K.1.2.1 hd (k H locs ls hW hS hL)
end RB0
theorem mi_mul (a b : Nat) : Int32.ofNat a * Int32.ofNat b = Int32.ofNat (a * b) := (Int32.ofNat_mul a b).symm
theorem mi_ix {s n : Nat} (h1 : 1 ≤ n) : 24 * Int32.ofNat s + Int32.ofNat n - 1 = Int32.ofNat (24 * s + n - 1) := by
  have e : (24 : Int32) * Int32.ofNat s = Int32.ofNat (24 * s) := mi_mul 24 s
  rw [e, ← Int32.ofNat_add, mi_s (by omega)]
def rb_here (h : rb_S) (m : Nat) : Bool := decide (¬ h 24 m = 0) && decide (¬ h 29 m = 6)
def rb_gapF (h : rb_S) (s : Nat) : Nat → Nat → Nat
  | n, 0 => n
  | n, f + 1 => if rb_here h (24 * s + n - 1) = true ∨ ¬ h 25 (24 * s + n - 1) = 0 then rb_gapF h s (n + 1) f else n
def rb_gap (h : rb_S) (s : Nat) : Nat := rb_gapF h s 1 24
def rb_manyF (h : rb_S) (w : Int32) : Nat → Nat → Nat → Nat
  | _, 0, a => a
  | m, f + 1, a => rb_manyF h w (m + 1) f (if ¬ h 24 m = 0 ∧ h 29 m = w then a + 1 else a)
def rb_many (h : rb_S) (w : Int32) : Nat := rb_manyF h w 0 96 0
section RB1
variable {l : Launch} {D : va_G} {Z : Nat × Cell} {tys : List (ClassId × FieldType)} {ad : mg_Ad}
theorem ct_B_in (x y z : Int32) : mr_MS l my_B_in mc_B_in 3 (some .boolean) 1 D mn_cl Z mb_B tys [.int x, .int y, .int z] (some (.int (if ¬ x < y ∧ ¬ z < x then 1 else 0))) := by
  intro ad C
  refine mg_M.of (cc := mc_B_in) (maxL := 3) (ret := (some .boolean)) (by decide) rfl (Nat.le_of_ble_eq_true rfl) (mg_caS rfl (mg_caS rfl (mg_caS rfl mg_ca0))) ?_
  intro p e s m args below meth c K hret hlk hnm hA
  refine mg_iload_n K md_B_in_0 rfl ?_
  refine mg_iload_n K md_B_in_1 rfl ?_
  refine mg_icmp_lt K 14 md_B_in_2 rfl (fun h2 => ?_) (fun h2 => ?_)
  · refine mg_iconst K (v := 0) md_B_in_14 (by decide) ?_
    exact mg_zret K hret hlk md_B_in_15 (by decide) (Nat.le_refl _) (Nat.le_refl _) ⟨by rw [if_neg (fun z => z.1 h2)], rfl, rfl⟩
  · refine mg_iload_n K md_B_in_5 rfl ?_
    refine mg_iload_n K md_B_in_6 rfl ?_
    refine mg_icmp_gt K 14 md_B_in_7 rfl (fun h7 => ?_) (fun h7 => ?_)
    · refine mg_iconst K (v := 0) md_B_in_14 (by decide) ?_
      exact mg_zret K hret hlk md_B_in_15 (by decide) (Nat.le_refl _) (Nat.le_refl _) ⟨by rw [if_neg (fun z => z.2 h7)], rfl, rfl⟩
    · refine mg_iconst K (v := 1) md_B_in_10 (by decide) ?_
      refine mg_goto K 15 md_B_in_11 rfl ?_
      exact mg_zret K hret hlk md_B_in_15 (by decide) (Nat.le_refl _) (Nat.le_refl _) ⟨by rw [if_pos ⟨h2, h7⟩], rfl, rfl⟩
theorem ct_B_isSender (x : Int32) : mr_MS l my_B_isSender mc_B_isSender 1 (some .boolean) 1 D mn_cl Z mb_B tys [.int x] (some (.int (if ¬ x < 0 ∧ ¬ 4 ≤ x then 1 else 0))) := by
  intro ad C
  refine mg_M.of (cc := mc_B_isSender) (maxL := 1) (ret := (some .boolean)) (by decide) rfl (Nat.le_of_ble_eq_true rfl) (mg_caS rfl mg_ca0) ?_
  intro p e s m args below meth c K hret hlk hnm hA
  refine mg_iload_n K md_B_isSender_0 rfl ?_
  refine mg_if_lt K 13 md_B_isSender_1 rfl (fun h1 => ?_) (fun h1 => ?_)
  · refine mg_iconst K (v := 0) md_B_isSender_13 (by decide) ?_
    exact mg_zret K hret hlk md_B_isSender_14 (by decide) (Nat.le_refl _) (Nat.le_refl _) ⟨by rw [if_neg (fun z => z.1 h1)], rfl, rfl⟩
  · refine mg_iload_n K md_B_isSender_4 rfl ?_
    refine mg_iconst K (v := 4) md_B_isSender_5 (by decide) ?_
    refine mg_icmp_ge K 13 md_B_isSender_6 rfl (fun h6 => ?_) (fun h6 => ?_)
    · refine mg_iconst K (v := 0) md_B_isSender_13 (by decide) ?_
      exact mg_zret K hret hlk md_B_isSender_14 (by decide) (Nat.le_refl _) (Nat.le_refl _) ⟨by rw [if_neg (fun z => z.2 h6)], rfl, rfl⟩
    · refine mg_iconst K (v := 1) md_B_isSender_9 (by decide) ?_
      refine mg_goto K 14 md_B_isSender_10 rfl ?_
      exact mg_zret K hret hlk md_B_isSender_14 (by decide) (Nat.le_refl _) (Nat.le_refl _) ⟨by rw [if_pos ⟨h1, h6⟩], rfl, rfl⟩
theorem ct_B_isNumber (x : Int32) : mr_MS l my_B_isNumber mc_B_isNumber 1 (some .boolean) 1 D mn_cl Z mb_B tys [.int x] (some (.int (if ¬ x < 1 ∧ ¬ 24 < x then 1 else 0))) := by
  intro ad C
  refine mg_M.of (cc := mc_B_isNumber) (maxL := 1) (ret := (some .boolean)) (by decide) rfl (Nat.le_of_ble_eq_true rfl) (mg_caS rfl mg_ca0) ?_
  intro p e s m args below meth c K hret hlk hnm hA
  refine mg_iload_n K md_B_isNumber_0 rfl ?_
  refine mg_iconst K (v := 1) md_B_isNumber_1 (by decide) ?_
  refine mg_icmp_lt K 15 md_B_isNumber_2 rfl (fun h2 => ?_) (fun h2 => ?_)
  · refine mg_iconst K (v := 0) md_B_isNumber_15 (by decide) ?_
    exact mg_zret K hret hlk md_B_isNumber_16 (by decide) (Nat.le_refl _) (Nat.le_refl _) ⟨by rw [if_neg (fun z => z.1 h2)], rfl, rfl⟩
  · refine mg_iload_n K md_B_isNumber_5 rfl ?_
    refine mg_bipush K (v := 24) md_B_isNumber_6 (by decide) ?_
    refine mg_icmp_gt K 15 md_B_isNumber_8 rfl (fun h8 => ?_) (fun h8 => ?_)
    · refine mg_iconst K (v := 0) md_B_isNumber_15 (by decide) ?_
      exact mg_zret K hret hlk md_B_isNumber_16 (by decide) (Nat.le_refl _) (Nat.le_refl _) ⟨by rw [if_neg (fun z => z.2 h8)], rfl, rfl⟩
    · refine mg_iconst K (v := 1) md_B_isNumber_11 (by decide) ?_
      refine mg_goto K 16 md_B_isNumber_12 rfl ?_
      exact mg_zret K hret hlk md_B_isNumber_16 (by decide) (Nat.le_refl _) (Nat.le_refl _) ⟨by rw [if_pos ⟨h2, h8⟩], rfl, rfl⟩
theorem ct_B_thrown (hty : tys.map (·.2) = ma_ty) (g : ca_S) (h : rb_S) (o : Int64)  : mr_M l my_B_thrown mc_B_thrown 1 (some .int) 1 D mn_cl Z mb_B tys ma_sh [va_rf (some (ad 20 0))] ad (ma_R g (rb_R h o)) (some (.int (h 20 0))) (ma_R g (rb_R h o)) := by
  refine mg_M.of (cc := mc_B_thrown) (maxL := 1) (ret := (some .int)) (by decide) rfl (Nat.le_of_ble_eq_true rfl) (mg_caS rfl mg_ca0) ?_
  intro p e s m args below meth c K hret hlk hnm hA
  refine mg_aload_n K md_B_thrown_0 rfl ?_
  refine mr_getI (v := h 20 0) K mf_B_62 md_B_thrown_1 (by decide) Nat.zero_lt_one rfl ?_
  exact mg_iret K hret hlk md_B_thrown_4 (Nat.le_refl _) (Nat.le_refl _) ⟨rfl, rfl, rfl⟩
theorem ct_B_refuse (hty : tys.map (·.2) = ma_ty) (g : ca_S) (h : rb_S) (o : Int64) (x : Int32) : mr_M l my_B_refuse mc_B_refuse 2 (some .int) 1 D mn_cl Z mb_B tys ma_sh [va_rf (some (ad 20 0)), .int x] ad (ma_R g (rb_R h o)) (some (.int 0)) (ma_R g (rb_R (mg_u h 20 0 x) o)) := by
  refine mg_M.of (cc := mc_B_refuse) (maxL := 2) (ret := (some .int)) (by decide) rfl (Nat.le_of_ble_eq_true rfl) (mg_caS rfl (mg_caS rfl mg_ca0)) ?_
  intro p e s m args below meth c K hret hlk hnm hA
  refine mg_aload_n K md_B_refuse_0 rfl ?_
  refine mg_iload_n K md_B_refuse_1 rfl ?_
  refine mr_putI K mf_B_62 md_B_refuse_2 Nat.zero_lt_one ?_
  refine mr_eqr (rb_sI _ _ _ _ _ _ (by decide)) ?_
  refine mg_iconst K (v := 0) md_B_refuse_5 (by decide) ?_
  exact mg_iret K hret hlk md_B_refuse_6 (Nat.le_refl _) (Nat.le_refl _) ⟨rfl, rfl, rfl⟩
theorem ct_B_isHere (hty : tys.map (·.2) = ma_ty) (g : ca_S) (h : rb_S) (o : Int64) {m0 : Nat} (hm : m0 < 96) : mr_M l my_B_isHere mc_B_isHere 2 (some .boolean) 1 D mn_cl Z mb_B tys ma_sh [va_rf (some (ad 20 0)), .int (Int32.ofNat m0)] ad (ma_R g (rb_R h o)) (some (.int (if rb_here h m0 then 1 else 0))) (ma_R g (rb_R h o)) := by
  refine mg_M.of (cc := mc_B_isHere) (maxL := 2) (ret := (some .boolean)) (by decide) rfl (Nat.le_of_ble_eq_true rfl) (mg_caS rfl (mg_caS rfl mg_ca0)) ?_
  intro p e s m args below meth c K hret hlk hnm hA
  refine mg_aload_n K md_B_isHere_0 rfl ?_
  refine mr_getS (k2 := 24) (i2 := 0) K mf_B_19 md_B_isHere_1 Nat.zero_lt_one rfl ?_
  refine mg_iload_n K md_B_isHere_4 rfl ?_
  refine mr_zald (v := h 24 m0) K rfl (ma_t hty 2) md_B_isHere_5 Nat.zero_lt_one (mi_vn (by omega) (by omega)) (by rw [mi_tn (by omega)]; rfl) ?_
  refine mg_if_eq K 24 md_B_isHere_6 rfl (fun h6 => ?_) (fun h6 => ?_)
  · refine mg_iconst K (v := 0) md_B_isHere_24 (by decide) ?_
    exact mg_zret K hret hlk md_B_isHere_25 (by decide) (Nat.le_refl _) (Nat.le_refl _) ⟨by unfold rb_here; rw [decide_eq_false (fun z => z h6)]; rfl, rfl, rfl⟩
  · refine mg_aload_n K md_B_isHere_9 rfl ?_
    refine mr_getS (k2 := 29) (i2 := 0) K mf_B_35 md_B_isHere_10 Nat.zero_lt_one rfl ?_
    refine mg_iload_n K md_B_isHere_13 rfl ?_
    refine mr_iald (v := h 29 m0) K rfl (ma_t hty 4) md_B_isHere_14 Nat.zero_lt_one (mi_vn (by omega) (by omega)) (by rw [mi_tn (by omega)]; rfl) ?_
    refine mg_bipush K (v := 6) md_B_isHere_15 (by decide) ?_
    refine mg_icmp_eq K 24 md_B_isHere_17 rfl (fun h17 => ?_) (fun h17 => ?_)
    · refine mg_iconst K (v := 0) md_B_isHere_24 (by decide) ?_
      exact mg_zret K hret hlk md_B_isHere_25 (by decide) (Nat.le_refl _) (Nat.le_refl _) ⟨by unfold rb_here; rw [decide_eq_false (p := ¬ h 29 m0 = 6) (fun z => z h17), Bool.and_false]; rfl, rfl, rfl⟩
    · refine mg_iconst K (v := 1) md_B_isHere_20 (by decide) ?_
      refine mg_goto K 25 md_B_isHere_21 rfl ?_
      exact mg_zret K hret hlk md_B_isHere_25 (by decide) (Nat.le_refl _) (Nat.le_refl _) ⟨by unfold rb_here; rw [decide_eq_true h6, decide_eq_true (p := ¬ h 29 m0 = 6) h17]; rfl, rfl, rfl⟩
theorem ct_B_gap (hty : tys.map (·.2) = ma_ty) (g : ca_S) (h : rb_S) (o : Int64) {s0 : Nat} (hs : s0 < 4) : mr_M l my_B_gap mc_B_gap 3 (some .int) 2 D mn_cl Z mb_B tys ma_sh [va_rf (some (ad 20 0)), .int (Int32.ofNat s0)] ad (ma_R g (rb_R h o)) (some (.int (Int32.ofNat (rb_gap h s0)))) (ma_R g (rb_R h o)) := by
  refine mg_M.of (cc := mc_B_gap) (maxL := 3) (ret := (some .int)) (by decide) rfl (Nat.le_of_ble_eq_true rfl) (mg_caS rfl (mg_caS rfl mg_ca0)) ?_
  intro p e s m args below meth c K hret hlk hnm hA
  have loop : ∀ (f n : Nat), n + f = 25 → 1 ≤ n → rb_gapF h s0 n f = rb_gap h s0 → mg_G p l e (mg_rm 2 0 0) s m args below meth c D mn_cl Z (mg_A ad (mr_C tys ma_sh ad (ma_R g (rb_R h o))) s.heap.size) s.heap 3 (MQ below (mg_Qc D mn_cl Z ad (mr_C tys ma_sh ad (ma_R g (rb_R h o))) s.heap.size (mg_Po tys ma_sh ad (some (.int (Int32.ofNat (rb_gap h s0)))) (ma_R g (rb_R h o)))) args s 0 0 (mg_A ad (mr_C tys ma_sh ad (ma_R g (rb_R h o))) s.heap.size)) ad (mr_C tys ma_sh ad (ma_R g (rb_R h o))) [some (va_rf (some (ad 20 0))), some (.int (Int32.ofNat s0)), some (.int (Int32.ofNat n))] 0 0 [] 2 := by
    intro f
    induction f with
    | zero =>
      intro n hn h1 hT
      refine mg_iload_n K md_B_gap_2 rfl ?_
      refine mg_bipush K (v := 24) md_B_gap_3 (by decide) ?_
      refine mg_icmp_gt K 45 md_B_gap_5 rfl (fun h5 => ?_) (fun h5 => ?_)
      · refine mg_iload_n K md_B_gap_45 rfl ?_
        exact mg_iret K hret hlk md_B_gap_46 (Nat.le_refl _) (Nat.le_refl _) ⟨by rw [← hT]; rfl, rfl, rfl⟩
      · exact absurd ((mi_lt (a := 24) (b := n) (by omega) (by omega)).mpr (by omega)) h5
    | succ f ih =>
      intro n hn h1 hT
      have hS : (if rb_here h (24 * s0 + n - 1) = true ∨ ¬ h 25 (24 * s0 + n - 1) = 0 then rb_gapF h s0 (n + 1) f else n) = rb_gap h s0 := hT
      refine mg_iload_n K md_B_gap_2 rfl ?_
      refine mg_bipush K (v := 24) md_B_gap_3 (by decide) ?_
      refine mg_icmp_gt K 45 md_B_gap_5 rfl (fun h5 => ?_) (fun h5 => ?_)
      · exact absurd ((mi_lt (a := 24) (b := n) (by omega) (by omega)).mp h5) (by omega)
      · refine mg_aload_n K md_B_gap_8 rfl ?_
        refine mg_bipush K (v := 24) md_B_gap_9 (by decide) ?_
        refine mg_iload_n K md_B_gap_11 rfl ?_
        refine mg_imul K md_B_gap_12 ?_
        refine mg_iload_n K md_B_gap_13 rfl ?_
        refine mg_iadd K md_B_gap_14 ?_
        refine mg_iconst K (v := 1) md_B_gap_15 (by decide) ?_
        refine mg_isub K md_B_gap_16 ?_
        rw [mi_ix h1]
        refine mr_cV K hA (ct_B_isHere hty g h o (m0 := 24 * s0 + n - 1) (by omega)) ms_B_66 (by decide) md_B_gap_17 rfl rfl Nat.zero_lt_one rfl (Nat.le_of_ble_eq_true rfl) ⟨Nat.zero_le _, Nat.zero_le _⟩ ?_
        refine mg_if_ne K 39 md_B_gap_20 rfl (fun h20 => ?_) (fun h20 => ?_)
        · have hh : rb_here h (24 * s0 + n - 1) = true := by cases hq : rb_here h (24 * s0 + n - 1) with | true => rfl | false => (rw [hq] at h20; exact absurd rfl h20)
          rw [if_pos (Or.inl hh)] at hS
          refine mg_iinc K (v := Int32.ofNat (n + 1)) md_B_gap_39 rfl (mi_a1 n) (by decide) ?_
          refine mg_goto K 2 md_B_gap_42 rfl ?_
          exact ih (n + 1) (by omega) (by omega) hS
        · have hh : rb_here h (24 * s0 + n - 1) = false := by cases hq : rb_here h (24 * s0 + n - 1) with | true => (rw [hq] at h20; exact absurd h20 (by decide)) | false => rfl
          refine mg_aload_n K md_B_gap_23 rfl ?_
          refine mr_getS (k2 := 25) (i2 := 0) K mf_B_23 md_B_gap_24 Nat.zero_lt_one rfl ?_
          refine mg_bipush K (v := 24) md_B_gap_27 (by decide) ?_
          refine mg_iload_n K md_B_gap_29 rfl ?_
          refine mg_imul K md_B_gap_30 ?_
          refine mg_iload_n K md_B_gap_31 rfl ?_
          refine mg_iadd K md_B_gap_32 ?_
          refine mg_iconst K (v := 1) md_B_gap_33 (by decide) ?_
          refine mg_isub K md_B_gap_34 ?_
          rw [mi_ix h1]
          refine mr_zald (v := h 25 (24 * s0 + n - 1)) K rfl (ma_t hty 2) md_B_gap_35 Nat.zero_lt_one (mi_vn (by omega) (by omega)) (by rw [mi_tn (by omega)]; rfl) ?_
          refine mg_if_eq K 45 md_B_gap_36 rfl (fun h36 => ?_) (fun h36 => ?_)
          · rw [if_neg (fun z => z.elim (fun y => by rw [hh] at y; cases y) (fun y => y h36))] at hS
            refine mg_iload_n K md_B_gap_45 rfl ?_
            exact mg_iret K hret hlk md_B_gap_46 (Nat.le_refl _) (Nat.le_refl _) ⟨by rw [← hS], rfl, rfl⟩
          · rw [if_pos (Or.inr h36)] at hS
            refine mg_iinc K (v := Int32.ofNat (n + 1)) md_B_gap_39 rfl (mi_a1 n) (by decide) ?_
            refine mg_goto K 2 md_B_gap_42 rfl ?_
            exact ih (n + 1) (by omega) (by omega) hS
  refine mg_iconst K (v := 1) md_B_gap_0 (by decide) ?_
  refine mg_istore_n K md_B_gap_1 (by decide) ?_
  exact loop 24 1 (by omega) (by omega) rfl
theorem ct_B_many (hty : tys.map (·.2) = ma_ty) (g : ca_S) (h : rb_S) (o : Int64) (w : Int32) : mr_M l my_B_many mc_B_many 4 (some .int) 1 D mn_cl Z mb_B tys ma_sh [va_rf (some (ad 20 0)), .int w] ad (ma_R g (rb_R h o)) (some (.int (Int32.ofNat (rb_many h w)))) (ma_R g (rb_R h o)) := by
  refine mg_M.of (cc := mc_B_many) (maxL := 4) (ret := (some .int)) (by decide) rfl (Nat.le_of_ble_eq_true rfl) (mg_caS rfl (mg_caS rfl mg_ca0)) ?_
  intro p e s m args below meth c K hret hlk hnm hA
  have loop : ∀ (f k a : Nat), k + f = 96 → rb_manyF h w k f a = rb_many h w → mg_G p l e (mg_rm 1 0 0) s m args below meth c D mn_cl Z (mg_A ad (mr_C tys ma_sh ad (ma_R g (rb_R h o))) s.heap.size) s.heap 4 (MQ below (mg_Qc D mn_cl Z ad (mr_C tys ma_sh ad (ma_R g (rb_R h o))) s.heap.size (mg_Po tys ma_sh ad (some (.int (Int32.ofNat (rb_many h w)))) (ma_R g (rb_R h o)))) args s 0 0 (mg_A ad (mr_C tys ma_sh ad (ma_R g (rb_R h o))) s.heap.size)) ad (mr_C tys ma_sh ad (ma_R g (rb_R h o))) [some (va_rf (some (ad 20 0))), some (.int w), some (.int (Int32.ofNat a)), some (.int (Int32.ofNat k))] 0 0 [] 4 := by
    intro f
    induction f with
    | zero =>
      intro k a hk hT
      refine mg_iload_n K md_B_many_4 rfl ?_
      refine mg_bipush K (v := 96) md_B_many_5 (by decide) ?_
      refine mg_icmp_ge K 43 md_B_many_7 rfl (fun h7 => ?_) (fun h7 => ?_)
      · refine mg_iload_n K md_B_many_43 rfl ?_
        exact mg_iret K hret hlk md_B_many_44 (Nat.le_refl _) (Nat.le_refl _) ⟨by rw [← hT]; rfl, rfl, rfl⟩
      · exact absurd ((mi_le (a := 96) (b := k) (by omega) (by omega)).mpr (by omega)) h7
    | succ f ih =>
      intro k a hk hT
      have hS : rb_manyF h w (k + 1) f (if ¬ h 24 k = 0 ∧ h 29 k = w then a + 1 else a) = rb_many h w := hT
      refine mg_iload_n K md_B_many_4 rfl ?_
      refine mg_bipush K (v := 96) md_B_many_5 (by decide) ?_
      refine mg_icmp_ge K 43 md_B_many_7 rfl (fun h7 => ?_) (fun h7 => ?_)
      · exact absurd ((mi_le (a := 96) (b := k) (by omega) (by omega)).mp h7) (by omega)
      · refine mg_iload_n K md_B_many_10 rfl ?_
        refine mg_aload_n K md_B_many_11 rfl ?_
        refine mr_getS (k2 := 24) (i2 := 0) K mf_B_19 md_B_many_12 Nat.zero_lt_one rfl ?_
        refine mg_iload_n K md_B_many_15 rfl ?_
        refine mr_zald (v := h 24 k) K rfl (ma_t hty 2) md_B_many_16 Nat.zero_lt_one (mi_vn (by omega) (by omega)) (by rw [mi_tn (by omega)]; rfl) ?_
        refine mg_if_eq K 34 md_B_many_17 rfl (fun h17 => ?_) (fun h17 => ?_)
        · rw [if_neg (fun z => z.1 h17)] at hS
          refine mg_iconst K (v := 0) md_B_many_34 (by decide) ?_
          refine mg_iadd K md_B_many_35 ?_
          rw [show Int32.ofNat a + 0 = Int32.ofNat a from Int32.add_zero _]
          refine mg_istore_n K md_B_many_36 (by decide) ?_
          refine mg_iinc K (v := Int32.ofNat (k + 1)) md_B_many_37 rfl (mi_a1 k) (by decide) ?_
          refine mg_goto K 4 md_B_many_40 rfl ?_
          exact ih (k + 1) _ (by omega) hS
        · refine mg_aload_n K md_B_many_20 rfl ?_
          refine mr_getS (k2 := 29) (i2 := 0) K mf_B_35 md_B_many_21 Nat.zero_lt_one rfl ?_
          refine mg_iload_n K md_B_many_24 rfl ?_
          refine mr_iald (v := h 29 k) K rfl (ma_t hty 4) md_B_many_25 Nat.zero_lt_one (mi_vn (by omega) (by omega)) (by rw [mi_tn (by omega)]; rfl) ?_
          refine mg_iload_n K md_B_many_26 rfl ?_
          refine mg_icmp_ne K 34 md_B_many_27 rfl (fun h27 => ?_) (fun h27 => ?_)
          · rw [if_neg (fun z => h27 z.2)] at hS
            refine mg_iconst K (v := 0) md_B_many_34 (by decide) ?_
            refine mg_iadd K md_B_many_35 ?_
            rw [show Int32.ofNat a + 0 = Int32.ofNat a from Int32.add_zero _]
            refine mg_istore_n K md_B_many_36 (by decide) ?_
            refine mg_iinc K (v := Int32.ofNat (k + 1)) md_B_many_37 rfl (mi_a1 k) (by decide) ?_
            refine mg_goto K 4 md_B_many_40 rfl ?_
            exact ih (k + 1) _ (by omega) hS
          · rw [if_pos ⟨h17, h27⟩] at hS
            refine mg_iconst K (v := 1) md_B_many_30 (by decide) ?_
            refine mg_goto K 35 md_B_many_31 rfl ?_
            refine mg_iadd K md_B_many_35 ?_
            rw [mi_a1]
            refine mg_istore_n K md_B_many_36 (by decide) ?_
            refine mg_iinc K (v := Int32.ofNat (k + 1)) md_B_many_37 rfl (mi_a1 k) (by decide) ?_
            refine mg_goto K 4 md_B_many_40 rfl ?_
            exact ih (k + 1) _ (by omega) hS
  refine mg_iconst K (v := 0) md_B_many_0 (by decide) ?_
  refine mg_istore_n K md_B_many_1 (by decide) ?_
  refine mg_iconst K (v := 0) md_B_many_2 (by decide) ?_
  refine mg_istore_n K md_B_many_3 (by decide) ?_
  exact loop 96 0 0 (by omega) rfl
theorem ct_B_refused (hty : tys.map (·.2) = ma_ty) (g : ca_S) (h : rb_S) (o : Int64) {m0 : Nat} (hm : m0 < 96) (r : Int32) : mr_M l my_B_refused mc_B_refused 3 (some .int) 1 D mn_cl Z mb_B tys ma_sh [va_rf (some (ad 20 0)), .int (Int32.ofNat m0), .int r] ad (ma_R g (rb_R h o)) (some (.int (-r))) (ma_R g (rb_R (mg_u (mg_u h 29 m0 2) 30 m0 (-r)) o)) := by
  refine mg_M.of (cc := mc_B_refused) (maxL := 3) (ret := (some .int)) (by decide) rfl (Nat.le_of_ble_eq_true rfl) (mg_caS rfl (mg_caS rfl (mg_caS rfl mg_ca0))) ?_
  intro p e s m args below meth c K hret hlk hnm hA
  refine mg_aload_n K md_B_refused_0 rfl ?_
  refine mr_getS (k2 := 29) (i2 := 0) K mf_B_35 md_B_refused_1 Nat.zero_lt_one rfl ?_
  refine mg_iload_n K md_B_refused_4 rfl ?_
  refine mg_iconst K (v := 2) md_B_refused_5 (by decide) ?_
  refine mr_iast K rfl (ma_t hty 4) md_B_refused_6 Nat.zero_lt_one (mi_vn (by omega) (by omega)) ?_
  rw [mi_tn (by omega)]
  refine mr_eqr (rb_sI _ _ _ _ _ _ (by decide)) ?_
  refine mg_aload_n K md_B_refused_7 rfl ?_
  refine mr_getS (k2 := 30) (i2 := 0) K mf_B_38 md_B_refused_8 Nat.zero_lt_one rfl ?_
  refine mg_iload_n K md_B_refused_11 rfl ?_
  refine mg_iload_n K md_B_refused_12 rfl ?_
  refine mg_ineg K md_B_refused_13 ?_
  refine mr_iast K rfl (ma_t hty 4) md_B_refused_14 Nat.zero_lt_one (mi_vn (by omega) (by omega)) ?_
  rw [mi_tn (by omega)]
  refine mr_eqr (rb_sI _ _ _ _ _ _ (by decide)) ?_
  refine mg_iload_n K md_B_refused_15 rfl ?_
  refine mg_ineg K md_B_refused_16 ?_
  exact mg_iret K hret hlk md_B_refused_17 (Nat.le_refl _) (Nat.le_refl _) ⟨rfl, rfl, rfl⟩
end RB1
