/-! the raw state: int fields and elements, long elements, references as (kind, index), how many there are of a kind; a kind's shape -/
abbrev mr_Sh : Type := (Nat × List Nat) ⊕ (Nat × Nat × Nat)
abbrev mr_St : Type := (Nat → Nat → Nat → Int32) × (Nat → Nat → Nat → Int64) × (Nat → Nat → Nat → Option (Nat × Nat)) × (Nat → Nat)
def mr_iv (r : mr_St) (k i f : Nat) : Int32 := r.1 k i f
def mr_lv (r : mr_St) (k i f : Nat) : Int64 := r.2.1 k i f
def mr_rv (r : mr_St) (k i f : Nat) : Option (Nat × Nat) := r.2.2.1 k i f
def mr_pn (r : mr_St) (k : Nat) : Nat := r.2.2.2 k
def mr_a (ad : mg_Ad) (x : Option (Nat × Nat)) : Option Nat := x.map (fun q => ad q.1 q.2)
def mr_F : List Nat → Nat → (Nat → Int32) → (Nat → Option Nat) → List Value
  | [], _, _, _ => []
  | t :: r, j, f, g => (if t = 1 then va_rf (g j) else .int (f j)) :: mr_F r (j + 1) f g
def mr_E (tys : List (ClassId × FieldType)) : mr_Sh → (Nat → Int32) → (Nat → Int64) → (Nat → Option Nat) → va_E
  | .inl (ci, fl), f, _, g => .inr (ci, mr_F fl 0 f g)
  | .inr (t0, n, 0), f, _, _ => .inl ((tys.getD t0 (0, .int)).1, n, .inl f)
  | .inr (t0, n, 1), _, h, _ => .inl ((tys.getD t0 (0, .int)).1, n, .inr (.inl h))
  | .inr (t0, n, _ + 2), _, _, g => .inl ((tys.getD t0 (0, .int)).1, n, .inr (.inr (.inr (.inr g))))
def mr_C (tys : List (ClassId × FieldType)) (sh : Nat → mr_Sh) (ad : mg_Ad) (r : mr_St) : mg_Ct := fun k i =>
  if i < mr_pn r k then some (mr_E tys (sh k) (mr_iv r k i) (mr_lv r k i) (fun j => mr_a ad (mr_rv r k i j))) else none
def mr_u3 {α : Type} (f : Nat → Nat → Nat → α) (k i j : Nat) (v : α) : Nat → Nat → Nat → α := fun a b c => if a = k ∧ b = i ∧ c = j then v else f a b c
theorem mr_u3_s {α : Type} (f : Nat → Nat → Nat → α) (k i j : Nat) (v : α) : mr_u3 f k i j v k i j = v := by simp [mr_u3]
theorem mr_u3_n {α : Type} (f : Nat → Nat → Nat → α) (k i j : Nat) (v : α) {a b c : Nat} (h : ¬ (a = k ∧ b = i ∧ c = j)) : mr_u3 f k i j v a b c = f a b c := if_neg h
def mr_sI (r : mr_St) (k i f : Nat) (v : Int32) : mr_St := (mr_u3 r.1 k i f v, r.2)
def mr_sL (r : mr_St) (k i f : Nat) (v : Int64) : mr_St := (r.1, mr_u3 r.2.1 k i f v, r.2.2)
def mr_sR (r : mr_St) (k i f : Nat) (v : Option (Nat × Nat)) : mr_St := (r.1, r.2.1, mr_u3 r.2.2.1 k i f v, r.2.2.2)
/-- one more of a kind, with its defaults -/
def mr_nw (r : mr_St) (k : Nat) : mr_St := (fun a b c => if a = k ∧ b = mr_pn r k then 0 else r.1 a b c, fun a b c => if a = k ∧ b = mr_pn r k then 0 else r.2.1 a b c, fun a b c => if a = k ∧ b = mr_pn r k then none else r.2.2.1 a b c, fun a => if a = k then mr_pn r k + 1 else r.2.2.2 a)
/-- references lead to what is there -/
def mr_wf (r : mr_St) : Prop := ∀ (k i f : Nat) (q : Nat × Nat), i < mr_pn r k → mr_rv r k i f = some q → q.2 < mr_pn r q.1
theorem mr_F_len : ∀ (fl : List Nat) (j : Nat) (f : Nat → Int32) (g : Nat → Option Nat), (mr_F fl j f g).length = fl.length
  | [], _, _, _ => rfl
  | t :: r, j, f, g => by simp [mr_F, mr_F_len r]
theorem mr_F_cg : ∀ (fl : List Nat) (j : Nat) (f f' : Nat → Int32) (g g' : Nat → Option Nat), (∀ x, j ≤ x → f x = f' x) → (∀ x, j ≤ x → g x = g' x) → mr_F fl j f g = mr_F fl j f' g'
  | [], _, _, _, _, _, _, _ => rfl
  | t :: r, j, f, f', g, g', h1, h2 => by
    simp only [mr_F]
    rw [h1 j (Nat.le_refl _), h2 j (Nat.le_refl _), mr_F_cg r (j + 1) f f' g g' (fun x hx => h1 x (by omega)) (fun x hx => h2 x (by omega))]
theorem mr_F_setI : ∀ (fl : List Nat) (j k : Nat) (f : Nat → Int32) (g : Nat → Option Nat) (v : Int32) (f' : Nat → Int32), fl[k]? = some 0 → f' (j + k) = v → (∀ x, x ≠ j + k → f' x = f x) → (mr_F fl j f g).set k (.int v) = mr_F fl j f' g
  | [], _, _, _, _, _, _, h, _, _ => by simp at h
  | t :: r, j, 0, f, g, v, f', h, h1, h2 => by
    simp at h
    subst h
    simp only [mr_F, List.set_cons_zero]
    rw [mr_F_cg r (j + 1) f f' g g (fun x hx => (h2 x (by omega)).symm) (fun _ _ => rfl)]
    rw [Nat.add_zero] at h1
    simp [h1]
  | t :: r, j, k + 1, f, g, v, f', h, h1, h2 => by
    simp at h
    simp only [mr_F, List.set_cons_succ]
    rw [h2 j (by omega), mr_F_setI r (j + 1) k f g v f' h (by rw [← h1]; congr 1; omega) (fun x hx => h2 x (by omega))]
theorem mr_F_setR : ∀ (fl : List Nat) (j k : Nat) (f : Nat → Int32) (g : Nat → Option Nat) (v : Option Nat) (g' : Nat → Option Nat), fl[k]? = some 1 → g' (j + k) = v → (∀ x, x ≠ j + k → g' x = g x) → (mr_F fl j f g).set k (va_rf v) = mr_F fl j f g'
  | [], _, _, _, _, _, _, h, _, _ => by simp at h
  | t :: r, j, 0, f, g, v, g', h, h1, h2 => by
    simp at h
    subst h
    simp only [mr_F, List.set_cons_zero]
    rw [mr_F_cg r (j + 1) f f g g' (fun _ _ => rfl) (fun x hx => (h2 x (by omega)).symm)]
    rw [Nat.add_zero] at h1
    simp [h1]
  | t :: r, j, k + 1, f, g, v, g', h, h1, h2 => by
    simp at h
    simp only [mr_F, List.set_cons_succ]
    rw [h2 j (by omega), mr_F_setR r (j + 1) k f g v g' h (by rw [← h1]; congr 1; omega) (fun x hx => h2 x (by omega))]
section MR1
variable {tys : List (ClassId × FieldType)} {sh : Nat → mr_Sh} {ad : mg_Ad} {r : mr_St} {k i f : Nat}
theorem mr_at (hi : i < mr_pn r k) : mr_C tys sh ad r k i = some (mr_E tys (sh k) (mr_iv r k i) (mr_lv r k i) (fun j => mr_a ad (mr_rv r k i j))) := if_pos hi
theorem mr_no (hi : ¬ i < mr_pn r k) : mr_C tys sh ad r k i = none := if_neg hi
theorem mr_obj {ci : Nat} {fl : List Nat} (hk : sh k = .inl (ci, fl)) (hi : i < mr_pn r k) : mr_C tys sh ad r k i = some (.inr (ci, mr_F fl 0 (mr_iv r k i) (fun j => mr_a ad (mr_rv r k i j)))) := by rw [mr_at hi, hk]; rfl
theorem mr_arI {t0 n : Nat} (hk : sh k = .inr (t0, n, 0)) (hi : i < mr_pn r k) : mr_C tys sh ad r k i = some (.inl ((tys.getD t0 (0, .int)).1, n, .inl (mr_iv r k i))) := by rw [mr_at hi, hk]; rfl
theorem mr_arL {t0 n : Nat} (hk : sh k = .inr (t0, n, 1)) (hi : i < mr_pn r k) : mr_C tys sh ad r k i = some (.inl ((tys.getD t0 (0, .int)).1, n, .inr (.inl (mr_lv r k i)))) := by rw [mr_at hi, hk]; rfl
theorem mr_arR {t0 n : Nat} (hk : sh k = .inr (t0, n, 2)) (hi : i < mr_pn r k) : mr_C tys sh ad r k i = some (.inl ((tys.getD t0 (0, .int)).1, n, .inr (.inr (.inr (.inr (fun j => mr_a ad (mr_rv r k i j))))))) := by rw [mr_at hi, hk]; rfl
theorem mr_tys {t0 : Nat} {ty : FieldType} (h : (tys[t0]?).map (·.2) = some ty) : tys[t0]? = some ((tys.getD t0 (0, .int)).1, ty) := by
  cases hq : tys[t0]? with
  | none => rw [hq] at h; cases h
  | some q =>
    rw [hq] at h
    obtain ⟨a, b⟩ := q
    cases h
    rw [List.getD_eq_getElem?_getD, hq]
    rfl
/-- a cell that is written: the world of the raw state that is written -/
theorem mr_upd {e : va_E} {r' : mr_St} (hi : i < mr_pn r k) (hp : mr_pn r' = mr_pn r) (he : e = mr_E tys (sh k) (mr_iv r' k i) (mr_lv r' k i) (fun j => mr_a ad (mr_rv r' k i j)))
    (ho : ∀ a b, ¬ (a = k ∧ b = i) → mr_iv r' a b = mr_iv r a b ∧ mr_lv r' a b = mr_lv r a b ∧ mr_rv r' a b = mr_rv r a b) : mg_u (mr_C tys sh ad r) k i (some e) = mr_C tys sh ad r' := by
  funext a b
  by_cases h : a = k ∧ b = i
  · obtain ⟨rfl, rfl⟩ := h
    rw [mg_u_s, mr_at (by rw [hp]; exact hi), he]
  · rw [mg_u_n _ _ _ _ h]
    obtain ⟨h1, h2, h3⟩ := ho a b h
    unfold mr_C
    rw [hp, h1, h2, h3]
theorem mr_setI {ci : Nat} {fl : List Nat} {v : Int32} (hk : sh k = .inl (ci, fl)) (hi : i < mr_pn r k) (hf : fl[f]? = some 0) : mg_u (mr_C tys sh ad r) k i (some (.inr (ci, (mr_F fl 0 (mr_iv r k i) (fun j => mr_a ad (mr_rv r k i j))).set f (.int v)))) = mr_C tys sh ad (mr_sI r k i f v) := by
  refine mr_upd hi rfl ?_ ?_
  · rw [hk]
    show _ = Sum.inr (ci, mr_F fl 0 _ _)
    rw [mr_F_setI fl 0 f (mr_iv r k i) (fun j => mr_a ad (mr_rv r k i j)) v (mr_iv (mr_sI r k i f v) k i) hf (by rw [Nat.zero_add]; exact mr_u3_s _ _ _ _ _) (fun x hx => mr_u3_n _ _ _ _ _ (fun h => hx (by rw [Nat.zero_add]; exact h.2.2)))]
    rfl
  · intro a b h
    exact ⟨funext fun x => mr_u3_n _ _ _ _ _ (fun z => h ⟨z.1, z.2.1⟩), rfl, rfl⟩
theorem mr_setR {ci : Nat} {fl : List Nat} {v : Option (Nat × Nat)} (hk : sh k = .inl (ci, fl)) (hi : i < mr_pn r k) (hf : fl[f]? = some 1) : mg_u (mr_C tys sh ad r) k i (some (.inr (ci, (mr_F fl 0 (mr_iv r k i) (fun j => mr_a ad (mr_rv r k i j))).set f (va_rf (mr_a ad v))))) = mr_C tys sh ad (mr_sR r k i f v) := by
  refine mr_upd hi rfl ?_ ?_
  · rw [hk]
    show _ = Sum.inr (ci, mr_F fl 0 _ _)
    rw [mr_F_setR fl 0 f (mr_iv r k i) (fun j => mr_a ad (mr_rv r k i j)) (mr_a ad v) (fun j => mr_a ad (mr_rv (mr_sR r k i f v) k i j)) hf (by rw [Nat.zero_add]; exact congrArg (mr_a ad) (mr_u3_s _ _ _ _ _)) (fun x hx => congrArg (mr_a ad) (mr_u3_n _ _ _ _ _ (fun h => hx (by rw [Nat.zero_add]; exact h.2.2))))]
    rfl
  · intro a b h
    exact ⟨rfl, rfl, funext fun x => mr_u3_n _ _ _ _ _ (fun z => h ⟨z.1, z.2.1⟩)⟩
theorem mr_staI {t0 n x : Nat} {v : Int32} (hk : sh k = .inr (t0, n, 0)) (hi : i < mr_pn r k) : mg_u (mr_C tys sh ad r) k i (some (.inl ((tys.getD t0 (0, .int)).1, n, .inl (upd (mr_iv r k i) x v)))) = mr_C tys sh ad (mr_sI r k i x v) := by
  refine mr_upd hi rfl ?_ ?_
  · rw [hk]
    show _ = Sum.inl (_, n, Sum.inl _)
    congr 4
    funext j
    by_cases hj : j = x
    · subst hj
      exact (by simp [upd] : upd (mr_iv r k i) j v j = v).trans (mr_u3_s _ _ _ _ _).symm
    · exact (by simp [upd, hj] : upd (mr_iv r k i) x v j = mr_iv r k i j).trans (mr_u3_n _ _ _ _ _ (fun h => hj h.2.2)).symm
  · intro a b h
    exact ⟨funext fun x => mr_u3_n _ _ _ _ _ (fun z => h ⟨z.1, z.2.1⟩), rfl, rfl⟩
theorem mr_staL {t0 n x : Nat} {v : Int64} (hk : sh k = .inr (t0, n, 1)) (hi : i < mr_pn r k) : mg_u (mr_C tys sh ad r) k i (some (.inl ((tys.getD t0 (0, .int)).1, n, .inr (.inl (vp_updL (mr_lv r k i) x v))))) = mr_C tys sh ad (mr_sL r k i x v) := by
  refine mr_upd hi rfl ?_ ?_
  · rw [hk]
    show _ = Sum.inl (_, n, Sum.inr (Sum.inl _))
    congr 5
    funext j
    by_cases hj : j = x
    · subst hj
      exact (by simp [vp_updL] : vp_updL (mr_lv r k i) j v j = v).trans (mr_u3_s _ _ _ _ _).symm
    · exact (by simp [vp_updL, hj] : vp_updL (mr_lv r k i) x v j = mr_lv r k i j).trans (mr_u3_n _ _ _ _ _ (fun h => hj h.2.2)).symm
  · intro a b h
    exact ⟨rfl, funext fun x => mr_u3_n _ _ _ _ _ (fun z => h ⟨z.1, z.2.1⟩), rfl⟩
theorem mr_staR {t0 n x : Nat} {v : Option (Nat × Nat)} (hk : sh k = .inr (t0, n, 2)) (hi : i < mr_pn r k) : mg_u (mr_C tys sh ad r) k i (some (.inl ((tys.getD t0 (0, .int)).1, n, .inr (.inr (.inr (.inr (va_up (fun j => mr_a ad (mr_rv r k i j)) x (mr_a ad v)))))))) = mr_C tys sh ad (mr_sR r k i x v) := by
  refine mr_upd hi rfl ?_ ?_
  · rw [hk]
    show _ = Sum.inl (_, n, Sum.inr (Sum.inr (Sum.inr (Sum.inr _))))
    congr 7
    funext j
    by_cases hj : j = x
    · subst hj
      exact (by simp [va_up] : va_up (fun j => mr_a ad (mr_rv r k i j)) j (mr_a ad v) j = mr_a ad v).trans (congrArg (mr_a ad) (mr_u3_s _ _ _ _ _)).symm
    · exact (by simp [va_up, hj] : va_up (fun j => mr_a ad (mr_rv r k i j)) x (mr_a ad v) j = mr_a ad (mr_rv r k i j)).trans (congrArg (mr_a ad) (mr_u3_n _ _ _ _ _ (fun h => hj h.2.2))).symm
  · intro a b h
    exact ⟨rfl, rfl, funext fun x => mr_u3_n _ _ _ _ _ (fun z => h ⟨z.1, z.2.1⟩)⟩
theorem mr_wf.a {ad' : mg_Ad} (h : mr_wf r) (ha : ∀ a b, b < mr_pn r a → ad' a b = ad a b) {a b c : Nat} (hb : b < mr_pn r a) : mr_a ad' (mr_rv r a b c) = mr_a ad (mr_rv r a b c) := by
  cases hq : mr_rv r a b c with
  | none => rfl
  | some q => exact congrArg some (ha _ _ (h a b c q hb hq))
/-- other addresses of what isn't there -/
theorem mr_adC {ad' : mg_Ad} (h : mr_wf r) (ha : ∀ a b, b < mr_pn r a → ad' a b = ad a b) : mr_C tys sh ad' r = mr_C tys sh ad r := by
  funext a b
  by_cases hb : b < mr_pn r a
  · rw [mr_at hb, mr_at hb]
    congr 2
    funext c
    exact h.a ha hb
  · rw [mr_no hb, mr_no hb]
/-- a cell that is made -/
theorem mr_made {q : Nat} {e : va_E} (h : mr_wf r) (he : e = mr_E tys (sh k) (fun _ => 0) (fun _ => 0) (fun _ => none)) : mg_u (mr_C tys sh ad r) k (mr_pn r k) (some e) = mr_C tys sh (mg_u ad k (mr_pn r k) q) (mr_nw r k) := by
  have ha : ∀ a b, b < mr_pn r a → mg_u ad k (mr_pn r k) q a b = ad a b := fun a b hb => mg_u_n _ _ _ _ (fun z => by obtain ⟨rfl, rfl⟩ := z; exact Nat.lt_irrefl _ hb)
  funext a b
  by_cases hab : a = k ∧ b = mr_pn r k
  · obtain ⟨rfl, rfl⟩ := hab
    have hp : mr_pn r a < mr_pn (mr_nw r a) a := by simp [mr_pn, mr_nw]
    rw [mg_u_s, mr_at hp, he]
    congr 2
    · funext c; simp [mr_iv, mr_nw]
    · funext c; simp [mr_lv, mr_nw]
    · funext c; simp [mr_rv, mr_nw, mr_a]
  · rw [mg_u_n _ _ _ _ hab]
    have hpe : (b < mr_pn (mr_nw r k) a) = (b < mr_pn r a) := by
      by_cases hak : a = k
      · subst hak
        have hb : b ≠ mr_pn r a := fun z => hab ⟨rfl, z⟩
        have : mr_pn (mr_nw r a) a = mr_pn r a + 1 := by simp [mr_pn, mr_nw]
        rw [this]
        exact propext ⟨fun _ => by omega, fun _ => by omega⟩
      · have : mr_pn (mr_nw r k) a = mr_pn r a := by simp [mr_pn, mr_nw, hak]
        rw [this]
    have hI : mr_iv (mr_nw r k) a b = mr_iv r a b := by funext c; simp only [mr_iv, mr_nw]; rw [if_neg hab]
    have hL : mr_lv (mr_nw r k) a b = mr_lv r a b := by funext c; simp only [mr_lv, mr_nw]; rw [if_neg hab]
    have hR : mr_rv (mr_nw r k) a b = mr_rv r a b := by funext c; simp only [mr_rv, mr_nw]; rw [if_neg hab]
    by_cases hb : b < mr_pn r a
    · rw [mr_at hb, mr_at (by rw [hpe]; exact hb), hI, hL, hR]
      congr 2
      funext c
      exact (h.a ha hb).symm
    · rw [mr_no hb, mr_no (by rw [hpe]; exact hb)]
theorem mr_nw_pn (r : mr_St) (k a : Nat) : mr_pn (mr_nw r k) a = if a = k then mr_pn r k + 1 else mr_pn r a := rfl
theorem mr_wf.nw (h : mr_wf r) (k : Nat) : mr_wf (mr_nw r k) := by
  intro a b c q hb hq
  rw [mr_nw_pn] at hb ⊢
  simp only [mr_rv, mr_nw] at hq
  by_cases hab : a = k ∧ b = mr_pn r k
  · rw [if_pos hab] at hq; cases hq
  · rw [if_neg hab] at hq
    have hb' : b < mr_pn r a := by
      by_cases hak : a = k
      · subst hak
        rw [if_pos rfl] at hb
        have : b ≠ mr_pn r a := fun z => hab ⟨rfl, z⟩
        omega
      · rwa [if_neg hak] at hb
    have := h a b c q hb' hq
    split
    · next he => rw [he] at this; omega
    · exact this
theorem mr_wf.sI (h : mr_wf r) (k i f : Nat) (v : Int32) : mr_wf (mr_sI r k i f v) := h
theorem mr_wf.sL (h : mr_wf r) (k i f : Nat) (v : Int64) : mr_wf (mr_sL r k i f v) := h
theorem mr_wf.sR (h : mr_wf r) (k i f : Nat) (v : Option (Nat × Nat)) (hv : ∀ q, v = some q → q.2 < mr_pn r q.1) : mr_wf (mr_sR r k i f v) := by
  intro a b c q hb hq
  by_cases hz : a = k ∧ b = i ∧ c = f
  · obtain ⟨rfl, rfl, rfl⟩ := hz
    exact hv q ((mr_u3_s _ _ _ _ _).symm.trans hq)
  · exact h a b c q hb ((mr_u3_n _ _ _ _ _ hz).symm.trans hq)
end MR1
