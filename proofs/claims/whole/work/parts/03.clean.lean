/-! The clean layer: the machine's walk W seen through ONE world (all cells of the class, of the reference and of the law's out array): cells have numbers, their int contents are σ, their long contents τ; addresses stay behind g. -/
abbrev wd_G : Type := (Nat → Nat) × va_G × (Nat → ClassId)
abbrev wd_S : Type := Nat → Nat → Int32
abbrev wd_L : Type := Nat → Nat → Int64
/-- a value of the clean layer: .ref k is cell number k, .retAddr a is a cell outside the world -/
def cw_v (ad : Nat → Nat) : Value → Value
  | .ref k => .ref (ad k)
  | .retAddr a => .ref a
  | .int x => .int x
  | .long x => .long x
  | .float x => .float x
  | .double x => .double x
  | .null => .null
def cw_up (σ : wd_S) (c k : Nat) (x : Int32) : wd_S := fun c' k' => if c' = c ∧ k' = k then x else σ c' k'
def cw_uq (τ : wd_L) (c k : Nat) (x : Int64) : wd_L := fun c' k' => if c' = c ∧ k' = k then x else τ c' k'
theorem cw_up_eq (σ : wd_S) (c k : Nat) (x : Int32) : cw_up σ c k x c k = x := by simp [cw_up]
theorem cw_up_ne {σ : wd_S} {c k c' k' : Nat} {x : Int32} (h : ¬ (c' = c ∧ k' = k)) : cw_up σ c k x c' k' = σ c' k' := by simp [cw_up, h]
theorem cw_up_nc {σ : wd_S} {c k c' k' : Nat} {x : Int32} (h : c' ≠ c) : cw_up σ c k x c' k' = σ c' k' := by simp [cw_up, h]
theorem cw_up_nk {σ : wd_S} {c k c' k' : Nat} {x : Int32} (h : k' ≠ k) : cw_up σ c k x c' k' = σ c' k' := by simp [cw_up, h]
theorem cw_up_c {σ : wd_S} {c k c' : Nat} {x : Int32} (h : c' ≠ c) : cw_up σ c k x c' = σ c' := by funext k'; simp [cw_up, h]
theorem cw_up_u (σ : wd_S) (c k : Nat) (x : Int32) : cw_up σ c k x c = upd (σ c) k x := by funext k'; simp [cw_up, upd]
theorem cw_uq_c {τ : wd_L} {c k c' : Nat} {x : Int64} (h : c' ≠ c) : cw_uq τ c k x c' = τ c' := by funext k'; simp [cw_uq, h]
theorem cw_uq_u (τ : wd_L) (c k : Nat) (x : Int64) : cw_uq τ c k x c = vp_updL (τ c) k x := by funext k'; simp [cw_uq, vp_updL]
/-- a field: kind 0 an int, 1 a long, 2 the one cell of kind j, 3 the cell of kind j of the same number -/
def wd_fv (c : Nat) (σ : wd_S) (τ : wd_L) (k : Nat) (f : Nat × Nat) : Value :=
  match f.1 with
  | 0 => .int (σ c k)
  | 1 => .long (τ c k)
  | 2 => .ref (4 * f.2)
  | _ => .ref (4 * f.2 + c % 4)
def wd_fs (c : Nat) (σ : wd_S) (τ : wd_L) (fl : List (Nat × Nat)) : List Value := fl.zipIdx.map (fun q => wd_fv c σ τ q.2 q.1)
theorem wd_fs_at {c k : Nat} {σ : wd_S} {τ : wd_L} {fl : List (Nat × Nat)} {f : Nat × Nat} (h : fl[k]? = some f) : (wd_fs c σ τ fl)[k]? = some (wd_fv c σ τ k f) := by
  simp [wd_fs, List.getElem?_zipIdx, h]
theorem wd_fs_len (c : Nat) (σ : wd_S) (τ : wd_L) (fl : List (Nat × Nat)) : (wd_fs c σ τ fl).length = fl.length := by simp [wd_fs]
theorem wd_fs_up {c k j : Nat} {σ : wd_S} {τ : wd_L} {fl : List (Nat × Nat)} {x : Int32} (h : fl[k]? = some (0, j)) : (wd_fs c σ τ fl).set k (.int x) = wd_fs c (cw_up σ c k x) τ fl := by
  apply List.ext_getElem?
  intro i
  rw [List.getElem?_set]
  by_cases hi : k = i
  · subst hi
    have hl : k < fl.length := (List.getElem?_eq_some_iff.mp h).1
    rw [if_pos rfl, if_pos (by rw [wd_fs_len]; exact hl), wd_fs_at h]
    simp [wd_fv, cw_up]
  · rw [if_neg hi]
    cases hf : fl[i]? with
    | none => simp [wd_fs, List.getElem?_zipIdx, hf]
    | some f =>
      rw [wd_fs_at hf, wd_fs_at hf]
      have e : cw_up σ c k x c i = σ c i := cw_up_nk (fun q => hi q.symm)
      simp only [wd_fv, e]
theorem wd_fs_uq {c k j : Nat} {σ : wd_S} {τ : wd_L} {fl : List (Nat × Nat)} {x : Int64} (h : fl[k]? = some (1, j)) : (wd_fs c σ τ fl).set k (.long x) = wd_fs c σ (cw_uq τ c k x) fl := by
  apply List.ext_getElem?
  intro i
  rw [List.getElem?_set]
  by_cases hi : k = i
  · subst hi
    have hl : k < fl.length := (List.getElem?_eq_some_iff.mp h).1
    rw [if_pos rfl, if_pos (by rw [wd_fs_len]; exact hl), wd_fs_at h]
    simp [wd_fv, cw_uq]
  · rw [if_neg hi]
    cases hf : fl[i]? with
    | none => simp [wd_fs, List.getElem?_zipIdx, hf]
    | some f =>
      rw [wd_fs_at hf, wd_fs_at hf]
      have hne : i ≠ k := fun q => hi q.symm
      have e : cw_uq τ c k x c i = τ c i := by simp [cw_uq, hne]
      simp only [wd_fv, e]
/-- the cell number c, as the machine has it -/
def wd_ce (g : wd_G) (σ : wd_S) (τ : wd_L) (c : Nat) : va_E :=
  match wd_kd (c / 4) with
  | (0, n, _) => .inl (g.2.2 0, n, .inl (σ c))
  | (1, n, _) => .inl (g.2.2 1, n, .inl (σ c))
  | (2, n, _) => .inl (g.2.2 2, n, .inr (.inl (τ c)))
  | (3, n, fl) => .inl (g.2.2 3, n, .inr (.inr (.inr (.inr (fun i => some (g.1 (4 * (fl.headD (0, 0)).2 + i)))))))
  | (_, ci, fl) => .inr (ci, (wd_fs c σ τ fl).map (cw_v g.1))
theorem wd_ce_i {g : wd_G} {σ : wd_S} {τ : wd_L} {c n : Nat} {fl : List (Nat × Nat)} (h : wd_kd (c / 4) = (0, n, fl)) : wd_ce g σ τ c = .inl (g.2.2 0, n, .inl (σ c)) := by simp only [wd_ce, h]
theorem wd_ce_z {g : wd_G} {σ : wd_S} {τ : wd_L} {c n : Nat} {fl : List (Nat × Nat)} (h : wd_kd (c / 4) = (1, n, fl)) : wd_ce g σ τ c = .inl (g.2.2 1, n, .inl (σ c)) := by simp only [wd_ce, h]
theorem wd_ce_l {g : wd_G} {σ : wd_S} {τ : wd_L} {c n : Nat} {fl : List (Nat × Nat)} (h : wd_kd (c / 4) = (2, n, fl)) : wd_ce g σ τ c = .inl (g.2.2 2, n, .inr (.inl (τ c))) := by simp only [wd_ce, h]
theorem wd_ce_r {g : wd_G} {σ : wd_S} {τ : wd_L} {c n : Nat} {fl : List (Nat × Nat)} (h : wd_kd (c / 4) = (3, n, fl)) : wd_ce g σ τ c = .inl (g.2.2 3, n, .inr (.inr (.inr (.inr (fun i => some (g.1 (4 * (fl.headD (0, 0)).2 + i))))))) := by simp only [wd_ce, h]
theorem wd_ce_o {g : wd_G} {σ : wd_S} {τ : wd_L} {c n : Nat} {fl : List (Nat × Nat)} (h : wd_kd (c / 4) = (4, n, fl)) : wd_ce g σ τ c = .inr (n, (wd_fs c σ τ fl).map (cw_v g.1)) := by simp only [wd_ce, h]
theorem wd_fs_ext {c : Nat} {σ σ' : wd_S} {τ τ' : wd_L} (h1 : σ' c = σ c) (h2 : τ' c = τ c) (fl : List (Nat × Nat)) : wd_fs c σ' τ' fl = wd_fs c σ τ fl := by
  unfold wd_fs
  congr 1
  funext q
  simp only [wd_fv, h1, h2]
theorem wd_ce_ext {g : wd_G} {σ σ' : wd_S} {τ τ' : wd_L} {c : Nat} (h1 : σ' c = σ c) (h2 : τ' c = τ c) : wd_ce g σ' τ' c = wd_ce g σ τ c := by
  simp only [wd_ce, h1, h2, wd_fs_ext h1 h2]
def wd_w (ids : List Nat) (g : wd_G) (σ : wd_S) (τ : wd_L) : va_W := ids.map (fun c => (g.1 c, wd_ce g σ τ c))
theorem wd_at {ids : List Nat} {g : wd_G} {σ : wd_S} {τ : wd_L} {i c : Nat} (h : ids[i]? = some c) : (wd_w ids g σ τ)[i]? = some (g.1 c, wd_ce g σ τ c) := by simp [wd_w, h]
theorem wd_inj {ids : List Nat} (hn : ids.Nodup) {i j c : Nat} (h1 : ids[i]? = some c) (h2 : ids[j]? = some c) : i = j := by
  obtain ⟨a1, b1⟩ := List.getElem?_eq_some_iff.mp h1
  obtain ⟨a2, b2⟩ := List.getElem?_eq_some_iff.mp h2
  have hp := List.pairwise_iff_getElem.mp hn
  rcases Nat.lt_trichotomy i j with h | h | h
  · exact absurd (b1.trans b2.symm) (hp i j a1 a2 h)
  · exact h
  · exact absurd (b2.trans b1.symm) (hp j i a2 a1 h)
theorem wd_set {ids : List Nat} (hn : ids.Nodup) {g : wd_G} {σ σ' : wd_S} {τ τ' : wd_L} {i c : Nat} {x : va_E} (h : ids[i]? = some c) (hs : ∀ c', c' ≠ c → σ' c' = σ c') (ht : ∀ c', c' ≠ c → τ' c' = τ c') (hx : x = wd_ce g σ' τ' c) : (wd_w ids g σ τ).set i (g.1 c, x) = wd_w ids g σ' τ' := by
  apply List.ext_getElem?
  intro j
  rw [List.getElem?_set]
  by_cases hj : i = j
  · subst hj
    rw [if_pos rfl, wd_at h, if_pos (by have := (List.getElem?_eq_some_iff.mp (wd_at (g := g) (σ := σ) (τ := τ) h)).1; exact this), hx]
  · rw [if_neg hj]
    cases hc : ids[j]? with
    | none => simp [wd_w, hc]
    | some c' =>
      have hne : c' ≠ c := fun q => hj (wd_inj hn h (q ▸ hc))
      rw [wd_at hc, wd_at hc, wd_ce_ext (hs c' hne) (ht c' hne)]
theorem wd_D {ids : List Nat} {A : Nat → Prop} {g : wd_G} {σ σ' : wd_S} {τ τ' : wd_L} (h : va_D A (wd_w ids g σ τ)) : va_D A (wd_w ids g σ' τ') := by
  have key : ∀ (i : Nat) (q : Nat × va_E), (wd_w ids g σ' τ')[i]? = some q → ∃ q', (wd_w ids g σ τ)[i]? = some q' ∧ q'.1 = q.1 := by
    intro i q hq
    cases hc : ids[i]? with
    | none => simp [wd_w, hc] at hq
    | some c =>
      rw [wd_at hc] at hq
      cases hq
      exact ⟨_, wd_at hc, rfl⟩
  refine ⟨fun i j a b ha hb hab => ?_, fun k q hk => ?_⟩
  · obtain ⟨a', ha', ea⟩ := key i a ha
    obtain ⟨b', hb', eb⟩ := key j b hb
    exact h.1 i j a' b' ha' hb' (by rw [ea, eb]; exact hab)
  · obtain ⟨q', hq', eq'⟩ := key k q hk
    rw [← eq']
    exact h.2 k q' hq'
abbrev wd_ty (g : wd_G) : List (ClassId × FieldType) := [(g.2.2 0, .int), (g.2.2 1, .boolean), (g.2.2 2, .long), (g.2.2 3, .object wd_R)]
/-- cell c is there, and of that kind -/
def wd_is (ids : List Nat) (c : Nat) (k : Nat × Nat × List (Nat × Nat)) : Prop := c ∈ ids ∧ wd_kd (c / 4) = k
/-- the locals, as far as they are known -/
def cw_lh (ad : Nat → Nat) (nL : Nat) (ls : List (Option Value)) (la : Array Slot) : Prop := la.size = nL ∧ lv_wf la ∧ ∀ (i : Nat) (v : Value), ls[i]? = some (some v) → la[i]? = some (.val (cw_v ad v)) ∧ (cw_v ad v).category = 1
def cw_pr (ad : Nat → Nat) (ls : List (Option Value)) : List (Nat × Value) := (List.range ls.length).filterMap (fun i => match ls[i]? with | some (some v) => some (i, cw_v ad v) | _ => none)
theorem cw_pr_mem {ad : Nat → Nat} {ls : List (Option Value)} {q : Nat × Value} : q ∈ cw_pr ad ls ↔ ∃ v, ls[q.1]? = some (some v) ∧ q.2 = cw_v ad v := by
  unfold cw_pr
  rw [List.mem_filterMap]
  constructor
  · rintro ⟨i, hi, h⟩
    split at h
    · rename_i v hv
      cases h
      exact ⟨v, hv, rfl⟩
    · cases h
  · rintro ⟨v, hv, h2⟩
    refine ⟨q.1, List.mem_range.mpr (List.getElem?_eq_some_iff.mp hv).1, ?_⟩
    simp only [hv, ← h2]
/-- all values of one word -/
def cw_c1 : Value → Bool
  | .long _ => false
  | .double _ => false
  | _ => true
theorem cw_c1_cat {v : Value} (h : cw_c1 v = true) (ad : Nat → Nat) : (cw_v ad v).category = 1 := by
  cases v <;> first | rfl | (simp [cw_c1] at h)
theorem cw_lh_has {ad : Nat → Nat} {nL : Nat} {ls : List (Option Value)} {la : Array Slot} (h : cw_lh ad nL ls la) : lv_has la nL (cw_pr ad ls) := by
  refine ⟨h.1, h.2.1, fun q hq => ?_⟩
  obtain ⟨v, h1, h2⟩ := cw_pr_mem.mp hq
  rw [h2]
  exact (h.2.2 _ _ h1).1
theorem cw_lh_set {ad : Nat → Nat} {nL i : Nat} {ls : List (Option Value)} {la la' : Array Slot} {v : Value} (h : cw_lh ad nL ls la) (hc : (cw_v ad v).category = 1)
    (h' : lv_has la' nL ((i, cw_v ad v) :: (cw_pr ad ls).filter (fun q => !(q.1 == i) && !(q.1 + 1 == i && q.2.category == 2)))) : cw_lh ad nL (ls.set i (some v)) la' := by
  refine ⟨h'.1, h'.2.1, fun j w hj => ?_⟩
  rw [List.getElem?_set] at hj
  by_cases hij : i = j
  · subst hij
    rw [if_pos rfl] at hj
    split at hj
    · cases hj
      exact ⟨h'.2.2 (i, cw_v ad v) List.mem_cons_self, hc⟩
    · cases hj
  · rw [if_neg hij] at hj
    have hc2 := (h.2.2 _ _ hj).2
    refine ⟨h'.2.2 (j, cw_v ad w) (List.mem_cons_of_mem _ (List.mem_filter.mpr ⟨cw_pr_mem.mpr ⟨w, hj, rfl⟩, ?_⟩)), hc2⟩
    have hne : j ≠ i := fun q => hij q.symm
    simp [hc2, hne]
def cw_in (av : List Value) (nL : Nat) : List (Option Value) := av.map some ++ List.replicate (nL - av.length) none
theorem cw_args_at : ∀ (vs : List Value) (k i : Nat) (v : Value), (∀ w ∈ vs, w.category = 1) → vs[i]? = some v → (k + i, v) ∈ lv_args k vs := by
  intro vs
  induction vs with
  | nil => intro k i v _ h; simp at h
  | cons w t ih =>
    intro k i v hc h
    have hw : ¬ w.category = 2 := by rw [hc w List.mem_cons_self]; decide
    simp only [lv_args, if_neg hw]
    cases i with
    | zero => simp at h; subst h; exact List.mem_cons_self
    | succ n =>
      have := ih (k + 1) n v (fun x hx => hc x (List.mem_cons_of_mem _ hx)) (by simpa using h)
      rw [show k + (n + 1) = k + 1 + n by omega]
      exact List.mem_cons_of_mem _ this
theorem cw_sl_len : ∀ (vs : List Value), (∀ w ∈ vs, w.category = 1) → (lg_sl vs).length = vs.length := by
  intro vs
  induction vs with
  | nil => intro _; rfl
  | cons w t ih =>
    intro hc
    have hw : ¬ w.category = 2 := by rw [hc w List.mem_cons_self]; decide
    have e : lg_sl (w :: t) = [.val w] ++ lg_sl t := by simp [lg_sl, hw]
    rw [e, List.length_append, ih (fun x hx => hc x (List.mem_cons_of_mem _ hx))]
    simp; omega
theorem cw_lh_in {ad : Nat → Nat} {nL : Nat} {av : List Value} (hc : ∀ w ∈ av, (cw_v ad w).category = 1) (hn : av.length ≤ nL) :
    cw_lh ad nL (cw_in av nL) ((lg_sl (av.map (cw_v ad)) ++ List.replicate (nL - (lg_sl (av.map (cw_v ad))).length) Slot.unset).toArray) := by
  have hc' : ∀ w ∈ av.map (cw_v ad), w.category = 1 := fun w hw => by
    obtain ⟨x, hx, rfl⟩ := List.mem_map.mp hw
    exact hc x hx
  have h := lv_entry (av.map (cw_v ad)) (n := nL) (by rw [cw_sl_len _ hc', List.length_map]; exact hn)
  refine ⟨h.1, h.2.1, fun i v hi => ?_⟩
  have hv : av[i]? = some v := by
    unfold cw_in at hi
    rw [List.getElem?_append] at hi
    split at hi
    · simpa using hi
    · rw [List.getElem?_replicate] at hi
      split at hi <;> cases hi
  have hm : (cw_v ad v) ∈ av.map (cw_v ad) := List.mem_map_of_mem (List.mem_of_getElem? hv)
  refine ⟨?_, hc' _ hm⟩
  have := cw_args_at (av.map (cw_v ad)) 0 i (cw_v ad v) hc' (by simp [hv])
  rw [Nat.zero_add] at this
  exact h.2.2 _ this
def cw_isN : Cond → Bool
  | .fieldLinkNest .. => true
  | .methodLinkNest .. => true
  | _ => false
theorem cw_N_on {w : Cond} (h : cw_isN w = true) : w.onTables = true := by
  cases w <;> first | rfl | (simp [cw_isN] at h)
theorem cw_N_warm {w : Cond} (h : cw_isN w = true) {s U : State} (hW : s.WarmedH U.vm) (hz : va_Nw w s) : va_Nw w U := by
  cases w <;> first | exact va_Nw.warmF hW hz | exact va_Nw.warmM hW hz | (simp [cw_isN] at h)
theorem wd_nbN : ∀ w ∈ wd_nb, cw_isN w = true := fun w hw => List.all_eq_true.mp (show wd_nb.all cw_isN = true from rfl) w hw
def cw_rm (d mc ms : Nat) : Room := { frames := d, cells := mc, slots := ms, locals := 40 * d }
/-- what a method finds -/
def cw_B (ids : List Nat) (g : wd_G) (sz : Nat) (σ : wd_S) (τ : wd_L) (U : State) : Prop := U.heap.size = sz ∧ va_P g.2.1 wd_cl (wd_w ids g σ τ) U.heap ∧ va_K g.2.1 wd_cl (wd_ty g) U ∧ va_D (fun _ => True) (wd_w ids g σ τ) ∧ (∀ w ∈ wd_nb, va_Nw w U) ∧ ids.Nodup
/-- what it leaves -/
def cw_Q (ids : List Nat) (g : wd_G) (A : Nat → Prop) (Q : Option Value → wd_S → wd_L → Prop) : Array Value → State → Outcome → State → Prop := fun _ st oc t =>
  (∃ (v : Option Value) (σ' : wd_S) (τ' : wd_L), oc = .returned (v.map (cw_v g.1)) ∧ Q v σ' τ' ∧ va_P g.2.1 wd_cl (wd_w ids g σ' τ') t.heap) ∧ va_F A st t
/-- a method's contract: with these arguments, in this world, it returns, and Q holds of its answer and of the world behind it; at most mc cells of ms slots are new, d frames deep -/
def cw_M (ids : List Nat) (y : MethodName) (cc : ByteArray) (nL : Nat) (ret : Option FieldType) (d mc ms : Nat) (av : List Value) (σ : wd_S) (τ : wd_L) (Q : Option Value → wd_S → wd_L → Prop) : Prop :=
  ∀ (l : Launch) (g : wd_G) (sz : Nat), Met l y (Cond.code y cc nL ret :: wd_tb) (cw_rm d mc ms) (va_Pc (av.map (cw_v g.1)) (cw_B ids g sz σ τ)) (cw_Q ids g (va_A (wd_w ids g σ τ) sz) Q) mc ms (va_A (wd_w ids g σ τ) sz)
def cw_C (p : Program) (s : State) (m : MethodId) (args : Array Value) (meth : Method) (c : Code) (A : Nat → Prop) (ids : List Nat) (g : wd_G) (cc : ByteArray) (nL : Nat) (own : String) (ret : Option FieldType) : Prop :=
  p.tables.exec = Jvm.exec ∧ c.code = cc ∧ c.maxLocals = nL ∧ s.vm.findClass own = some m.cls ∧ (∀ w ∈ wd_tb, w.before args s = true) ∧ (∀ w ∈ wd_nb, va_Nw w s) ∧ va_K g.2.1 wd_cl (wd_ty g) s ∧ (∀ (σ : wd_S) (τ : wd_L), va_D A (wd_w ids g σ τ)) ∧ (∀ q, s.heap.size ≤ q → A q) ∧ meth.sig.returnType = ret ∧ meth.locks = false ∧ ids.Nodup
/-- the walk from pc on, with these locals, this stack, this world -/
def cw_W (p : Program) (l : Launch) (e : Env) (R : Room) (s : State) (m : MethodId) (args : Array Value) (below : List Frame) (meth : Method) (c : Code) (A : Nat → Prop) (ids : List Nat) (g : wd_G) (cells slots : Nat) (G : State → Prop) (nL pc : Nat) (ls : List (Option Value)) (st : List Value) (σ : wd_S) (τ : wd_L) : Prop :=
  ∀ (H : Heap) (locs : List Loc) (la : Array Slot), cw_lh g.1 nL ls la → va_P g.2.1 wd_cl (wd_w ids g σ τ) H → va_S A s.heap H locs → W p l e R s m args below meth c H locs cells slots G (F0 m pc la (st.map (cw_v g.1)))
abbrev cw_G (below : List Frame) (args : Array Value) (s : State) (A : Nat → Prop) (ids : List Nat) (g : wd_G) (mc ms : Nat) (Q : Option Value → wd_S → wd_L → Prop) : State → Prop := MQ below (cw_Q ids g A Q) args s mc ms A
