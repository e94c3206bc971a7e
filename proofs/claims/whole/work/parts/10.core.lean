/-! The simple world: places instead of addresses, a heap of ints by place and index, a layout that never changes. -/
abbrev Hp : Type := Nat → Nat → Int32
abbrev MT : Type := MethodName × ByteArray × Nat × Option FieldType
abbrev LY : Type := Nat ⊕ (Nat × List (Option Nat)) ⊕ List Nat
abbrev Ev : Type := (Nat → Nat) × (Nat → ClassId) × (Nat → Nat → Nat) × ClassId × ClassId × (Nat → Nat)
abbrev CX : Type := Program × Launch × Env × Room × State × MethodId × Array Value × List Frame × Method × Code × Nat × Nat × (State → Prop) × Ev
def tblG : List Cond := lw_tbl.filter goodWord
theorem tg {w : Cond} (i : Nat) (h : lw_tbl[i]? = some w) (hg : goodWord w = true) : w ∈ tblG := List.mem_filter.mpr ⟨List.mem_of_getElem? h, hg⟩
/-- a stock's cells: the object, eight rows, the slip -/
def layStock (b : Nat) : List LY := [.inr (.inl (3, [some (b + 1), some (b + 2), some (b + 3), none, some (b + 4), some (b + 5), none, some (b + 6), some (b + 7), some (b + 8), some (b + 9), none])), .inl 16, .inl 16, .inl 16, .inl 96, .inl 24, .inl 2, .inl 2, .inl 10, .inr (.inl (2, [none, none, none, none, none]))]
def laySheet (b : Nat) : List LY := [.inr (.inl (1, [some (b + 1), none, none])), .inl 40]
def layL : List LY :=
  [.inr (.inl (5, [some 1, some 11, some 21, some 31, some 35, some 36, some 38, some 39, some 40, none]))]
  ++ layStock 1 ++ layStock 11 ++ layStock 21
  ++ [.inr (.inl (0, [some 32, some 33, some 34, none])), .inl 672, .inl 24, .inl 97, .inr (.inl (2, [none, none, none, none, none])), .inr (.inl (4, [some 37, none, none, none, none, none])), .inl 120, .inr (.inr [41, 43, 45, 47]), .inl 7, .inl 24]
  ++ laySheet 41 ++ laySheet 43 ++ laySheet 45 ++ laySheet 47
  ++ [.inr (.inl (6, [some 50, some 51, some 52, none, some 53, some 54, some 55, none, none, none, none, none, some 56, none, none, some 57, none, none, none, none, none, none, some 58, some 59, some 60])), .inl 212, .inl 212, .inl 212, .inl 7, .inl 672, .inl 24, .inl 24, .inl 120, .inl 4, .inl 4, .inl 160]
def lay (k : Nat) : LY := layL.getD k (.inl 0)
theorem layL_len : layL.length = 61 := by decide
/-- the length of a row of ints -/
def aN (k : Nat) : Option Nat := if k < 61 then (match lay k with | .inl n => some n | _ => none) else none
/-- an int field of an object -/
def fI (ci k j : Nat) : Bool := if k < 61 then (match lay k with | .inr (.inl (c, fs)) => c == ci && (fs[j]? == some none) | _ => false) else false
/-- a field that is a cell of its own -/
def fR (ci k j : Nat) : Option Nat := if k < 61 then (match lay k with | .inr (.inl (c, fs)) => if c = ci then (fs.getD j none) else none | _ => none) else none
def oC (k : Nat) : Option Nat := if k < 61 then (match lay k with | .inr (.inl (c, _)) => some c | _ => none) else none
def rN (k j : Nat) : Option Nat := if k < 61 then (match lay k with | .inr (.inr rs) => rs[j]? | _ => none) else none
def rv (ad : Nat → Nat) : Value → Value
  | .ref k => .ref (ad k)
  | v => v
def fvO (ad : Nat → Nat) (σ : Hp) (k j : Nat) : Option Nat → Value
  | some p => .ref (ad p)
  | none => .int (σ k j)
def fsO (ad : Nat → Nat) (σ : Hp) (k : Nat) (fs : List (Option Nat)) : List Value := (List.range fs.length).map (fun j => fvO ad σ k j (fs.getD j none))
def cellO (E : Ev) (σ : Hp) (k : Nat) : va_E := match lay k with
  | .inl n => .inl (E.2.2.2.1, n, .inl (σ k))
  | .inr (.inl (ci, fs)) => .inr (ci, fsO E.1 σ k fs)
  | .inr (.inr rs) => .inl (E.2.2.2.2.1, rs.length, .inr (.inr (.inr (.inr (fun j => (rs[j]?).map E.1)))))
def wsO (E : Ev) (σ : Hp) : va_W := (List.range 61).map (fun k => (E.1 k, cellO E σ k))
def AE (E : Ev) (q : Nat) : Prop := ∃ k, k < 61 ∧ q = E.1 k
abbrev DE (E : Ev) : va_G := (E.2.1, E.2.2.1)
abbrev tyE (E : Ev) : List (ClassId × FieldType) := [(E.2.2.2.1, .int), (E.2.2.2.2.1, .object "TitleMimes$Sheet")]
def up2 (σ : Hp) (p i : Nat) (v : Int32) : Hp := fun q j => if q = p ∧ j = i then v else σ q j
theorem wsO_at {E : Ev} {σ : Hp} {k : Nat} (h : k < 61) : (wsO E σ)[k]? = some (E.1 k, cellO E σ k) := by
  simp [wsO, h]
theorem wsO_ext {E : Ev} {σ : Hp} {k : Nat} {e : va_E} {σ' : Hp} (hk : k < 61) (he : cellO E σ' k = e) (ho : ∀ q, q ≠ k → cellO E σ' q = cellO E σ q) : (wsO E σ).set k (E.1 k, e) = wsO E σ' := by
  refine List.ext_getElem? fun i => ?_
  by_cases hi : i < 61
  · rw [wsO_at hi, List.getElem?_set]
    by_cases hik : k = i
    · subst hik
      rw [if_pos rfl, if_pos (by simp [wsO, hi]), he]
    · rw [if_neg hik, wsO_at hi, ho i (fun h => hik h.symm)]
  · have h1 : (wsO E σ').length ≤ i := by simp [wsO]; omega
    have h2 : ((wsO E σ).set k (E.1 k, e)).length ≤ i := by simp [wsO]; omega
    rw [List.getElem?_eq_none h1, List.getElem?_eq_none h2]
theorem cellO_other {E : Ev} {σ σ' : Hp} {q : Nat} (h : σ' q = σ q) : cellO E σ' q = cellO E σ q := by
  have hf : fvO E.1 σ' q = fvO E.1 σ q := by
    funext j x
    cases x <;> simp [fvO, h]
  unfold cellO fsO
  rw [h, hf]
theorem up2_other {σ : Hp} {p i : Nat} {v : Int32} {q : Nat} (h : q ≠ p) : up2 σ p i v q = σ q := by
  funext j; simp [up2, h]
theorem up2_row {σ : Hp} {p i : Nat} {v : Int32} : up2 σ p i v p = upd (σ p) i v := by
  funext j; simp [up2, upd]
theorem aN_spec {k n : Nat} (h : aN k = some n) : k < 61 ∧ lay k = .inl n := by
  unfold aN at h
  split at h
  · rename_i hk
    refine ⟨hk, ?_⟩
    split at h
    · rename_i hl; rw [hl]; cases h; rfl
    · cases h
  · cases h
theorem fI_spec {ci k j : Nat} (h : fI ci k j = true) : k < 61 ∧ ∃ fs, lay k = .inr (.inl (ci, fs)) ∧ fs[j]? = some none := by
  unfold fI at h
  split at h
  · rename_i hk
    refine ⟨hk, ?_⟩
    split at h
    · rename_i c fs hl
      simp only [Bool.and_eq_true, beq_iff_eq] at h
      obtain ⟨rfl, h⟩ := h
      exact ⟨fs, hl, h⟩
    · cases h
  · cases h
theorem fR_spec {ci k j p : Nat} (h : fR ci k j = some p) : k < 61 ∧ ∃ fs, lay k = .inr (.inl (ci, fs)) ∧ fs[j]? = some (some p) := by
  unfold fR at h
  split at h
  · rename_i hk
    refine ⟨hk, ?_⟩
    split at h
    · rename_i c fs hl
      split at h
      · rename_i hc
        subst hc
        refine ⟨fs, hl, ?_⟩
        rw [List.getD_eq_getElem?_getD] at h
        cases hj : fs[j]? with
        | none => rw [hj] at h; cases h
        | some x => rw [hj] at h; simp at h; rw [h]
      · cases h
    · cases h
  · cases h
theorem oC_spec {k c : Nat} (h : oC k = some c) : k < 61 ∧ ∃ fs, lay k = .inr (.inl (c, fs)) := by
  unfold oC at h
  split at h
  · rename_i hk
    refine ⟨hk, ?_⟩
    split at h
    · rename_i c fs hl; cases h; exact ⟨fs, hl⟩
    · cases h
  · cases h
theorem rN_spec {k j p : Nat} (h : rN k j = some p) : k < 61 ∧ ∃ rs, lay k = .inr (.inr rs) ∧ rs[j]? = some p := by
  unfold rN at h
  split at h
  · rename_i hk
    refine ⟨hk, ?_⟩
    split at h
    · rename_i rs hl; exact ⟨rs, hl, h⟩
    · cases h
  · cases h
theorem fsO_at {ad : Nat → Nat} {σ : Hp} {k j : Nat} {fs : List (Option Nat)} {x : Option Nat} (h : fs[j]? = some x) : (fsO ad σ k fs)[j]? = some (fvO ad σ k j x) := by
  have hj : j < fs.length := (List.getElem?_eq_some_iff.mp h).1
  unfold fsO
  rw [List.getElem?_map, List.getElem?_range hj]
  simp [List.getD_eq_getElem?_getD, h]
theorem fsO_set {ad : Nat → Nat} {σ : Hp} {k j : Nat} {fs : List (Option Nat)} (h : fs[j]? = some none) (v : Int32) : (fsO ad σ k fs).set j (.int v) = fsO ad (up2 σ k j v) k fs := by
  have hj : j < fs.length := (List.getElem?_eq_some_iff.mp h).1
  refine List.ext_getElem? fun i => ?_
  rw [List.getElem?_set]
  by_cases hij : j = i
  · subst hij
    rw [if_pos rfl, if_pos (by simp [fsO, hj]), fsO_at h]
    simp [up2, fvO]
  · rw [if_neg hij]
    unfold fsO
    rw [List.getElem?_map, List.getElem?_map]
    cases hi : (List.range fs.length)[i]? with
    | none => rfl
    | some x =>
      have hx : x = i := by
        rw [List.getElem?_eq_some_iff] at hi
        obtain ⟨h1, h2⟩ := hi
        simpa using h2.symm
      subst hx
      simp only [Option.map_some]
      cases fs.getD x none <;> simp [up2, fvO, Ne.symm hij]
/-- what the tables and the constants say, which no call changes -/
def nestL : List Cond := lw_tbl.filter (fun w => match w with | .methodLinkNest .. => true | _ => false)
def strT (i : Nat) : String := (["word", "title", "only", "sound", "sense"] : List String).getD i ""
def strLen : List Nat := [4, 5, 4, 5, 5]
def strByt : List (List Int32) := [[119, 111, 114, 100], [116, 105, 116, 108, 101], [111, 110, 108, 121], [115, 111, 117, 110, 100], [115, 101, 110, 115, 101]]
def under (j : Nat) : Int32 := ([-1, 0, 0, 1, 2, 0, 5] : List Int32).getD j 0
def strOwn (i : Nat) : String := if i < 5 then "TitleMimes$Tape" else "TitleMimesModel"
def strIdx (i : Nat) : Nat := ([61, 70, 75, 89, 95, 262, 267, 272, 255, 260] : List Nat).getD i 0
def strX (i : Nat) : String := strT (i % 5)
def ROs (E : Ev) (U : State) (H : Heap) (i : Nat) : Prop := va_O "java/lang/String" (E.1 (110 + i)) (AE E) U H ∧ va_OF "java/lang/String" "coder" "B" (.int 0) (E.1 (110 + i)) (AE E) U H ∧ va_OF "java/lang/String" "value" "[B" (.ref (E.1 (130 + i))) (E.1 (110 + i)) (AE E) U H ∧ va_T .byte (E.1 (130 + i)) (strLen.getD (i % 5) 0) (fun j => .int ((strByt.getD (i % 5) []).getD j 0)) (AE E) U H
def RO (E : Ev) (U : State) (H : Heap) : Prop := (∀ w ∈ nestL, va_Nw w U) ∧ va_Z "TitleMimes" "UNDER" "[I" (.ref (E.1 100)) (AE E) U H ∧ va_T .int (E.1 100) 7 (fun j => .int (under j)) (AE E) U H ∧ (∀ i, i < 10 → vk_R (strOwn i) (strIdx i) (strX i) (E.1 (110 + i)) U) ∧ (∀ i, i < 10 → ROs E U H i) ∧ va_Z "java/lang/String" "COMPACT_STRINGS" "Z" (.int 1) (AE E) U H ∧ va_Zq "jdk/internal/util/Preconditions" "SIOOBE_FORMATTER" "Ljava/util/function/BiFunction;" (AE E) U H
theorem nest_warm {s U : State} (hW : s.WarmedH U.vm) {w : Cond} (hw : w ∈ nestL) (h : va_Nw w s) : va_Nw w U := by
  have h2 := (List.mem_filter.mp hw).2
  cases w <;> first | exact va_Nw.warmM hW h | (simp at h2)
theorem nest_same {u U : State} (hv : u.vm = U.vm) {w : Cond} (hw : w ∈ nestL) (h : va_Nw w u) : va_Nw w U := by
  have h2 := (List.mem_filter.mp hw).2
  cases w <;> first | exact va_Nw.same rfl hv h | (simp at h2)
theorem RO.warm {E : Ev} {s U : State} {H : Heap} (hW : s.WarmedH U.vm) (h : RO E s H) : RO E U H := by
  obtain ⟨h1, h2, h3, h4, h5, h6, h7⟩ := h
  have hvm := hW.alike
  exact ⟨fun w hw => nest_warm hW hw (h1 w hw), h2.moved hvm, h3.moved hvm, fun i hi => (h4 i hi).warm hW, fun i hi => ⟨va_O.moved hvm (h5 i hi).1, va_OF.moved hvm (h5 i hi).2.1, va_OF.moved hvm (h5 i hi).2.2.1, va_T.moved hvm (h5 i hi).2.2.2⟩, h6.moved hvm, h7.moved hvm⟩
theorem RO.same {E : Ev} {u U : State} {H : Heap} (hv : u.vm = U.vm) (h : RO E u H) : RO E U H := by
  obtain ⟨h1, h2, h3, h4, h5, h6, h7⟩ := h
  have hvm : u.vm.Alike U.vm := by rw [hv]; exact Vm.Alike.refl U.vm
  exact ⟨fun w hw => nest_same hv hw (h1 w hw), h2.moved hvm, h3.moved hvm, fun i hi => (h4 i hi).same hv.symm, fun i hi => ⟨va_O.moved hvm (h5 i hi).1, va_OF.moved hvm (h5 i hi).2.1, va_OF.moved hvm (h5 i hi).2.2.1, va_T.moved hvm (h5 i hi).2.2.2⟩, h6.moved hvm, h7.moved hvm⟩
theorem RO.kept {E : Ev} {U : State} {H H1 : Heap} (h : RO E U H) (hq : ∀ a : Nat, a < H.size → ¬ AE E a → H1[a]? = H[a]?) : RO E U H1 := by
  obtain ⟨h1, h2, h3, h4, h5, h6, h7⟩ := h
  exact ⟨h1, h2.kept hq, h3.kept hq, h4, fun i hi => ⟨(h5 i hi).1.kept hq, (h5 i hi).2.1.kept hq, (h5 i hi).2.2.1.kept hq, (h5 i hi).2.2.2.kept hq⟩, h6.kept hq, h7.kept hq⟩
/-- the world holds σ -/
def Inv (E : Ev) (σ : Hp) (U : State) : Prop := va_P (DE E) vwCl (wsO E σ) U.heap ∧ va_K (DE E) vwCl (tyE E) U ∧ va_D (AE E) (wsO E σ) ∧ RO E U U.heap
def rmd (d : Nat) : Room := { frames := d, cells := 0, slots := 0, locals := 64 * d }
def wsM (M : MT) : List Cond := .code M.1 M.2.1 M.2.2.1 M.2.2.2 :: tblG
/-- a method's contract: from args and σ it comes to an answer and a σ' with Q -/
def Good (d : Nat) (M : MT) (args : List Value) (σ : Hp) (Q : Option Value → Hp → Prop) : Prop :=
  ∀ (l : Launch) (E : Ev), Met l M.1 (wsM M) (rmd d) (va_Pc (args.map (rv E.1)) (Inv E σ)) (fun _ st o t => (∃ (v : Option Value) (σ' : Hp), o = .returned (v.map (rv E.1)) ∧ Q v σ' ∧ Inv E σ' t) ∧ va_F (AE E) st t) 0 0 (AE E)
def kn (ad : Nat → Nat) : Nat → List (Option Value) → List (Nat × Value)
  | _, [] => []
  | i, none :: t => kn ad (i + 1) t
  | i, some v :: t => (i, rv ad v) :: kn ad (i + 1) t
theorem kn_mem {ad : Nat → Nat} : ∀ (ls : List (Option Value)) (i : Nat) (q : Nat × Value), q ∈ kn ad i ls ↔ ∃ (j : Nat) (v : Value), ls[j]? = some (some v) ∧ q = (i + j, rv ad v)
  | [], i, q => by simp [kn]
  | none :: t, i, q => by
    rw [kn, kn_mem t (i + 1) q]
    constructor
    · rintro ⟨j, v, h1, h2⟩
      exact ⟨j + 1, v, by simpa using h1, by rw [h2]; congr 1; omega⟩
    · rintro ⟨j, v, h1, h2⟩
      cases j with
      | zero => simp at h1
      | succ j => exact ⟨j, v, by simpa using h1, by rw [h2]; congr 1; omega⟩
  | some w :: t, i, q => by
    rw [kn, List.mem_cons, kn_mem t (i + 1) q]
    constructor
    · rintro (h | ⟨j, v, h1, h2⟩)
      · exact ⟨0, w, by simp, by rw [h]; rfl⟩
      · exact ⟨j + 1, v, by simpa using h1, by rw [h2]; congr 1; omega⟩
    · rintro ⟨j, v, h1, h2⟩
      cases j with
      | zero => left; simp at h1; rw [h2, h1]; rfl
      | succ j => right; exact ⟨j, v, by simpa using h1, by rw [h2]; congr 1; omega⟩
theorem lv_has.mono {L : Array Slot} {n : Nat} {l l' : List (Nat × Value)} (h : lv_has L n l) (hs : ∀ q ∈ l', q ∈ l) : lv_has L n l' := ⟨h.1, h.2.1, fun q hq => h.2.2 q (hs q hq)⟩
theorem kn_at {ad : Nat → Nat} {L : Array Slot} {n : Nat} {ls : List (Option Value)} (h : lv_has L n (kn ad 0 ls)) {i : Nat} {v : Value} (hi : ls[i]? = some (some v)) : L[i]? = some (.val (rv ad v)) :=
  h.2.2 (i, rv ad v) ((kn_mem ls 0 _).mpr ⟨i, v, hi, by simp⟩)
/-- what a step needs of its method -/
def OK (d : Nat) (M : MT) : CX → Prop
  | (p, l, e, R, s, m, args, below, meth, c, cells, slots, Q, E) => p.tables.exec = Jvm.exec ∧ c.code = M.2.1 ∧ meth.sig.returnType = M.2.2.2 ∧ c.maxLocals = M.2.2.1 ∧ s.vm.findClass M.1.cls = some m.cls ∧ (∀ w ∈ tblG, w.before args s = true) ∧ meth.locks = false ∧ va_K (DE E) vwCl (tyE E) s ∧ RO E s s.heap ∧ d ≤ R.frames ∧ 64 * d ≤ R.locals ∧ cells ≤ R.cells ∧ slots ≤ R.slots
def c1 (ls : List (Option Value)) : Prop := ∀ w, some w ∈ ls → w.category = 1
def SW (d : Nat) (M : MT) (X : CX) (pc : Nat) (ls : List (Option Value)) (st : List Value) (σ : Hp) : Prop :=
  OK d M X → c1 ls → match X with
  | (p, l, e, R, s, m, args, below, meth, c, cells, slots, Q, E) => ∀ (H : Heap) (locs : List Loc) (L : Array Slot), va_P (DE E) vwCl (wsO E σ) H → va_D (AE E) (wsO E σ) → va_S (AE E) s.heap H locs → lv_has L M.2.2.1 (kn E.1 0 ls) → W p l e R s m args below meth c H locs cells slots Q (F0 m pc L (st.map (rv E.1)))
/-- the end of a method -/
def RetOK : CX → Option Value → Hp → Prop
  | (p, l, e, R, s, m, args, below, meth, c, cells, slots, Q, E), v, σ => ∃ Qc, Q = MQ below Qc args s cells slots (AE E) ∧ ∀ t : State, s.WarmedH t.vm → Inv E σ t → va_F (AE E) s t → Qc args s (.returned (v.map (rv E.1))) t
def entL (args : List Value) (n : Nat) : List (Option Value) := args.map some ++ List.replicate (n - args.length) none
