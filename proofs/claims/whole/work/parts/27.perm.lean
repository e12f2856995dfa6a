/-! parts of a world in another order, by their places -/
def fl : List va_W → va_W → va_W
  | [], r => r
  | a :: l, r => a ++ fl l r
theorem fl_eq (sg : List va_W) (rest : va_W) : fl sg rest = sg.flatMap (fun x => x) ++ rest := by
  induction sg with
  | nil => rfl
  | cons a l ih =>
    show a ++ fl l rest = _
    rw [ih, List.flatMap_cons, List.append_assoc]
theorem fm_some {α : Type} (l : List α) : (l.map some).filterMap (fun x => x) = l := by
  induction l with
  | nil => rfl
  | cons a l ih =>
    rw [List.map_cons, List.filterMap_cons_some (f := fun x => x) (a := some a) (b := a) rfl, ih]
theorem rg_map {α : Type} (l : List α) : (List.range l.length).map (fun i => l[i]?) = l.map some := by
  apply List.ext_getElem?
  intro i
  rw [List.getElem?_map, List.getElem?_map]
  by_cases h : i < l.length
  · rw [List.getElem?_range h, List.getElem?_eq_getElem h]
    simp [h]
  · rw [List.getElem?_eq_none (by simpa using h), List.getElem?_eq_none (by omega)]
    rfl
theorem pmf {rest : va_W} (sg sg' : List va_W) (is : List Nat) (h1 : is.map (fun i => sg[i]?) = sg'.map some) (h2 : is.Perm (List.range sg.length)) : (fl sg rest).Perm (fl sg' rest) := by
  rw [fl_eq, fl_eq]
  refine List.Perm.append_right rest ?_
  have h3 := h2.map (fun i => sg[i]?)
  rw [h1, rg_map] at h3
  have h4 := h3.filterMap (fun x => x)
  rw [fm_some, fm_some] at h4
  exact (h4.flatMap_right (fun x => x)).symm
