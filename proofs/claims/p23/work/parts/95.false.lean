/-! the start: the witness' own, with the script 26, 10, 26, 10, .. of 208 ints; so what is owed is false -/
def zs_xs : List Int32 := (List.replicate 104 [26, 10]).flatten
def zs_sc : Array Value := (zs_xs.map Value.int).toArray
def zs_at : State := start1.aboutOf zs_sc
theorem zs_code {q : Cond} (h : su_isCode q = true) (hq : q.before start1.args0 start1.about = true) : q.before start1.args0 zs_at = true := by
  cases q <;> first | (simp [su_isCode] at h; done) | exact hq | (simp only [Cond.before, Cond.holds, Cond.value] at hq ⊢; exact hq)
set_option maxRecDepth 16384 in
theorem zs_o0 : (tables_1.take 40).all (fun c => su_isCode c || c.before start1.args0 zs_at) = true := by decide +kernel
set_option maxRecDepth 16384 in
theorem zs_o1 : ((tables_1.drop 40).take 40).all (fun c => su_isCode c || c.before start1.args0 zs_at) = true := by decide +kernel
set_option maxRecDepth 16384 in
theorem zs_o2 : (((tables_1.drop 40).drop 40).take 40).all (fun c => su_isCode c || c.before start1.args0 zs_at) = true := by decide +kernel
set_option maxRecDepth 16384 in
theorem zs_o3 : ((((tables_1.drop 40).drop 40).drop 40).take 40).all (fun c => su_isCode c || c.before start1.args0 zs_at) = true := by decide +kernel
set_option maxRecDepth 16384 in
theorem zs_o4 : (((((tables_1.drop 40).drop 40).drop 40).drop 40).take 40).all (fun c => su_isCode c || c.before start1.args0 zs_at) = true := by decide +kernel
set_option maxRecDepth 16384 in
theorem zs_o5 : ((((((tables_1.drop 40).drop 40).drop 40).drop 40).drop 40).take 40).all (fun c => su_isCode c || c.before start1.args0 zs_at) = true := by decide +kernel
set_option maxRecDepth 16384 in
theorem zs_o6 : (((((((tables_1.drop 40).drop 40).drop 40).drop 40).drop 40).drop 40).take 40).all (fun c => su_isCode c || c.before start1.args0 zs_at) = true := by decide +kernel
set_option maxRecDepth 16384 in
theorem zs_o7 : ((((((((tables_1.drop 40).drop 40).drop 40).drop 40).drop 40).drop 40).drop 40).take 40).all (fun c => su_isCode c || c.before start1.args0 zs_at) = true := by decide +kernel
set_option maxRecDepth 16384 in
theorem zs_o8 : (((((((((tables_1.drop 40).drop 40).drop 40).drop 40).drop 40).drop 40).drop 40).drop 40).take 40).all (fun c => su_isCode c || c.before start1.args0 zs_at) = true := by decide +kernel
set_option maxRecDepth 16384 in
theorem zs_o9 : ((((((((((tables_1.drop 40).drop 40).drop 40).drop 40).drop 40).drop 40).drop 40).drop 40).drop 40).take 40).all (fun c => su_isCode c || c.before start1.args0 zs_at) = true := by decide +kernel
set_option maxRecDepth 16384 in
theorem zs_o10 : (((((((((((tables_1.drop 40).drop 40).drop 40).drop 40).drop 40).drop 40).drop 40).drop 40).drop 40).drop 40).take 40).all (fun c => su_isCode c || c.before start1.args0 zs_at) = true := by decide +kernel
set_option maxRecDepth 16384 in
theorem zs_o11 : ((((((((((((tables_1.drop 40).drop 40).drop 40).drop 40).drop 40).drop 40).drop 40).drop 40).drop 40).drop 40).drop 40).take 40).all (fun c => su_isCode c || c.before start1.args0 zs_at) = true := by decide +kernel
set_option maxRecDepth 16384 in
theorem zs_o12 : (((((((((((((tables_1.drop 40).drop 40).drop 40).drop 40).drop 40).drop 40).drop 40).drop 40).drop 40).drop 40).drop 40).drop 40).take 40).all (fun c => su_isCode c || c.before start1.args0 zs_at) = true := by decide +kernel
set_option maxRecDepth 16384 in
theorem zs_o13 : (((((((((((((tables_1.drop 40).drop 40).drop 40).drop 40).drop 40).drop 40).drop 40).drop 40).drop 40).drop 40).drop 40).drop 40).drop 40).all (fun c => su_isCode c || c.before start1.args0 zs_at) = true := by decide +kernel
theorem zs_others : tables_1.all (fun c => su_isCode c || c.before start1.args0 zs_at) = true := (start1.su_all_split _ 40 tables_1 zs_o0 (start1.su_all_split _ 40 (tables_1.drop 40) zs_o1 (start1.su_all_split _ 40 ((tables_1.drop 40).drop 40) zs_o2 (start1.su_all_split _ 40 (((tables_1.drop 40).drop 40).drop 40) zs_o3 (start1.su_all_split _ 40 ((((tables_1.drop 40).drop 40).drop 40).drop 40) zs_o4 (start1.su_all_split _ 40 (((((tables_1.drop 40).drop 40).drop 40).drop 40).drop 40) zs_o5 (start1.su_all_split _ 40 ((((((tables_1.drop 40).drop 40).drop 40).drop 40).drop 40).drop 40) zs_o6 (start1.su_all_split _ 40 (((((((tables_1.drop 40).drop 40).drop 40).drop 40).drop 40).drop 40).drop 40) zs_o7 (start1.su_all_split _ 40 ((((((((tables_1.drop 40).drop 40).drop 40).drop 40).drop 40).drop 40).drop 40).drop 40) zs_o8 (start1.su_all_split _ 40 (((((((((tables_1.drop 40).drop 40).drop 40).drop 40).drop 40).drop 40).drop 40).drop 40).drop 40) zs_o9 (start1.su_all_split _ 40 ((((((((((tables_1.drop 40).drop 40).drop 40).drop 40).drop 40).drop 40).drop 40).drop 40).drop 40).drop 40) zs_o10 (start1.su_all_split _ 40 (((((((((((tables_1.drop 40).drop 40).drop 40).drop 40).drop 40).drop 40).drop 40).drop 40).drop 40).drop 40).drop 40) zs_o11 (start1.su_all_split _ 40 ((((((((((((tables_1.drop 40).drop 40).drop 40).drop 40).drop 40).drop 40).drop 40).drop 40).drop 40).drop 40).drop 40).drop 40) zs_o12 zs_o13)))))))))))))
theorem zs_words : ∀ c ∈ (Cond.code x code maxLocals ret :: tables_1), c.before start1.args0 zs_at = true := by
  intro c hc
  have hw := start1.words c hc
  rcases List.mem_cons.mp hc with h | h
  · subst h
    exact zs_code rfl hw
  · have h1 := List.all_eq_true.mp zs_others c h
    cases hq : su_isCode c with
    | true => exact zs_code hq hw
    | false =>
      rw [hq, Bool.false_or] at h1
      exact h1
theorem zs_given : (Cond.and given_1 narrow_1).before start1.args0 zs_at = true := by decide +kernel
theorem zs_rest : rest_1_c.before start1.args0 zs_at = true := by decide +kernel
theorem zs_app1 : (headSpec (Jvm.Cond.code x code maxLocals ret :: tables_1) room_1).applies x start1.e0.platform zs_at = true :=
  (Spec.applies_iff rfl).mpr ⟨rfl, rfl, rfl, by decide +kernel, by decide +kernel, by decide +kernel, launch0.hasRoom_least _ room_1 (by decide +kernel) (by decide +kernel) (by decide +kernel) (by decide +kernel) (by decide +kernel) (by decide +kernel), atoms_intro zs_words⟩
theorem zs_app2 : (headSpec (Jvm.Cond.code x code maxLocals ret :: tables_1) room2).applies x start1.e0.platform zs_at = true :=
  (Spec.applies_iff rfl).mpr ⟨rfl, rfl, rfl, by decide +kernel, by decide +kernel, by decide +kernel, launch0.hasRoom_least _ room2 (by decide +kernel) (by decide +kernel) (by decide +kernel) (by decide +kernel) (by decide +kernel) (by decide +kernel), atoms_intro zs_words⟩
theorem zs_ints : zs_at.IntsAt 0 zs_xs := ⟨{ cls := 14, slots := zs_sc, vm := .none }, rfl, rfl, ⟨fun k h => (by cases h), _, rfl, _, rfl⟩, by decide +kernel⟩
theorem zs_els : ∀ j, j < 104 → zs_xs.getD (2 * j) 0 = 26 ∧ zs_xs.getD (2 * j + 1) 0 = 10 := by decide +kernel
/-- THE FIRST LIMB IS FALSE -/
theorem p23_limb_false : ¬ Claimed_1_1 :=
  zz_false (l := launch0) rfl lists_1 trivial (p := start1.p0) (e := start1.e0) (launch0.admits_env _ _ _) fairChoices_fair.cas fairChoices_fair.clock (s := zs_at) (m := ⟨0, 0⟩) (args := start1.args0) (below := Lib.HandBits.below0) rfl (by decide +kernel) (by decide +kernel) zs_app1 ((Spec.applies_iff_loose rfl).mp zs_app2).1 trivial zs_rest zs_given (b := 0) (xs := zs_xs) ⟨rfl, zs_ints, by decide +kernel, zs_given⟩ (by decide +kernel) zs_els
/-- WHAT IS OWED IS FALSE -/
theorem p23_false : ¬ (Claimed_1_1 ∧ Claimed_1_2) := fun h => p23_limb_false h.1
