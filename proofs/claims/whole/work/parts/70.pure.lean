/-! the two states side by side: the room's rows against the reference's -/
theorem zr_upd {f : Nat → Int32} {k j : Nat} {x : Int32} : upd f k x j = if j = k then x else f j := rfl
theorem zr_us {f : Nat → Int32} {k : Nat} {x : Int32} : upd f k x k = x := by rw [zr_upd, if_pos rfl]
theorem zr_un {f : Nat → Int32} {k j : Nat} {x : Int32} (h : j ≠ k) : upd f k x j = f j := by rw [zr_upd, if_neg h]
theorem zr_cnt : ∀ (n : Nat) (q : Nat → Bool) (l : List Nat), l.Nodup → (∀ x, x ∈ l ↔ x < n ∧ q x = true) → zf_cnt q n = l.length
  | 0, q, l, _, h => by
    cases l with
    | nil => rfl
    | cons a t => exact absurd ((h a).mp List.mem_cons_self).1 (by omega)
  | n + 1, q, l, hn, h => by
    by_cases e : q n = true
    · have hm : n ∈ l := (h n).mpr ⟨by omega, e⟩
      rw [zf_cnt_t e, zr_cnt n q (l.erase n) (hn.erase n) (fun x => by
        rw [hn.mem_erase_iff, h x]
        constructor
        · rintro ⟨h1, h2, h3⟩
          exact ⟨by omega, h3⟩
        · rintro ⟨h1, h2⟩
          exact ⟨by omega, by omega, h2⟩), List.length_erase_of_mem hm]
      have := List.length_pos_of_mem hm
      omega
    · have e' : q n = false := by
        cases h9 : q n with
        | false => rfl
        | true => exact absurd h9 e
      rw [zf_cnt_f e', zr_cnt n q l hn (fun x => by
        rw [h x]
        constructor
        · rintro ⟨h1, h2⟩
          refine ⟨?_, h2⟩
          rcases Nat.lt_or_eq_of_le (Nat.le_of_lt_succ h1) with h3 | h3
          · exact h3
          · subst h3
            exact absurd h2 e
        · rintro ⟨h1, h2⟩
          exact ⟨by omega, h2⟩)]
theorem zr_pw {R : Nat → Nat → Prop} {l : List Nat} (hp : l.Pairwise R) {a b x y : Nat} (h1 : l[a]? = some x) (h2 : l[b]? = some y) (h : a < b) : R x y := by
  obtain ⟨ha, rfl⟩ := List.getElem?_eq_some_iff.mp h1
  obtain ⟨hb, rfl⟩ := List.getElem?_eq_some_iff.mp h2
  exact List.pairwise_iff_getElem.mp hp a b ha hb h
theorem zr_nodup {R : Nat → Nat → Prop} {l : List Nat} (hp : l.Pairwise R) (hir : ∀ x, ¬ R x x) : l.Nodup :=
  List.Pairwise.imp (S := fun a b => a ≠ b) (fun {a b} h e => by subst e; exact hir a h) hp
theorem zr_ahead {n : Nat} {p : Nat → Bool} {R : Nat → Nat → Prop} {q : Nat → Nat → Bool} {l : List Nat} (hp : l.Pairwise R) (hir : ∀ x, ¬ R x x) (has : ∀ x y, R x y → ¬ R y x) (hm : ∀ x, x ∈ l ↔ x < n ∧ p x = true) (hq : ∀ m x, q m x = true ↔ p x = true ∧ R x m) {i m : Nat} (hi : l[i]? = some m) : zf_cnt (q m) n = i := by
  have hmem : ∀ x, x ∈ l.take i ↔ x < n ∧ q m x = true := fun x => by
    rw [hq]
    constructor
    · intro hx
      obtain ⟨k, hk⟩ := List.mem_iff_getElem?.mp hx
      rw [List.getElem?_take] at hk
      split at hk
      · rename_i hki
        have h1 := (hm x).mp (List.mem_of_getElem? hk)
        exact ⟨h1.1, h1.2, zr_pw hp hk hi hki⟩
      · cases hk
    · rintro ⟨h1, h2, h3⟩
      obtain ⟨k, hk⟩ := List.mem_iff_getElem?.mp ((hm x).mpr ⟨h1, h2⟩)
      refine List.mem_iff_getElem?.mpr ⟨k, ?_⟩
      rw [List.getElem?_take, if_pos, hk]
      rcases Nat.lt_trichotomy k i with h | h | h
      · exact h
      · subst h
        rw [hk] at hi
        cases hi
        exact absurd h3 (hir _)
      · exact absurd (zr_pw hp hi hk h) (has _ _ h3)
  have hnd : (l.take i).Nodup := (List.take_sublist i l).nodup (zr_nodup hp hir)
  have hil : i < l.length := (List.getElem?_eq_some_iff.mp hi).1
  rw [zr_cnt n (q m) (l.take i) hnd hmem, List.length_take, Nat.min_eq_left (Nat.le_of_lt hil)]
theorem zr_find_none {hit : Nat → Bool} : ∀ (f s : Nat), (∀ j, s ≤ j → j < s + f → hit j = false) → zf_find hit f s = -1
  | 0, s, _ => rfl
  | f + 1, s, h => by
    rw [zf_find, if_neg (by rw [h s (Nat.le_refl _) (by omega)]; decide)]
    exact zr_find_none f (s + 1) (fun j h1 h2 => h j (by omega) (by omega))
theorem zr_find_some {hit : Nat → Bool} {n k : Nat} (hk : hit k = true) (hu : ∀ j, j < n → hit j = true → j = k) : ∀ (f s : Nat), s + f ≤ n → s ≤ k → k < s + f → zf_find hit f s = nI k
  | 0, s, _, h1, h2 => by omega
  | f + 1, s, h0, h1, h2 => by
    rw [zf_find]
    by_cases e : s = k
    · subst e
      rw [if_pos hk]
    · rw [if_neg (fun q => e (hu s (by omega) q))]
      exact zr_find_some hk hu f (s + 1) (by omega) (by omega) (by omega)
theorem zr_place {n : Nat} {p : Nat → Bool} {R : Nat → Nat → Prop} {q : Nat → Nat → Bool} {hit : Int32 → Nat → Bool} {l : List Nat} (hp : l.Pairwise R) (hir : ∀ x, ¬ R x x) (has : ∀ x y, R x y → ¬ R y x) (hm : ∀ x, x ∈ l ↔ x < n ∧ p x = true) (hq : ∀ m x, q m x = true ↔ p x = true ∧ R x m)
    (hh : ∀ x m, hit x m = true ↔ p m = true ∧ nI (zf_cnt (q m) n) = x) (hl : l.length < 2 ^ 31) :
    (∀ i m, l[i]? = some m → zf_find (hit (nI i)) n 0 = nI m) ∧ (∀ x, (∀ i, i < l.length → ¬ x = nI i) → zf_find (hit x) n 0 = -1) := by
  constructor
  · intro i m hi
    have h1 := (hm m).mp (List.mem_of_getElem? hi)
    have hil : i < l.length := (List.getElem?_eq_some_iff.mp hi).1
    refine zr_find_some (n := n) ((hh _ _).mpr ⟨h1.2, by rw [zr_ahead hp hir has hm hq hi]⟩) (fun j hj hhit => ?_) n 0 (by omega) (by omega) (by omega)
    obtain ⟨g1, g2⟩ := (hh _ _).mp hhit
    obtain ⟨k, hk⟩ := List.mem_iff_getElem?.mp ((hm j).mpr ⟨hj, g1⟩)
    have hkl : k < l.length := (List.getElem?_eq_some_iff.mp hk).1
    rw [zr_ahead hp hir has hm hq hk] at g2
    have e := (nI_eq (by omega) (by omega)).mp g2
    subst e
    rw [hi] at hk
    exact (Option.some.inj hk).symm
  · intro x hx
    refine zr_find_none n 0 (fun j _ hj => ?_)
    cases hhit : hit x j with
    | false => rfl
    | true =>
      obtain ⟨g1, g2⟩ := (hh _ _).mp hhit
      obtain ⟨k, hk⟩ := List.mem_iff_getElem?.mp ((hm j).mpr ⟨by omega, g1⟩)
      rw [zr_ahead hp hir has hm hq hk] at g2
      exact absurd g2.symm (hx k (List.getElem?_eq_some_iff.mp hk).1)
/-- a row of numbers written as ints -/
def zr_at (f : Nat → Int32) (l : List Nat) : Prop := ∀ i x, l[i]? = some x → f i = nI x
theorem zr_push {f : Nat → Int32} {l : List Nat} {x k : Nat} (h : zr_at f l) (hk : k = l.length) : zr_at (upd f k (nI x)) (l ++ [x]) := by
  intro j y hj
  by_cases hjl : j < l.length
  · rw [List.getElem?_append_left hjl] at hj
    rw [zr_un (by omega)]
    exact h j y hj
  · rw [List.getElem?_append_right (by omega)] at hj
    cases hd : j - l.length with
    | zero =>
      rw [hd] at hj
      have e : x = y := Option.some.inj hj
      rw [show j = k by omega, zr_us, e]
    | succ d =>
      rw [hd] at hj
      simp at hj
theorem zr_cp {keep : Int32 → Bool} {k1 : Nat → Bool} {f : Nat → Int32} {l : List Nat} (hf : zr_at f l) (hk : ∀ x, x ∈ l → keep (nI x) = k1 x) : ∀ i, i ≤ l.length →
    (cp_k keep f i).2 = ((l.take i).filter k1).length ∧ zr_at (cp_k keep f i).1 ((l.take i).filter k1) ∧ ∀ j, i ≤ j → (cp_k keep f i).1 j = f j
  | 0, _ => ⟨rfl, fun i x h => by simp at h, fun j _ => rfl⟩
  | i + 1, hi => by
    obtain ⟨h1, h2, h3⟩ := zr_cp hf hk i (by omega)
    have hle := cp_le keep f i
    obtain ⟨x, hx⟩ : ∃ x, l[i]? = some x := ⟨l[i], List.getElem?_eq_getElem (by omega)⟩
    have e1 : (cp_k keep f i).1 i = nI x := by rw [h3 i (Nat.le_refl i), hf i x hx]
    have e2 : upd (cp_k keep f i).1 (cp_k keep f i).2 ((cp_k keep f i).1 i) i = nI x := by
      rw [zr_upd]
      split <;> exact e1
    have et : (l.take (i + 1)).filter k1 = (l.take i).filter k1 ++ (if k1 x = true then [x] else []) := by
      rw [List.take_add_one, hx, List.filter_append]
      cases h9 : k1 x <;> simp [h9]
    rw [cp_k]
    dsimp only
    rw [e2, hk x (List.mem_of_getElem? hx), et, e1]
    by_cases kx : k1 x = true
    · rw [if_pos kx, if_pos kx]
      refine ⟨by rw [List.length_append, h1]; rfl, zr_push h2 h1, fun j hj => ?_⟩
      rw [zr_un (by omega)]
      exact h3 j (by omega)
    · rw [if_neg kx, if_neg kx, List.append_nil]
      refine ⟨h1, fun j y hj => ?_, fun j hj => ?_⟩
      · have hjl := (List.getElem?_eq_some_iff.mp hj).1
        rw [zr_un (by omega)]
        exact h2 j y hj
      · rw [zr_un (by omega)]
        exact h3 j (by omega)
/-- the board -/
def zr_B (M : Nat) (th od bo : Nat → Int32) (mb : Nat) : Prop := ∃ l : List Nat, l.length = mb ∧ zr_at bo l ∧ l.Pairwise (fun x y => od x < od y) ∧ ∀ x, x ∈ l ↔ x < M ∧ ta_p th x = true
theorem zr_ir {od : Nat → Int32} : ∀ x, ¬ od x < od x := fun _ h => Int32.lt_irrefl h
theorem zr_as {od : Nat → Int32} : ∀ x y, od x < od y → ¬ od y < od x := fun _ _ h => Int32.lt_asymm h
theorem zr_B_cnt {M mb : Nat} {th od bo : Nat → Int32} (h : zr_B M th od bo mb) : zf_cnt (ta_p th) M = mb := by
  obtain ⟨l, h1, h2, h3, h4⟩ := h
  rw [zr_cnt M (ta_p th) l (zr_nodup h3 zr_ir) h4, h1]
theorem zr_B_le {M mb : Nat} {th od bo : Nat → Int32} (h : zr_B M th od bo mb) : mb ≤ M := by
  rw [← zr_B_cnt h]
  exact zf_cnt_le _ _
theorem zr_tp {th : Nat → Int32} {x : Nat} : ta_p th x = true ↔ ¬ th x = -1 := by simp [ta_p]
theorem zr_B_mem {M mb : Nat} {th od bo : Nat → Int32} (h : zr_B M th od bo mb) {i : Nat} (hi : i < mb) : ∃ mi, mi < M ∧ ¬ th mi = -1 ∧ bo i = nI mi := by
  obtain ⟨l, h1, h2, h3, h4⟩ := h
  obtain ⟨x, hx⟩ : ∃ x, l[i]? = some x := ⟨l[i], List.getElem?_eq_getElem (by omega)⟩
  have h5 := (h4 x).mp (List.mem_of_getElem? hx)
  exact ⟨x, h5.1, zr_tp.mp h5.2, h2 i x hx⟩
theorem zr_B_pl {M mb : Nat} {th od bo : Nat → Int32} (h : zr_B M th od bo mb) (hM : M ≤ 30) : (∀ i, i < mb → zf_find (ta_hit th od M (nI i)) M 0 = bo i) ∧ (∀ x, (∀ i, i < mb → ¬ x = nI i) → zf_find (ta_hit th od M x) M 0 = -1) := by
  have hle := zr_B_le h
  obtain ⟨l, h1, h2, h3, h4⟩ := h
  have K := zr_place (n := M) (p := ta_p th) (q := ta_ah th od) (hit := ta_hit th od M) h3 zr_ir zr_as h4 (fun m x => by simp [ta_ah, ta_p]) (fun x m => by simp [ta_hit, ta_p]) (by omega)
  constructor
  · intro i hi
    obtain ⟨x, hx⟩ : ∃ x, l[i]? = some x := ⟨l[i], List.getElem?_eq_getElem (by omega)⟩
    rw [K.1 i x hx, h2 i x hx]
  · intro x hx
    exact K.2 x (fun i hi => hx i (by omega))
theorem zr_take_cnt {q : Nat → Bool} {f : Nat → Bool} {l : List Nat} (h : ∀ i x, l[i]? = some x → f i = q x) : ∀ i, i ≤ l.length → zf_cnt f i = ((l.take i).filter q).length
  | 0, _ => rfl
  | i + 1, hi => by
    obtain ⟨x, hx⟩ : ∃ x, l[i]? = some x := ⟨l[i], List.getElem?_eq_getElem (by omega)⟩
    have et : (l.take (i + 1)).filter q = (l.take i).filter q ++ (if q x = true then [x] else []) := by
      rw [List.take_add_one, hx, List.filter_append]
      cases h9 : q x <;> simp [h9]
    rw [zf_cnt, h i x hx, zr_take_cnt h i (by omega), et]
    by_cases kx : q x = true
    · rw [if_pos kx, if_pos kx, List.length_append]
      rfl
    · rw [if_neg kx, if_neg kx, List.append_nil]
theorem zr_B_sp {M mb : Nat} {th od bo ki tk : Nat → Int32} (h : zr_B M th od bo mb) (hM : M ≤ 30) : zf_cnt (sp_a ki tk th) M = zf_cnt (sp_b ki th tk bo) mb := by
  obtain ⟨l, h1, h2, h3, h4⟩ := h
  have e1 : zf_cnt (sp_b ki th tk bo) mb = ((l.take mb).filter (fun x => decide (¬ ki (th x).toNatClampNeg ≤ tk x))).length := zr_take_cnt (fun i x hx => by
    have hxM := ((h4 x).mp (List.mem_of_getElem? hx)).1
    unfold sp_b
    rw [h2 i x hx, nI_clamp (by omega)]) mb (by omega)
  rw [e1, List.take_of_length_le (by omega)]
  refine zr_cnt M _ _ ((zr_nodup h3 zr_ir).filter _) (fun x => ?_)
  rw [List.mem_filter, h4 x]
  simp [sp_a, ta_p, and_assoc]
theorem zr_B_add {M mb m j : Nat} {th od bo : Nat → Int32} {ti : Int32} (h : zr_B M th od bo mb) (hm : m < M) (ht : th m = -1) (hj : j < 2 ^ 31) (hod : ∀ x, x < M → ¬ th x = -1 → od x < ti) : zr_B M (upd th m (nI j)) (upd od m ti) (upd bo mb (nI m)) (mb + 1) := by
  obtain ⟨l, h1, h2, h3, h4⟩ := h
  have hne : ∀ x, x ∈ l → x ≠ m := fun x hx e => by
    subst e
    exact zr_tp.mp ((h4 x).mp hx).2 ht
  refine ⟨l ++ [m], by rw [List.length_append, h1]; rfl, zr_push h2 h1.symm, List.pairwise_append.mpr ⟨List.Pairwise.imp_of_mem (fun {a b} ha hb h => ?_) h3, List.pairwise_singleton _ _, fun a ha b hb => ?_⟩, fun x => ?_⟩
  · show upd od m ti a < upd od m ti b
    rw [zr_un (hne a ha), zr_un (hne b hb)]
    exact h
  · rw [List.mem_singleton.mp hb]
    show upd od m ti a < upd od m ti m
    rw [zr_un (hne a ha), zr_us]
    have h5 := (h4 a).mp ha
    exact hod a h5.1 (zr_tp.mp h5.2)
  · rw [List.mem_append, List.mem_singleton, h4 x, zr_tp, zr_tp]
    by_cases e : x = m
    · subst e
      rw [zr_us]
      exact iff_of_true (Or.inr rfl) ⟨hm, nI_nm1 hj⟩
    · rw [zr_un e]
      constructor
      · rintro (h | h)
        · exact h
        · exact absurd h e
      · exact Or.inl
theorem zr_c1 {m x : Nat} (hm : m < 2 ^ 31) (hx : x < 2 ^ 31) : cp_1 m (nI x) = decide (¬ x = m) := by
  unfold cp_1
  rw [decide_eq_decide, nI_eq hx hm]
theorem zr_div2 : ∀ x, x < 60 → nI x / 2 = nI (x / 2) := by decide +kernel
theorem zr_c2 {m x : Nat} (hm : m < 2 ^ 31) (hx : x < 60) : cp_2 m (nI x) = decide (¬ x / 2 = m) := by
  unfold cp_2
  rw [decide_eq_decide, zr_div2 x hx, nI_eq (by omega) hm]
theorem zr_B_del {M mb m : Nat} {th od bo : Nat → Int32} (h : zr_B M th od bo mb) (hM : M ≤ 30) (hm : m < M) : zr_B M (upd th m (-1)) od (cp_k (cp_1 m) bo mb).1 (cp_k (cp_1 m) bo mb).2 := by
  obtain ⟨l, h1, h2, h3, h4⟩ := h
  obtain ⟨g1, g2, -⟩ := zr_cp (keep := cp_1 m) (k1 := fun x => decide (¬ x = m)) h2 (fun x hx => zr_c1 (by omega) (by have := ((h4 x).mp hx).1; omega)) mb (by omega)
  rw [List.take_of_length_le (by omega)] at g1 g2
  refine ⟨_, g1.symm, g2, h3.filter _, fun x => ?_⟩
  rw [List.mem_filter, h4 x, zr_tp, zr_tp]
  by_cases e : x = m
  · subst e
    rw [zr_us]
    simp
  · rw [zr_un e]
    simp [e]
theorem zr_B_new {M mb : Nat} {th od bo : Nat → Int32} (h : zr_B M th od bo mb) : zr_B (M + 1) (upd th M (-1)) od bo mb := by
  obtain ⟨l, h1, h2, h3, h4⟩ := h
  refine ⟨l, h1, h2, h3, fun x => ?_⟩
  rw [h4 x, zr_tp, zr_tp]
  by_cases e : x = M
  · subst e
    rw [zr_us]
    simp
  · rw [zr_un e]
    constructor
    · rintro ⟨a, b⟩
      exact ⟨by omega, b⟩
    · rintro ⟨a, b⟩
      exact ⟨by omega, b⟩
/-- the alarms: all begun before h, or in h itself below k -/
def zr_H (be al : Nat → Int32) (ma : Nat) (h : Int32) (k : Nat) : Prop := ∃ l : List Nat, l.length = ma ∧ zr_at al l ∧ l.Pairwise (fun x y => al_ah be x y = true) ∧ (∀ x, x ∈ l ↔ x < 60 ∧ decide (¬ be x = 0) = true) ∧ ∀ x, x ∈ l → be x < h ∨ (be x = h ∧ x < k)
theorem zr_ah {be : Nat → Int32} {x y : Nat} : al_ah be x y = true ↔ be x < be y ∨ (be x = be y ∧ x < y) := by simp [al_ah]
theorem zr_ahi {be : Nat → Int32} : ∀ x, ¬ al_ah be x x = true := fun x q => by
  rcases zr_ah.mp q with h | ⟨-, h⟩
  · exact Int32.lt_irrefl h
  · omega
theorem zr_aha {be : Nat → Int32} : ∀ x y, al_ah be x y = true → ¬ al_ah be y x = true := fun x y h q => by
  rcases zr_ah.mp h with h | ⟨h0, h⟩
  · rcases zr_ah.mp q with g | ⟨g0, g⟩
    · exact Int32.lt_asymm h g
    · rw [g0] at h
      exact Int32.lt_irrefl h
  · rcases zr_ah.mp q with g | ⟨g0, g⟩
    · rw [h0] at g
      exact Int32.lt_irrefl g
    · omega
theorem zr_H_le {be al : Nat → Int32} {ma k : Nat} {h : Int32} (H : zr_H be al ma h k) : ma ≤ 60 := by
  obtain ⟨l, h1, h2, h3, h4, h5⟩ := H
  rw [← h1, ← zr_cnt 60 (fun x => decide (¬ be x = 0)) l (zr_nodup h3 zr_ahi) h4]
  exact zf_cnt_le _ _
theorem zr_H_pl {be al : Nat → Int32} {ma k : Nat} {h : Int32} (H : zr_H be al ma h k) : (∀ i, i < ma → zf_find (al_hit be (nI i)) 60 0 = al i) ∧ (∀ x, (∀ i, i < ma → ¬ x = nI i) → zf_find (al_hit be x) 60 0 = -1) := by
  have hle := zr_H_le H
  obtain ⟨l, h1, h2, h3, h4, h5⟩ := H
  have K := zr_place (n := 60) (p := fun x => decide (¬ be x = 0)) (q := al_p be) (hit := al_hit be) h3 zr_ahi zr_aha h4 (fun m x => by simp [al_p]) (fun x m => by simp [al_hit]) (by omega)
  constructor
  · intro i hi
    obtain ⟨x, hx⟩ : ∃ x, l[i]? = some x := ⟨l[i], List.getElem?_eq_getElem (by omega)⟩
    rw [K.1 i x hx, h2 i x hx]
  · intro x hx
    exact K.2 x (fun i hi => hx i (by omega))
theorem zr_H_k {be al : Nat → Int32} {ma k k2 : Nat} {h : Int32} (H : zr_H be al ma h k) (hk : k ≤ k2) : zr_H be al ma h k2 := by
  obtain ⟨l, h1, h2, h3, h4, h5⟩ := H
  refine ⟨l, h1, h2, h3, h4, fun x hx => ?_⟩
  rcases h5 x hx with g | ⟨g, g2⟩
  · exact Or.inl g
  · exact Or.inr ⟨g, by omega⟩
theorem zr_H_next {be al : Nat → Int32} {ma k h : Nat} (H : zr_H be al ma (nI h) k) (hh : h + 1 < 2 ^ 31) : zr_H be al ma (nI (h + 1)) 0 := by
  obtain ⟨l, h1, h2, h3, h4, h5⟩ := H
  refine ⟨l, h1, h2, h3, h4, fun x hx => Or.inl ?_⟩
  have e : nI h < nI (h + 1) := nI_lt (by omega) hh
  rcases h5 x hx with g | ⟨g, g2⟩
  · exact Int32.lt_trans g e
  · rw [g]
    exact e
theorem zr_H_del {be al : Nat → Int32} {ma m k : Nat} {h : Int32} (H : zr_H be al ma h k) (hm : m < 30) : zr_H (upd (upd be (2 * m) 0) (2 * m + 1) 0) (cp_k (cp_2 m) al ma).1 (cp_k (cp_2 m) al ma).2 h k := by
  obtain ⟨l, h1, h2, h3, h4, h5⟩ := H
  have hlt : ∀ x, x ∈ l → x < 60 := fun x hx => ((h4 x).mp hx).1
  obtain ⟨g1, g2, -⟩ := zr_cp (keep := cp_2 m) (k1 := fun x => decide (¬ x / 2 = m)) h2 (fun x hx => zr_c2 (by omega) (hlt x hx)) ma (by omega)
  rw [List.take_of_length_le (by omega)] at g1 g2
  have hb : ∀ x, ¬ x / 2 = m → upd (upd be (2 * m) 0) (2 * m + 1) 0 x = be x := fun x hx => by
    rw [zr_un (by omega), zr_un (by omega)]
  have hf : ∀ x, x ∈ l.filter (fun x => decide (¬ x / 2 = m)) → x ∈ l ∧ ¬ x / 2 = m := fun x hx => by
    have := List.mem_filter.mp hx
    exact ⟨this.1, of_decide_eq_true this.2⟩
  refine ⟨_, g1.symm, g2, List.Pairwise.imp_of_mem (fun {a b} ha hb9 h => ?_) (h3.filter _), fun x => ?_, fun x hx => ?_⟩
  · have h := zr_ah.mp h
    rw [zr_ah, hb a (hf a ha).2, hb b (hf b hb9).2]
    exact h
  · rw [List.mem_filter, h4 x]
    by_cases e : x / 2 = m
    · have e0 : upd (upd be (2 * m) 0) (2 * m + 1) 0 x = 0 := by
        rcases (show x = 2 * m ∨ x = 2 * m + 1 by omega) with e1 | e1
        · subst e1
          rw [zr_un (by omega), zr_us]
        · subst e1
          rw [zr_us]
      rw [e0]
      simp [e]
    · rw [hb x e]
      simp [e]
  · rw [hb x (hf x hx).2]
    exact h5 x (hf x hx).1
theorem zr_has {al : Nat → Int32} {v : Int32} : ∀ n, al_has al v n = true ↔ ∃ i, i < n ∧ al i = v
  | 0 => by simp [al_has]
  | n + 1 => by
    rw [al_has, Bool.or_eq_true, zr_has n, decide_eq_true_eq]
    constructor
    · rintro (⟨i, h1, h2⟩ | h)
      · exact ⟨i, by omega, h2⟩
      · exact ⟨n, by omega, h⟩
    · rintro ⟨i, h1, h2⟩
      rcases Nat.lt_or_eq_of_le (Nat.le_of_lt_succ h1) with h3 | h3
      · exact Or.inl ⟨i, h3, h2⟩
      · subst h3
        exact Or.inr h2
theorem zr_H_has {be al : Nat → Int32} {ma k c : Nat} {h : Int32} (H : zr_H be al ma h k) (hc : c < 60) : al_has al (nI c) ma = decide (¬ be c = 0) := by
  obtain ⟨l, h1, h2, h3, h4, h5⟩ := H
  rw [Bool.eq_iff_iff, zr_has]
  constructor
  · rintro ⟨i, hi, e⟩
    obtain ⟨x, hx⟩ : ∃ x, l[i]? = some x := ⟨l[i], List.getElem?_eq_getElem (by omega)⟩
    have hxm := (h4 x).mp (List.mem_of_getElem? hx)
    rw [h2 i x hx] at e
    have e2 := (nI_eq (by omega) (by omega)).mp e
    subst e2
    exact hxm.2
  · intro hb
    obtain ⟨i, hi⟩ := List.mem_iff_getElem?.mp ((h4 c).mpr ⟨hc, hb⟩)
    exact ⟨i, by have := (List.getElem?_eq_some_iff.mp hi).1; omega, h2 i c hi⟩
theorem zr_begin {be al : Nat → Int32} {ma k : Nat} {h : Int32} (H : zr_H be al ma h k) (h0 : ¬ h = 0) (hk : k < 60) (bb : Bool) :
    (ba_k bb be k h).2 = bg_n bb (al_has al (nI k) ma) ∧ zr_H (ba_k bb be k h).1 (bg_a bb (al_has al (nI k) ma) al ma (nI k)) (ma + bg_n bb (al_has al (nI k) ma)) h (k + 1) ∧ (bb = true → al_has al (nI k) ma = false → ma < 60) := by
  have hh := zr_H_has H hk
  by_cases g : bb = true ∧ be k = 0
  · have e1 : ba_k bb be k h = (upd be k h, 1) := by unfold ba_k; rw [if_pos g]
    have g2 : al_has al (nI k) ma = false := by rw [hh]; simp [g.2]
    have e2 : bg_n bb (al_has al (nI k) ma) = 1 := by unfold bg_n; rw [if_pos ⟨g.1, g2⟩]
    have e3 : bg_a bb (al_has al (nI k) ma) al ma (nI k) = upd al ma (nI k) := by unfold bg_a; rw [if_pos ⟨g.1, g2⟩]
    have HN : zr_H (upd be k h) (upd al ma (nI k)) (ma + 1) h (k + 1) := by
      obtain ⟨l, h1, h2, h3, h4, h5⟩ := H
      have hne : ∀ x, x ∈ l → x ≠ k := fun x hx e => by
        subst e
        exact of_decide_eq_true ((h4 x).mp hx).2 g.2
      refine ⟨l ++ [k], by rw [List.length_append, h1]; rfl, zr_push h2 h1.symm, List.pairwise_append.mpr ⟨List.Pairwise.imp_of_mem (fun {a b} ha hb h => ?_) h3, List.pairwise_singleton _ _, fun a ha b hb => ?_⟩, fun x => ?_, fun x hx => ?_⟩
      · have h := zr_ah.mp h
        rw [zr_ah, zr_un (hne a ha), zr_un (hne b hb)]
        exact h
      · rw [List.mem_singleton.mp hb, zr_ah, zr_un (hne a ha), zr_us]
        exact h5 a ha
      · rw [List.mem_append, List.mem_singleton, h4 x]
        by_cases e : x = k
        · subst e
          rw [zr_us]
          exact iff_of_true (Or.inr rfl) ⟨hk, decide_eq_true h0⟩
        · rw [zr_un e]
          constructor
          · rintro (h | h)
            · exact h
            · exact absurd h e
          · exact Or.inl
      · rcases List.mem_append.mp hx with h9 | h9
        · rw [zr_un (hne x h9)]
          rcases h5 x h9 with q | ⟨q, q2⟩
          · exact Or.inl q
          · exact Or.inr ⟨q, by omega⟩
        · rw [List.mem_singleton.mp h9, zr_us]
          exact Or.inr ⟨rfl, by omega⟩
    rw [e1, e2, e3]
    exact ⟨rfl, HN, fun _ _ => by have := zr_H_le HN; omega⟩
  · have e1 : ba_k bb be k h = (be, 0) := by unfold ba_k; rw [if_neg g]
    have g2 : ¬ (bb = true ∧ al_has al (nI k) ma = false) := fun q => g ⟨q.1, by
      have := q.2
      rw [hh] at this
      simpa using this⟩
    have e2 : bg_n bb (al_has al (nI k) ma) = 0 := by unfold bg_n; rw [if_neg g2]
    have e3 : bg_a bb (al_has al (nI k) ma) al ma (nI k) = al := by unfold bg_a; rw [if_neg g2]
    rw [e1, e2, e3]
    exact ⟨rfl, zr_H_k H (by omega), fun q1 q2 => absurd ⟨q1, q2⟩ g2⟩
theorem zr_dk {x : UInt64} (h : zn_p x) : la_dkc x = la_dk x := by
  unfold la_dkc la_dk
  have n1 := fz_ne (zn_le h)
  have n2 : fz_n 0 := fz_ne (by decide)
  have e1 := fz_lt_bits (x := x) (y := 0) (zn_le h) (by decide)
  have e3 : (0 : UInt64).toNat = 0 := rfl
  rcases fz_cmp3 n1 n2 with ⟨g, e⟩ | ⟨g, e⟩ | ⟨g, e⟩
  · have := e1.mp g
    omega
  · rw [e]
    decide +kernel
  · rw [e]
    decide +kernel
/-- one miner's turn of the hour -/
theorem zr_step {be al th hu : Nat → Int32} {ch : Nat → UInt64} {ma m j n c : Nat} {h : Int32} (H : zr_H be al ma h (2 * m)) (hm : m < 30) (h0 : ¬ h = 0) (hj : (th m).toNatClampNeg = j) (hz : zn_p (ch j)) :
    zr_H (pb_2 hu ch be h j m).1 (gb_D th ch (gb_L th hu h (al, ma, n) m) m).1 (gb_D th ch (gb_L th hu h (al, ma, n) m) m).2.1 h (2 * (m + 1)) ∧ (c = n → c + (pb_2 hu ch be h j m).2 = (gb_D th ch (gb_L th hu h (al, ma, n) m) m).2.2) ∧
    (la_lt9 h (hu m) = true → al_has al (nI (2 * m)) ma = false → ma < 60) ∧
    (la_dk (ch (th m).toNatClampNeg) = true → al_has (gb_L th hu h (al, ma, n) m).1 (nI (2 * m + 1)) (gb_L th hu h (al, ma, n) m).2.1 = false → (gb_L th hu h (al, ma, n) m).2.1 < 60) ∧ ma ≤ 60 ∧ (gb_L th hu h (al, ma, n) m).2.1 ≤ 60 := by
  obtain ⟨a1, a2, a3⟩ := zr_begin H h0 (by omega) (la_lt9 h (hu m))
  obtain ⟨b1, b2, b3⟩ := zr_begin a2 h0 (by omega) (la_dk (ch j))
  have e : la_dkc (ch j) = la_dk (ch j) := zr_dk hz
  refine ⟨?_, ?_, a3, ?_, zr_H_le H, zr_H_le a2⟩
  · unfold pb_2 gb_D gb_L
    dsimp only
    rw [hj, e]
    exact b2
  · intro hc
    unfold pb_2 gb_D gb_L
    dsimp only
    rw [hj, e, hc, ← Nat.add_assoc, ← b1, ← a1]
    rfl
  · rw [hj]
    exact b3
theorem zr_hour {be al th hu : Nat → Int32} {ch : Nat → UInt64} {ma M : Nat} {h : Int32} (H : zr_H be al ma h 0) (hM : M ≤ 30) (h0 : ¬ h = 0) (hth : ∀ mi, mi < M → ¬ th mi = -1 → ∃ j, j < 40 ∧ th mi = nI j) (hz : ∀ j, j < 40 → zn_p (ch j)) :
    ∀ m, m ≤ M → zr_H (pb_k th hu ch be h m).1 (gb_k th hu ch h al ma m).1 (gb_k th hu ch h al ma m).2.1 h (2 * m) ∧ (pb_k th hu ch be h m).2 = (gb_k th hu ch h al ma m).2.2
  | 0, _ => ⟨H, rfl⟩
  | m + 1, hm => by
    obtain ⟨h1, h2⟩ := zr_hour H hM h0 hth hz m (by omega)
    rw [pb_k, gb_k]
    by_cases g : th m = -1
    · rw [if_pos g, if_pos g]
      exact ⟨zr_H_k h1 (by omega), h2⟩
    · rw [if_neg g, if_neg g]
      obtain ⟨j, hj, ej⟩ := hth m (by omega) g
      have K := zr_step (hu := hu) (ch := ch) (n := (gb_k th hu ch h al ma m).2.2) (c := (pb_k th hu ch be h m).2) h1 (by omega) h0 (show (th m).toNatClampNeg = j by rw [ej]; exact nI_clamp (by omega)) (hz j hj)
      rw [show (th m).toNatClampNeg = j by rw [ej]; exact nI_clamp (by omega)]
      exact ⟨K.1, K.2.1 h2⟩
theorem zr_gok {be al th hu : Nat → Int32} {ch : Nat → UInt64} {ma M : Nat} {h : Int32} (H : zr_H be al ma h 0) (hM : M ≤ 30) (h0 : ¬ h = 0) (hth : ∀ mi, mi < M → ¬ th mi = -1 → ∃ j, j < 40 ∧ th mi = nI j) (hz : ∀ j, j < 40 → zn_p (ch j)) : gb_ok th hu ch h al ma M := by
  intro m hm g
  obtain ⟨h1, -⟩ := zr_hour (hu := hu) H hM h0 hth hz m (by omega)
  obtain ⟨j, hj, ej⟩ := hth m hm g
  have K := zr_step (hu := hu) (ch := ch) (n := (gb_k th hu ch h al ma m).2.2) (c := 0) h1 (by omega) h0 (show (th m).toNatClampNeg = j by rw [ej]; exact nI_clamp (by omega)) (hz j hj)
  exact ⟨K.2.2.1, K.2.2.2.1, K.2.2.2.2.1, K.2.2.2.2.2⟩
/-- the hours -/
theorem zr_hours {pl le be al th hu : Nat → Int32} {ch ca : Nat → UInt64} {ma N M h : Nat} (H : zr_H be al ma (nI (h + 1)) 0) (hM : M ≤ 30) (hth : ∀ mi, mi < M → ¬ th mi = -1 → ∃ j, j < 40 ∧ th mi = nI j) (hp : ∀ j, j < 40 → zn_p (ch j)) (hc : ∀ j, j < 40 → zn_p (ca j)) :
    ∀ t, h + t + 1 < 2 ^ 31 → (ho_k pl le ca th hu N M ch (nI h) be t).1 = (mo_k pl le ca th hu N M ch (nI h) al ma t).1 ∧ (mo_k pl le ca th hu N M ch (nI h) al ma t).1.2 = nI (h + t) ∧
      zr_H (ho_k pl le ca th hu N M ch (nI h) be t).2.1 (mo_k pl le ca th hu N M ch (nI h) al ma t).2.1.1 (mo_k pl le ca th hu N M ch (nI h) al ma t).2.1.2 (nI (h + t + 1)) 0 ∧ (ho_k pl le ca th hu N M ch (nI h) be t).2.2 = (mo_k pl le ca th hu N M ch (nI h) al ma t).2.2
  | 0, _ => ⟨rfl, rfl, H, rfl⟩
  | t + 1, ht => by
    obtain ⟨h1, h2, h3, h4⟩ := zr_hours (pl := pl) (le := le) (hu := hu) (N := N) H hM hth hp hc t (by omega)
    have hz := zn_mo (pl := pl) (le := le) (la := th) (si := hu) (N := N) (M := M) (mh := nI h) (al := al) (ma := ma) hp hc t
    have K := zr_hour (hu := hu) (ch := la_hr pl le (mo_k pl le ca th hu N M ch (nI h) al ma t).1.1 ca N) h3 hM (nI_ne0 (by omega) (by omega)) hth (fun j hj => zn_hr hz hc j hj) M (Nat.le_refl M)
    rw [ho_k, mo_k]
    dsimp only
    rw [h1, h2, nI_1]
    exact ⟨rfl, rfl, zr_H_next K.1 (by omega), by rw [h4, K.2]⟩
/-- the relation -/
def zr_R (C N M : Nat) (le : Nat → Int32) (ch ca : Nat → UInt64) (tk th od : Nat → Int32) (t : Nat) (be : Nat → Int32) (h mb ma : Nat) (bo al : Nat → Int32) : Prop := (N ≤ 40) ∧ (M ≤ 30) ∧ (∀ i, i < 40 → zn_p (ch i)) ∧ (∀ i, i < 40 → zn_p (ca i)) ∧ (∀ i, le i = 0 ∨ le i = 1) ∧ (∀ mi, mi < M → ∃ w, w < 3 ∧ tk mi = nI w) ∧ (∀ mi, mi < M → ¬ th mi = -1 → ∃ j, j < N ∧ th mi = nI j) ∧ (t ≤ C) ∧ (h ≤ 100 * C) ∧ (∀ x, x < M → ¬ th x = -1 → od x < nI t) ∧ (zr_B M th od bo mb) ∧ (zr_H be al ma (nI (h + 1)) 0)
section ZRR
variable {C N M t h mb ma : Nat} {le tk th od be bo al : Nat → Int32} {ch ca : Nat → UInt64}
theorem zr_R.hN (r : zr_R C N M le ch ca tk th od t be h mb ma bo al) : N ≤ 40 := r.1
theorem zr_R.hM (r : zr_R C N M le ch ca tk th od t be h mb ma bo al) : M ≤ 30 := r.2.1
theorem zr_R.hch (r : zr_R C N M le ch ca tk th od t be h mb ma bo al) : ∀ i, i < 40 → zn_p (ch i) := r.2.2.1
theorem zr_R.hca (r : zr_R C N M le ch ca tk th od t be h mb ma bo al) : ∀ i, i < 40 → zn_p (ca i) := r.2.2.2.1
theorem zr_R.hle (r : zr_R C N M le ch ca tk th od t be h mb ma bo al) : ∀ i, le i = 0 ∨ le i = 1 := r.2.2.2.2.1
theorem zr_R.htk (r : zr_R C N M le ch ca tk th od t be h mb ma bo al) : ∀ mi, mi < M → ∃ w, w < 3 ∧ tk mi = nI w := r.2.2.2.2.2.1
theorem zr_R.hth (r : zr_R C N M le ch ca tk th od t be h mb ma bo al) : ∀ mi, mi < M → ¬ th mi = -1 → ∃ j, j < N ∧ th mi = nI j := r.2.2.2.2.2.2.1
theorem zr_R.ht (r : zr_R C N M le ch ca tk th od t be h mb ma bo al) : t ≤ C := r.2.2.2.2.2.2.2.1
theorem zr_R.hh (r : zr_R C N M le ch ca tk th od t be h mb ma bo al) : h ≤ 100 * C := r.2.2.2.2.2.2.2.2.1
theorem zr_R.hod (r : zr_R C N M le ch ca tk th od t be h mb ma bo al) : ∀ x, x < M → ¬ th x = -1 → od x < nI t := r.2.2.2.2.2.2.2.2.2.1
theorem zr_R.hB (r : zr_R C N M le ch ca tk th od t be h mb ma bo al) : zr_B M th od bo mb := r.2.2.2.2.2.2.2.2.2.2.1
theorem zr_R.hA (r : zr_R C N M le ch ca tk th od t be h mb ma bo al) : zr_H be al ma (nI (h + 1)) 0 := r.2.2.2.2.2.2.2.2.2.2.2
theorem zr_R.up (r : zr_R C N M le ch ca tk th od t be h mb ma bo al) : zr_R (C + 1) N M le ch ca tk th od t be h mb ma bo al :=
  ⟨r.hN, r.hM, r.hch, r.hca, r.hle, r.htk, r.hth, by have := r.ht; omega, by have := r.hh; omega, r.hod, r.hB, r.hA⟩
theorem zr_R.b30 (r : zr_R C N M le ch ca tk th od t be h mb ma bo al) : mb ≤ 30 := Nat.le_trans (zr_B_le r.hB) r.hM
theorem zr_R.a60 (r : zr_R C N M le ch ca tk th od t be h mb ma bo al) : ma ≤ 60 := zr_H_le r.hA
theorem zr_vu {P : UInt64 → Prop} {f : Nat → UInt64} {k : Nat} {x : UInt64} (hf : ∀ i, i < 40 → P (f i)) (hx : P x) : ∀ i, i < 40 → P (vf_upd f k x i) := fun i hi => by
  unfold vf_upd
  by_cases e : i = k
  · rw [if_pos e]
    exact hx
  · rw [if_neg e]
    exact hf i hi
theorem zr_R.addLamp (r : zr_R C N M le ch ca tk th od t be h mb ma bo al) (k : Int32) (hf : N < 40) : zr_R (C + 1) (N + 1) M le (vf_upd ch N (la_new k)) (vf_upd ca N (la_new k)) tk th od t be h mb ma bo al :=
  ⟨hf, r.up.hM, zr_vu r.hch (zn_new k), zr_vu r.hca (zn_new k), r.up.hle, r.up.htk, fun mi hm q => by
      obtain ⟨j, hj, e⟩ := r.hth mi hm q
      exact ⟨j, by omega, e⟩, r.up.ht, r.up.hh, r.up.hod, r.up.hB, r.up.hA⟩
theorem zr_R.addMiner (r : zr_R C N M le ch ca tk th od t be h mb ma bo al) {k : Int32} (hk : in_b k 0 2 = true) (hf : M < 30) : zr_R (C + 1) N (M + 1) le ch ca (upd tk M k) (upd th M (-1)) od t be h mb ma bo al :=
  ⟨r.up.hN, hf, r.up.hch, r.up.hca, r.up.hle, fun mi hm => by
      by_cases e : mi = M
      · subst e
        rw [zr_us]
        exact in_b_3 hk
      · rw [zr_un e]
        exact r.htk mi (by omega), fun mi hm q => by
      by_cases e : mi = M
      · subst e
        exact absurd zr_us q
      · rw [zr_un e] at q ⊢
        exact r.hth mi (by omega) q, r.up.ht, r.up.hh, fun x hx q => by
      by_cases e : x = M
      · subst e
        exact absurd zr_us q
      · rw [zr_un e] at q
        exact r.hod x (by omega) q, zr_B_new r.hB, r.up.hA⟩
theorem zr_R.issue (r : zr_R C N M le ch ca tk th od t be h mb ma bo al) (hC : C ≤ 512) {mi j : Nat} (hm : mi < M) (hla : th mi = -1) (hj : j < N) : zr_R (C + 1) N M le ch ca tk (upd th mi (nI j)) (upd od mi (nI t)) (t + 1) be h (mb + 1) ma (upd bo mb (nI mi)) al ∧ mb < 30 := by
  have hN := r.hN
  have ht := r.ht
  have hM := r.hM
  have hB := zr_B_add (j := j) (ti := nI t) r.hB hm hla (by omega) r.hod
  refine ⟨⟨r.up.hN, r.up.hM, r.up.hch, r.up.hca, r.up.hle, r.up.htk, fun x hx q => ?_, by omega, r.up.hh, fun x hx q => ?_, hB, r.up.hA⟩, by have := zr_B_le hB; omega⟩
  · by_cases e : x = mi
    · subst e
      exact ⟨j, hj, zr_us⟩
    · rw [zr_un e] at q ⊢
      exact r.hth x hx q
  · by_cases e : x = mi
    · subst e
      rw [zr_us]
      exact nI_lt (by omega) (by omega)
    · rw [zr_un e] at q ⊢
      exact Int32.lt_trans (r.hod x hx q) (nI_lt (by omega) (by omega))
theorem zr_R.back (r : zr_R C N M le ch ca tk th od t be h mb ma bo al) {mi j : Nat} (hm : mi < M) {b : Prop} [Decidable b] (hj : j < N) :
    zr_R (C + 1) N M (upd le j (if b then 0 else 1)) (vf_upd ch j (if la_gt (ch j) (FP.dmul (ca j) 4606912202822375178) = true then FP.dmul (ca j) 4606912202822375178 else ch j)) (vf_upd ca j (FP.dmul (ca j) 4606912202822375178)) tk (upd th mi (-1)) od t (upd (upd be (2 * mi) 0) (2 * mi + 1) 0) h (cp_k (cp_1 mi) bo mb).2 (cp_k (cp_2 mi) al ma).2 (cp_k (cp_1 mi) bo mb).1 (cp_k (cp_2 mi) al ma).1 := by
  have hN := r.hN
  have hM := r.hM
  refine ⟨r.up.hN, r.up.hM, zr_vu r.hch ?_, zr_vu r.hca (zn_mul97 (r.hca j (by omega))), fun i => ?_, r.up.htk, fun x hx q => ?_, r.up.ht, r.up.hh, fun x hx q => ?_, zr_B_del r.hB r.hM hm, zr_H_del r.hA (by omega)⟩
  · split
    · exact zn_mul97 (r.hca j (by omega))
    · exact r.hch j (by omega)
  · by_cases e : i = j
    · subst e
      rw [zr_us]
      split
      · exact Or.inl rfl
      · exact Or.inr rfl
    · rw [zr_un e]
      exact r.hle i
  · by_cases e : x = mi
    · subst e
      exact absurd zr_us q
    · rw [zr_un e] at q ⊢
      exact r.hth x hx q
  · by_cases e : x = mi
    · subst e
      exact absurd zr_us q
    · rw [zr_un e] at q
      exact r.hod x hx q
theorem zr_R.mend (r : zr_R C N M le ch ca tk th od t be h mb ma bo al) (j : Nat) : zr_R (C + 1) N M (upd le j 0) ch ca tk th od t be h mb ma bo al :=
  ⟨r.up.hN, r.up.hM, r.up.hch, r.up.hca, fun i => by
      by_cases e : i = j
      · subst e
        rw [zr_us]
        exact Or.inl rfl
      · rw [zr_un e]
        exact r.hle i, r.up.htk, r.up.hth, r.up.ht, r.up.hh, r.up.hod, r.up.hB, r.up.hA⟩
theorem zr_R.hours {pl hu : Nat → Int32} (r : zr_R C N M le ch ca tk th od t be h mb ma bo al) (hC : C ≤ 512) {n : Nat} (hn : n ≤ 100) :
    zr_R (C + 1) N M le (mo_k pl le ca th hu N M ch (nI h) al ma n).1.1 ca tk th od t (ho_k pl le ca th hu N M ch (nI h) be n).2.1 (h + n) mb (mo_k pl le ca th hu N M ch (nI h) al ma n).2.1.2 bo (mo_k pl le ca th hu N M ch (nI h) al ma n).2.1.1 ∧
    (ho_k pl le ca th hu N M ch (nI h) be n).1.1 = (mo_k pl le ca th hu N M ch (nI h) al ma n).1.1 ∧ (ho_k pl le ca th hu N M ch (nI h) be n).1.2 = nI (h + n) ∧ (mo_k pl le ca th hu N M ch (nI h) al ma n).1.2 = nI (h + n) ∧ (ho_k pl le ca th hu N M ch (nI h) be n).2.2 = (mo_k pl le ca th hu N M ch (nI h) al ma n).2.2 := by
  have hN := r.hN
  have hh := r.hh
  have K := zr_hours (pl := pl) (le := le) (hu := hu) (N := N) r.hA r.hM (fun mi hm q => by obtain ⟨j, hj, e⟩ := r.hth mi hm q; exact ⟨j, by omega, e⟩) r.hch r.hca n (by omega)
  refine ⟨⟨r.up.hN, r.up.hM, zn_mo r.hch r.hca n, r.up.hca, r.up.hle, r.up.htk, r.up.hth, r.up.ht, by omega, r.up.hod, r.up.hB, ?_⟩, by rw [K.1], by rw [K.1]; exact K.2.1, K.2.1, K.2.2.2⟩
  exact K.2.2.1
theorem zr_R.hok {pl hu : Nat → Int32} (r : zr_R C N M le ch ca tk th od t be h mb ma bo al) (hC : C ≤ 512) {n : Nat} (hn : n ≤ 100) : ∀ u, u < n → gb_ok th hu (la_hr pl le (mo_k pl le ca th hu N M ch (nI h) al ma u).1.1 ca N) ((mo_k pl le ca th hu N M ch (nI h) al ma u).1.2 + 1) (mo_k pl le ca th hu N M ch (nI h) al ma u).2.1.1 (mo_k pl le ca th hu N M ch (nI h) al ma u).2.1.2 M ∧ (mo_k pl le ca th hu N M ch (nI h) al ma u).2.1.2 ≤ 60 := fun u hu9 => by
  have hN := r.hN
  have hh := r.hh
  have hth : ∀ mi, mi < M → ¬ th mi = -1 → ∃ j, j < 40 ∧ th mi = nI j := fun mi hm q => by obtain ⟨j, hj, e⟩ := r.hth mi hm q; exact ⟨j, by omega, e⟩
  have K := zr_hours (pl := pl) (le := le) (hu := hu) (N := N) r.hA r.hM hth r.hch r.hca u (by omega)
  refine ⟨?_, zr_H_le K.2.2.1⟩
  rw [K.2.1, nI_1]
  exact zr_gok K.2.2.1 r.hM (nI_ne0 (by omega) (by omega)) hth (fun j hj => zn_hr (zn_mo r.hch r.hca u) r.hca j hj)
theorem zr_R.bos (r : zr_R C N M le ch ca tk th od t be h mb ma bo al) : ∀ i, i < mb → ∃ mi j, mi < M ∧ j < N ∧ bo i = nI mi ∧ th mi = nI j := fun i hi => by
  obtain ⟨mi, h1, h2, h3⟩ := zr_B_mem r.hB hi
  obtain ⟨j, hj, e⟩ := r.hth mi h1 h2
  exact ⟨mi, j, h1, hj, h3, e⟩
end ZRR
/-- contents that are the same -/
theorem zr_le {le : Nat → Int32} {j : Nat} {x : Int32} (h : le j = 0 ∨ le j = 1) : (if x = 0 then upd le j 1 else le) = upd le j (if le j = 0 ∧ ¬ x = 0 then 0 else 1) := by
  by_cases g : x = 0
  · rw [if_pos g, if_neg (fun q => q.2 g)]
  · rw [if_neg g]
    funext i
    by_cases e : i = j
    · subst e
      rw [zr_us]
      rcases h with h | h
      · rw [if_pos ⟨h, g⟩, h]
      · rw [if_neg (fun q => by rw [h] at q; exact absurd q.1 (by decide)), h]
    · rw [zr_un e]
theorem zr_ch {ch : Nat → UInt64} {j : Nat} {x : UInt64} {b : Bool} : (if b = true then vf_upd ch j x else ch) = vf_upd ch j (if b = true then x else ch j) := by
  cases b with
  | true => rw [if_pos rfl, if_pos rfl]
  | false =>
    rw [if_neg (by decide), if_neg (by decide)]
    funext i
    unfold vf_upd
    by_cases e : i = j
    · subst e
      rw [if_pos rfl]
    · rw [if_neg e]
theorem zr_pl {pl : Nat → Int32} {j : Nat} {x : Int32} (h : pl j = 0) : (if x = 0 then pl else upd pl j 2) = upd pl j (if x = 0 then 0 else 2) := by
  by_cases g : x = 0
  · rw [if_pos g, if_pos g]
    funext i
    by_cases e : i = j
    · subst e
      rw [zr_us, h]
    · rw [zr_un e]
  · rw [if_neg g, if_neg g]
