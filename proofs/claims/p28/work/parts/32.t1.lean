/-! ===== chains and counts ===== -/
def updI (f : Int → Int) (k v : Int) : Int → Int := fun j => if j = k then v else f j
theorem updI_s {f : Int → Int} {k v : Int} : updI f k v k = v := by simp [updI]
theorem updI_n {f : Int → Int} {k v j : Int} (h : j ≠ k) : updI f k v j = f j := by simp [updI, h]
theorem uz_fn {M : zM} {a : Nat} {j v : Int} : uz M a j v a = updI (M a) j v := by
  funext k
  rw [uz_a]
  rfl
theorem chn_range {nx : Int → Int} : ∀ {l : List Int} {s : Int}, chn nx s l → ∀ n ∈ l, 0 ≤ n ∧ n < 520
  | [], _, _, n, hn => by cases hn
  | m :: r, s, h, n, hn => by
    rcases List.mem_cons.mp hn with rfl | hn
    · exact ⟨h.2.1, h.2.2.1⟩
    · exact chn_range h.2.2.2 n hn
theorem chn_congr {nx nx' : Int → Int} : ∀ {l : List Int} {s : Int}, (∀ n ∈ l, nx' n = nx n) → chn nx s l → chn nx' s l
  | [], _, _, h => h
  | m :: r, s, e, h => ⟨h.1, h.2.1, h.2.2.1, by
      rw [e m List.mem_cons_self]
      exact chn_congr (fun n hn => e n (List.mem_cons_of_mem _ hn)) h.2.2.2⟩
theorem chn_push {nx : Int → Int} {l : List Int} {s n : Int} (h : chn nx s l) (h0 : 0 ≤ n) (h1 : n < 520) (hn : n ∉ l) : chn (updI nx n s) n (n :: l) :=
  ⟨rfl, h0, h1, by
    rw [updI_s]
    exact chn_congr (fun m hm => updI_n (fun e => hn (e ▸ hm))) h⟩
theorem chn_del {nx : Int → Int} {k n : Int} {r : List Int} : ∀ {pre : List Int} {s : Int}, chn nx s (pre ++ k :: n :: r) → (pre ++ k :: n :: r).Nodup → chn (updI nx k (nx n)) s (pre ++ k :: r)
  | [], s, h, hd => by
    obtain ⟨h1, h2, h3, h4⟩ := h
    obtain ⟨h5, -, -, h6⟩ := h4
    have hk : k ∉ r := fun e => (List.nodup_cons.mp hd).1 (List.mem_cons_of_mem _ e)
    refine ⟨h1, h2, h3, ?_⟩
    rw [updI_s]
    exact chn_congr (fun m hm => updI_n (fun e => hk (e ▸ hm))) h6
  | m :: pre, s, h, hd => by
    obtain ⟨h1, h2, h3, h4⟩ := h
    have hd' := List.nodup_cons.mp hd
    have hmk : m ≠ k := fun e => hd'.1 (by rw [e]; exact List.mem_append_right _ List.mem_cons_self)
    refine ⟨h1, h2, h3, ?_⟩
    rw [updI_n hmk]
    exact chn_del h4 hd'.2
/-- the next of a chain's node is a node or none -/
theorem chn_next {nx : Int → Int} : ∀ {l : List Int} {s : Int}, chn nx s l → ∀ n ∈ l, nx n < 520
  | [], _, _, n, hn => by cases hn
  | m :: r, s, h, n, hn => by
    rcases List.mem_cons.mp hn with rfl | hn
    · cases r with
      | nil => have : nx n < 0 := h.2.2.2; omega
      | cons q r' => have q1 := h.2.2.2.1; have q2 := h.2.2.2.2.2.1; omega
    · exact chn_next h.2.2.2 n hn
theorem hr_lt {f : Int → Int} : ∀ {n : Nat}, hr f n < n → ∃ k : Int, 0 ≤ k ∧ k < n ∧ f k = 0
  | 0, h => by simp [hr] at h
  | n + 1, h => by
    by_cases e : f n = 0
    · exact ⟨n, by omega, by omega, e⟩
    · unfold hr at h
      rw [if_neg e] at h
      obtain ⟨k, a, b, c⟩ := hr_lt (n := n) (f := f) (by omega)
      exact ⟨k, a, by omega, c⟩
theorem hr_congr {f g : Int → Int} : ∀ {n : Nat}, (∀ k : Int, 0 ≤ k → k < n → (f k = 0 ↔ g k = 0)) → hr f n = hr g n
  | 0, _ => rfl
  | n + 1, h => by
    unfold hr
    rw [hr_congr (n := n) (fun k a b => h k a (by omega))]
    have := h n (by omega) (by omega)
    by_cases q : f n = 0
    · rw [if_pos q, if_pos (this.mp q)]
    · rw [if_neg q, if_neg (fun e => q (this.mpr e))]
theorem hr_inc {f g : Int → Int} {v : Int} : ∀ {n : Nat}, 0 ≤ v → v < n → f v = 0 → ¬ g v = 0 → (∀ k : Int, k ≠ v → (g k = 0 ↔ f k = 0)) → hr g n = hr f n + 1
  | 0, h0, h1, _, _, _ => by omega
  | n + 1, h0, h1, h2, h3, h4 => by
    unfold hr
    by_cases e : v = n
    · subst e
      rw [if_pos h2, if_neg h3, hr_congr (f := g) (g := f) (fun k _ b => h4 k (by omega))]
      omega
    · rw [hr_inc (n := n) h0 (by omega) h2 h3 h4]
      have := h4 n (by omega)
      by_cases q : f n = 0
      · rw [if_pos q, if_pos (this.mpr q)]; try omega
      · rw [if_neg q, if_neg (fun e => q (this.mp e))]; try omega
noncomputable def ind (p : Prop) : Int := @ite Int p (Classical.propDecidable p) 1 0
theorem ind_t {p : Prop} (h : p) : ind p = 1 := by unfold ind; exact if_pos h
theorem ind_f {p : Prop} (h : ¬ p) : ind p = 0 := by unfold ind; exact if_neg h
theorem ind_congr {p q : Prop} (h : p ↔ q) : ind p = ind q := by rw [propext h]
theorem ind_in (p : Prop) : 0 ≤ ind p ∧ ind p ≤ 1 := by
  by_cases h : p
  · rw [ind_t h]; decide
  · rw [ind_f h]; decide
/-- node n is among f's nodes, from lo on -/
def inS (M : zM) (f lo n : Int) : Prop := ∃ j : Int, lo ≤ j ∧ j < M 45 f ∧ M 46 (255 * f + j) = n
/-- how many functions hold n -/
noncomputable def cfn (M : zM) (lo : Int → Int) (n : Int) : Nat → Int
  | 0 => 0
  | f + 1 => cfn M lo n f + ind (¬ M 43 (f : Int) = 0 ∧ inS M f (lo f) n)
theorem cfn_in (M : zM) (lo : Int → Int) (n : Int) : ∀ N : Nat, 0 ≤ cfn M lo n N ∧ cfn M lo n N ≤ N
  | 0 => by simp [cfn]
  | N + 1 => by
    have h := cfn_in M lo n N
    have := ind_in (¬ M 43 (N : Int) = 0 ∧ inS M N (lo N) n)
    unfold cfn
    omega
theorem cfn_congr {M M' : zM} {lo lo' : Int → Int} {n : Int} : ∀ {N : Nat}, (∀ f : Int, 0 ≤ f → f < N → ((¬ M 43 f = 0 ∧ inS M f (lo f) n) ↔ (¬ M' 43 f = 0 ∧ inS M' f (lo' f) n))) → cfn M lo n N = cfn M' lo' n N
  | 0, _ => rfl
  | N + 1, h => by
    unfold cfn
    rw [cfn_congr (N := N) (fun f a b => h f a (by omega)), ind_congr (h N (by omega) (by omega))]
/-- one function more holds n -/
theorem cfn_inc {M M' : zM} {lo lo' : Int → Int} {n g : Int} : ∀ {N : Nat}, 0 ≤ g → g < N → ¬ (¬ M 43 g = 0 ∧ inS M g (lo g) n) → (¬ M' 43 g = 0 ∧ inS M' g (lo' g) n) → (∀ f : Int, 0 ≤ f → f < N → f ≠ g → ((¬ M 43 f = 0 ∧ inS M f (lo f) n) ↔ (¬ M' 43 f = 0 ∧ inS M' f (lo' f) n))) → cfn M' lo' n N = cfn M lo n N + 1
  | 0, h0, h1, _, _, _ => by omega
  | N + 1, h0, h1, h2, h3, h4 => by
    unfold cfn
    by_cases e : g = N
    · subst e
      rw [ind_f h2, ind_t h3, cfn_congr (M := M) (M' := M') (lo := lo) (lo' := lo') (fun f a b => h4 f a (by omega) (by omega))]
      omega
    · rw [cfn_inc (N := N) h0 (by omega) h2 h3 (fun f a b c => h4 f a (by omega) c), ind_congr (h4 N (by omega) (by omega) (fun q => e q.symm))]
      omega
