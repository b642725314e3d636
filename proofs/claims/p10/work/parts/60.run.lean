/-! THE PURE SIDE, 1: runs without their fuel. -/
theorem gm_run_mono {E : Nat → Value} : ∀ (n d mi pc : Nat) (lv st : List Value) (h : gm_H) (r : gm_R × gm_H), gm_run E n d mi pc lv st h = some r → gm_run E (n + 1) d mi pc lv st h = some r := by
  intro n
  induction n with
  | zero => intro d mi pc lv st h r hr; cases hr
  | succ n ih =>
    intro d mi pc lv st h r hr
    unfold gm_run at hr ⊢
    cases hn : gm_next E mi pc lv st h with
    | none => rw [hn] at hr; cases hr
    | some S =>
      rw [hn] at hr
      rcases S with ⟨pc1, lv1, st1, h1⟩ | ⟨sd, mi1, as, rest⟩ | v | ⟨a, h1⟩
      · exact ih _ _ _ _ _ _ _ hr
      · dsimp only at hr ⊢
        cases d with
        | zero => cases hr
        | succ d1 =>
          cases e1 : gm_mt[mi1]? with
          | none => rw [e1] at hr; cases hr
          | some M1 =>
            cases e2 : gm_mt[mi]? with
            | none => rw [e1, e2] at hr; cases hr
            | some M2 =>
              rw [e1, e2] at hr
              dsimp only at hr ⊢
              cases hc : gm_run E n d1 mi1 0 (gm_en as M1.2.2.1) [] h with
              | none => rw [hc] at hr; cases hr
              | some q =>
                obtain ⟨r1, h1⟩ := q
                rw [hc] at hr
                rw [ih _ _ _ _ _ _ _ hc]
                cases r1 with
                | inl v => exact ih _ _ _ _ _ _ _ hr
                | inr a1 =>
                  dsimp only at hr ⊢
                  cases ht : gm_hd M2.2.2.2.2.1 pc with
                  | none => rw [ht] at hr; exact hr
                  | some t => rw [ht] at hr; exact ih _ _ _ _ _ _ _ hr
      · exact hr
      · exact hr
theorem gm_run_le_fuel {E : Nat → Value} {n m d mi pc : Nat} {lv st : List Value} {h : gm_H} {r : gm_R × gm_H} (hr : gm_run E n d mi pc lv st h = some r) (hnm : n ≤ m) : gm_run E m d mi pc lv st h = some r := by
  induction hnm with
  | refl => exact hr
  | step _ ih => exact gm_run_mono _ _ _ _ _ _ _ _ ih
/-- from here the method ends so -/
def gm_Go (E : Nat → Value) (d mi pc : Nat) (lv st : List Value) (h : gm_H) (r : gm_R × gm_H) : Prop := ∃ n, gm_run E n d mi pc lv st h = some r
/-- the call ends so -/
def gm_Do (E : Nat → Value) (d mi : Nat) (as : List Value) (h : gm_H) (r : gm_R × gm_H) : Prop := gm_Go E d mi 0 (gm_en as (gm_mL mi)) [] h r
section GO
variable {E : Nat → Value} {d mi pc : Nat} {lv st : List Value} {h : gm_H} {r : gm_R × gm_H}
theorem gm_go_on {pc' : Nat} {lv' st' : List Value} {h' : gm_H} (hn : gm_next E mi pc lv st h = some (.inl (pc', lv', st', h'))) : gm_Go E d mi pc lv st h r ↔ gm_Go E d mi pc' lv' st' h' r := by
  constructor
  · rintro ⟨n, hr⟩
    cases n with
    | zero => cases hr
    | succ n =>
      unfold gm_run at hr
      rw [hn] at hr
      exact ⟨n, hr⟩
  · rintro ⟨n, hr⟩
    refine ⟨n + 1, ?_⟩
    unfold gm_run
    rw [hn]
    exact hr
theorem gm_go_ret {v : Option Value} (hn : gm_next E mi pc lv st h = some (.inr (.inr (.inl v)))) : gm_Go E d mi pc lv st h r ↔ r = (.inl v, h) := by
  constructor
  · rintro ⟨n, hr⟩
    cases n with
    | zero => cases hr
    | succ n =>
      unfold gm_run at hr
      rw [hn] at hr
      exact (Option.some.inj hr).symm
  · rintro rfl
    refine ⟨1, ?_⟩
    unfold gm_run
    rw [hn]
theorem gm_go_thr {a : Nat} {h' : gm_H} (hn : gm_next E mi pc lv st h = some (.inr (.inr (.inr (a, h'))))) : gm_Go E d mi pc lv st h r ↔ r = (.inr a, h') := by
  constructor
  · rintro ⟨n, hr⟩
    cases n with
    | zero => cases hr
    | succ n =>
      unfold gm_run at hr
      rw [hn] at hr
      exact (Option.some.inj hr).symm
  · rintro rfl
    refine ⟨1, ?_⟩
    unfold gm_run
    rw [hn]
/-- a call that comes back with a value -/
theorem gm_go_call {sd mi' : Nat} {as rest : List Value} {M M' : gm_M} {v : Option Value} {h1 : gm_H} (hn : gm_next E mi pc lv st h = some (.inr (.inl (sd, mi', as, rest)))) (hM : gm_mt[mi]? = some M) (hM' : gm_mt[mi']? = some M')
    (hc : gm_Do E d mi' as h (.inl v, h1)) (k : gm_Go E (d + 1) mi (pc + 3) lv (v.toList ++ rest) h1 r) : gm_Go E (d + 1) mi pc lv st h r := by
  obtain ⟨n1, hc⟩ := hc
  obtain ⟨n2, k⟩ := k
  have e : gm_mL mi' = M'.2.2.1 := by unfold gm_mL; rw [hM']
  rw [e] at hc
  refine ⟨max n1 n2 + 1, ?_⟩
  unfold gm_run
  rw [hn]
  dsimp only
  rw [hM, hM']
  dsimp only
  rw [gm_run_le_fuel hc (Nat.le_max_left _ _)]
  exact gm_run_le_fuel k (Nat.le_max_right _ _)
/-- a call that throws, not caught here -/
theorem gm_go_callX {sd mi' : Nat} {as rest : List Value} {M M' : gm_M} {a : Nat} {h1 : gm_H} (hn : gm_next E mi pc lv st h = some (.inr (.inl (sd, mi', as, rest)))) (hM : gm_mt[mi]? = some M) (hM' : gm_mt[mi']? = some M')
    (hc : gm_Do E d mi' as h (.inr a, h1)) (hh : gm_hd M.2.2.2.2.1 pc = none) : gm_Go E (d + 1) mi pc lv st h (.inr a, h1) := by
  obtain ⟨n1, hc⟩ := hc
  have e : gm_mL mi' = M'.2.2.1 := by unfold gm_mL; rw [hM']
  rw [e] at hc
  refine ⟨n1 + 1, ?_⟩
  unfold gm_run
  rw [hn]
  dsimp only
  rw [hM, hM']
  dsimp only
  rw [hc]
  dsimp only
  rw [hh]
/-- .. caught here -/
theorem gm_go_callC {sd mi' t : Nat} {as rest : List Value} {M M' : gm_M} {a : Nat} {h1 : gm_H} (hn : gm_next E mi pc lv st h = some (.inr (.inl (sd, mi', as, rest)))) (hM : gm_mt[mi]? = some M) (hM' : gm_mt[mi']? = some M')
    (hc : gm_Do E d mi' as h (.inr a, h1)) (hh : gm_hd M.2.2.2.2.1 pc = some t) (k : gm_Go E (d + 1) mi t lv [.ref a] h1 r) : gm_Go E (d + 1) mi pc lv st h r := by
  obtain ⟨n1, hc⟩ := hc
  obtain ⟨n2, k⟩ := k
  have e : gm_mL mi' = M'.2.2.1 := by unfold gm_mL; rw [hM']
  rw [e] at hc
  refine ⟨max n1 n2 + 1, ?_⟩
  unfold gm_run
  rw [hn]
  dsimp only
  rw [hM, hM']
  dsimp only
  rw [gm_run_le_fuel hc (Nat.le_max_left _ _)]
  dsimp only
  rw [hh]
  exact gm_run_le_fuel k (Nat.le_max_right _ _)
end GO
