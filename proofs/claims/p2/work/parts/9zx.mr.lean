/-! THE REFERENCE, 26: put; a new one stands for nothing read. -/
section MR
variable {E : Nat → Value} {d m : Nat} {h : gm_H} {t t' : gr_t} {K : gs_K} {s : gs_S} {lf : Int32}
theorem gr_C.of2 {K' : gs_K} (Cl : gr_C t K) (h1 : ∀ o i, 2 ≤ o → t'.1 o i = t.1 o i) (h2 : t'.2 = t.2) (hk : gs_cls K' = gs_cls K) : gr_C t' K' := by
  intro c hc
  have q := Cl c hc
  rw [h1 _ _ (by decide), h1 _ _ (by decide), h1 _ _ (by decide), h1 _ _ (by decide), hk]
  cases e : gs_cls K c with
  | none => rw [e] at q; exact q
  | some C =>
    rw [e] at q
    obtain ⟨q1, q2, q3, q4, q5, q6, q7, q8, q9⟩ := q
    refine ⟨q1, q2, by rw [h1 _ _ (by decide)]; exact q3, by rw [h2]; exact q4, q5, q6, q7, q8, fun j p hp => ?_⟩
    rw [h1 _ _ (by decide), h1 _ _ (by decide)]
    exact q9 j p hp
theorem gr_X.put1 {u : UInt8} (X : gr_X t K s lf) (hn : gs_n K < 700) : gr_X (gr_put1 t (gs_n K) u) (gs_put1 K u) s lf := by
  obtain ⟨L, B, C, W, -⟩ := id X
  have z : ∀ o i, 2 ≤ o → (gr_put1 t (gs_n K) u).1 o i = t.1 o i := fun o i ho => by
    unfold gr_put1
    rw [gr_ui_no (by omega), gr_ui_no (by omega)]
  have z0 : ∀ i, i ≠ 5 → (gr_put1 t (gs_n K) u).1 0 i = t.1 0 i := fun i hi => by
    unfold gr_put1
    rw [gr_ui_ni hi, gr_ui_no (by decide)]
  refine X.ofK ⟨by rw [z0 _ (by decide)]; exact L.1, by rw [z0 _ (by decide)]; exact L.2.1, by rw [z0 _ (by decide)]; exact L.2.2.1, by rw [z0 _ (by decide)]; exact L.2.2.2⟩ (B.put1 hn) (C.of2 z rfl rfl) W ⟨Nat.le_succ _, fun i hi => ?_, fun _ y => y⟩ ⟨fun _ _ _ => rfl, fun o i ho => z o i (by omega)⟩ (fun i hi => z0 i (by omega)) (by rw [z0 _ (by decide)]; exact X.2.2.2.2.2.1)
  show (if i = gs_n K then u else gs_by K i) = gs_by K i
  rw [if_neg (by omega)]
theorem gr_X.puts {v : Int64} : ∀ (k : Nat) (t : gr_t) (K : gs_K), gr_X t K s lf → gs_n K + k ≤ 700 → gr_X (gr_puts t (gs_n K) v k) (gs_puts K v k) s lf
  | 0, _, _, X, _ => X
  | k + 1, t, K, X, hn => by
    have q := gr_X.puts (v := v) k _ _ (X.put1 (u := gs_pb v k) (by omega)) (by show gs_n K + 1 + k ≤ 700; omega)
    exact q
theorem M_put {v : Int64} {c : Int32} (X : gr_X t K s lf) : gm_Ca E d 9 [.ref m, .long v, .int c] (gr_H h m t) (fun r h' => r = .inl (some (.int (gs_putr K v c).1)) ∧ ∃ t', h' = gr_H h m t' ∧ gr_X t' (gs_putr K v c).2 s lf) := by
  refine gm_Ca.mono (m_put X.2.1) (fun r h' q => ?_)
  refine ⟨q.1, _, q.2, ?_⟩
  unfold gs_putr
  by_cases b : c < 1 ∨ 8 < c ∨ 700 < gs_n K + c.toNatClampNeg
  · rw [if_pos b, if_pos b]; exact X
  · rw [if_neg b, if_neg b]
    exact gr_X.puts _ t K X (by
      rcases Nat.lt_or_ge 700 (gs_n K + c.toNatClampNeg) with z | z
      · exact absurd (Or.inr (Or.inr z)) b
      · exact z)
/-- as the reference reads: a rest without a byte begins a read; null stands at first in an array of references -/
def gs_ref1 (K : gs_K) : gs_K := (K.1, K.2.1, K.2.2.1, K.2.2.2.1, true, -2)
theorem gr_X.new {p q r u : Int32} : gr_X (gr_t0 p q r u) (gs_ref1 (gs_K0 p q r u)) (0, [], [], 0) 0 := by
  have e : ∀ (o i : Nat), o ≠ 2 → (gr_t0 p q r u).1 o i = (gr_ui (gr_ui (gr_ui (gr_ui (fun _ _ => 0, fun _ _ => 0) 0 0 (gs_cl p 1 8)) 0 1 (gs_cl q 1 60)) 0 2 (gs_cl r 0 20)) 0 3 (gs_cl u 4 700)).1 o i := fun o i ho => by
    unfold gr_t0
    simp only [gr_nok]
    rw [gr_ui_no ho, gr_ui_no ho, gr_ui_no ho, gr_ui_no ho, gr_ui_no ho, gr_ui_no ho]
  have e0 : ∀ (o i : Nat), o ≠ 2 → (o ≠ 0 ∨ 4 ≤ i) → (gr_t0 p q r u).1 o i = 0 := fun o i ho hi => by
    rw [e o i ho]
    rcases hi with z | z
    · rw [gr_ui_no z, gr_ui_no z, gr_ui_no z, gr_ui_no z]
    · rw [gr_ui_ni (by omega), gr_ui_ni (by omega), gr_ui_ni (by omega), gr_ui_ni (by omega)]
  have z0 : ∀ i, 4 ≤ i → (gr_t0 p q r u).1 0 i = 0 := fun i hi => e0 0 i (by decide) (Or.inr hi)
  refine ⟨⟨?_, ?_, ?_, ?_⟩, ⟨z0 5 (by decide), Nat.zero_le _, fun i hi => absurd hi (Nat.not_lt_zero i)⟩, ?_, ⟨fun c C hC => (by cases hC), fun c C hC => (by cases hC)⟩, ⟨z0 6 (by decide), Nat.zero_le _⟩, z0 7 (by decide), ⟨0, z0 25 (by decide), Nat.zero_le _, z0 23 (by decide), Nat.zero_le _, fun i o ho => by simp [gs_hp] at ho⟩, ⟨z0 28 (by decide), Nat.zero_le _, Nat.zero_le _, fun i q hi => absurd hi (Nat.not_lt_zero i)⟩, ⟨0, 0, z0 25 (by decide), Nat.zero_le _, z0 39 (by decide), Nat.zero_le _, gr_Z.nil⟩, Nat.zero_le _, Nat.zero_le _⟩
  · rw [e _ _ (by decide), gr_ui_ni (by decide), gr_ui_ni (by decide), gr_ui_ni (by decide), gr_ui_eq]; rfl
  · rw [e _ _ (by decide), gr_ui_ni (by decide), gr_ui_ni (by decide), gr_ui_eq]; rfl
  · rw [e _ _ (by decide), gr_ui_ni (by decide), gr_ui_eq]; rfl
  · rw [e _ _ (by decide), gr_ui_eq]; rfl
  · intro c hc
    show (gr_t0 p q r u).1 2 c = -1 ∧ (gr_t0 p q r u).1 5 c = 0 ∧ (gr_t0 p q r u).1 8 c = 0 ∧ (gr_t0 p q r u).1 9 c = 0
    refine ⟨?_, e0 5 c (by decide) (Or.inl (by decide)), e0 8 c (by decide) (Or.inl (by decide)), e0 9 c (by decide) (Or.inl (by decide))⟩
    unfold gr_t0
    simp only [gr_nok]
    rcases (by omega : c = 0 ∨ c = 1 ∨ c = 2 ∨ c = 3 ∨ c = 4 ∨ c = 5) with rfl | rfl | rfl | rfl | rfl | rfl
    · rw [gr_ui_ni (by decide), gr_ui_ni (by decide), gr_ui_ni (by decide), gr_ui_ni (by decide), gr_ui_ni (by decide), gr_ui_eq]
    · rw [gr_ui_ni (by decide), gr_ui_ni (by decide), gr_ui_ni (by decide), gr_ui_ni (by decide), gr_ui_eq]
    · rw [gr_ui_ni (by decide), gr_ui_ni (by decide), gr_ui_ni (by decide), gr_ui_eq]
    · rw [gr_ui_ni (by decide), gr_ui_ni (by decide), gr_ui_eq]
    · rw [gr_ui_ni (by decide), gr_ui_eq]
    · rw [gr_ui_eq]
end MR
