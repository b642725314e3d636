/-! THE LAW, 2: both sides' states; a call of either side. -/
/-- what a reader stands for: what a read leaves alone, place and heap and handles, the lasting fault -/
abbrev gp_s : Type := gs_K × gs_S × Int32
def gp_define (σ : gp_s) (n k u : Int32) (id : Int64) : Int32 × gp_s := if gs_defok σ.1 n k u = true then (0, gs_def1 σ.1 n.toNatClampNeg (k, gs_defsup u, id, [], false, 0), σ.2) else (-1, σ)
def gp_field (σ : gp_s) (n nm ty : Int32) : Int32 × gp_s := ((gs_fld σ.1 σ.2.1 n nm ty).1, (gs_fld σ.1 σ.2.1 n nm ty).2, σ.2)
def gp_constant (σ : gp_s) (n nm on : Int32) : Int32 × gp_s := ((gs_cst σ.1 n nm on).1, (gs_cst σ.1 n nm on).2, σ.2)
def gp_put (σ : gp_s) (v : Int64) (c : Int32) : Int32 × gp_s := ((gs_putr σ.1 v c).1, (gs_putr σ.1 v c).2, σ.2)
def gp_begin (σ : gp_s) : Int32 × gp_s := ((gs_begin σ.1).1, σ.1, ((gs_begin σ.1).2.1, [], [], 0), (gs_begin σ.1).2.2)
def gp_read (σ : gp_s) : Int32 × gp_s := ((gs_read σ.1 σ.2.1 σ.2.2).1, σ.1, (gs_read σ.1 σ.2.1 σ.2.2).2)
def gp_pass (σ : gp_s) : Int32 × gp_s := ((gs_pass σ.1 σ.2.1 σ.2.2).1, σ.1, (gs_pass σ.1 σ.2.1 σ.2.2).2)
def gp_X (E : Nat → Value) (H : gm_H) (x : Nat) (σ : gp_s) : Prop := ∃ ca, gx_X E H x ca σ.1 σ.2.1 σ.2.2
def gp_M (H : gm_H) (m : Nat) (τ : gp_s) : Prop := ∃ t, gr_at H m t ∧ gr_X t τ.1 τ.2.1 τ.2.2
def gl_I (E : Nat → Value) (b : Nat) (xs : List Int32) (x m C S : Nat) (σ τ : gp_s) (H : gm_H) : Prop := (gm_Wf H ∧ gm_rd H b = some (300, xs.map .int) ∧ H.1 ≤ C ∧ H.2.1 ≤ S) ∧ gp_X E H x σ ∧ gp_M H m τ
/-- a call ends with a value, and so -/
def gl_p (v : Value) (P : gm_H → Prop) : gm_R → gm_H → Prop := fun r h' => r = .inl (some v) ∧ P h'
section LB
variable {E : Nat → Value} {b x m C S d : Nat} {xs : List Int32} {H : gm_H} {σ σ' τ τ' : gp_s} {v : Value}
theorem gl_kn {P : gm_H → Prop} {W : Option Value → gm_H → Prop} (k : ∀ h9, P h9 → W (some v) h9) : ∀ (v9 : Option Value) (h9 : gm_H), gl_p v P (.inl v9) h9 → W v9 h9 := fun v9 h9 q => by
  obtain ⟨e, p⟩ := q
  cases e
  exact k h9 p
theorem gl_kx {P : gm_H → Prop} {W : Nat → gm_H → Prop} : ∀ (x9 : Nat) (h9 : gm_H), gl_p v P (.inr x9) h9 → W x9 h9 := fun x9 h9 q => by cases q.1
/-- what a call of the class shows -/
def gl_cx (E : Nat → Value) (x mi d : Nat) (as : List Value) (H : gm_H) (v : Value) (σ' : gp_s) : Prop := gm_Ca E d mi as H (fun r h' => r = .inl (some v) ∧ gp_X E h' x σ' ∧ h'.1 ≤ H.1 + 710 ∧ h'.2.1 ≤ H.2.1 + 5700)
theorem gl_cx.to {mi : Nat} {as : List Value} {M : gm_M} (c : gl_cx E x mi d as H v σ') (I : gl_I E b xs x m C S σ τ H) (hM : gm_mt[mi]? = some M) (h7 : M.2.2.2.2.2.1 ≠ 7) (ho : gm_cno M.2.2.2.2.2.1 = 1) : gm_Ca E d mi as H (gl_p v (gl_I E b xs x m (C + 710) (S + 5700) σ' τ)) := by
  refine gm_Ca.mono (gm_Ca.keep hM h7 ho (by decide) I.1.1 c) (fun r h' q => ?_)
  obtain ⟨⟨q1, q2, q3, q4⟩, k⟩ := q
  obtain ⟨t, at0, X⟩ := I.2.2
  have c1 := I.1.2.2.1
  have c2 := I.1.2.2.2
  exact ⟨q1, ⟨k.2.1, k.scr (by decide) I.1.2.1, by omega, by omega⟩, q2, t, at0.kp k, X⟩
def gl_cm (E : Nat → Value) (m mi d : Nat) (as : List Value) (H : gm_H) (v : Value) (τ τ' : gp_s) : Prop := ∀ t, gr_X t τ.1 τ.2.1 τ.2.2 → gm_Ca E d mi as (gr_H H m t) (fun r h' => r = .inl (some v) ∧ ∃ t', h' = gr_H H m t' ∧ gr_X t' τ'.1 τ'.2.1 τ'.2.2)
theorem gl_cm.to {mi : Nat} {as : List Value} {M : gm_M} (c : gl_cm E m mi d as H v τ τ') (I : gl_I E b xs x m C S σ τ H) (hM : gm_mt[mi]? = some M) (h7 : M.2.2.2.2.2.1 ≠ 7) (ho : gm_cno M.2.2.2.2.2.1 = 2) : gm_Ca E d mi as H (gl_p v (gl_I E b xs x m C S σ τ')) := by
  obtain ⟨I1, ⟨ca, X1⟩, t, at0, X⟩ := I
  have c0 := c t X
  rw [show gr_H H m t = H from at0] at c0
  refine gm_Ca.mono (gm_Ca.keep hM h7 ho (by decide) I1.1 c0) (fun r h' q => ?_)
  obtain ⟨⟨q1, t', rfl, q3⟩, k⟩ := q
  exact ⟨q1, ⟨k.2.1, k.scr (by decide) I1.2.1, I1.2.2.1, I1.2.2.2⟩, ⟨ca, X1.kp k⟩, t', gr_at.self, q3⟩
theorem gl_I.kx (I : gl_I E b xs x m C S σ τ H) : gm_kd H x = 0 := by
  obtain ⟨ca, X⟩ := I.2.1
  exact X.1.1.1
theorem gl_I.km (I : gl_I E b xs x m C S σ τ H) : gm_kd H m = 5 := by
  obtain ⟨t, at0, X⟩ := I.2.2
  rw [← at0]
  exact g_k0
/-- the class's calls -/
theorem gl_xdefine {n k u : Int32} {id : Int64} (hd : 1 ≤ d) (X : gp_X E H x σ) : gl_cx E x 52 d [.ref x, .int n, .int k, .int u, .long id] H (.int (gp_define σ n k u id).1) (gp_define σ n k u id).2 := by
  obtain ⟨ca, X⟩ := X
  refine gm_Ca.mono (x_define hd X) (fun r h' q => ?_)
  unfold gx_defQ at q
  unfold gp_define
  by_cases c : gs_defok σ.1 n k u = true
  · rw [if_pos c] at q ⊢
    exact ⟨q.1, ⟨_, q.2.1⟩, by omega, by omega⟩
  · rw [if_neg c] at q ⊢
    obtain ⟨q1, rfl⟩ := q
    exact ⟨q1, ⟨_, X⟩, by omega, by omega⟩
theorem gl_xfield {n nm ty : Int32} (hd : 1 ≤ d) (X : gp_X E H x σ) : gl_cx E x 53 d [.ref x, .int n, .int nm, .int ty] H (.int (gp_field σ n nm ty).1) (gp_field σ n nm ty).2 := by
  obtain ⟨ca, X⟩ := X
  refine gm_Ca.mono (x_field hd X) (fun r h' q => ?_)
  exact ⟨q.1, ⟨_, q.2.1⟩, by omega, by omega⟩
theorem gl_xconstant {n nm on : Int32} (hd : 1 ≤ d) (hon : on = 0 ∨ on = 1) (X : gp_X E H x σ) : gl_cx E x 54 d [.ref x, .int n, .int nm, .int on] H (.int (gp_constant σ n nm on).1) (gp_constant σ n nm on).2 := by
  obtain ⟨ca, X⟩ := X
  refine gm_Ca.mono (x_constant hd hon X) (fun r h' q => ?_)
  exact ⟨q.1, ⟨_, q.2.1⟩, by omega, by omega⟩
theorem gl_xput {w : Int64} {c : Int32} (X : gp_X E H x σ) : gl_cx E x 55 d [.ref x, .long w, .int c] H (.int (gp_put σ w c).1) (gp_put σ w c).2 := by
  obtain ⟨ca, X⟩ := X
  refine gm_Ca.mono (x_put X) (fun r h' q => ?_)
  exact ⟨q.1, ⟨_, q.2.1⟩, by omega, by omega⟩
theorem gl_xbegin (hd : 1 ≤ d) (X : gp_X E H x σ) : gl_cx E x 56 d [.ref x] H (.int (gp_begin σ).1) (gp_begin σ).2 := by
  obtain ⟨ca, X⟩ := X
  refine gm_Ca.mono (x_begin hd X) (fun r h' q => ?_)
  exact ⟨q.1, ⟨_, q.2.1⟩, by omega, by omega⟩
theorem gl_xread (hd : 143 ≤ d) (hK : gs_kok σ.1) (X : gp_X E H x σ) : gl_cx E x 57 d [.ref x] H (.int (gp_read σ).1) (gp_read σ).2 := by
  obtain ⟨ca, X⟩ := X
  refine gm_Ca.mono (x_read hK hd X) (fun r h' q => ?_)
  exact ⟨q.1, ⟨_, q.2.1⟩, by omega, by omega⟩
theorem gl_xpass (hd : 4 ≤ d) (X : gp_X E H x σ) : gl_cx E x 58 d [.ref x] H (.int (gp_pass σ).1) (gp_pass σ).2 := by
  obtain ⟨ca, X⟩ := X
  refine gm_Ca.mono (x_passBlock hd X) (fun r h' q => ?_)
  exact ⟨q.1, ⟨_, q.2.1⟩, by omega, by omega⟩
theorem gl_xobject {u w : Int32} (hd : 1 ≤ d) (X : gp_X E H x σ) : gl_cx E x 59 d [.ref x, .int u, .int w] H (.int (gs_object σ.2.1 u w)) σ := by
  obtain ⟨ca, X⟩ := X
  refine gm_Ca.mono (x_object hd X.1) (fun r h' q => ?_)
  obtain ⟨q1, rfl⟩ := q
  exact ⟨q1, ⟨_, X⟩, by omega, by omega⟩
theorem gl_xvalue {u w : Int32} (hd : 1 ≤ d) (X : gp_X E H x σ) : gl_cx E x 60 d [.ref x, .int u, .int w] H (.long (gs_value σ.2.1 u w)) σ := by
  obtain ⟨ca, X⟩ := X
  refine gm_Ca.mono (x_value hd X.1) (fun r h' q => ?_)
  obtain ⟨q1, rfl⟩ := q
  exact ⟨q1, ⟨_, X⟩, by omega, by omega⟩
theorem gl_xcount {w : Int32} (hd : 1 ≤ d) (X : gp_X E H x σ) : gl_cx E x 61 d [.ref x, .int w] H (.int (gs_count σ.1 σ.2.1 σ.2.2 w)) σ := by
  obtain ⟨ca, X⟩ := X
  refine gm_Ca.mono (x_count hd X) (fun r h' q => ?_)
  obtain ⟨q1, rfl⟩ := q
  exact ⟨q1, ⟨_, X⟩, by omega, by omega⟩
/-- the reference's -/
theorem gl_mdefine {n k u : Int32} {id : Int64} (hd : 2 ≤ d) : gl_cm E m 6 d [.ref m, .int n, .int k, .int u, .long id] H (.int (gp_define τ n k u id).1) τ (gp_define τ n k u id).2 := by
  intro t X
  refine gm_Ca.mono (M_define hd X) (fun r h' q => ?_)
  unfold gp_define
  by_cases c : gs_defok τ.1 n k u = true
  · rw [if_pos c] at q ⊢
    exact q
  · rw [if_neg c] at q ⊢
    exact ⟨q.1, t, q.2, X⟩
theorem gl_mfield {n nm ty : Int32} (hd : 2 ≤ d) : gl_cm E m 7 d [.ref m, .int n, .int nm, .int ty] H (.int (gp_field τ n nm ty).1) τ (gp_field τ n nm ty).2 := fun t X => M_field hd X
theorem gl_mconstant {n nm on : Int32} (hd : 2 ≤ d) (hon : on = 0 ∨ on = 1) : gl_cm E m 8 d [.ref m, .int n, .int nm, .int on] H (.int (gp_constant τ n nm on).1) τ (gp_constant τ n nm on).2 := fun t X => M_constant hd X hon
theorem gl_mput {w : Int64} {c : Int32} : gl_cm E m 9 d [.ref m, .long w, .int c] H (.int (gp_put τ w c).1) τ (gp_put τ w c).2 := fun t X => M_put X
theorem gl_mbegin (hd : 3 ≤ d) : gl_cm E m 14 d [.ref m] H (.int (gp_begin τ).1) τ (gp_begin τ).2 := fun t X => M_begin hd X
theorem gl_mpass (hd : 4 ≤ d) : gl_cm E m 47 d [.ref m] H (.int (gp_pass τ).1) τ (gp_pass τ).2 := fun t X => M_passBlock hd X
theorem gl_mobject {u w : Int32} (hd : 1 ≤ d) : gl_cm E m 48 d [.ref m, .int u, .int w] H (.int (gs_object τ.2.1 u w)) τ τ := fun t X => gm_Ca.mono (M_object hd X) (fun r h' q => ⟨q.1, t, q.2, X⟩)
theorem gl_mvalue {u w : Int32} (hd : 1 ≤ d) : gl_cm E m 49 d [.ref m, .int u, .int w] H (.long (gs_value τ.2.1 u w)) τ τ := fun t X => gm_Ca.mono (M_value hd X) (fun r h' q => ⟨q.1, t, q.2, X⟩)
theorem gl_mcount {w : Int32} : gl_cm E m 50 d [.ref m, .int w] H (.int (gs_count τ.1 τ.2.1 τ.2.2 w)) τ τ := fun t X => gm_Ca.mono (M_count X) (fun r h' q => ⟨q.1, t, q.2, X⟩)
/-- a read of the reference, whatever is known of it -/
def gl_RD (τ : gp_s) (v : Int32) (τ' : gp_s) : Prop := ∀ (E : Nat → Value) (d m : Nat) (H : gm_H), 100 ≤ d → gl_cm E m 46 d [.ref m] H (.int v) τ τ'
/-- one call, on both sides: which answers are compared (c), what holds between the two with so many calls to come -/
def gl_St (c : Nat → Bool) (R : Nat → gp_s → gp_s → Prop) : Prop := (∀ k σ τ n q u id, R (k + 1) σ τ → (c 0 = true → (gp_define σ n q u id).1 = (gp_define τ n q u id).1) ∧ R k (gp_define σ n q u id).2 (gp_define τ n q u id).2) ∧ (∀ k σ τ n q u, R (k + 1) σ τ → (c 1 = true → (gp_field σ n q u).1 = (gp_field τ n q u).1) ∧ R k (gp_field σ n q u).2 (gp_field τ n q u).2) ∧ (∀ k σ τ n q u, R (k + 1) σ τ → (c 2 = true → (gp_constant σ n q u).1 = (gp_constant τ n q u).1) ∧ R k (gp_constant σ n q u).2 (gp_constant τ n q u).2) ∧ (∀ k σ τ w q, R (k + 1) σ τ → (c 3 = true → (gp_put σ w q).1 = (gp_put τ w q).1) ∧ R k (gp_put σ w q).2 (gp_put τ w q).2) ∧ (∀ k σ τ, R (k + 1) σ τ → (c 4 = true → (gp_begin σ).1 = (gp_begin τ).1) ∧ R k (gp_begin σ).2 (gp_begin τ).2) ∧ (∀ k σ τ, R (k + 1) σ τ → gs_kok σ.1 ∧ ∃ v τ', gl_RD τ v τ' ∧ (c 5 = true → (gp_read σ).1 = v) ∧ R k (gp_read σ).2 τ') ∧ (∀ k σ τ, R (k + 1) σ τ → (c 6 = true → (gp_pass σ).1 = (gp_pass τ).1) ∧ R k (gp_pass σ).2 (gp_pass τ).2) ∧ (∀ k σ τ u w, R (k + 1) σ τ → c 7 = true → gs_object σ.2.1 u w = gs_object τ.2.1 u w) ∧ (∀ k σ τ u w, R (k + 1) σ τ → c 8 = true → gs_value σ.2.1 u w = gs_value τ.2.1 u w) ∧ (∀ k σ τ w, R (k + 1) σ τ → c 9 = true → gs_count σ.1 σ.2.1 σ.2.2 w = gs_count τ.1 τ.2.1 τ.2.2 w) ∧ (∀ k σ τ, R (k + 1) σ τ → R k σ τ)
theorem gl_St.define {c : Nat → Bool} {R : Nat → gp_s → gp_s → Prop} (h : gl_St c R) : ∀ k σ τ n q u id, R (k + 1) σ τ → (c 0 = true → (gp_define σ n q u id).1 = (gp_define τ n q u id).1) ∧ R k (gp_define σ n q u id).2 (gp_define τ n q u id).2 := h.1
theorem gl_St.field {c : Nat → Bool} {R : Nat → gp_s → gp_s → Prop} (h : gl_St c R) : ∀ k σ τ n q u, R (k + 1) σ τ → (c 1 = true → (gp_field σ n q u).1 = (gp_field τ n q u).1) ∧ R k (gp_field σ n q u).2 (gp_field τ n q u).2 := h.2.1
theorem gl_St.constant {c : Nat → Bool} {R : Nat → gp_s → gp_s → Prop} (h : gl_St c R) : ∀ k σ τ n q u, R (k + 1) σ τ → (c 2 = true → (gp_constant σ n q u).1 = (gp_constant τ n q u).1) ∧ R k (gp_constant σ n q u).2 (gp_constant τ n q u).2 := h.2.2.1
theorem gl_St.put {c : Nat → Bool} {R : Nat → gp_s → gp_s → Prop} (h : gl_St c R) : ∀ k σ τ w q, R (k + 1) σ τ → (c 3 = true → (gp_put σ w q).1 = (gp_put τ w q).1) ∧ R k (gp_put σ w q).2 (gp_put τ w q).2 := h.2.2.2.1
theorem gl_St.begin {c : Nat → Bool} {R : Nat → gp_s → gp_s → Prop} (h : gl_St c R) : ∀ k σ τ, R (k + 1) σ τ → (c 4 = true → (gp_begin σ).1 = (gp_begin τ).1) ∧ R k (gp_begin σ).2 (gp_begin τ).2 := h.2.2.2.2.1
theorem gl_St.read {c : Nat → Bool} {R : Nat → gp_s → gp_s → Prop} (h : gl_St c R) : ∀ k σ τ, R (k + 1) σ τ → gs_kok σ.1 ∧ ∃ v τ', gl_RD τ v τ' ∧ (c 5 = true → (gp_read σ).1 = v) ∧ R k (gp_read σ).2 τ' := h.2.2.2.2.2.1
theorem gl_St.pass {c : Nat → Bool} {R : Nat → gp_s → gp_s → Prop} (h : gl_St c R) : ∀ k σ τ, R (k + 1) σ τ → (c 6 = true → (gp_pass σ).1 = (gp_pass τ).1) ∧ R k (gp_pass σ).2 (gp_pass τ).2 := h.2.2.2.2.2.2.1
theorem gl_St.object {c : Nat → Bool} {R : Nat → gp_s → gp_s → Prop} (h : gl_St c R) : ∀ k σ τ u w, R (k + 1) σ τ → c 7 = true → gs_object σ.2.1 u w = gs_object τ.2.1 u w := h.2.2.2.2.2.2.2.1
theorem gl_St.value {c : Nat → Bool} {R : Nat → gp_s → gp_s → Prop} (h : gl_St c R) : ∀ k σ τ u w, R (k + 1) σ τ → c 8 = true → gs_value σ.2.1 u w = gs_value τ.2.1 u w := h.2.2.2.2.2.2.2.2.1
theorem gl_St.count {c : Nat → Bool} {R : Nat → gp_s → gp_s → Prop} (h : gl_St c R) : ∀ k σ τ w, R (k + 1) σ τ → c 9 = true → gs_count σ.1 σ.2.1 σ.2.2 w = gs_count τ.1 τ.2.1 τ.2.2 w := h.2.2.2.2.2.2.2.2.2.1
theorem gl_St.less {c : Nat → Bool} {R : Nat → gp_s → gp_s → Prop} (h : gl_St c R) : ∀ k σ τ, R (k + 1) σ τ → R k σ τ := h.2.2.2.2.2.2.2.2.2.2
end LB
