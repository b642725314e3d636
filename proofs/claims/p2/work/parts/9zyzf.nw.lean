/-! THE REFERENCE, 59: a read at every depth. -/
section NW
variable {X N : Nat → Prop} {E : Nat → Value} {d m f n p dp c us nd k e o r j cnt hb ub nb B pp at_ ca us0 nd0 : Nat} {h : gm_H} {t t' t0 t1 : gr_t} {K : gs_K} {s s' s'' s0 s1 : gs_S} {rc : gs_M Int32} {P : gr_t → Prop} {l : gs_L} {L : List gs_L} {Q : gm_R → gm_H → Prop} {leaf st stt : Int32} {cc : Option Nat}
def gs_bk : gs_M Unit := fun s => .ok ((), gs_p (gs_pl s - 1) s)
theorem gr_body (RC : gr_RC E d h m K (dp + 1) rc) (hK : gs_kor K) (hd : 12 ≤ d) (hdp : 1 ≤ dp ∧ dp ≤ 8) : gr_RC E d h m K dp (gs_body K rc dp) := by
  intro X c us nd f t s Y h8 h47 hf h14 hr
  obtain ⟨f28, f29, f30⟩ := hf
  have n7 := Y.n7
  have pn := Y.pn
  have s130 := Y.hh.2.1
  have f79 : f < 78 := by omega
  have c8 : ¬ 8 < t.1 30 f := by rw [f30]; exact nI_nlt (a := 8) (b := dp) (by omega) (by omega)
  rw [gs_body_G]
  by_cases c60 : 60 < gs_size s
  · have er : gs_room dp s = .error (-8) := by unfold gs_room; rw [if_pos (Or.inr c60)]
    have n60 : ¬ t.1 0 28 ≤ 60 := by rw [Y.hh.1, Int32.not_le]; exact nI_lt (a := 60) c60 (by omega)
    refine .step h47 (by omega) h8 (gr_sr0 (by omega) h47 (by omega) f28 f29 (gm_Ca.mono (m_sRfar (by omega) (by omega) (Or.inr n60) h8) (fun r h' q => gr_ps.v rfl rfl q))) (fun t1 e1 => ?_)
    subst e1
    exact .done (gr_O.er (gs_b_er er) (gr_F.ui (by decide) gr_kp.refl))
  have er : gs_room dp s = .ok ((), s) := by unfold gs_room; rw [if_neg (by omega)]
  have n60 : t.1 0 28 ≤ 60 := by rw [Y.hh.1, ← Int32.not_lt]; exact nI_nlt (a := 60) (by omega) (by omega)
  rw [gs_b_ok er]
  rcases Nat.lt_or_ge (gs_pl s) (gs_n K) with z | z
  rotate_left
  · refine .step h47 (by omega) h8 (gr_sr0 (by omega) h47 (by omega) f28 f29 (gm_Ca.mono (m_sRend (by omega) (by omega) c8 n60 h8 Y.B.1 Y.pl (by omega) z) (fun r h' q => gr_ps.v rfl rfl q))) (fun t1 e1 => ?_)
    subst e1
    exact .done (gr_O.er (gs_b_er (gs_u1_n z)) (gr_F.ui (by decide) gr_kp.refl))
  rw [gs_b_ok (gs_u1_y z)]
  have eb := Y.B.2.2 _ z
  obtain ⟨b, hb⟩ : ∃ b, b = gs_sb K (gs_pl s) &&& 255 := ⟨_, rfl⟩
  rw [← hb] at eb ⊢
  have Y1 := Y.place (k := 1) (by omega)
  obtain ⟨t1, ht1⟩ : ∃ t1, t1 = gr_ui t 0 6 (nI (gs_pl s + 1)) := ⟨_, rfl⟩
  obtain ⟨s1, hs1⟩ : ∃ s1, s1 = gs_p (gs_pl s + 1) s := ⟨_, rfl⟩
  rw [← ht1, ← hs1] at Y1
  rw [← hs1]
  have pl1 : gs_pl s1 = gs_pl s + 1 := by rw [hs1]; rfl
  have sz1 : gs_size s1 = gs_size s := by rw [hs1]; rfl
  have v1 : ∀ q i, (q = 0 → i ≠ 6) → t1.1 q i = t.1 q i := fun q i z0 => by
    rw [ht1]
    by_cases e0 : q = 0
    · rw [gr_ui_ni (z0 e0)]
    · rw [gr_ui_no e0]
  have a8 : t1.1 0 8 = 0 := by rw [v1 0 8 (by decide)]; exact h8
  have a47 : t1.1 0 47 = nI (f + 1) := by rw [v1 0 47 (by decide)]; exact h47
  have a28 : t1.1 28 f = 1 := by rw [v1 28 f (by omega)]; exact f28
  have a30 : t1.1 30 f = nI dp := by rw [v1 30 f (by omega)]; exact f30
  have kp1 : gr_kp (gs_hp s).length us nd t t1 := by rw [ht1]; exact gr_kp.refl.ui (by unfold gr_pr; omega)
  have fr1 : gr_fr f t t1 := fun q i q1 q2 q3 => v1 q i (by omega)
  have eh1 : gr_eh (gs_size s) t t1 := fun i hi => v1 17 i (by omega)
  have ap1 : gs_ap s s1 := by rw [hs1]; exact gs_ap.p (by omega)
  -- one step
  have go : ∀ (P : gr_t → Prop), gm_W E (d - 2) 23 40 [.ref m, .int (nI f), .int b, gm_u, gm_u, gm_u] [] (gr_H h m t1) (gr_ps h m P) → (∀ t', P t' → gr_Rn E d h m (gr_O K X c us nd f f t s (gr_V dp s) (gs_bG K rc dp b s1)) t') → gr_Rn E d h m (gr_O K X c us nd f f t s (gr_V dp s) (gs_bG K rc dp b s1)) t := by
    intro P w k
    refine .step h47 (by omega) h8 (gr_sr0 (by omega) h47 (by omega) f28 f29 (m_sRpre (by omega) (by omega) c8 n60 h8 Y.B.1 Y.pl n7 z ?_)) k
    rw [eb, ← ht1]
    exact w
  have hsz1 : 14 * gs_size s1 ≤ 14 * (69 - dp) + gs_pl s1 := by omega
  -- a descriptor first
  have hv : ∀ (stt : Int32) (F : gs_L → List gs_L → gs_M Int32), (∀ (us nd : Nat) (t : gr_t) (s : gs_S), gr_Y X (c + 1) us nd t K s → t.1 0 8 = 0 → t.1 0 47 = nI (f + 1) → (t.1 28 f = 1 ∧ t.1 29 f = stt ∧ t.1 30 f = nI dp) → t.1 0 9 = -2 → gr_st E d h m t (fun t' => t' = gr_ui t 0 8 (-4))) →
      (∀ (l : gs_L) (L : List gs_L) (us nd : Nat) (t : gr_t) (s : gs_S), gr_Y X (c + 6) us nd t K s → t.1 0 8 = 0 → t.1 0 47 = nI (f + 1) → (t.1 28 f = 1 ∧ t.1 29 f = stt ∧ t.1 30 f = nI dp) → 14 * f + 42 ≤ 42 * dp + gs_pl s → 14 * gs_size s ≤ 14 * (69 - dp) + gs_pl s → gr_chn (gr_NX X nd) t K (l :: L) (t.1 0 9) → (l :: L).length ≤ 900 → gr_Rn E d h m (gr_O K X c us nd f f t s (gr_W dp) (F l L s)) t) → ∀ t', t' = gr_push (gr_ui t1 29 f stt) (f + 1) 2 (t1.1 30 f) 1 0 → gr_Rn E d h m (gr_O K X c us nd f f t s (gr_V dp s) (gs_have (gs_desc K rc 8) F s1)) t' := by
    intro stt F nil gg t' et
    rw [a30] at et
    subst et
    exact (gr_hav RC hK hd hdp Y1 a8 a47 a28 a30 (by omega) hsz1 nil gg).mono (fun t4 x4 => x4.toV (by omega) fr1 eh1 kp1 ap1)
  by_cases b112 : b = 112
  · have eG : gs_bG K rc dp b = gs_r (-2) := by unfold gs_bG; rw [if_pos b112]
    rw [eG] at go ⊢
    refine go (fun t' => t' = gr_give t1 (-2)) (by rw [b112]; exact m_sRnull (by omega) (gr_ps.ok rfl)) (fun t' et => ?_)
    subst et
    exact .done (gr_O.give rfl ⟨Nat.le_refl _, Nat.le_refl _⟩ (Y1.wk (by omega)) a8 a47 fr1 eh1 kp1 ap1 ⟨(gr_give8 a8 a47).2, Or.inl rfl, by omega, by omega⟩)
  by_cases b113 : b = 113
  · have eG : gs_bG K rc dp b = gs_ref K := by unfold gs_bG; rw [if_neg b112, if_pos b113]
    rw [eG] at go ⊢
    have rf := m_reference (E := E) (d := d - 3) (h := h) (m := m) (b := false) (fr := nI f) (by omega) Y1.B Y1.hs Y1.pl Y1.pn a8
    refine go (fun t' => match gs_ref K s1 with
      | .ok q => q.2 = gs_p (gs_pl s1 + 4) s1 ∧ gs_pl s1 + 4 ≤ gs_n K ∧ t' = gr_give (gr_ui t1 0 6 (nI (gs_pl s1 + 4))) q.1 ∧ (q.1 = -2 ∨ ∃ (i : Nat) (w : Int32 × List gs_L), (gs_hs s1)[i]? = some w ∧ w.1 = q.1 ∧ ¬ q.1 < 0)
      | .error f => gr_er t1 t' f) (by
        rw [b113]
        refine m_sRref (by omega) rf (fun r h' q => ⟨h', q.1, rfl, ?_⟩)
        obtain ⟨q1, q2⟩ := q
        have e1 : gr_rf K false s1 = match gs_ref K s1 with
            | .ok q => .ok (Sum.inl q.1, q.2)
            | .error e => .error e := by
          unfold gr_rf
          rw [if_neg (by decide)]
          unfold gs_b
          cases gs_ref K s1 <;> rfl
        rw [e1] at q2
        cases erf : gs_ref K s1 with
        | ok w =>
          rw [erf] at q2
          obtain ⟨y1, y2, w9, y3, y4, y5⟩ := q2
          refine ⟨rfl, _, y3, y1, y2, ?_, y5⟩
          rw [y4]
        | error x =>
          rw [erf] at q2
          obtain ⟨t9, y1, y2⟩ := q2
          exact ⟨rfl, t9, y1, y2⟩) (fun t' x => ?_)
    cases erf : gs_ref K s1 with
    | error y =>
      rw [erf] at x
      exact .done (gr_O.er rfl ((gr_er.F x).from kp1 (Nat.le_refl _) (Nat.le_refl _) (Nat.le_refl _)))
    | ok w =>
      rw [erf] at x
      obtain ⟨x1, x2, x3, x4⟩ := x
      have Y2 := Y1.place (k := 4) x2
      obtain ⟨t2, ht2⟩ : ∃ t2, t2 = gr_ui t1 0 6 (nI (gs_pl s1 + 4)) := ⟨_, rfl⟩
      rw [← ht2] at Y2 x3
      have c8' : t2.1 0 8 = 0 := by rw [ht2, gr_ui_ni (by decide)]; exact a8
      have c47 : t2.1 0 47 = nI (f + 1) := by rw [ht2, gr_ui_ni (by decide)]; exact a47
      rw [x3]
      obtain ⟨w1, w2⟩ := w
      dsimp only at x1 x4
      subst x1
      refine .done (gr_O.give rfl ⟨Nat.le_refl _, Nat.le_refl _⟩ (Y2.wk (by omega)) c8' c47 (by rw [ht2]; exact fr1.ui (by omega)) (by rw [ht2]; exact eh1.ui (by omega)) (by rw [ht2]; exact kp1.ui (by unfold gr_pr; omega)) (ap1.trans (gs_ap.p (by omega))) ⟨(gr_give8 c8' c47).2, ?_, ?_, ?_⟩)
      · rcases x4 with y | ⟨i, q, q1, q2, q3⟩
        · exact Or.inl y
        · obtain ⟨x, y1, y2⟩ := Y1.hin i q q1 (by rw [q2]; exact q3)
          exact Or.inr ⟨x, y1, by rw [← q2]; exact y2⟩
      · show 14 * gs_size s1 ≤ 14 * (70 - dp) + (gs_pl s1 + 4); omega
      · show gs_pl s < gs_pl s1 + 4; omega
  by_cases b114 : b = 114
  · have eG : gs_bG K rc dp b = gs_b gs_bk fun _ => gs_b (gs_desc K rc 8) fun _ => gs_r (-2) := by unfold gs_bG; rw [if_neg b112, if_neg b113, if_pos b114]; rfl
    rw [eG] at go ⊢
    have es : gs_b gs_bk (fun _ => gs_b (gs_desc K rc 8) fun _ => gs_r (-2 : Int32)) s1 = gs_b (gs_desc K rc 8) (fun _ => gs_r (-2 : Int32)) s := by
      rw [gs_b_ok (a := ()) (s1 := gs_p (gs_pl s1 - 1) s1) rfl, pl1, Nat.add_sub_cancel, hs1]
      rfl
    rw [es] at go ⊢
    refine go (fun t' => t' = gr_push (gr_ui (gr_ui t1 0 6 (t1.1 0 6 - 1)) 29 f 9) (f + 1) 2 (t1.1 30 f) 1 0) (by rw [b114]; exact m_sR114 (by omega) (by omega) a47 (by omega) (gr_ps.ok rfl)) (fun t2 e2 => ?_)
    have e6 : gr_ui t1 0 6 (t1.1 0 6 - 1) = t := by
      have : t1.1 0 6 - 1 = nI (gs_pl s) := by rw [ht1, gr_ui_eq]; exact nI_sub (b := 1) (by omega)
      rw [this, ht1, gr_ui_ui]
      exact gr_ui_id Y.pl
    rw [e6, a30] at e2
    obtain ⟨p1, p2, p3, p4, p5, p6, p7, p8, p9⟩ := gr_push_fr (t := gr_ui t 29 f 9) (tp := f + 1) (k := 2) (dd := nI dp) (a := 1) (b := 0)
    rw [← e2] at p1 p2 p3 p4 p5 p6 p7 p8 p9
    have hm2 : gr_hm t t2 := by rw [e2]; exact (gr_hm.refl.ui (by omega)).push
    have fr2 : gr_fr (f + 1) (gr_ui t 29 f 9) t2 := by rw [e2]; exact gr_fr.refl.push (Nat.le_refl _)
    have ds := gr_desc (B := 14 * (69 - dp)) RC hK.1 hd hdp (Nat.le_refl _) (by omega) 8 (Nat.le_refl _)
    refine (ds X c us nd (f + 1) t2 s (Y.hm hm2) (p9.trans (by rw [gr_ui_no (by decide)]; exact h8)) p8 ⟨p1, p2, p3, p4, p6⟩ (by omega) (by omega)).bind (fun t3 x3 => ?_)
    refine gr_O.seqF x3 hm2.kp (Nat.le_refl _) (Nat.le_refl _) (Nat.le_refl _) (fun LL s3 us3 nd3 er g1 Y3 g8 g47 g3 g6 g4 g5 v => ?_)
    obtain ⟨w1, w2, w3, w4, -⟩ := v
    have ff : ∀ x, 28 ≤ x → x ≤ 34 → t3.1 x f = (gr_ui t 29 f 9).1 x f := fun x x1 x2 => (g3 x f x1 x2 (by omega)).trans (fr2 x f x1 x2 (by omega))
    refine .step g47 (by omega) g8 (gr_sr9 (P := fun t' => t' = gr_give t3 (-2)) (by omega) g47 (by omega) (by rw [ff 28 (by omega) (by omega), gr_ui_no (by decide)]; exact f28) (by rw [ff 29 (by omega) (by omega), gr_ui_eq]) rfl) (fun t4 x4 => ?_)
    subst x4
    refine .done (gr_O.give rfl g1 Y3 g8 g47 (fun q i q1 q2 q3 => by rw [g3 q i q1 q2 (by omega), fr2 q i q1 q2 (by omega), gr_ui_ni (by omega)]) (hm2.eh.trans g6) (hm2.kp.trans g4) g5 ⟨(gr_give8 g8 g47).2, Or.inl rfl, by omega, w4⟩)
  by_cases b115 : b = 115
  · have eG : gs_bG K rc dp b = gs_have (gs_desc K rc 8) (gs_instK K rc dp) := by unfold gs_bG; rw [if_neg b112, if_neg b113, if_neg b114, if_pos b115]; rfl
    rw [eG] at go ⊢
    refine go _ (by rw [b115]; exact m_sR115 (by omega) (by omega) a47 (by omega) (gr_ps.ok rfl)) (hv 1 _ (fun us nd t s Y h8 h47 hf h9 => gr_sr1 (by omega) h47 (by omega) hf.1 hf.2.1 (gm_Ca.mono (m_nI0 (by omega) h8 h9) (fun r h' q => gr_ps.v (P := fun t' => t' = gr_ui t 0 8 (-4)) rfl rfl q))) (fun l L us nd t s Y h8 h47 hf h14 hsz ch ln => gr_inst RC hK hd hdp Y h8 h47 hf h14 hsz ch ln))
  by_cases b116 : b = 116
  · have eG : gs_bG K rc dp b = gs_text K := by unfold gs_bG; rw [if_neg b112, if_neg b113, if_neg b114, if_neg b115, if_pos b116]
    rw [eG] at go ⊢
    have hbb := Y.hb
    refine go _ (by rw [b116]; exact m_sR116 (s := s1) (e := gs_size s) (o := (gs_hp s).length) (by omega) (by rw [v1 0 28 (by decide)]; exact Y.hh.1) (by omega) (by rw [v1 0 23 (by decide)]; exact Y.pp.1) (by omega) Y1.B Y1.pl Y1.pn a8) (fun t' x => ?_)
    cases eu : gs_utf K s1 with
    | error y =>
      rw [eu] at x
      have ee : gs_text K s1 = .error y := by
        unfold gs_text
        have ebb := Y1.eb
        have ea : gs_addE (-1) s1 = .ok ((gs_hs s1).length, (gs_pl s1, gs_hp s1, gs_hs s1 ++ [(-1, [])], gs_f1 s1)) := by
          unfold gs_addE
          rw [if_neg (by omega)]
          rfl
        rw [gs_b_ok ea]
        exact gs_b_er (gs_utf_anyE eu)
      have F := gr_er.F (hb := (gs_hp s).length) (ub := us) (nb := nd) x
      refine .done (gr_O.er ee (F.from (t' := gr_ent t1 (gs_size s) 0 0) ?_ (Nat.le_refl _) (Nat.le_refl _) (Nat.le_refl _)))
      unfold gr_ent
      exact ((kp1.ui (by unfold gr_pr; omega)).ui (by unfold gr_pr; omega)).ui (by unfold gr_pr; omega)
    | ok w =>
      rw [eu] at x
      dsimp only at x
      rw [x, ht1, hs1]
      rw [hs1] at eu
      have g := gr_Y.txt (f := f) (a := w.1) (s1 := w.2) Y (by omega) h8 h47 eu z
      exact .done (g.mono (fun v s9 nd9 y => ⟨y.1, Or.inr y.2.1, by have := y.2.2.1; have := y.2.2.2; omega, y.2.2.2⟩))
  by_cases b117 : b = 117
  · have eG : gs_bG K rc dp b = gs_have (gs_desc K rc 8) (fun l _ => gs_arrK K rc dp l) := by unfold gs_bG; rw [if_neg b112, if_neg b113, if_neg b114, if_neg b115, if_neg b116, if_pos b117]; rfl
    rw [eG] at go ⊢
    refine go _ (by rw [b117]; exact m_sR117 (by omega) (by omega) a47 (by omega) (gr_ps.ok rfl)) (hv 3 _ (fun us nd t s Y h8 h47 hf h9 => gr_sr3 (by omega) h47 (by omega) hf.1 hf.2.1 (gm_Ca.mono (m_nA0 (by omega) h8 h9 Y.B Y.pl Y.pn) (fun r h' q => gr_ps.v (P := fun t' => t' = gr_ui t 0 8 (-4)) rfl rfl q))) (fun l L us nd t s Y h8 h47 hf h14 hsz ch ln => gr_arr RC hK hd hdp Y h8 h47 hf h14 hsz ch))
  by_cases b126 : b = 126
  · have eG : gs_bG K rc dp b = gs_have (gs_desc K rc 8) (fun l _ => gs_conK K rc dp l) := by unfold gs_bG; rw [if_neg b112, if_neg b113, if_neg b114, if_neg b115, if_neg b116, if_neg b117, if_pos b126]; rfl
    rw [eG] at go ⊢
    refine go _ (by rw [b126]; exact m_sR126 (by omega) (by omega) a47 (by omega) (gr_ps.ok rfl)) (hv 5 _ (fun us nd t s Y h8 h47 hf h9 => gr_sr5 (by omega) h47 (by omega) hf.1 hf.2.1 (gm_Ca.mono (m_nC0 (by omega) h8 h9) (fun r h' q => gr_ps.v (P := fun t' => t' = gr_ui t 0 8 (-4)) rfl rfl q))) (fun l L us nd t s Y h8 h47 hf h14 hsz ch ln => gr_con RC hd hdp Y h8 h47 hf h14 hsz ch))
  have e1 : (t1.1 30 f = 1) ↔ dp = 1 := by rw [a30]; exact nI_eq (b := 1) (by omega) (by decide)
  by_cases b123 : b = 123
  · have eG : gs_bG K rc dp b = gs_x (-10) := by unfold gs_bG; rw [if_neg b112, if_neg b113, if_neg b114, if_neg b115, if_neg b116, if_neg b117, if_neg b126, if_neg (by rw [b123]; decide), if_pos b123]
    have ef : gr_fl t1 (-10) = gr_ui t1 0 8 (-10) := by unfold gr_fl; rw [if_pos a8]
    rw [eG] at go ⊢
    refine go (fun t' => t' = gr_ui t1 0 8 (-10)) (by rw [b123]; exact m_sR123 (by omega) (by rw [ef]; exact gr_ps.ok rfl)) (fun t' et => ?_)
    subst et
    exact .done (gr_O.er rfl (gr_F.ui (by decide) kp1))
  · obtain ⟨fe, hfe⟩ : ∃ fe : Int32, fe = if t1.1 30 f = 1 ∧ (b = 119 ∨ b = 122 ∨ b = 120) then -7 else -4 := ⟨_, rfl⟩
    have eG : gs_bG K rc dp b = gs_x fe := by
      unfold gs_bG
      rw [if_neg b112, if_neg b113, if_neg b114, if_neg b115, if_neg b116, if_neg b117, if_neg b126, hfe]
      by_cases y : b = 119 ∨ b = 122 ∨ b = 120
      · rw [if_pos y]
        by_cases y1 : dp = 1
        · rw [if_pos y1, if_pos ⟨e1.mpr y1, y⟩]
        · rw [if_neg y1, if_neg (fun q => y1 (e1.mp q.1))]
      · rw [if_neg y, if_neg b123, if_neg (fun q => y q.2)]
    have fn : fe ≠ 0 := by rw [hfe]; split <;> decide
    have ef : gr_fl t1 fe = gr_ui t1 0 8 fe := by unfold gr_fl; rw [if_pos a8]
    rw [eG] at go ⊢
    refine go (fun t' => t' = gr_ui t1 0 8 fe) (m_sRbad (by omega) (by omega) ⟨b112, b113, b116, b114, b115, b117, b126, b123, fun q y => ?_⟩ (by rw [← hfe, ef]; exact gr_ps.ok rfl)) (fun t' et => ?_)
    · exact hr (e1.mp y) z (by rw [← hb]; exact q)
    · subst et
      exact .done (gr_O.er rfl (gr_F.ui fn kp1))
theorem gr_rc (hK : gs_kor K) (hd : 12 ≤ d) : ∀ k, k ≤ 8 → gr_RC E d h m K (9 - k) (gs_rc K k)
  | 0, _ => by
    intro X c us nd f t s Y h8 h47 hf h14 hr
    have n7 := Y.n7
    have pn := Y.pn
    have c8 : 8 < t.1 30 f := by rw [hf.2.2]; decide
    refine .step h47 (by omega) h8 (gr_sr0 (by omega) h47 (by omega) hf.1 hf.2.1 (gm_Ca.mono (m_sRfar (by omega) (by omega) (Or.inl c8) h8) (fun r h' q => gr_ps.v rfl rfl q))) (fun t1 e1 => ?_)
    subst e1
    exact .done (gr_O.er rfl (gr_F.ui (by decide) gr_kp.refl))
  | k + 1, hk => by
    have g := gr_rc hK hd k (by omega)
    rw [show 9 - k = (8 - k) + 1 by omega] at g
    have := gr_body g hK hd ⟨by omega, by omega⟩
    rw [show 9 - (k + 1) = 8 - k by omega]
    exact this
end NW
