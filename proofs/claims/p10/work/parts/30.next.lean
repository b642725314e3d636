/-! THE PLAIN MACHINE, 14: what a step tells of itself. -/
theorem gm_aw_le {t ow a : Nat} {h h3 : gm_H} {j : Int32} {v : Value} {st2 st3 : List Value} {ln : Nat} (hq : gm_aw t ow h a j v st2 = some (ln, st3, h3)) : h3.1 = h.1 ∧ h3.2.1 = h.2.1 := by
  unfold gm_aw at hq
  split at hq
  case _ =>
    split at hq
    case isTrue => cases hq; exact ⟨rfl, rfl⟩
    case isFalse => cases hq
  case _ => cases hq
theorem gm_wrop_le {cn ow : Nat} {ini : Bool} {i : Instr} {st st' : List Value} {h h' : gm_H} {len : Nat} (hp : gm_wrop cn ow ini i st h = some (len, st', h')) : h'.1 = h.1 ∧ h'.2.1 = h.2.1 := by
  unfold gm_wrop at hp
  split at hp
  case _ =>
    split at hp
    case _ =>
      split at hp
      case isTrue => cases hp; exact ⟨rfl, rfl⟩
      case isFalse => cases hp
    case _ => cases hp
  case _ => exact gm_aw_le hp
  case _ => exact gm_aw_le hp
  case _ =>
    split at hp
    · exact gm_aw_le hp
    · exact gm_aw_le hp
  case _ =>
    split at hp
    case _ =>
      split at hp
      · exact gm_aw_le hp
      · cases hp
    case _ => cases hp
  case _ =>
    split at hp
    case _ =>
      split at hp
      · exact gm_aw_le hp
      · cases hp
    case _ => cases hp
  case _ => cases hp
theorem gm_nwop_le {cn ow : Nat} {i : Instr} {st st' : List Value} {h h' : gm_H} {len : Nat} (hp : gm_nwop cn ow i st h = some (len, st', h')) : h.1 ≤ h'.1 ∧ h.2.1 ≤ h'.2.1 := by
  unfold gm_nwop at hp
  have nw : ∀ (c : gm_C) (n : Nat), h.1 ≤ (gm_nw h c n).1 ∧ h.2.1 ≤ (gm_nw h c n).2.1 := fun c n => ⟨Nat.le_succ _, Nat.le_add_right _ _⟩
  split at hp
  case _ =>
    split at hp
    case _ =>
      split at hp
      · cases hp; exact nw _ _
      · cases hp
    case _ => cases hp
  case _ =>
    split at hp
    case _ =>
      split at hp
      · cases hp; exact nw _ _
      · cases hp
    case _ => cases hp
  case _ =>
    split at hp
    case _ =>
      split at hp
      · cases hp; exact nw _ _
      · cases hp
    case _ => cases hp
  case _ => cases hp
/-- what a step is, by where it leads -/
def gm_is (E : Nat → Value) (mi pc : Nat) (lv st : List Value) (h : gm_H) (M : gm_M) : gm_S → Prop
  | .inl (_, _, _, h1) => h.1 ≤ h1.1 ∧ h.2.1 ≤ h1.2.1
  | .inr (.inl q) => ∃ i, gm_ft mi pc = some (i, 3) ∧ gm_cal M.2.2.2.2.2.1 i st h = some q ∧ q.1 ≠ 4
  | .inr (.inr (.inl v)) => ∃ i, gm_ft mi pc = some (i, 1) ∧ gm_rt M.2.2.2.1 i st = some v
  | .inr (.inr (.inr (a, h1))) => (∃ i, gm_ft mi pc = some (i, 3) ∧ gm_thr mi M.2.2.2.2.2.1 pc i = true) ∧ (st.map fun v => v.category).sum ≤ 8 ∧ a = h.1 ∧ h1 = gm_nw h (7, []) 6 ∧ M.2.2.2.2.1 = []
theorem gm_next_is {E : Nat → Value} {mi pc : Nat} {lv st : List Value} {h : gm_H} {M : gm_M} {S : gm_S} (hM : gm_mt[mi]? = some M) (hn : gm_next E mi pc lv st h = some S) : gm_is E mi pc lv st h M S := by
  unfold gm_next at hn
  rw [hM] at hn
  obtain ⟨y, code, maxL, ret, hh, cn, ow⟩ := M
  have rf : h.1 ≤ h.1 ∧ h.2.1 ≤ h.2.1 := ⟨Nat.le_refl _, Nat.le_refl _⟩
  split at hn
  case _ y1 c1 m1 r1 h1' cn1 ow1 i len em hft =>
    cases em
    split at hn
    case _ =>
      split at hn
      case isTrue => cases hn; exact rf
      case isFalse => cases hn
    case _ =>
    split at hn
    case _ =>
      split at hn
      case isTrue => cases hn; exact rf
      case isFalse => cases hn
    case _ =>
    split at hn
    case _ =>
      split at hn
      case _ =>
        split at hn
        case isTrue => cases hn; exact rf
        case isFalse => cases hn
      case _ => cases hn
    case _ =>
    split at hn
    case _ =>
      split at hn
      case _ => cases hn; exact rf
      case _ => cases hn
    case _ =>
    split at hn
    case _ =>
      split at hn
      case isTrue => cases hn; exact rf
      case isFalse => cases hn
    case _ =>
    split at hn
    case _ n st1 h2 hp =>
      split at hn
      case isTrue =>
        cases hn
        have := gm_wrop_le hp
        exact ⟨by omega, by omega⟩
      case isFalse => cases hn
    case _ =>
    split at hn
    case _ n st1 h2 hp =>
      split at hn
      case isTrue => cases hn; exact gm_nwop_le hp
      case isFalse => cases hn
    case _ =>
    split at hn
    case _ q hp =>
      split at hn
      case isTrue en =>
        split at hn
        case isTrue => cases hn; exact rf
        case isFalse e4 =>
          cases hn
          subst en
          exact ⟨i, hft, hp, e4⟩
      case isFalse => cases hn
    case _ =>
    split at hn
    case _ v hp =>
      split at hn
      case isTrue en =>
        cases hn
        subst en
        exact ⟨i, hft, hp⟩
      case isFalse => cases hn
    case _ =>
    split at hn
    case isTrue hz =>
      cases hn
      obtain ⟨g1, g2, g3, g4⟩ := hz
      subst g2
      exact ⟨⟨i, hft, g1⟩, g3, rfl, rfl, g4⟩
    case isFalse => cases hn
  case _ => cases hn
theorem gm_run_le {E : Nat → Value} : ∀ (n d mi pc : Nat) (lv st : List Value) (h : gm_H) (r : gm_R) (h' : gm_H), gm_run E n d mi pc lv st h = some (r, h') → h.1 ≤ h'.1 ∧ h.2.1 ≤ h'.2.1 := by
  intro n
  induction n with
  | zero => intro d mi pc lv st h r h' hr; cases hr
  | succ n ih =>
    intro d mi pc lv st h r h' hr
    unfold gm_run at hr
    split at hr
    case _ => cases hr
    case _ pc1 lv1 st1 h1 hn =>
      have a := ih _ _ _ _ _ _ _ _ hr
      cases hM : gm_mt[mi]? with
      | none => unfold gm_next at hn; rw [hM] at hn; cases hn
      | some M =>
        have b := gm_next_is hM hn
        dsimp only [gm_is] at b
        omega
    case _ sd mi1 as rest hn =>
      split at hr
      case _ d1 M1 M2 em1 em2 =>
        split at hr
        case _ => cases hr
        case _ v h1 hc =>
          have a := ih _ _ _ _ _ _ _ _ hc
          have b := ih _ _ _ _ _ _ _ _ hr
          omega
        case _ a1 h1 hc =>
          have a := ih _ _ _ _ _ _ _ _ hc
          split at hr
          case _ t ht =>
            have b := ih _ _ _ _ _ _ _ _ hr
            omega
          case _ => cases hr; exact a
      case _ => cases hr
    case _ v hn => cases hr; omega
    case _ a h1 hn =>
      cases hr
      cases hM : gm_mt[mi]? with
      | none => unfold gm_next at hn; rw [hM] at hn; cases hn
      | some M =>
        obtain ⟨-, -, -, rfl, -⟩ := gm_next_is hM hn
        exact ⟨Nat.le_succ _, Nat.le_add_right _ _⟩
