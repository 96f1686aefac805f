/-! The class leaves the model's cells, the model the class's. -/
def fc (I I' : nf_I) : Prop := ∀ a b c, 20 ≤ a → I' a b c = I a b c
def fcJ (I I' : nf_J) : Prop := ∀ a b c, 20 ≤ a → I' a b c = I a b c
def fm (I I' : nf_I) : Prop := ∀ a b c, a < 20 → I' a b c = I a b c
def fmJ (I I' : nf_J) : Prop := ∀ a b c, a < 20 → I' a b c = I a b c
section FR
variable {I A B : nf_I} {J E F : nf_J} {k i n : Nat}
theorem fc_rf : fc I I := fun _ _ _ _ => rfl
theorem fcJ_rf : fcJ J J := fun _ _ _ _ => rfl
theorem fm_rf : fm I I := fun _ _ _ _ => rfl
theorem fmJ_rf : fmJ J J := fun _ _ _ _ => rfl
theorem fc_tr (h : fc I A) (h2 : fc A B) : fc I B := fun a b c hh => (h2 a b c hh).trans (h a b c hh)
theorem fcJ_tr (h : fcJ J E) (h2 : fcJ E F) : fcJ J F := fun a b c hh => (h2 a b c hh).trans (h a b c hh)
theorem fm_tr (h : fm I A) (h2 : fm A B) : fm I B := fun a b c hh => (h2 a b c hh).trans (h a b c hh)
theorem fmJ_tr (h : fmJ J E) (h2 : fmJ E F) : fmJ J F := fun a b c hh => (h2 a b c hh).trans (h a b c hh)
theorem fc_iu {v : Int32} (hk : k < 20) (h : fc I A) : fc I (nf_iu A k i n v) := fun a b c hh => by rw [nf_iu_n _ _ (by omega)]; exact h a b c hh
theorem fcJ_ju {v : Int64} (hk : k < 20) (h : fcJ J E) : fcJ J (nf_ju E k i n v) := fun a b c hh => by rw [nf_ju_n _ _ (by omega)]; exact h a b c hh
theorem fm_iu {v : Int32} (hk : 20 ≤ k) (h : fm I A) : fm I (nf_iu A k i n v) := fun a b c hh => by rw [nf_iu_n _ _ (by omega)]; exact h a b c hh
theorem fmJ_ju {v : Int64} (hk : 20 ≤ k) (h : fmJ J E) : fmJ J (nf_ju E k i n v) := fun a b c hh => by rw [nf_ju_n _ _ (by omega)]; exact h a b c hh
/-! the class -/
theorem fc_sI {o : Nat} {kd tz : Int32} : fc I (xs_sI I o kd tz) := fun a b c h => rq_sI a b c (by omega) (by omega)
theorem fcJ_sJ {o : Nat} : fcJ J (xs_sJ J o) := fun a b c h => rq_sJ a b c (by omega)
theorem fc_fI {o : Nat} {tz ak pu ky : Int32} : fc I (xs_fI I o tz ak pu ky) := fun a b c h => rq_fI a b c (by omega) (by omega)
theorem fc_an {nn : Nat} {id : Int32} : fc I (xs_anI I nn id) := fun a b c h => rj_an a b c (by omega) (by omega)
theorem fcJ_an {nn : Nat} : fcJ J (xs_anJ J nn) := fun a b c h => rj_ndJ a b c (by omega)
theorem fc_tk {kc : Nat} {key : Int32} : fc I (xs_tkI I kc key) := by
  unfold xs_tkI
  split
  · split
    · exact fc_iu (by decide) (fc_iu (by decide) fc_rf)
    · exact fc_rf
  · exact fc_rf
theorem fc_cr {nn : Nat} {id : Int32} : fc I (xs_crI I nn id) := by
  unfold xs_crI
  split
  · exact fc_iu (by decide) fc_an
  · exact fc_rf
theorem fcJ_cr {nn : Nat} {id : Int32} : fcJ J (xs_crJ I J nn id) := by
  unfold xs_crJ
  split
  · exact fcJ_an
  · exact fcJ_rf
theorem fc_jn {nn onw : Nat} {id via : Int32} : fc I (xs_jnI I nn onw id via) := by
  unfold xs_jnI
  split
  · exact fc_tr fc_an fc_fI
  · exact fc_rf
theorem fcJ_jn {nn onw : Nat} {id via : Int32} : fcJ J (xs_jnJ I J nn onw id via) := by
  unfold xs_jnJ
  split
  · exact fcJ_tr fcJ_an fcJ_sJ
  · exact fcJ_rf
theorem fc_stb {nn onw : Nat} {id : Int32} : fc I (xs_stbI I nn onw id) := by
  unfold xs_stbI
  split
  · exact fc_rf
  · split
    · exact fc_iu (by decide) fc_sI
    · exact fc_rf
theorem fcJ_stb {nn onw : Nat} {id : Int32} : fcJ J (xs_stbJ I J nn onw id) := by
  unfold xs_stbJ
  split
  · exact fcJ_rf
  · split
    · exact fcJ_sJ
    · exact fcJ_rf
theorem fc_fix {nn onw : Nat} {id j : Int32} : fc I (xs_fixI I nn onw id j) := by
  unfold xs_fixI
  split
  · exact fc_rf
  · split
    · exact fc_rf
    · split
      · exact fc_iu (by decide) fc_fI
      · exact fc_rf
theorem fcJ_fix {nn onw : Nat} {id j : Int32} : fcJ J (xs_fixJ I J nn onw id j) := by
  unfold xs_fixJ
  split
  · exact fcJ_rf
  · split
    · exact fcJ_rf
    · split
      · exact fcJ_sJ
      · exact fcJ_rf
theorem fc_get {nn onw : Nat} {id key : Int32} : fc I (xs_getI I nn onw id key) := by
  unfold xs_getI
  split
  · exact fc_rf
  · split
    · exact fc_rf
    · split
      · exact fc_fI
      · exact fc_rf
theorem fcJ_get {nn onw : Nat} {id key : Int32} : fcJ J (xs_getJ I J nn onw id key) := by
  unfold xs_getJ
  split
  · exact fcJ_rf
  · split
    · exact fcJ_rf
    · split
      · exact fcJ_sJ
      · exact fcJ_rf
theorem fc_put {nn kc onw : Nat} {id key : Int32} : fc I (xs_putI I nn kc onw id key) := by
  unfold xs_putI
  split
  · exact fc_rf
  · split
    · exact fc_rf
    · split
      · split
        · exact fc_tk
        · exact fc_tr fc_tk fc_fI
      · exact fc_rf
theorem fcJ_put {nn kc onw : Nat} {id key v : Int32} : fcJ J (xs_putJ I J nn kc onw id key v) := by
  unfold xs_putJ
  split
  · exact fcJ_rf
  · split
    · exact fcJ_rf
    · split
      · split
        · exact fcJ_rf
        · exact fcJ_ju (by decide) fcJ_sJ
      · exact fcJ_rf
theorem fc_aI {i o onw : Nat} : fc I (xs_aI I i o onw) := by
  unfold xs_aI
  split
  · unfold xs_fiI
    split
    · exact fc_iu (by decide) (fc_iu (by decide) fc_fI)
    · split
      · exact fc_iu (by decide) fc_sI
      · split
        · exact fc_iu (by decide) (fc_iu (by decide) (fc_iu (by decide) fc_sI))
        · exact fc_iu (by decide) (fc_iu (by decide) (fc_iu (by decide) (fc_iu (by decide) fc_sI)))
  · split
    · unfold xs_foI
      refine fc_iu (by decide) ?_
      unfold xs_fo1
      split
      · exact fc_iu (by decide) fc_rf
      · split
        · exact fc_rf
        · exact fc_iu (by decide) fc_rf
    · split
      · exact fc_rf
      · split
        · exact fc_iu (by decide) fc_sI
        · split
          · exact fc_iu (by decide) fc_rf
          · split
            · exact fc_iu (by decide) fc_sI
            · split
              · unfold xs_teI
                refine fc_iu (by decide) (fc_tr ?_ fc_sI)
                unfold xs_teS
                split
                · exact fc_rf
                · split
                  · exact fc_rf
                  · exact fc_iu (by decide) fc_rf
              · unfold xs_noI
                split
                · exact fc_iu (by decide) fc_rf
                · split
                  · exact fc_rf
                  · exact fc_iu (by decide) fc_rf
theorem fcJ_ho {i b : Nat} : ∀ (n j : Nat) (E : nf_J), fcJ J E → fcJ J (xs_hoJ I i b n j E)
  | 0, _, E, h => h
  | n + 1, j, E, h => by
    unfold xs_hoJ
    refine fcJ_ho n (j + 1) _ ?_
    split
    · exact h
    · split
      · exact h
      · exact fcJ_ju (by decide) (fcJ_ju (by decide) h)
theorem fcJ_no1 {nn kc i o : Nat} : fcJ J (xs_no1 I J nn kc i o) := by
  unfold xs_no1
  split
  · exact fcJ_rf
  · exact fcJ_ho _ _ _ fcJ_rf
theorem fcJ_aJ {nn kc i o onw : Nat} : fcJ J (xs_aJ I J nn kc i o onw) := by
  unfold xs_aJ
  split
  · unfold xs_fiJ
    split
    · exact fcJ_ju (by decide) fcJ_sJ
    · split
      · exact fcJ_ju (by decide) fcJ_sJ
      · exact fcJ_sJ
  · split
    · exact fcJ_rf
    · split
      · unfold xs_stJ
        split
        · exact fcJ_rf
        · exact fcJ_ju (by decide) fcJ_rf
      · split
        · exact fcJ_ju (by decide) fcJ_sJ
        · split
          · exact fcJ_ju (by decide) fcJ_rf
          · split
            · exact fcJ_sJ
            · split
              · exact fcJ_sJ
              · unfold xs_noJ
                split
                · exact fcJ_no1
                · split
                  · exact fcJ_rf
                  · exact fcJ_no1
theorem fc_arr {mp : Nat → Nat} {nn kc : Nat} {k : Int32} : fc I (xs_arr I J mp nn kc k).2.1 ∧ fcJ J (xs_arr I J mp nn kc k).2.2.1 := by
  unfold xs_arr
  split
  · exact ⟨fc_rf, fcJ_rf⟩
  · split
    · exact ⟨fc_iu (by decide) fc_rf, fcJ_rf⟩
    · exact ⟨fc_tr (fc_iu (by decide) fc_rf) fc_aI, fcJ_aJ⟩
theorem fc_pu {nn kc : Nat} : ∀ (n c : Nat) (A : nf_I) (E : nf_J) (mp : Nat → Nat), fc I A → fcJ J E → fc I (xs_pu nn kc n c A E mp).2.1 ∧ fcJ J (xs_pu nn kc n c A E mp).2.2.1
  | 0, _, A, E, mp, h1, h2 => ⟨h1, h2⟩
  | n + 1, c, A, E, mp, h1, h2 => by
    unfold xs_pu
    split
    · exact ⟨fc_tr h1 fc_arr.1, fcJ_tr h2 fc_arr.2⟩
    · exact fc_pu n (c + 1) _ _ _ (fc_tr h1 fc_arr.1) (fcJ_tr h2 fc_arr.2)
theorem fc_puI {mp : Nat → Nat} {nn kc : Nat} {n : Int32} : fc I (xs_puI I J mp nn kc n) ∧ fcJ J (xs_puJ I J mp nn kc n) := by
  unfold xs_puI xs_puJ
  split
  · exact ⟨fc_rf, fcJ_rf⟩
  · split
    · exact fc_pu _ _ _ _ _ fc_rf fcJ_rf
    · exact ⟨fc_rf, fcJ_rf⟩
/-! the model -/
theorem fm_po {q : Nat} {kd tz ky ak : Int32} : fm I (ys_po I q kd tz ky ak) := fun a b c h => rq_po a b c (by omega) (by omega)
theorem fmJ_po {q : Nat} : fmJ J (ys_poJ J q) := fun a b c h => rq_poJ a b c (by omega)
theorem fm_ask {q : Nat} {mb wd why fi : Int32} : fm I (ys_ask I q mb wd why fi) := fun a b c h => rq_ask a b c (by omega) (by omega)
theorem fmJ_ask {q : Nat} {v : Int64} : fmJ J (ys_askJ J q v) := fun a b c h => rq_askJ a b c (by omega)
theorem fm_cr {id : Int32} : fm I (ys_crI I id) := by
  unfold ys_crI
  split
  · exact fm_rf
  · split
    · exact fm_iu (by decide) (fm_iu (by decide) (fm_iu (by decide) fm_rf))
    · exact fm_rf
theorem fm_jn {q : Nat} {id via : Int32} : fm I (ys_jnI I q id via) := by
  unfold ys_jnI
  split
  · exact fm_rf
  · exact fm_iu (by decide) (fm_tr (fm_iu (by decide) (fm_iu (by decide) fm_rf)) fm_ask)
theorem fmJ_jn {q : Nat} {id via : Int32} : fmJ J (ys_jnJ I J q id via) := by
  unfold ys_jnJ
  split
  · exact fmJ_rf
  · exact fmJ_ask
theorem fm_st {q : Nat} {id : Int32} : fm I (ys_stI I q id) := by
  unfold ys_stI
  split
  · exact fm_rf
  · exact fm_po
theorem fmJ_st {q : Nat} {id : Int32} : fmJ J (ys_stJ I J q id) := by
  unfold ys_stJ
  split
  · exact fmJ_rf
  · exact fmJ_po
theorem fm_fx {q : Nat} {id j : Int32} : fm I (ys_fxI I q id j) := by
  unfold ys_fxI
  split
  · exact fm_rf
  · exact fm_ask
theorem fmJ_fx {q : Nat} {id j : Int32} : fmJ J (ys_fxJ I J q id j) := by
  unfold ys_fxJ
  split
  · exact fmJ_rf
  · exact fmJ_ask
theorem fm_gt {q : Nat} {id wd : Int32} : fm I (ys_gtI I q id wd) := by
  unfold ys_gtI
  split
  · exact fm_rf
  · exact fm_ask
theorem fmJ_gt {q : Nat} {id wd : Int32} : fmJ J (ys_gtJ I J q id wd) := by
  unfold ys_gtJ
  split
  · exact fmJ_rf
  · exact fmJ_ask
theorem fm_pt {kc q : Nat} {id wd : Int32} : fm I (ys_ptI I kc q id wd) := by
  unfold ys_ptI
  split
  · exact fm_rf
  · split
    · exact fm_tr (fm_iu (by decide) (fm_iu (by decide) fm_rf)) fm_ask
    · exact fm_ask
theorem fmJ_pt {kc q : Nat} {id wd v : Int32} : fmJ J (ys_ptJ I J kc q id wd v) := by
  unfold ys_ptJ
  split
  · exact fmJ_rf
  · exact fmJ_ask
theorem fm_cp {f t : Nat} : fm I (ys_cp I f t) := fun a b c h => ys_cp_o _ _ _ _ _ _ (by omega)
theorem fm_tk {q : Nat} : fm I (ys_tkI I k q) := fun a b c h => ys_tk_o _ _ _ _ _ _ (by omega) (by omega)
theorem fmJ_tk {q : Nat} : fmJ J (ys_tkJ J k q) := fun a b c h => rt_Vo a b c (by omega)
theorem fm_hs {m : Int32} : fm I (ys_hs I m k) := fun a b c h => by
  unfold ys_hs
  rw [rk_o a b c (by omega) (by omega), rd_o a b c (by omega) (by omega)]
theorem fm_ho {x m : Int32} : ∀ (f k : Nat) (A : nf_I), fm I A → fm I (ys_ho x m f k A)
  | 0, _, A, h => h
  | f + 1, k, A, h => by
    unfold ys_ho
    split
    · exact h
    · split
      · split
        · exact fm_ho f 0 _ (fm_tr h fm_hs)
        · exact fm_ho f (k + 1) A h
      · exact fm_ho f (k + 1) A h
theorem fm_aI {nd q kp : Nat} : fm I (ys_aI I J nd q kp) := by
  unfold ys_aI
  split
  · unfold ys_fdI
    have hg : ∀ K T : Int32, fm I (ys_fg I q K T) := fun K T => fm_iu (by decide) (fm_iu (by decide) (fm_iu (by decide) fm_po))
    split
    · exact fm_iu (by decide) (fm_iu (by decide) (fm_iu (by decide) fm_cp))
    · split
      · exact hg _ _
      · split
        · exact hg _ _
        · split
          · exact hg _ _
          · exact hg _ _
  · split
    · unfold ys_foI
      refine fm_iu (by decide) ?_
      unfold ys_fo1
      split
      · exact fm_iu (by decide) (fm_iu (by decide) fm_rf)
      · exact fm_iu (by decide) fm_rf
    · split
      · exact fun a b c h => rk_o a b c (by omega) (by omega)
      · split
        · exact fm_iu (by decide) fm_po
        · split
          · exact fm_iu (by decide) fm_rf
          · split
            · exact fm_po
            · split
              · unfold ys_teI
                refine fm_tr ?_ fm_po
                unfold ys_teS
                split
                · exact fm_rf
                · split
                  · exact fm_rf
                  · exact fm_iu (by decide) fm_rf
              · unfold ys_noI
                split
                · exact fm_ho _ _ _ (fm_iu (by decide) fm_rf)
                · split
                  · exact fm_rf
                  · exact fm_ho _ _ _ (fm_iu (by decide) fm_rf)
theorem fmJ_aJ {nd q kp : Nat} : fmJ J (ys_aJ I J nd q kp) := by
  unfold ys_aJ
  split
  · unfold ys_fdJ
    split
    · exact fmJ_ju (by decide) fmJ_rf
    · split
      · exact fmJ_ju (by decide) fmJ_po
      · split
        · exact fmJ_ju (by decide) fmJ_po
        · exact fmJ_ju (by decide) fmJ_po
  · split
    · exact fmJ_rf
    · split
      · exact fmJ_rf
      · split
        · exact fmJ_ju (by decide) fmJ_po
        · split
          · exact fmJ_ju (by decide) fmJ_rf
          · split
            · exact fmJ_ju (by decide) fmJ_po
            · split
              · exact fmJ_po
              · exact fmJ_rf
theorem fm_ar {kn : Nat} : fm I (ys_arI I J kn) ∧ fmJ J (ys_arJ I J kn) := ⟨fm_tr fm_tk fm_aI, fmJ_tr fmJ_tk fmJ_aJ⟩
theorem fm_dl {x : Int32} : fm I (ys_dlI I J x) ∧ fmJ J (ys_dlJ I J x) := by
  unfold ys_dlI ys_dlJ
  split
  · exact ⟨fm_rf, fmJ_rf⟩
  · split
    · exact fm_ar
    · exact ⟨fm_rf, fmJ_rf⟩
theorem fm_pu : ∀ (n c : Nat) (A : nf_I) (E : nf_J), fm I A → fmJ J E → fm I (ys_pu n c A E).2.1 ∧ fmJ J (ys_pu n c A E).2.2
  | 0, _, A, E, h1, h2 => ⟨h1, h2⟩
  | n + 1, c, A, E, h1, h2 => by
    unfold ys_pu
    split
    · exact ⟨h1, h2⟩
    · exact fm_pu n (c + 1) _ _ (fm_tr h1 fm_ar.1) (fmJ_tr h2 fm_ar.2)
theorem fm_puI {x : Int32} : fm I (ys_puI I J x) ∧ fmJ J (ys_puJ I J x) := by
  unfold ys_puI ys_puJ
  split
  · exact ⟨fm_rf, fmJ_rf⟩
  · split
    · exact fm_pu _ _ _ _ fm_rf fmJ_rf
    · exact ⟨fm_rf, fmJ_rf⟩
end FR
section FS
variable {I I' : nf_I} {J J' : nf_J} {mp : Nat → Nat} {U U' : nf_I} {V V' : nf_J} {nn kc sz kp : Nat} {dd : Nat → Nat}
theorem rl_cgm (h : rl_all I J mp U V nn kc sz kp dd) (hU : fc U U') (hV : fcJ V V') : rl_all I J mp U' V' nn kc sz kp dd := by
  obtain ⟨⟨n4, n5, n6, n7, n8, n9, n10, n11⟩, hmp, hi, hn, hp, hk, he, hms⟩ := h
  refine ⟨⟨n4, n5, n6, n7, by rw [hU 20 0 0 (by decide)]; exact n8, by rw [hU 20 0 7 (by decide)]; exact n9, by rw [hU 20 0 11 (by decide)]; exact n10, by rw [hU 20 0 13 (by decide)]; exact n11⟩, hmp, hi, ?_, hp, ?_, ?_, fun j hj => ?_⟩
  · exact rg_nodes hn (fun _ _ _ => rfl) (fun _ _ _ => rfl) (fun _ _ => rfl) (fun a c h1 h2 => hU a 0 c (by omega)) (fun c => hV 25 0 c (by decide))
  · exact rg_keys hk (fun _ _ => rfl) (fun j _ => hU 30 0 j (by decide))
  · exact rg_ent he (fun _ _ => rfl) (fun _ _ _ => rfl) (fun a q h1 h2 => hU a 0 q (by omega))
  · exact rg_msg (hms j hj) (fun _ => rfl) rfl (fun a h1 h2 => hU a 0 j (by omega)) (hV 38 0 j (by decide)) (fun _ z => z) (fun _ z => z) (fun s hs => ⟨hs, rfl⟩)
theorem rl_cgc (h : rl_all I J mp U V nn kc sz kp dd) (hI : fm I I') (hJ : fmJ J J') : rl_all I' J' mp U V nn kc sz kp dd := by
  obtain ⟨⟨n4, n5, n6, n7, n8, n9, n10, n11⟩, hmp, hi, hn, hp, hk, he, hms⟩ := h
  refine ⟨⟨n4, by rw [hI 0 0 1 (by decide)]; exact n5, by rw [hI 0 0 3 (by decide)]; exact n6, by rw [hI 3 0 1 (by decide)]; exact n7, n8, n9, n10, n11⟩, hmp, ?_, ?_, ?_, ?_, ?_, fun j hj => ?_⟩
  · exact rg_ids hi (fun i _ => hI 5 i 0 (by decide))
  · exact rg_nodes hn (fun i c _ => hI 5 i c (by decide)) (fun i c _ => hI 6 i c (by decide)) (fun i _ => hJ 5 i 5 (by decide)) (fun _ _ _ _ => rfl) (fun _ => rfl)
  · exact rg_ptr hp (fun i c _ => hI 5 i c (by decide)) (fun i c _ => hI 6 i c (by decide))
  · exact rg_keys hk (fun j _ => hI 2 0 j (by decide)) (fun _ _ => rfl)
  · exact rg_ent he (fun j _ => hI 2 0 j (by decide)) (fun i s _ => hJ 7 i s (by decide)) (fun _ _ _ _ => rfl)
  · exact rg_msg (hms j hj) (fun c => hI 8 _ c (by decide)) (hJ 8 _ 8 (by decide)) (fun _ _ _ => rfl) rfl (rg_mb (fun i _ hh => by rw [hI 5 i 1 (by decide)]; exact hh)) (fun _ z => z) (fun s hs => ⟨hs, hI 2 0 s (by decide)⟩)
/-- one memory: the class goes, then the model -/
theorem rl_one {A : nf_I} {E : nf_J} {B : nf_I} {F : nf_J} {mp' : Nat → Nat} {nn' kc' sz' kp' : Nat} {dd' : Nat → Nat} (h : rl_all A E mp' B F nn' kc' sz' kp' dd') (h1 : fm A B) (h2 : fmJ E F) : rl_all B F mp' B F nn' kc' sz' kp' dd' := rl_cgc h h1 h2
end FS
