/-! ===== laid by program (wip/tools) ===== -/
/-- what a spot is as a number -/
theorem spot_n {x s l d : Nat} (hx : x < 6) (hs : s < 6) (hl : l < 4) (hd : d < 4) : (spotV (nI x) (nI s) (nI l) (nI d)).toNatClampNeg = 16 * (6 * x + s) + 4 * l + d := by
  unfold spotV
  rw [show (6 : Int32) * nI x = nI (6 * x) from pk_mul 6 x, nI_add, show (16 : Int32) * nI (6 * x + s) = nI (16 * (6 * x + s)) from pk_mul 16 _, show (4 : Int32) * nI l = nI (4 * l) from pk_mul 4 l, nI_add, nI_add]
  exact nI_clamp (by omega)
/-- all spots below B hold what is said -/
def TabP (val : Nat → Nat → Nat → Nat → Int32) (B : Nat) (V : Nat → Int32) : Prop := ∀ x s l d, x < 6 → s < 6 → l < (if s = 0 then 1 else 4) → d < 4 → 16 * (6 * x + s) + 4 * l + d < B → V (16 * (6 * x + s) + 4 * l + d) = val x s l d
theorem TabP.step {val : Nat → Nat → Nat → Nat → Int32} {V : Nat → Int32} {x s l d : Nat} (hx : x < 6) (hs : s < 6) (hl : l < 4) (hd : d < 4) (h : TabP val (16 * (6 * x + s) + 4 * l + d) V) : TabP val (16 * (6 * x + s) + 4 * l + d + 1) (upd V (16 * (6 * x + s) + 4 * l + d) (val x s l d)) := by
  intro x' s' l' d' hx' hs' hl' hd' hB
  have hl4 : l' < 4 := by split at hl' <;> omega
  by_cases e : 16 * (6 * x' + s') + 4 * l' + d' = 16 * (6 * x + s) + 4 * l + d
  · obtain ⟨rfl, rfl, rfl, rfl⟩ : x' = x ∧ s' = s ∧ l' = l ∧ d' = d := by omega
    exact pk_us
  · rw [pk_un e]
    exact h x' s' l' d' hx' hs' hl' hd' (by omega)
theorem TabP.less {val : Nat → Nat → Nat → Nat → Int32} {V : Nat → Int32} {A B : Nat} (h : TabP val A V) (hAB : ∀ x s l d, x < 6 → s < 6 → l < (if s = 0 then 1 else 4) → d < 4 → 16 * (6 * x + s) + 4 * l + d < B → 16 * (6 * x + s) + 4 * l + d < A) : TabP val B V := fun x s l d hx hs hl hd hB => h x s l d hx hs hl hd (hAB x s l d hx hs hl hd hB)
def valX (a : Nat → Nat → Int32) (t : Nat) (age : Int32) (x s l d : Nat) : Int32 := sayV a t age (nI x) (nI s) (nI d) (nI l)
theorem tab3_P {a : Nat → Nat → Int32} {t : Nat} {age : Int32} {x s l : Nat} (hx : x < 6) (hs : s < 6) (hl : l < 4) {V : Nat → Int32} (h : TabP (valX a t age) (16 * (6 * x + s) + 4 * l) V) : TabP (valX a t age) (16 * (6 * x + s) + 4 * l + 4) (tab3 a t age x s l V) := by
  unfold tab3
  refine it_inv (P := fun k V => TabP (valX a t age) (16 * (6 * x + s) + 4 * l + k) V) h 4 (fun d V hd hP => ?_)
  unfold tab4
  rw [spot_n hx hs hl hd]
  exact hP.step hx hs hl hd
theorem tab2_P {a : Nat → Nat → Int32} {t : Nat} {age : Int32} {x s : Nat} (hx : x < 6) (hs : s < 6) {V : Nat → Int32} (h : TabP (valX a t age) (16 * (6 * x + s)) V) : TabP (valX a t age) (16 * (6 * x + (s + 1))) (tab2 a t age x s V) := by
  unfold tab2
  have hN : (if s = 0 then 1 else 4) ≤ 4 := la4 s
  have := it_inv (f := tab3 a t age x s) (a := V) (P := fun k V => TabP (valX a t age) (16 * (6 * x + s) + 4 * k) V) h (if s = 0 then 1 else 4) (fun l V hl hP => tab3_P hx hs (by omega) hP)
  refine this.less (fun x' s' l' d' hx' hs' hl' hd' hB => ?_)
  by_cases e : s = 0
  · rw [if_pos e]
    by_cases e2 : x' = x ∧ s' = s
    · rw [if_pos (by omega)] at hl'
      omega
    · split at hl' <;> omega
  · rw [if_neg e]
    omega
theorem tab1_P {a : Nat → Nat → Int32} {t : Nat} {age : Int32} {x : Nat} (hx : x < 6) {V : Nat → Int32} (h : TabP (valX a t age) (96 * x) V) : TabP (valX a t age) (96 * (x + 1)) (tab1 a t age x V) := by
  unfold tab1
  have := it_inv (f := tab2 a t age x) (a := V) (P := fun k V => TabP (valX a t age) (16 * (6 * x + k)) V) (by rw [show 16 * (6 * x + 0) = 96 * x by omega]; exact h) 6 (fun s V hs hP => tab2_P hx hs hP)
  rw [show 16 * (6 * x + 6) = 96 * (x + 1) by omega] at this
  exact this
theorem tabV_P {a : Nat → Nat → Int32} {t : Nat} {age : Int32} {m : Nat} (hm : m ≤ 6) (r7 : Nat → Int32) : TabP (valX a t age) (96 * m) (tabV a t age m r7) := by
  unfold tabV
  exact it_inv (P := fun k V => TabP (valX a t age) (96 * k) V) (fun x s l d _ _ _ _ hB => absurd hB (by omega)) m (fun x V hx hP => tab1_P (by omega) hP)
/-- what one says of a step of a life -/
def sayL (a : Nat → Nat → Int32) (t : Nat) (age : Int32) (x s : Nat) (l : Int32) : Int32 := sayV a t age (nI x) (nI s) (doV l (nI s)) (lastV l (nI s))
theorem byV_eq {a : Nat → Nat → Int32} {t : Nat} {age : Int32} {m : Nat} (hm : m ≤ 6) {T : Nat → Int32} (hT : TabP (valX a t age) (96 * m) T) {x s : Nat} (hx : x < m) (hs : s < 6) (l : Int32) : byV T (nI x) (nI s) l = sayL a t age x s l := by
  obtain ⟨d, hd, h1⟩ := doV_lt l (nI s)
  have hp : ∃ p, p < (if s = 0 then 1 else 4) ∧ lastV l (nI s) = nI p := by
    by_cases e : s = 0
    · rw [if_pos e]
      exact ⟨0, by decide, by rw [e]; exact if_pos nI_0⟩
    · rw [if_neg e]
      exact lastV_lt l (nI s)
  obtain ⟨p, hp, h2⟩ := hp
  have hp4 : p < 4 := Nat.lt_of_lt_of_le hp (la4 s)
  unfold byV sayL
  rw [h1, h2, spot_n (by omega) hs hp4 hd]
  exact hT x s p d (by omega) hs hp hd (by omega)
theorem sameF_c {T T' : Nat → Int32} {x : Nat} {l now : Int32} (h : ∀ s, s < 6 → byV T (nI x) (nI s) l = byV T' (nI x) (nI s) l ∧ byV T (nI x) (nI s) now = byV T' (nI x) (nI s) now) : it (sameF T x l now) 6 1 = it (sameF T' x l now) 6 1 :=
  it_congr 6 (fun s v hs => by unfold sameF; rw [(h s hs).1, (h s hs).2])
theorem gatV_at {a : Nat → Nat → Int32} {t : Nat} {age : Int32} {m : Nat} {r7 r8 : Nat → Int32} {l : Nat} (hl : l < 4096) : gatV a t age m r7 r8 l = it (setF (tabV a t age m r7) (nI l) (lifeV (a 4))) m 0 := by
  show it (gatF (tabV a t age m r7) m (lifeV (a 4))) 4096 r8 l = _
  have : ∀ n, n ≤ 4096 → ∀ l, l < n → it (gatF (tabV a t age m r7) m (lifeV (a 4))) n r8 l = it (setF (tabV a t age m r7) (nI l) (lifeV (a 4))) m 0 := by
    intro n
    induction n with
    | zero => intro _ l hl; exact absurd hl (Nat.not_lt_zero l)
    | succ n ih =>
      intro hn l hl
      rw [it_succ]
      show upd _ (nI n).toNatClampNeg _ l = _
      rw [nI_clamp (by omega)]
      by_cases e : l = n
      · rw [e, pk_us]
      · rw [pk_un e]; exact ih (by omega) l (by omega)
  exact this 4096 (Nat.le_refl _) l hl
def z0 : Nat → Int32 := fun _ => 0
/-- whom each life agrees with, old rows forgotten -/
theorem gat_ind {a : Nat → Nat → Int32} {t : Nat} {age : Int32} {m : Nat} (hm : m ≤ 6) (r7 r8 : Nat → Int32) {l : Nat} (hl : l < 4096) : gatV a t age m r7 r8 l = gatV a t age m z0 z0 l := by
  rw [gatV_at hl, gatV_at hl]
  refine it_congr m (fun x v hx => ?_)
  unfold setF
  rw [sameF_c (fun s hs => ?_)]
  exact ⟨by rw [byV_eq hm (tabV_P hm r7) hx hs, byV_eq hm (tabV_P hm z0) hx hs], by rw [byV_eq hm (tabV_P hm r7) hx hs, byV_eq hm (tabV_P hm z0) hx hs]⟩
theorem livV_c {R R' : Nat → Int32} {set : Int32} (h : ∀ l, l < 4096 → R l = R' l) : livV R set = livV R' set :=
  it_congr 4096 (fun l v hl => by unfold livF; rw [nI_clamp (by omega), h l hl])
theorem canV_c {R R' : Nat → Int32} {s set : Int32} (h : ∀ l, l < 4096 → R l = R' l) : canV R s set = canV R' s set :=
  it_congr 4096 (fun l v hl => by unfold canF; rw [nI_clamp (by omega), h l hl])
theorem sureV_c {R R' : Nat → Int32} {set : Int32} (h : ∀ l, l < 4096 → R l = R' l) : sureV R set = sureV R' set :=
  it_congr 6 (fun s v _ => by unfold sureF; rw [canV_c h])
def gat0 (a : Nat → Nat → Int32) (t : Nat) (age : Int32) (m : Nat) : Nat → Int32 := gatV a t age m z0 z0
theorem sure0 {a : Nat → Nat → Int32} {t : Nat} {age : Int32} {m : Nat} (hm : m ≤ 6) (r7 r8 : Nat → Int32) (set : Int32) : sureV (gatV a t age m r7 r8) set = sureV (gat0 a t age m) set := sureV_c (fun _ hl => gat_ind hm r7 r8 hl)
theorem liv0 {a : Nat → Nat → Int32} {t : Nat} {age : Int32} {m : Nat} (hm : m ≤ 6) (r7 r8 : Nat → Int32) (set : Int32) : livV (gatV a t age m r7 r8) set = livV (gat0 a t age m) set := livV_c (fun _ hl => gat_ind hm r7 r8 hl)
