theorem pk_drop {w : Cond} : ∀ (n : Nat) (l : List Cond), w ∈ l.drop n → w ∈ l := fun _ _ h => List.mem_of_mem_drop h
def pk : List Nat → List Cond → List Cond
  | [], _ => []
  | g :: gs, l => match l.drop g with
    | [] => []
    | w :: r => w :: pk gs r
theorem pk_mem {w : Cond} : ∀ (gs : List Nat) (l : List Cond), w ∈ pk gs l → w ∈ l
  | [], _, h => by cases h
  | g :: gs, l, h => by
    unfold pk at h
    split at h
    · cases h
    · rename_i w0 r e
      rcases List.mem_cons.mp h with rfl | h
      · exact List.mem_of_mem_drop (by rw [e]; exact List.mem_cons_self)
      · exact List.mem_of_mem_drop (by rw [e]; exact List.mem_cons_of_mem _ (pk_mem gs r h))
theorem goodIn_k {big : List Cond} (ws : List Cond) (gs : List (List Nat)) (hp : ws = gs.flatMap (fun g => pk g big)) (h : ws.all goodWord = true) : GoodIn big ws := by
  intro w hw
  have h1 := List.all_eq_true.mp h w hw
  rw [hp] at hw
  obtain ⟨g, -, hi⟩ := List.mem_flatMap.mp hw
  exact ⟨pk_mem g big hi, good_of_word h1⟩
