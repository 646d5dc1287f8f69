theorem lw_Zs {args : Array Value} {s : State} {G : th_G} (hG : G.2.2 = s.heap.size) (hts : ∀ w ∈ lw_tbl, w.before args s = true) (hn : narrow_1.before args s = true) : th_Z G s s.heap := by
  have ht : ∀ w ∈ th_tb, w.before args s = true := fun w hw => hts w (List.mem_filter.mp hw).1
  have hA : ∀ a : Nat, a < s.heap.size → ¬ G.2.2 ≤ a := fun a ha => by omega
  refine ⟨lw_zc hA (hts _ kw_619) (ht _ kw_16) (cb_r (cb_r (cb_l (cb_l (cb_l (cb_l (cb_l (cb_l hn)))))))) (hts _ kw_635) (ht _ kw_18) (cb_l (cb_l (cb_r (cb_l (cb_l (cb_l (cb_l (cb_l hn)))))))), ?_⟩
  have z94 : ∃ q : Nat, th_Zq G q [99, 111, 115, 116, 115] s s.heap ∧ vk_R RX5 94 "costs" q s := by
    refine lw_zq hA [99, 111, 115, 116, 115] (by decide) (hts _ kw_605) (cb_l (cb_l (cb_r (cb_l (cb_l (cb_r (cb_l (cb_l hn)))))))) (cb_r (cb_l (cb_r (cb_l (cb_l (cb_r (cb_l (cb_l hn)))))))) (cb_l (cb_r (cb_r (cb_l (cb_l (cb_r (cb_l (cb_l hn)))))))) (cb_r (cb_r (cb_r (cb_l (cb_l (cb_r (cb_l (cb_l hn)))))))) (fun j hj => ?_)
    match j, hj with
    | 0, _ => exact (cb_l (cb_l (cb_l (cb_r (cb_l (cb_r (cb_l (cb_l hn))))))))
    | 1, _ => exact (cb_r (cb_l (cb_l (cb_r (cb_l (cb_r (cb_l (cb_l hn))))))))
    | 2, _ => exact (cb_l (cb_r (cb_l (cb_r (cb_l (cb_r (cb_l (cb_l hn))))))))
    | 3, _ => exact (cb_r (cb_r (cb_l (cb_r (cb_l (cb_r (cb_l (cb_l hn))))))))
    | 4, _ => exact (cb_l (cb_l (cb_r (cb_r (cb_l (cb_r (cb_l (cb_l hn))))))))
    | j + 5, hj => exact absurd (show j + 5 < 5 from hj) (by omega)
  have z100 : ∃ q : Nat, th_Zq G q [119, 101, 97, 114, 115] s s.heap ∧ vk_R RX5 100 "wears" q s := by
    refine lw_zq hA [119, 101, 97, 114, 115] (by decide) (hts _ kw_658) (cb_r (cb_l (cb_r (cb_r (cb_l (cb_r (cb_l (cb_l hn)))))))) (cb_l (cb_r (cb_r (cb_r (cb_l (cb_r (cb_l (cb_l hn)))))))) (cb_r (cb_r (cb_r (cb_r (cb_l (cb_r (cb_l (cb_l hn)))))))) (cb_l (cb_l (cb_l (cb_r (cb_r (cb_l (cb_l hn))))))) (fun j hj => ?_)
    match j, hj with
    | 0, _ => exact (cb_l (cb_r (cb_l (cb_l (cb_r (cb_r (cb_l (cb_l hn))))))))
    | 1, _ => exact (cb_r (cb_r (cb_l (cb_l (cb_r (cb_r (cb_l (cb_l hn))))))))
    | 2, _ => exact (cb_l (cb_l (cb_r (cb_l (cb_r (cb_r (cb_l (cb_l hn))))))))
    | 3, _ => exact (cb_r (cb_l (cb_r (cb_l (cb_r (cb_r (cb_l (cb_l hn))))))))
    | 4, _ => exact (cb_l (cb_r (cb_r (cb_l (cb_r (cb_r (cb_l (cb_l hn))))))))
    | j + 5, hj => exact absurd (show j + 5 < 5 from hj) (by omega)
  have z102 : ∃ q : Nat, th_Zq G q [98, 97, 114, 115] s s.heap ∧ vk_R RX5 102 "bars" q s := by
    refine lw_zq hA [98, 97, 114, 115] (by decide) (hts _ kw_659) (cb_r (cb_r (cb_r (cb_l (cb_r (cb_r (cb_l (cb_l hn)))))))) (cb_l (cb_l (cb_l (cb_r (cb_r (cb_r (cb_l (cb_l hn)))))))) (cb_r (cb_l (cb_l (cb_r (cb_r (cb_r (cb_l (cb_l hn)))))))) (cb_l (cb_r (cb_l (cb_r (cb_r (cb_r (cb_l (cb_l hn)))))))) (fun j hj => ?_)
    match j, hj with
    | 0, _ => exact (cb_r (cb_r (cb_l (cb_r (cb_r (cb_r (cb_l (cb_l hn))))))))
    | 1, _ => exact (cb_l (cb_l (cb_r (cb_r (cb_r (cb_r (cb_l (cb_l hn))))))))
    | 2, _ => exact (cb_r (cb_l (cb_r (cb_r (cb_r (cb_r (cb_l (cb_l hn))))))))
    | 3, _ => exact (cb_l (cb_r (cb_r (cb_r (cb_r (cb_r (cb_l (cb_l hn))))))))
    | j + 4, hj => exact absurd (show j + 4 < 4 from hj) (by omega)
  have z104 : ∃ q : Nat, th_Zq G q [108, 97, 121] s s.heap ∧ vk_R RX5 104 "lay" q s := by
    refine lw_zq hA [108, 97, 121] (by decide) (hts _ kw_660) (cb_r (cb_r (cb_r (cb_r (cb_r (cb_r (cb_l (cb_l hn)))))))) (cb_l (cb_l (cb_l (cb_l (cb_l (cb_r (cb_l hn))))))) (cb_l (cb_r (cb_l (cb_l (cb_l (cb_l (cb_r (cb_l hn)))))))) (cb_r (cb_r (cb_l (cb_l (cb_l (cb_l (cb_r (cb_l hn)))))))) (fun j hj => ?_)
    match j, hj with
    | 0, _ => exact (cb_l (cb_l (cb_r (cb_l (cb_l (cb_l (cb_r (cb_l hn))))))))
    | 1, _ => exact (cb_r (cb_l (cb_r (cb_l (cb_l (cb_l (cb_r (cb_l hn))))))))
    | 2, _ => exact (cb_l (cb_r (cb_r (cb_l (cb_l (cb_l (cb_r (cb_l hn))))))))
    | j + 3, hj => exact absurd (show j + 3 < 3 from hj) (by omega)
  have z106 : ∃ q : Nat, th_Zq G q [114, 111, 108, 108] s s.heap ∧ vk_R RX5 106 "roll" q s := by
    refine lw_zq hA [114, 111, 108, 108] (by decide) (hts _ kw_661) (cb_r (cb_r (cb_r (cb_l (cb_l (cb_l (cb_r (cb_l hn)))))))) (cb_l (cb_l (cb_l (cb_r (cb_l (cb_l (cb_r (cb_l hn)))))))) (cb_r (cb_l (cb_l (cb_r (cb_l (cb_l (cb_r (cb_l hn)))))))) (cb_l (cb_r (cb_l (cb_r (cb_l (cb_l (cb_r (cb_l hn)))))))) (fun j hj => ?_)
    match j, hj with
    | 0, _ => exact (cb_r (cb_r (cb_l (cb_r (cb_l (cb_l (cb_r (cb_l hn))))))))
    | 1, _ => exact (cb_l (cb_l (cb_r (cb_r (cb_l (cb_l (cb_r (cb_l hn))))))))
    | 2, _ => exact (cb_r (cb_l (cb_r (cb_r (cb_l (cb_l (cb_r (cb_l hn))))))))
    | 3, _ => exact (cb_l (cb_r (cb_r (cb_r (cb_l (cb_l (cb_r (cb_l hn))))))))
    | j + 4, hj => exact absurd (show j + 4 < 4 from hj) (by omega)
  have z108 : ∃ q : Nat, th_Zq G q [109, 105, 114, 114, 111, 114] s s.heap ∧ vk_R RX5 108 "mirror" q s := by
    refine lw_zq hA [109, 105, 114, 114, 111, 114] (by decide) (hts _ kw_662) (cb_r (cb_r (cb_r (cb_r (cb_l (cb_l (cb_r (cb_l hn)))))))) (cb_l (cb_l (cb_l (cb_r (cb_l (cb_r (cb_l hn))))))) (cb_l (cb_r (cb_l (cb_l (cb_r (cb_l (cb_r (cb_l hn)))))))) (cb_r (cb_r (cb_l (cb_l (cb_r (cb_l (cb_r (cb_l hn)))))))) (fun j hj => ?_)
    match j, hj with
    | 0, _ => exact (cb_l (cb_l (cb_r (cb_l (cb_r (cb_l (cb_r (cb_l hn))))))))
    | 1, _ => exact (cb_r (cb_l (cb_r (cb_l (cb_r (cb_l (cb_r (cb_l hn))))))))
    | 2, _ => exact (cb_l (cb_r (cb_r (cb_l (cb_r (cb_l (cb_r (cb_l hn))))))))
    | 3, _ => exact (cb_r (cb_r (cb_r (cb_l (cb_r (cb_l (cb_r (cb_l hn))))))))
    | 4, _ => exact (cb_l (cb_l (cb_l (cb_r (cb_r (cb_l (cb_r (cb_l hn))))))))
    | 5, _ => exact (cb_r (cb_l (cb_l (cb_r (cb_r (cb_l (cb_r (cb_l hn))))))))
    | j + 6, hj => exact absurd (show j + 6 < 6 from hj) (by omega)
  have z110 : ∃ q : Nat, th_Zq G q [112, 97, 115, 115] s s.heap ∧ vk_R RX5 110 "pass" q s := by
    refine lw_zq hA [112, 97, 115, 115] (by decide) (hts _ kw_663) (cb_l (cb_r (cb_l (cb_r (cb_r (cb_l (cb_r (cb_l hn)))))))) (cb_r (cb_r (cb_l (cb_r (cb_r (cb_l (cb_r (cb_l hn)))))))) (cb_l (cb_l (cb_r (cb_r (cb_r (cb_l (cb_r (cb_l hn)))))))) (cb_r (cb_l (cb_r (cb_r (cb_r (cb_l (cb_r (cb_l hn)))))))) (fun j hj => ?_)
    match j, hj with
    | 0, _ => exact (cb_l (cb_r (cb_r (cb_r (cb_r (cb_l (cb_r (cb_l hn))))))))
    | 1, _ => exact (cb_r (cb_r (cb_r (cb_r (cb_r (cb_l (cb_r (cb_l hn))))))))
    | 2, _ => exact (cb_l (cb_l (cb_l (cb_l (cb_r (cb_r (cb_l hn)))))))
    | 3, _ => exact (cb_l (cb_r (cb_l (cb_l (cb_l (cb_r (cb_r (cb_l hn))))))))
    | j + 4, hj => exact absurd (show j + 4 < 4 from hj) (by omega)
  have z112 : ∃ q : Nat, th_Zq G q [105, 102] s s.heap ∧ vk_R RX5 112 "if" q s := by
    refine lw_zq hA [105, 102] (by decide) (hts _ kw_664) (cb_r (cb_r (cb_l (cb_l (cb_l (cb_r (cb_r (cb_l hn)))))))) (cb_l (cb_l (cb_r (cb_l (cb_l (cb_r (cb_r (cb_l hn)))))))) (cb_r (cb_l (cb_r (cb_l (cb_l (cb_r (cb_r (cb_l hn)))))))) (cb_l (cb_r (cb_r (cb_l (cb_l (cb_r (cb_r (cb_l hn)))))))) (fun j hj => ?_)
    match j, hj with
    | 0, _ => exact (cb_r (cb_r (cb_r (cb_l (cb_l (cb_r (cb_r (cb_l hn))))))))
    | 1, _ => exact (cb_l (cb_l (cb_l (cb_r (cb_l (cb_r (cb_r (cb_l hn))))))))
    | j + 2, hj => exact absurd (show j + 2 < 2 from hj) (by omega)
  have z114 : ∃ q : Nat, th_Zq G q [116, 105, 109, 101, 115] s s.heap ∧ vk_R RX5 114 "times" q s := by
    refine lw_zq hA [116, 105, 109, 101, 115] (by decide) (hts _ kw_665) (cb_r (cb_l (cb_l (cb_r (cb_l (cb_r (cb_r (cb_l hn)))))))) (cb_l (cb_r (cb_l (cb_r (cb_l (cb_r (cb_r (cb_l hn)))))))) (cb_r (cb_r (cb_l (cb_r (cb_l (cb_r (cb_r (cb_l hn)))))))) (cb_l (cb_l (cb_r (cb_r (cb_l (cb_r (cb_r (cb_l hn)))))))) (fun j hj => ?_)
    match j, hj with
    | 0, _ => exact (cb_r (cb_l (cb_r (cb_r (cb_l (cb_r (cb_r (cb_l hn))))))))
    | 1, _ => exact (cb_l (cb_r (cb_r (cb_r (cb_l (cb_r (cb_r (cb_l hn))))))))
    | 2, _ => exact (cb_r (cb_r (cb_r (cb_r (cb_l (cb_r (cb_r (cb_l hn))))))))
    | 3, _ => exact (cb_l (cb_l (cb_l (cb_r (cb_r (cb_r (cb_l hn)))))))
    | 4, _ => exact (cb_l (cb_r (cb_l (cb_l (cb_r (cb_r (cb_r (cb_l hn))))))))
    | j + 5, hj => exact absurd (show j + 5 < 5 from hj) (by omega)
  have z116 : ∃ q : Nat, th_Zq G q [97, 116] s s.heap ∧ vk_R RX5 116 "at" q s := by
    refine lw_zq hA [97, 116] (by decide) (hts _ kw_666) (cb_r (cb_r (cb_l (cb_l (cb_r (cb_r (cb_r (cb_l hn)))))))) (cb_l (cb_l (cb_r (cb_l (cb_r (cb_r (cb_r (cb_l hn)))))))) (cb_r (cb_l (cb_r (cb_l (cb_r (cb_r (cb_r (cb_l hn)))))))) (cb_l (cb_r (cb_r (cb_l (cb_r (cb_r (cb_r (cb_l hn)))))))) (fun j hj => ?_)
    match j, hj with
    | 0, _ => exact (cb_r (cb_r (cb_r (cb_l (cb_r (cb_r (cb_r (cb_l hn))))))))
    | 1, _ => exact (cb_l (cb_l (cb_l (cb_r (cb_r (cb_r (cb_r (cb_l hn))))))))
    | j + 2, hj => exact absurd (show j + 2 < 2 from hj) (by omega)
  have z117 : ∃ q : Nat, th_Zq G q [98, 121] s s.heap ∧ vk_R RX5 117 "by" q s := by
    refine lw_zq hA [98, 121] (by decide) (hts _ kw_667) (cb_r (cb_l (cb_l (cb_r (cb_r (cb_r (cb_r (cb_l hn)))))))) (cb_l (cb_r (cb_l (cb_r (cb_r (cb_r (cb_r (cb_l hn)))))))) (cb_r (cb_r (cb_l (cb_r (cb_r (cb_r (cb_r (cb_l hn)))))))) (cb_l (cb_l (cb_r (cb_r (cb_r (cb_r (cb_r (cb_l hn)))))))) (fun j hj => ?_)
    match j, hj with
    | 0, _ => exact (cb_r (cb_l (cb_r (cb_r (cb_r (cb_r (cb_r (cb_l hn))))))))
    | 1, _ => exact (cb_l (cb_r (cb_r (cb_r (cb_r (cb_r (cb_r (cb_l hn))))))))
    | j + 2, hj => exact absurd (show j + 2 < 2 from hj) (by omega)
  have z119 : ∃ q : Nat, th_Zq G q [111, 114] s s.heap ∧ vk_R RX5 119 "or" q s := by
    refine lw_zq hA [111, 114] (by decide) (hts _ kw_668) (cb_r (cb_r (cb_r (cb_r (cb_r (cb_r (cb_r (cb_l hn)))))))) (cb_l (cb_l (cb_l (cb_l (cb_l (cb_l (cb_r hn))))))) (cb_l (cb_r (cb_l (cb_l (cb_l (cb_l (cb_l (cb_r hn)))))))) (cb_r (cb_r (cb_l (cb_l (cb_l (cb_l (cb_l (cb_r hn)))))))) (fun j hj => ?_)
    match j, hj with
    | 0, _ => exact (cb_l (cb_l (cb_r (cb_l (cb_l (cb_l (cb_l (cb_r hn))))))))
    | 1, _ => exact (cb_r (cb_l (cb_r (cb_l (cb_l (cb_l (cb_l (cb_r hn))))))))
    | j + 2, hj => exact absurd (show j + 2 < 2 from hj) (by omega)
  have z121 : ∃ q : Nat, th_Zq G q [97, 110, 100] s s.heap ∧ vk_R RX5 121 "and" q s := by
    refine lw_zq hA [97, 110, 100] (by decide) (hts _ kw_669) (cb_l (cb_r (cb_r (cb_l (cb_l (cb_l (cb_l (cb_r hn)))))))) (cb_r (cb_r (cb_r (cb_l (cb_l (cb_l (cb_l (cb_r hn)))))))) (cb_l (cb_l (cb_l (cb_r (cb_l (cb_l (cb_l (cb_r hn)))))))) (cb_r (cb_l (cb_l (cb_r (cb_l (cb_l (cb_l (cb_r hn)))))))) (fun j hj => ?_)
    match j, hj with
    | 0, _ => exact (cb_l (cb_r (cb_l (cb_r (cb_l (cb_l (cb_l (cb_r hn))))))))
    | 1, _ => exact (cb_r (cb_r (cb_l (cb_r (cb_l (cb_l (cb_l (cb_r hn))))))))
    | 2, _ => exact (cb_l (cb_l (cb_r (cb_r (cb_l (cb_l (cb_l (cb_r hn))))))))
    | j + 3, hj => exact absurd (show j + 3 < 3 from hj) (by omega)
  have z123 : ∃ q : Nat, th_Zq G q [110, 111, 116] s s.heap ∧ vk_R RX5 123 "not" q s := by
    refine lw_zq hA [110, 111, 116] (by decide) (hts _ kw_670) (cb_r (cb_l (cb_r (cb_r (cb_l (cb_l (cb_l (cb_r hn)))))))) (cb_l (cb_r (cb_r (cb_r (cb_l (cb_l (cb_l (cb_r hn)))))))) (cb_r (cb_r (cb_r (cb_r (cb_l (cb_l (cb_l (cb_r hn)))))))) (cb_l (cb_l (cb_l (cb_r (cb_l (cb_l (cb_r hn))))))) (fun j hj => ?_)
    match j, hj with
    | 0, _ => exact (cb_l (cb_r (cb_l (cb_l (cb_r (cb_l (cb_l (cb_r hn))))))))
    | 1, _ => exact (cb_r (cb_r (cb_l (cb_l (cb_r (cb_l (cb_l (cb_r hn))))))))
    | 2, _ => exact (cb_l (cb_l (cb_r (cb_l (cb_r (cb_l (cb_l (cb_r hn))))))))
    | j + 3, hj => exact absurd (show j + 3 < 3 from hj) (by omega)
  have z125 : ∃ q : Nat, th_Zq G q [99, 97, 114, 112, 101, 116] s s.heap ∧ vk_R RX5 125 "carpet" q s := by
    refine lw_zq hA [99, 97, 114, 112, 101, 116] (by decide) (hts _ kw_671) (cb_r (cb_l (cb_r (cb_l (cb_r (cb_l (cb_l (cb_r hn)))))))) (cb_l (cb_r (cb_r (cb_l (cb_r (cb_l (cb_l (cb_r hn)))))))) (cb_r (cb_r (cb_r (cb_l (cb_r (cb_l (cb_l (cb_r hn)))))))) (cb_l (cb_l (cb_l (cb_r (cb_r (cb_l (cb_l (cb_r hn)))))))) (fun j hj => ?_)
    match j, hj with
    | 0, _ => exact (cb_r (cb_l (cb_l (cb_r (cb_r (cb_l (cb_l (cb_r hn))))))))
    | 1, _ => exact (cb_l (cb_r (cb_l (cb_r (cb_r (cb_l (cb_l (cb_r hn))))))))
    | 2, _ => exact (cb_r (cb_r (cb_l (cb_r (cb_r (cb_l (cb_l (cb_r hn))))))))
    | 3, _ => exact (cb_l (cb_l (cb_r (cb_r (cb_r (cb_l (cb_l (cb_r hn))))))))
    | 4, _ => exact (cb_r (cb_l (cb_r (cb_r (cb_r (cb_l (cb_l (cb_r hn))))))))
    | 5, _ => exact (cb_l (cb_r (cb_r (cb_r (cb_r (cb_l (cb_l (cb_r hn))))))))
    | j + 6, hj => exact absurd (show j + 6 < 6 from hj) (by omega)
  have z127 : ∃ q : Nat, th_Zq G q [115, 105, 100, 101] s s.heap ∧ vk_R RX5 127 "side" q s := by
    refine lw_zq hA [115, 105, 100, 101] (by decide) (hts _ kw_672) (cb_r (cb_r (cb_r (cb_r (cb_r (cb_l (cb_l (cb_r hn)))))))) (cb_l (cb_l (cb_l (cb_l (cb_r (cb_l (cb_r hn))))))) (cb_l (cb_r (cb_l (cb_l (cb_l (cb_r (cb_l (cb_r hn)))))))) (cb_r (cb_r (cb_l (cb_l (cb_l (cb_r (cb_l (cb_r hn)))))))) (fun j hj => ?_)
    match j, hj with
    | 0, _ => exact (cb_l (cb_l (cb_r (cb_l (cb_l (cb_r (cb_l (cb_r hn))))))))
    | 1, _ => exact (cb_r (cb_l (cb_r (cb_l (cb_l (cb_r (cb_l (cb_r hn))))))))
    | 2, _ => exact (cb_l (cb_r (cb_r (cb_l (cb_l (cb_r (cb_l (cb_r hn))))))))
    | 3, _ => exact (cb_r (cb_r (cb_r (cb_l (cb_l (cb_r (cb_l (cb_r hn))))))))
    | j + 4, hj => exact absurd (show j + 4 < 4 from hj) (by omega)
  have z129 : ∃ q : Nat, th_Zq G q [107, 105, 110, 100] s s.heap ∧ vk_R RX5 129 "kind" q s := by
    refine lw_zq hA [107, 105, 110, 100] (by decide) (hts _ kw_673) (cb_l (cb_l (cb_l (cb_r (cb_l (cb_r (cb_l (cb_r hn)))))))) (cb_r (cb_l (cb_l (cb_r (cb_l (cb_r (cb_l (cb_r hn)))))))) (cb_l (cb_r (cb_l (cb_r (cb_l (cb_r (cb_l (cb_r hn)))))))) (cb_r (cb_r (cb_l (cb_r (cb_l (cb_r (cb_l (cb_r hn)))))))) (fun j hj => ?_)
    match j, hj with
    | 0, _ => exact (cb_l (cb_l (cb_r (cb_r (cb_l (cb_r (cb_l (cb_r hn))))))))
    | 1, _ => exact (cb_r (cb_l (cb_r (cb_r (cb_l (cb_r (cb_l (cb_r hn))))))))
    | 2, _ => exact (cb_l (cb_r (cb_r (cb_r (cb_l (cb_r (cb_l (cb_r hn))))))))
    | 3, _ => exact (cb_r (cb_r (cb_r (cb_r (cb_l (cb_r (cb_l (cb_r hn))))))))
    | j + 4, hj => exact absurd (show j + 4 < 4 from hj) (by omega)
  have z131 : ∃ q : Nat, th_Zq G q [112, 105, 108, 101] s s.heap ∧ vk_R RX5 131 "pile" q s := by
    refine lw_zq hA [112, 105, 108, 101] (by decide) (hts _ kw_674) (cb_l (cb_l (cb_l (cb_r (cb_r (cb_l (cb_r hn))))))) (cb_l (cb_r (cb_l (cb_l (cb_r (cb_r (cb_l (cb_r hn)))))))) (cb_r (cb_r (cb_l (cb_l (cb_r (cb_r (cb_l (cb_r hn)))))))) (cb_l (cb_l (cb_r (cb_l (cb_r (cb_r (cb_l (cb_r hn)))))))) (fun j hj => ?_)
    match j, hj with
    | 0, _ => exact (cb_r (cb_l (cb_r (cb_l (cb_r (cb_r (cb_l (cb_r hn))))))))
    | 1, _ => exact (cb_l (cb_r (cb_r (cb_l (cb_r (cb_r (cb_l (cb_r hn))))))))
    | 2, _ => exact (cb_r (cb_r (cb_r (cb_l (cb_r (cb_r (cb_l (cb_r hn))))))))
    | 3, _ => exact (cb_l (cb_l (cb_l (cb_r (cb_r (cb_r (cb_l (cb_r hn))))))))
    | j + 4, hj => exact absurd (show j + 4 < 4 from hj) (by omega)
  have z133 : ∃ q : Nat, th_Zq G q [120] s s.heap ∧ vk_R RX5 133 "x" q s := by
    refine lw_zq hA [120] (by decide) (hts _ kw_675) (cb_r (cb_l (cb_l (cb_r (cb_r (cb_r (cb_l (cb_r hn)))))))) (cb_l (cb_r (cb_l (cb_r (cb_r (cb_r (cb_l (cb_r hn)))))))) (cb_r (cb_r (cb_l (cb_r (cb_r (cb_r (cb_l (cb_r hn)))))))) (cb_l (cb_l (cb_r (cb_r (cb_r (cb_r (cb_l (cb_r hn)))))))) (fun j hj => ?_)
    match j, hj with
    | 0, _ => exact (cb_r (cb_l (cb_r (cb_r (cb_r (cb_r (cb_l (cb_r hn))))))))
    | j + 1, hj => exact absurd (show j + 1 < 1 from hj) (by omega)
  have z135 : ∃ q : Nat, th_Zq G q [121] s s.heap ∧ vk_R RX5 135 "y" q s := by
    refine lw_zq hA [121] (by decide) (hts _ kw_676) (cb_l (cb_r (cb_r (cb_r (cb_r (cb_r (cb_l (cb_r hn)))))))) (cb_r (cb_r (cb_r (cb_r (cb_r (cb_r (cb_l (cb_r hn)))))))) (cb_l (cb_l (cb_l (cb_l (cb_l (cb_r (cb_r hn))))))) (cb_l (cb_r (cb_l (cb_l (cb_l (cb_l (cb_r (cb_r hn)))))))) (fun j hj => ?_)
    match j, hj with
    | 0, _ => exact (cb_r (cb_r (cb_l (cb_l (cb_l (cb_l (cb_r (cb_r hn))))))))
    | j + 1, hj => exact absurd (show j + 1 < 1 from hj) (by omega)
  have z137 : ∃ q : Nat, th_Zq G q [121, 101, 97, 114] s s.heap ∧ vk_R RX5 137 "year" q s := by
    refine lw_zq hA [121, 101, 97, 114] (by decide) (hts _ kw_677) (cb_l (cb_l (cb_r (cb_l (cb_l (cb_l (cb_r (cb_r hn)))))))) (cb_r (cb_l (cb_r (cb_l (cb_l (cb_l (cb_r (cb_r hn)))))))) (cb_l (cb_r (cb_r (cb_l (cb_l (cb_l (cb_r (cb_r hn)))))))) (cb_r (cb_r (cb_r (cb_l (cb_l (cb_l (cb_r (cb_r hn)))))))) (fun j hj => ?_)
    match j, hj with
    | 0, _ => exact (cb_l (cb_l (cb_l (cb_r (cb_l (cb_l (cb_r (cb_r hn))))))))
    | 1, _ => exact (cb_r (cb_l (cb_l (cb_r (cb_l (cb_l (cb_r (cb_r hn))))))))
    | 2, _ => exact (cb_l (cb_r (cb_l (cb_r (cb_l (cb_l (cb_r (cb_r hn))))))))
    | 3, _ => exact (cb_r (cb_r (cb_l (cb_r (cb_l (cb_l (cb_r (cb_r hn))))))))
    | j + 4, hj => exact absurd (show j + 4 < 4 from hj) (by omega)
  have z139 : ∃ q : Nat, th_Zq G q [109, 111, 111, 100] s s.heap ∧ vk_R RX5 139 "mood" q s := by
    refine lw_zq hA [109, 111, 111, 100] (by decide) (hts _ kw_678) (cb_l (cb_l (cb_r (cb_r (cb_l (cb_l (cb_r (cb_r hn)))))))) (cb_r (cb_l (cb_r (cb_r (cb_l (cb_l (cb_r (cb_r hn)))))))) (cb_l (cb_r (cb_r (cb_r (cb_l (cb_l (cb_r (cb_r hn)))))))) (cb_r (cb_r (cb_r (cb_r (cb_l (cb_l (cb_r (cb_r hn)))))))) (fun j hj => ?_)
    match j, hj with
    | 0, _ => exact (cb_l (cb_l (cb_l (cb_r (cb_l (cb_r (cb_r hn)))))))
    | 1, _ => exact (cb_l (cb_r (cb_l (cb_l (cb_r (cb_l (cb_r (cb_r hn))))))))
    | 2, _ => exact (cb_r (cb_r (cb_l (cb_l (cb_r (cb_l (cb_r (cb_r hn))))))))
    | 3, _ => exact (cb_l (cb_l (cb_r (cb_l (cb_r (cb_l (cb_r (cb_r hn))))))))
    | j + 4, hj => exact absurd (show j + 4 < 4 from hj) (by omega)
  have z141 : ∃ q : Nat, th_Zq G q [100, 111, 110, 101] s s.heap ∧ vk_R RX5 141 "done" q s := by
    refine lw_zq hA [100, 111, 110, 101] (by decide) (hts _ kw_679) (cb_r (cb_l (cb_r (cb_l (cb_r (cb_l (cb_r (cb_r hn)))))))) (cb_l (cb_r (cb_r (cb_l (cb_r (cb_l (cb_r (cb_r hn)))))))) (cb_r (cb_r (cb_r (cb_l (cb_r (cb_l (cb_r (cb_r hn)))))))) (cb_l (cb_l (cb_l (cb_r (cb_r (cb_l (cb_r (cb_r hn)))))))) (fun j hj => ?_)
    match j, hj with
    | 0, _ => exact (cb_r (cb_l (cb_l (cb_r (cb_r (cb_l (cb_r (cb_r hn))))))))
    | 1, _ => exact (cb_l (cb_r (cb_l (cb_r (cb_r (cb_l (cb_r (cb_r hn))))))))
    | 2, _ => exact (cb_r (cb_r (cb_l (cb_r (cb_r (cb_l (cb_r (cb_r hn))))))))
    | 3, _ => exact (cb_l (cb_l (cb_r (cb_r (cb_r (cb_l (cb_r (cb_r hn))))))))
    | j + 4, hj => exact absurd (show j + 4 < 4 from hj) (by omega)
  have z143 : ∃ q : Nat, th_Zq G q [108, 97, 116, 101, 115, 116] s s.heap ∧ vk_R RX5 143 "latest" q s := by
    refine lw_zq hA [108, 97, 116, 101, 115, 116] (by decide) (hts _ kw_680) (cb_r (cb_l (cb_r (cb_r (cb_r (cb_l (cb_r (cb_r hn)))))))) (cb_l (cb_r (cb_r (cb_r (cb_r (cb_l (cb_r (cb_r hn)))))))) (cb_r (cb_r (cb_r (cb_r (cb_r (cb_l (cb_r (cb_r hn)))))))) (cb_l (cb_l (cb_l (cb_l (cb_r (cb_r (cb_r hn))))))) (fun j hj => ?_)
    match j, hj with
    | 0, _ => exact (cb_l (cb_r (cb_l (cb_l (cb_l (cb_r (cb_r (cb_r hn))))))))
    | 1, _ => exact (cb_r (cb_r (cb_l (cb_l (cb_l (cb_r (cb_r (cb_r hn))))))))
    | 2, _ => exact (cb_l (cb_l (cb_r (cb_l (cb_l (cb_r (cb_r (cb_r hn))))))))
    | 3, _ => exact (cb_r (cb_l (cb_r (cb_l (cb_l (cb_r (cb_r (cb_r hn))))))))
    | 4, _ => exact (cb_l (cb_r (cb_r (cb_l (cb_l (cb_r (cb_r (cb_r hn))))))))
    | 5, _ => exact (cb_r (cb_r (cb_r (cb_l (cb_l (cb_r (cb_r (cb_r hn))))))))
    | j + 6, hj => exact absurd (show j + 6 < 6 from hj) (by omega)
  have z145 : ∃ q : Nat, th_Zq G q [98, 97, 114, 101] s s.heap ∧ vk_R RX5 145 "bare" q s := by
    refine lw_zq hA [98, 97, 114, 101] (by decide) (hts _ kw_681) (cb_l (cb_l (cb_l (cb_r (cb_l (cb_r (cb_r (cb_r hn)))))))) (cb_r (cb_l (cb_l (cb_r (cb_l (cb_r (cb_r (cb_r hn)))))))) (cb_l (cb_r (cb_l (cb_r (cb_l (cb_r (cb_r (cb_r hn)))))))) (cb_r (cb_r (cb_l (cb_r (cb_l (cb_r (cb_r (cb_r hn)))))))) (fun j hj => ?_)
    match j, hj with
    | 0, _ => exact (cb_l (cb_l (cb_r (cb_r (cb_l (cb_r (cb_r (cb_r hn))))))))
    | 1, _ => exact (cb_r (cb_l (cb_r (cb_r (cb_l (cb_r (cb_r (cb_r hn))))))))
    | 2, _ => exact (cb_l (cb_r (cb_r (cb_r (cb_l (cb_r (cb_r (cb_r hn))))))))
    | 3, _ => exact (cb_r (cb_r (cb_r (cb_r (cb_l (cb_r (cb_r (cb_r hn))))))))
    | j + 4, hj => exact absurd (show j + 4 < 4 from hj) (by omega)
  have z147 : ∃ q : Nat, th_Zq G q [112, 97, 105, 100] s s.heap ∧ vk_R RX5 147 "paid" q s := by
    refine lw_zq hA [112, 97, 105, 100] (by decide) (hts _ kw_682) (cb_l (cb_l (cb_l (cb_l (cb_r (cb_r (cb_r (cb_r hn)))))))) (cb_r (cb_l (cb_l (cb_l (cb_r (cb_r (cb_r (cb_r hn)))))))) (cb_l (cb_r (cb_l (cb_l (cb_r (cb_r (cb_r (cb_r hn)))))))) (cb_r (cb_r (cb_l (cb_l (cb_r (cb_r (cb_r (cb_r hn)))))))) (fun j hj => ?_)
    match j, hj with
    | 0, _ => exact (cb_l (cb_l (cb_r (cb_l (cb_r (cb_r (cb_r (cb_r hn))))))))
    | 1, _ => exact (cb_r (cb_l (cb_r (cb_l (cb_r (cb_r (cb_r (cb_r hn))))))))
    | 2, _ => exact (cb_l (cb_r (cb_r (cb_l (cb_r (cb_r (cb_r (cb_r hn))))))))
    | 3, _ => exact (cb_r (cb_r (cb_r (cb_l (cb_r (cb_r (cb_r (cb_r hn))))))))
    | j + 4, hj => exact absurd (show j + 4 < 4 from hj) (by omega)
  have z149 : ∃ q : Nat, th_Zq G q [108, 97, 105, 100] s s.heap ∧ vk_R RX5 149 "laid" q s := by
    refine lw_zq hA [108, 97, 105, 100] (by decide) (hts _ kw_683) (cb_l (cb_l (cb_l (cb_r (cb_r (cb_r (cb_r (cb_r hn)))))))) (cb_r (cb_l (cb_l (cb_r (cb_r (cb_r (cb_r (cb_r hn)))))))) (cb_l (cb_r (cb_l (cb_r (cb_r (cb_r (cb_r (cb_r hn)))))))) (cb_r (cb_r (cb_l (cb_r (cb_r (cb_r (cb_r (cb_r hn)))))))) (fun j hj => ?_)
    match j, hj with
    | 0, _ => exact (cb_l (cb_l (cb_r (cb_r (cb_r (cb_r (cb_r (cb_r hn))))))))
    | 1, _ => exact (cb_r (cb_l (cb_r (cb_r (cb_r (cb_r (cb_r (cb_r hn))))))))
    | 2, _ => exact (cb_l (cb_r (cb_r (cb_r (cb_r (cb_r (cb_r (cb_r hn))))))))
    | 3, _ => exact (cb_r (cb_r (cb_r (cb_r (cb_r (cb_r (cb_r (cb_r hn))))))))
    | j + 4, hj => exact absurd (show j + 4 < 4 from hj) (by omega)
  unfold th_st27
  exact (List.forall_mem_cons.2 ⟨z94, (List.forall_mem_cons.2 ⟨z100, (List.forall_mem_cons.2 ⟨z102, (List.forall_mem_cons.2 ⟨z104, (List.forall_mem_cons.2 ⟨z106, (List.forall_mem_cons.2 ⟨z108, (List.forall_mem_cons.2 ⟨z110, (List.forall_mem_cons.2 ⟨z112, (List.forall_mem_cons.2 ⟨z114, (List.forall_mem_cons.2 ⟨z116, (List.forall_mem_cons.2 ⟨z117, (List.forall_mem_cons.2 ⟨z119, (List.forall_mem_cons.2 ⟨z121, (List.forall_mem_cons.2 ⟨z123, (List.forall_mem_cons.2 ⟨z125, (List.forall_mem_cons.2 ⟨z127, (List.forall_mem_cons.2 ⟨z129, (List.forall_mem_cons.2 ⟨z131, (List.forall_mem_cons.2 ⟨z133, (List.forall_mem_cons.2 ⟨z135, (List.forall_mem_cons.2 ⟨z137, (List.forall_mem_cons.2 ⟨z139, (List.forall_mem_cons.2 ⟨z141, (List.forall_mem_cons.2 ⟨z143, (List.forall_mem_cons.2 ⟨z145, (List.forall_mem_cons.2 ⟨z147, (List.forall_mem_cons.2 ⟨z149, (fun _ h => absurd h List.not_mem_nil)⟩)⟩)⟩)⟩)⟩)⟩)⟩)⟩)⟩)⟩)⟩)⟩)⟩)⟩)⟩)⟩)⟩)⟩)⟩)⟩)⟩)⟩)⟩)⟩)⟩)⟩)⟩)
