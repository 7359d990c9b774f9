theorem goodIn_td {big ws : List Cond} (n : Nat) (h1 : GoodIn big (ws.take n)) (h2 : GoodIn big (ws.drop n)) : GoodIn big ws := fun w hw => by
  rw [← List.take_append_drop n ws] at hw
  exact goodIn_app h1 h2 w hw
