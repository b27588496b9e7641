/-! methods checked (printed by wip/gen.py) -/
