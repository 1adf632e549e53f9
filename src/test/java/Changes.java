import java.util.ArrayList;
import java.util.List;
import java.util.function.Consumer;

/** Changes to what sections 1 to 6 of the document tell, each for Afternoon.busy. */
final class Changes {
  static final List<Consumer<TowField>> ALL = all();

  private Changes() {}

  private static List<Consumer<TowField>> all() {
    List<Consumer<TowField>> changes = new ArrayList<>();
    changes.add(x -> x.glider(1, 60, 0, 0));
    changes.add(x -> x.person(60, 2));
    changes.add(x -> x.winch());
    changes.add(x -> x.plane());
    changes.add(x -> x.paper(0, 6, false));
    changes.add(x -> x.broken(0, 0));
    changes.add(x -> x.cross(0, 1, true));
    changes.add(x -> x.cross(2, 4, false));
    changes.add(x -> x.lane(0, 5));
    changes.add(x -> x.lane(1, 5));
    changes.add(x -> x.lane(2, 5));
    changes.add(x -> x.lane(3, 5));
    changes.add(x -> x.wind(40));
    changes.add(x -> x.link(3, false));
    changes.add(x -> x.rule(0, 20));
    changes.add(x -> x.rule(1, 900));
    changes.add(x -> x.rule(2, 60));
    changes.add(x -> x.rule(3, 20));
    changes.add(x -> x.ask(0, -1, 0, 11, 1));
    changes.add(x -> x.back(5));
    changes.add(x -> x.text(0));
    changes.add(x -> x.text(1));
    changes.add(x -> x.run(1));
    changes.add(x -> x.run(100));
    changes.add(x -> x.share(0, 9999));
    changes.add(x -> x.pay(0, 1));
    return changes;
  }
}
