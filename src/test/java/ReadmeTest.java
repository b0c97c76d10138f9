/** The example in README.md answers what stands there. */
public final class ReadmeTest extends Checks {
    public static void main(String[] args) {
        RoundSearch rounds = new RoundSearch();
        int baker = rounds.stop(60, 0, 7200);
        int school = rounds.stop(30, 3600, 4000);
        due("promise 2: baker", baker, 1);
        due("promise 2: school", school, 2);
        rounds.way(0, baker, 300);
        due("promise 4: load", rounds.load(school, 40), 40);
        due("promise 5: limit", rounds.limit(100), 1);
        due("promise 12: arc", rounds.arc(school, baker, 0), 1);
        due("promise 6: solve", rounds.solve(1000), 4630);
        due("promise 7: at", rounds.at(0), baker);
        holds("promise 8: exact", rounds.exact());
        due("promise 9: late", rounds.late(0), 0);
        due("promise 14: bound", rounds.bound(), 2390);
        due("promise 10: freeze", rounds.freeze(1), 1);
        due("promise 13: exchange", rounds.exchange(0, 1), RoundSearch.STATE);
        due("promise 11: add", rounds.add(school), 1);
        end();
    }
}
