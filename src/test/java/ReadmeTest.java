/** The example of README.md, whose comments tell the answers. */
public final class ReadmeTest {
    public static void main(String[] args) {
        Checks checks = new Checks();
        RegionThreads x = new RegionThreads();
        int a = x.region(3, 0);
        checks.due("decision(a, 2)", x.decision(a, 2), 1);
        checks.due("waits(a, 2, 5)", x.waits(a, 2, 5), 1);
        x.turn(a);
        x.turn(a);
        checks.due("run()", x.run(), 1);
        checks.due("post(5)", x.post(5), 1);
        checks.due("shutdown(false)", x.shutdown(false), 0);
        checks.due("finished(a)", x.finished(a), 1);
        checks.finish();
    }

    private ReadmeTest() {
    }
}
