/** The example of README.md answers what README.md says. */
public final class ReadmeTest {
    public static void main(String[] args) {
        WorkHall hall = new WorkHall(1, 2, 1, 0);
        int seven = hall.job(0, 7, 0, 2);
        int twice = hall.job(3, seven, seven, 1);
        hall.then(seven, twice);
        Check.same("submit", hall.submit(seven), 2);
        Check.same("step", hall.step(3), 2);
        Check.same("get", hall.get(twice), 14);
        hall.clock(seven, 5.0, 10.0);
        Check.same("tick", hall.tick(5.0), 1);
        Check.same("shut", hall.shut(true), 1);
        Check.end();
    }
}
